theorem dX7_shut_27 : decode cX7_shut 27 = .ok (.baload, 1) := by decide +kernel
theorem dX7_shut_28 : decode cX7_shut 28 = .ok (.istore_n 3, 1) := by decide +kernel
theorem dX7_shut_29 : decode cX7_shut 29 = .ok (.aload_n 0, 1) := by decide +kernel
theorem dX7_shut_30 : decode cX7_shut 30 = .ok (.getfield 46, 3) := by decide +kernel
theorem dX7_shut_33 : decode cX7_shut 33 = .ok (.iload_n 1, 1) := by decide +kernel
theorem dX7_shut_34 : decode cX7_shut 34 = .ok (.iload_n 2, 1) := by decide +kernel
theorem dX7_shut_35 : decode cX7_shut 35 = .ok (.bastore, 1) := by decide +kernel
theorem dX7_shut_36 : decode cX7_shut 36 = .ok (.iload_n 3, 1) := by decide +kernel
theorem dX7_shut_37 : decode cX7_shut 37 = .ok (.iload_n 2, 1) := by decide +kernel
theorem dX7_shut_38 : decode cX7_shut 38 = .ok (.if_icmp .ne 7, 3) := by decide +kernel
theorem dX7_shut_41 : decode cX7_shut 41 = .ok (.iconst 0, 1) := by decide +kernel
theorem dX7_shut_42 : decode cX7_shut 42 = .ok (.goto 4, 3) := by decide +kernel
theorem dX7_shut_45 : decode cX7_shut 45 = .ok (.iconst 1, 1) := by decide +kernel
theorem dX7_shut_46 : decode cX7_shut 46 = .ok (.ireturn, 1) := by decide +kernel
theorem dX7_addRiver_0 : decode cX7_addRiver 0 = .ok (.aload_n 0, 1) := by decide +kernel
theorem dX7_addRiver_1 : decode cX7_addRiver 1 = .ok (.getfield 50, 3) := by decide +kernel
theorem dX7_addRiver_4 : decode cX7_addRiver 4 = .ok (.aload_n 0, 1) := by decide +kernel
theorem dX7_addRiver_5 : decode cX7_addRiver 5 = .ok (.getfield 147, 3) := by decide +kernel
theorem dX7_addRiver_8 : decode cX7_addRiver 8 = .ok (.iload_n 1, 1) := by decide +kernel
theorem dX7_addRiver_9 : decode cX7_addRiver 9 = .ok (.iastore, 1) := by decide +kernel
theorem dX7_addRiver_10 : decode cX7_addRiver 10 = .ok (.aload_n 0, 1) := by decide +kernel
theorem dX7_addRiver_11 : decode cX7_addRiver 11 = .ok (.getfield 53, 3) := by decide +kernel
theorem dX7_addRiver_14 : decode cX7_addRiver 14 = .ok (.aload_n 0, 1) := by decide +kernel
theorem dX7_addRiver_15 : decode cX7_addRiver 15 = .ok (.getfield 147, 3) := by decide +kernel
theorem dX7_addRiver_18 : decode cX7_addRiver 18 = .ok (.iload_n 2, 1) := by decide +kernel
theorem dX7_addRiver_19 : decode cX7_addRiver 19 = .ok (.iastore, 1) := by decide +kernel
theorem dX7_addRiver_20 : decode cX7_addRiver 20 = .ok (.aload_n 0, 1) := by decide +kernel
theorem dX7_addRiver_21 : decode cX7_addRiver 21 = .ok (.getfield 56, 3) := by decide +kernel
theorem dX7_addRiver_24 : decode cX7_addRiver 24 = .ok (.aload_n 0, 1) := by decide +kernel
theorem dX7_addRiver_25 : decode cX7_addRiver 25 = .ok (.getfield 147, 3) := by decide +kernel
theorem dX7_addRiver_28 : decode cX7_addRiver 28 = .ok (.iload_n 3, 1) := by decide +kernel
theorem dX7_addRiver_29 : decode cX7_addRiver 29 = .ok (.iastore, 1) := by decide +kernel
theorem dX7_addRiver_30 : decode cX7_addRiver 30 = .ok (.aload_n 0, 1) := by decide +kernel
theorem dX7_addRiver_31 : decode cX7_addRiver 31 = .ok (.dup, 1) := by decide +kernel
theorem dX7_addRiver_32 : decode cX7_addRiver 32 = .ok (.getfield 147, 3) := by decide +kernel
theorem dX7_addRiver_35 : decode cX7_addRiver 35 = .ok (.iconst 1, 1) := by decide +kernel
theorem dX7_addRiver_36 : decode cX7_addRiver 36 = .ok (.iadd, 1) := by decide +kernel
theorem dX7_addRiver_37 : decode cX7_addRiver 37 = .ok (.putfield 147, 3) := by decide +kernel
theorem dX7_addRiver_40 : decode cX7_addRiver 40 = .ok (.return_, 1) := by decide +kernel
theorem dX7_river_0 : decode cX7_river 0 = .ok (.aload_n 0, 1) := by decide +kernel
theorem dX7_river_1 : decode cX7_river 1 = .ok (.iload_n 1, 1) := by decide +kernel
theorem dX7_river_2 : decode cX7_river 2 = .ok (.invokevirtual 126, 3) := by decide +kernel
theorem dX7_river_5 : decode cX7_river 5 = .ok (.ifCond .eq 10, 3) := by decide +kernel
theorem dX7_river_8 : decode cX7_river 8 = .ok (.iload_n 2, 1) := by decide +kernel
theorem dX7_river_9 : decode cX7_river 9 = .ok (.invokestatic 150, 3) := by decide +kernel
theorem dX7_river_12 : decode cX7_river 12 = .ok (.ifCond .ne 9, 3) := by decide +kernel
theorem dX7_river_15 : decode cX7_river 15 = .ok (.aload_n 0, 1) := by decide +kernel
theorem dX7_river_16 : decode cX7_river 16 = .ok (.iconst (-1), 1) := by decide +kernel
theorem dX7_river_17 : decode cX7_river 17 = .ok (.invokevirtual 118, 3) := by decide +kernel
theorem dX7_river_20 : decode cX7_river 20 = .ok (.ireturn, 1) := by decide +kernel
theorem dX7_river_21 : decode cX7_river 21 = .ok (.iload_n 3, 1) := by decide +kernel
theorem dX7_river_22 : decode cX7_river 22 = .ok (.iconst 1, 1) := by decide +kernel
theorem dX7_river_23 : decode cX7_river 23 = .ok (.if_icmp .ge 10, 3) := by decide +kernel
theorem dX7_river_26 : decode cX7_river 26 = .ok (.aload_n 0, 1) := by decide +kernel
theorem dX7_river_27 : decode cX7_river 27 = .ok (.bipush (-4), 2) := by decide +kernel
theorem dX7_river_29 : decode cX7_river 29 = .ok (.invokevirtual 118, 3) := by decide +kernel
theorem dX7_river_32 : decode cX7_river 32 = .ok (.ireturn, 1) := by decide +kernel
theorem dX7_river_33 : decode cX7_river 33 = .ok (.iload_n 3, 1) := by decide +kernel
theorem dX7_river_34 : decode cX7_river 34 = .ok (.sipush 999, 3) := by decide +kernel
theorem dX7_river_37 : decode cX7_river 37 = .ok (.if_icmp .gt 12, 3) := by decide +kernel
theorem dX7_river_40 : decode cX7_river 40 = .ok (.aload_n 0, 1) := by decide +kernel
theorem dX7_river_41 : decode cX7_river 41 = .ok (.getfield 147, 3) := by decide +kernel
theorem dX7_river_44 : decode cX7_river 44 = .ok (.bipush 8, 2) := by decide +kernel
theorem dX7_river_46 : decode cX7_river 46 = .ok (.if_icmp .ne 10, 3) := by decide +kernel
theorem dX7_river_49 : decode cX7_river 49 = .ok (.aload_n 0, 1) := by decide +kernel
theorem dX7_river_50 : decode cX7_river 50 = .ok (.bipush (-6), 2) := by decide +kernel
theorem dX7_river_52 : decode cX7_river 52 = .ok (.invokevirtual 118, 3) := by decide +kernel
theorem dX7_river_55 : decode cX7_river 55 = .ok (.ireturn, 1) := by decide +kernel
theorem dX7_river_56 : decode cX7_river 56 = .ok (.aload_n 0, 1) := by decide +kernel
theorem dX7_river_57 : decode cX7_river 57 = .ok (.iload_n 1, 1) := by decide +kernel
theorem dX7_river_58 : decode cX7_river 58 = .ok (.iload_n 2, 1) := by decide +kernel
theorem dX7_river_59 : decode cX7_river 59 = .ok (.iload_n 3, 1) := by decide +kernel
theorem dX7_river_60 : decode cX7_river 60 = .ok (.invokevirtual 153, 3) := by decide +kernel
theorem dX7_river_63 : decode cX7_river 63 = .ok (.aload_n 0, 1) := by decide +kernel
theorem dX7_river_64 : decode cX7_river 64 = .ok (.getfield 147, 3) := by decide +kernel
theorem dX7_river_67 : decode cX7_river 67 = .ok (.iconst 1, 1) := by decide +kernel
theorem dX7_river_68 : decode cX7_river 68 = .ok (.isub, 1) := by decide +kernel
theorem dX7_river_69 : decode cX7_river 69 = .ok (.ireturn, 1) := by decide +kernel
theorem dX7_moon_0 : decode cX7_moon 0 = .ok (.iload_n 1, 1) := by decide +kernel
theorem dX7_moon_1 : decode cX7_moon 1 = .ok (.iconst 1, 1) := by decide +kernel
theorem dX7_moon_2 : decode cX7_moon 2 = .ok (.if_icmp .ge 10, 3) := by decide +kernel
theorem dX7_moon_5 : decode cX7_moon 5 = .ok (.aload_n 0, 1) := by decide +kernel
theorem dX7_moon_6 : decode cX7_moon 6 = .ok (.bipush (-4), 2) := by decide +kernel
theorem dX7_moon_8 : decode cX7_moon 8 = .ok (.invokevirtual 118, 3) := by decide +kernel
theorem dX7_moon_11 : decode cX7_moon 11 = .ok (.ireturn, 1) := by decide +kernel
theorem dX7_moon_12 : decode cX7_moon 12 = .ok (.iload_n 1, 1) := by decide +kernel
theorem dX7_moon_13 : decode cX7_moon 13 = .ok (.bipush 28, 2) := by decide +kernel
theorem dX7_moon_15 : decode cX7_moon 15 = .ok (.if_icmp .le 10, 3) := by decide +kernel
theorem dX7_moon_18 : decode cX7_moon 18 = .ok (.aload_n 0, 1) := by decide +kernel
theorem dX7_moon_19 : decode cX7_moon 19 = .ok (.bipush (-6), 2) := by decide +kernel
theorem dX7_moon_21 : decode cX7_moon 21 = .ok (.invokevirtual 118, 3) := by decide +kernel
theorem dX7_moon_24 : decode cX7_moon 24 = .ok (.ireturn, 1) := by decide +kernel
theorem dX7_moon_25 : decode cX7_moon 25 = .ok (.aload_n 0, 1) := by decide +kernel
theorem dX7_moon_26 : decode cX7_moon 26 = .ok (.getfield 62, 3) := by decide +kernel
theorem dX7_moon_29 : decode cX7_moon 29 = .ok (.istore_n 3, 1) := by decide +kernel
theorem dX7_moon_30 : decode cX7_moon 30 = .ok (.aload_n 0, 1) := by decide +kernel
theorem dX7_moon_31 : decode cX7_moon 31 = .ok (.iload_n 1, 1) := by decide +kernel
theorem dX7_moon_32 : decode cX7_moon 32 = .ok (.putfield 62, 3) := by decide +kernel
theorem dX7_moon_35 : decode cX7_moon 35 = .ok (.iconst 0, 1) := by decide +kernel
theorem dX7_moon_36 : decode cX7_moon 36 = .ok (.istore 4, 2) := by decide +kernel
theorem dX7_moon_38 : decode cX7_moon 38 = .ok (.iload 4, 2) := by decide +kernel
theorem dX7_moon_40 : decode cX7_moon 40 = .ok (.iload_n 1, 1) := by decide +kernel
theorem dX7_moon_41 : decode cX7_moon 41 = .ok (.if_icmp .ge 22, 3) := by decide +kernel
theorem dX7_moon_44 : decode cX7_moon 44 = .ok (.aload_n 0, 1) := by decide +kernel
theorem dX7_moon_45 : decode cX7_moon 45 = .ok (.getfield 59, 3) := by decide +kernel
theorem dX7_moon_48 : decode cX7_moon 48 = .ok (.iload 4, 2) := by decide +kernel
theorem dX7_moon_50 : decode cX7_moon 50 = .ok (.iload_n 2, 1) := by decide +kernel
theorem dX7_moon_51 : decode cX7_moon 51 = .ok (.iload 4, 2) := by decide +kernel
theorem dX7_moon_53 : decode cX7_moon 53 = .ok (.ishr, 1) := by decide +kernel
theorem dX7_moon_54 : decode cX7_moon 54 = .ok (.iconst 1, 1) := by decide +kernel
theorem dX7_moon_55 : decode cX7_moon 55 = .ok (.iand, 1) := by decide +kernel
theorem dX7_moon_56 : decode cX7_moon 56 = .ok (.iastore, 1) := by decide +kernel
theorem dX7_moon_57 : decode cX7_moon 57 = .ok (.iinc 4 1, 3) := by decide +kernel
theorem dX7_moon_60 : decode cX7_moon 60 = .ok (.goto (-22), 3) := by decide +kernel
theorem dX7_moon_63 : decode cX7_moon 63 = .ok (.iload_n 3, 1) := by decide +kernel
theorem dX7_moon_64 : decode cX7_moon 64 = .ok (.ireturn, 1) := by decide +kernel
theorem dX7_put_0 : decode cX7_put 0 = .ok (.aload_n 0, 1) := by decide +kernel
theorem dX7_put_1 : decode cX7_put 1 = .ok (.iload_n 1, 1) := by decide +kernel
theorem dX7_put_2 : decode cX7_put 2 = .ok (.invokevirtual 126, 3) := by decide +kernel
theorem dX7_put_5 : decode cX7_put 5 = .ok (.ifCond .eq 10, 3) := by decide +kernel
theorem dX7_put_8 : decode cX7_put 8 = .ok (.iload_n 2, 1) := by decide +kernel
theorem dX7_put_9 : decode cX7_put 9 = .ok (.invokestatic 150, 3) := by decide +kernel
theorem dX7_put_12 : decode cX7_put 12 = .ok (.ifCond .ne 9, 3) := by decide +kernel
theorem dX7_put_15 : decode cX7_put 15 = .ok (.aload_n 0, 1) := by decide +kernel
theorem dX7_put_16 : decode cX7_put 16 = .ok (.iconst (-1), 1) := by decide +kernel
theorem dX7_put_17 : decode cX7_put 17 = .ok (.invokevirtual 118, 3) := by decide +kernel
theorem dX7_put_20 : decode cX7_put 20 = .ok (.ireturn, 1) := by decide +kernel
theorem dX7_put_21 : decode cX7_put 21 = .ok (.iload 4, 2) := by decide +kernel
theorem dX7_put_23 : decode cX7_put 23 = .ok (.sipush (-9999), 3) := by decide +kernel
theorem dX7_put_26 : decode cX7_put 26 = .ok (.if_icmp .ge 10, 3) := by decide +kernel
theorem dX7_put_29 : decode cX7_put 29 = .ok (.aload_n 0, 1) := by decide +kernel
theorem dX7_put_30 : decode cX7_put 30 = .ok (.bipush (-4), 2) := by decide +kernel
theorem dX7_put_32 : decode cX7_put 32 = .ok (.invokevirtual 118, 3) := by decide +kernel
theorem dX7_put_35 : decode cX7_put 35 = .ok (.ireturn, 1) := by decide +kernel
theorem dX7_put_36 : decode cX7_put 36 = .ok (.iconst 2, 1) := by decide +kernel
theorem dX7_put_37 : decode cX7_put 37 = .ok (.iload_n 1, 1) := by decide +kernel
theorem dX7_put_38 : decode cX7_put 38 = .ok (.imul, 1) := by decide +kernel
theorem dX7_put_39 : decode cX7_put 39 = .ok (.iload_n 2, 1) := by decide +kernel
theorem dX7_put_40 : decode cX7_put 40 = .ok (.iadd, 1) := by decide +kernel
theorem dX7_put_41 : decode cX7_put 41 = .ok (.istore 5, 2) := by decide +kernel
theorem dX7_put_43 : decode cX7_put 43 = .ok (.iload_n 3, 1) := by decide +kernel
theorem dX7_put_44 : decode cX7_put 44 = .ok (.ifCond .eq 13, 3) := by decide +kernel
theorem dX7_put_47 : decode cX7_put 47 = .ok (.aload_n 0, 1) := by decide +kernel
theorem dX7_put_48 : decode cX7_put 48 = .ok (.getfield 25, 3) := by decide +kernel
theorem dX7_put_51 : decode cX7_put 51 = .ok (.iload 5, 2) := by decide +kernel
theorem dX7_put_53 : decode cX7_put 53 = .ok (.iaload, 1) := by decide +kernel
theorem dX7_put_54 : decode cX7_put 54 = .ok (.goto 10, 3) := by decide +kernel
theorem dX7_put_57 : decode cX7_put 57 = .ok (.aload_n 0, 1) := by decide +kernel
theorem dX7_put_58 : decode cX7_put 58 = .ok (.getfield 28, 3) := by decide +kernel
theorem dX7_put_61 : decode cX7_put 61 = .ok (.iload 5, 2) := by decide +kernel
theorem dX7_put_63 : decode cX7_put 63 = .ok (.iaload, 1) := by decide +kernel
theorem dX7_put_64 : decode cX7_put 64 = .ok (.iload 4, 2) := by decide +kernel
theorem dX7_put_66 : decode cX7_put 66 = .ok (.iadd, 1) := by decide +kernel
theorem dX7_put_67 : decode cX7_put 67 = .ok (.istore 6, 2) := by decide +kernel
theorem dX7_put_69 : decode cX7_put 69 = .ok (.iload 4, 2) := by decide +kernel
theorem dX7_put_71 : decode cX7_put 71 = .ok (.sipush 9999, 3) := by decide +kernel
theorem dX7_put_74 : decode cX7_put 74 = .ok (.if_icmp .gt 10, 3) := by decide +kernel
theorem dX7_put_77 : decode cX7_put 77 = .ok (.iload 6, 2) := by decide +kernel
theorem dX7_put_79 : decode cX7_put 79 = .ok (.ldc 157, 2) := by decide +kernel
theorem dX7_put_81 : decode cX7_put 81 = .ok (.if_icmp .le 10, 3) := by decide +kernel
theorem dX7_put_84 : decode cX7_put 84 = .ok (.aload_n 0, 1) := by decide +kernel
theorem dX7_put_85 : decode cX7_put 85 = .ok (.bipush (-6), 2) := by decide +kernel
theorem dX7_put_87 : decode cX7_put 87 = .ok (.invokevirtual 118, 3) := by decide +kernel
theorem dX7_put_90 : decode cX7_put 90 = .ok (.ireturn, 1) := by decide +kernel
theorem dX7_put_91 : decode cX7_put 91 = .ok (.iload 6, 2) := by decide +kernel
theorem dX7_put_93 : decode cX7_put 93 = .ok (.ifCond .ge 7, 3) := by decide +kernel
theorem dX7_put_96 : decode cX7_put 96 = .ok (.iconst 0, 1) := by decide +kernel
theorem dX7_put_97 : decode cX7_put 97 = .ok (.goto 5, 3) := by decide +kernel
theorem dX7_put_100 : decode cX7_put 100 = .ok (.iload 6, 2) := by decide +kernel
theorem dX7_put_102 : decode cX7_put 102 = .ok (.istore 6, 2) := by decide +kernel
theorem dX7_put_104 : decode cX7_put 104 = .ok (.aload_n 0, 1) := by decide +kernel
theorem dX7_put_105 : decode cX7_put 105 = .ok (.getfield 25, 3) := by decide +kernel
theorem dX7_put_108 : decode cX7_put 108 = .ok (.iload 5, 2) := by decide +kernel
theorem dX7_put_110 : decode cX7_put 110 = .ok (.iload_n 3, 1) := by decide +kernel
theorem dX7_put_111 : decode cX7_put 111 = .ok (.ifCond .eq 8, 3) := by decide +kernel
theorem dX7_put_114 : decode cX7_put 114 = .ok (.iload 6, 2) := by decide +kernel
theorem dX7_put_116 : decode cX7_put 116 = .ok (.goto 10, 3) := by decide +kernel
theorem dX7_put_119 : decode cX7_put 119 = .ok (.aload_n 0, 1) := by decide +kernel
theorem dX7_put_120 : decode cX7_put 120 = .ok (.getfield 25, 3) := by decide +kernel
theorem dX7_put_123 : decode cX7_put 123 = .ok (.iload 5, 2) := by decide +kernel
theorem dX7_put_125 : decode cX7_put 125 = .ok (.iaload, 1) := by decide +kernel
theorem dX7_put_126 : decode cX7_put 126 = .ok (.iastore, 1) := by decide +kernel
theorem dX7_put_127 : decode cX7_put 127 = .ok (.aload_n 0, 1) := by decide +kernel
theorem dX7_put_128 : decode cX7_put 128 = .ok (.getfield 28, 3) := by decide +kernel
theorem dX7_put_131 : decode cX7_put 131 = .ok (.iload 5, 2) := by decide +kernel
theorem dX7_put_133 : decode cX7_put 133 = .ok (.iload_n 3, 1) := by decide +kernel
theorem dX7_put_134 : decode cX7_put 134 = .ok (.ifCond .eq 13, 3) := by decide +kernel
theorem dX7_put_137 : decode cX7_put 137 = .ok (.aload_n 0, 1) := by decide +kernel
theorem dX7_put_138 : decode cX7_put 138 = .ok (.getfield 28, 3) := by decide +kernel
theorem dX7_put_141 : decode cX7_put 141 = .ok (.iload 5, 2) := by decide +kernel
theorem dX7_put_143 : decode cX7_put 143 = .ok (.iaload, 1) := by decide +kernel
theorem dX7_put_144 : decode cX7_put 144 = .ok (.goto 5, 3) := by decide +kernel
theorem dX7_put_147 : decode cX7_put 147 = .ok (.iload 6, 2) := by decide +kernel
theorem dX7_put_149 : decode cX7_put 149 = .ok (.iastore, 1) := by decide +kernel
theorem dX7_put_150 : decode cX7_put 150 = .ok (.iload 6, 2) := by decide +kernel
theorem dX7_put_152 : decode cX7_put 152 = .ok (.ireturn, 1) := by decide +kernel
theorem dX7_tons_0 : decode cX7_tons 0 = .ok (.aload_n 0, 1) := by decide +kernel
theorem dX7_tons_1 : decode cX7_tons 1 = .ok (.iload_n 1, 1) := by decide +kernel
theorem dX7_tons_2 : decode cX7_tons 2 = .ok (.invokevirtual 126, 3) := by decide +kernel
theorem dX7_tons_5 : decode cX7_tons 5 = .ok (.ifCond .eq 10, 3) := by decide +kernel
theorem dX7_tons_8 : decode cX7_tons 8 = .ok (.iload_n 2, 1) := by decide +kernel
theorem dX7_tons_9 : decode cX7_tons 9 = .ok (.invokestatic 150, 3) := by decide +kernel
theorem dX7_tons_12 : decode cX7_tons 12 = .ok (.ifCond .ne 11, 3) := by decide +kernel
theorem dX7_tons_15 : decode cX7_tons 15 = .ok (.aload_n 0, 1) := by decide +kernel
theorem dX7_tons_16 : decode cX7_tons 16 = .ok (.iconst (-1), 1) := by decide +kernel
theorem dX7_tons_17 : decode cX7_tons 17 = .ok (.invokevirtual 118, 3) := by decide +kernel
theorem dX7_tons_20 : decode cX7_tons 20 = .ok (.goto 30, 3) := by decide +kernel
theorem dX7_tons_23 : decode cX7_tons 23 = .ok (.iload_n 3, 1) := by decide +kernel
theorem dX7_tons_24 : decode cX7_tons 24 = .ok (.ifCond .eq 16, 3) := by decide +kernel
theorem dX7_tons_27 : decode cX7_tons 27 = .ok (.aload_n 0, 1) := by decide +kernel
theorem dX7_tons_28 : decode cX7_tons 28 = .ok (.getfield 25, 3) := by decide +kernel
theorem dX7_tons_31 : decode cX7_tons 31 = .ok (.iconst 2, 1) := by decide +kernel
theorem dX7_tons_32 : decode cX7_tons 32 = .ok (.iload_n 1, 1) := by decide +kernel
theorem dX7_tons_33 : decode cX7_tons 33 = .ok (.imul, 1) := by decide +kernel
theorem dX7_tons_34 : decode cX7_tons 34 = .ok (.iload_n 2, 1) := by decide +kernel
theorem dX7_tons_35 : decode cX7_tons 35 = .ok (.iadd, 1) := by decide +kernel
theorem dX7_tons_36 : decode cX7_tons 36 = .ok (.iaload, 1) := by decide +kernel
theorem dX7_tons_37 : decode cX7_tons 37 = .ok (.goto 13, 3) := by decide +kernel
theorem dX7_tons_40 : decode cX7_tons 40 = .ok (.aload_n 0, 1) := by decide +kernel
theorem dX7_tons_41 : decode cX7_tons 41 = .ok (.getfield 28, 3) := by decide +kernel
theorem dX7_tons_44 : decode cX7_tons 44 = .ok (.iconst 2, 1) := by decide +kernel
theorem dX7_tons_45 : decode cX7_tons 45 = .ok (.iload_n 1, 1) := by decide +kernel
theorem dX7_tons_46 : decode cX7_tons 46 = .ok (.imul, 1) := by decide +kernel
theorem dX7_tons_47 : decode cX7_tons 47 = .ok (.iload_n 2, 1) := by decide +kernel
theorem dX7_tons_48 : decode cX7_tons 48 = .ok (.iadd, 1) := by decide +kernel
theorem dX7_tons_49 : decode cX7_tons 49 = .ok (.iaload, 1) := by decide +kernel
theorem dX7_tons_50 : decode cX7_tons 50 = .ok (.ireturn, 1) := by decide +kernel
theorem dX7_settledIn_0 : decode cX7_settledIn 0 = .ok (.aload_n 0, 1) := by decide +kernel
theorem dX7_settledIn_1 : decode cX7_settledIn 1 = .ok (.getfield 28, 3) := by decide +kernel
theorem dX7_settledIn_4 : decode cX7_settledIn 4 = .ok (.iconst 2, 1) := by decide +kernel
theorem dX7_settledIn_5 : decode cX7_settledIn 5 = .ok (.iload_n 1, 1) := by decide +kernel
theorem dX7_settledIn_6 : decode cX7_settledIn 6 = .ok (.imul, 1) := by decide +kernel
theorem dX7_settledIn_7 : decode cX7_settledIn 7 = .ok (.iaload, 1) := by decide +kernel
theorem dX7_settledIn_8 : decode cX7_settledIn 8 = .ok (.aload_n 0, 1) := by decide +kernel
theorem dX7_settledIn_9 : decode cX7_settledIn 9 = .ok (.getfield 28, 3) := by decide +kernel
theorem dX7_settledIn_12 : decode cX7_settledIn 12 = .ok (.iconst 2, 1) := by decide +kernel
theorem dX7_settledIn_13 : decode cX7_settledIn 13 = .ok (.iload_n 1, 1) := by decide +kernel
theorem dX7_settledIn_14 : decode cX7_settledIn 14 = .ok (.imul, 1) := by decide +kernel
theorem dX7_settledIn_15 : decode cX7_settledIn 15 = .ok (.iconst 1, 1) := by decide +kernel
theorem dX7_settledIn_16 : decode cX7_settledIn 16 = .ok (.iadd, 1) := by decide +kernel
theorem dX7_settledIn_17 : decode cX7_settledIn 17 = .ok (.iaload, 1) := by decide +kernel
theorem dX7_settledIn_18 : decode cX7_settledIn 18 = .ok (.iadd, 1) := by decide +kernel
theorem dX7_settledIn_19 : decode cX7_settledIn 19 = .ok (.ireturn, 1) := by decide +kernel
theorem dX7_depthOf_0 : decode cX7_depthOf 0 = .ok (.aload_n 0, 1) := by decide +kernel
theorem dX7_depthOf_1 : decode cX7_depthOf 1 = .ok (.getfield 7, 3) := by decide +kernel
theorem dX7_depthOf_4 : decode cX7_depthOf 4 = .ok (.iload_n 1, 1) := by decide +kernel
theorem dX7_depthOf_5 : decode cX7_depthOf 5 = .ok (.iaload, 1) := by decide +kernel
theorem dX7_depthOf_6 : decode cX7_depthOf 6 = .ok (.aload_n 0, 1) := by decide +kernel
theorem dX7_depthOf_7 : decode cX7_depthOf 7 = .ok (.iload_n 1, 1) := by decide +kernel
theorem dX7_depthOf_8 : decode cX7_depthOf 8 = .ok (.invokevirtual 158, 3) := by decide +kernel
theorem dX7_depthOf_11 : decode cX7_depthOf 11 = .ok (.bipush 100, 2) := by decide +kernel
theorem dX7_depthOf_13 : decode cX7_depthOf 13 = .ok (.idiv, 1) := by decide +kernel
theorem dX7_depthOf_14 : decode cX7_depthOf 14 = .ok (.isub, 1) := by decide +kernel
theorem dX7_depthOf_15 : decode cX7_depthOf 15 = .ok (.istore_n 2, 1) := by decide +kernel
theorem dX7_depthOf_16 : decode cX7_depthOf 16 = .ok (.iload_n 2, 1) := by decide +kernel
theorem dX7_depthOf_17 : decode cX7_depthOf 17 = .ok (.ifCond .ge 7, 3) := by decide +kernel
theorem dX7_depthOf_20 : decode cX7_depthOf 20 = .ok (.iconst 0, 1) := by decide +kernel
theorem dX7_depthOf_21 : decode cX7_depthOf 21 = .ok (.goto 4, 3) := by decide +kernel
theorem dX7_depthOf_24 : decode cX7_depthOf 24 = .ok (.iload_n 2, 1) := by decide +kernel
theorem dX7_depthOf_25 : decode cX7_depthOf 25 = .ok (.ireturn, 1) := by decide +kernel
theorem dX7_lacksOf_0 : decode cX7_lacksOf 0 = .ok (.aload_n 0, 1) := by decide +kernel
theorem dX7_lacksOf_1 : decode cX7_lacksOf 1 = .ok (.getfield 13, 3) := by decide +kernel
theorem dX7_lacksOf_4 : decode cX7_lacksOf 4 = .ok (.iload_n 1, 1) := by decide +kernel
theorem dX7_lacksOf_5 : decode cX7_lacksOf 5 = .ok (.iaload, 1) := by decide +kernel
theorem dX7_lacksOf_6 : decode cX7_lacksOf 6 = .ok (.aload_n 0, 1) := by decide +kernel
theorem dX7_lacksOf_7 : decode cX7_lacksOf 7 = .ok (.iload_n 1, 1) := by decide +kernel
theorem dX7_lacksOf_8 : decode cX7_lacksOf 8 = .ok (.invokevirtual 161, 3) := by decide +kernel
theorem dX7_lacksOf_11 : decode cX7_lacksOf 11 = .ok (.isub, 1) := by decide +kernel
theorem dX7_lacksOf_12 : decode cX7_lacksOf 12 = .ok (.ireturn, 1) := by decide +kernel
theorem dX7_depth_0 : decode cX7_depth 0 = .ok (.aload_n 0, 1) := by decide +kernel
theorem dX7_depth_1 : decode cX7_depth 1 = .ok (.iload_n 1, 1) := by decide +kernel
theorem dX7_depth_2 : decode cX7_depth 2 = .ok (.invokevirtual 126, 3) := by decide +kernel
theorem dX7_depth_5 : decode cX7_depth 5 = .ok (.ifCond .eq 11, 3) := by decide +kernel
theorem dX7_depth_8 : decode cX7_depth 8 = .ok (.aload_n 0, 1) := by decide +kernel
theorem dX7_depth_9 : decode cX7_depth 9 = .ok (.iload_n 1, 1) := by decide +kernel
theorem dX7_depth_10 : decode cX7_depth 10 = .ok (.invokevirtual 161, 3) := by decide +kernel
theorem dX7_depth_13 : decode cX7_depth 13 = .ok (.goto 8, 3) := by decide +kernel
theorem dX7_depth_16 : decode cX7_depth 16 = .ok (.aload_n 0, 1) := by decide +kernel
theorem dX7_depth_17 : decode cX7_depth 17 = .ok (.iconst (-1), 1) := by decide +kernel
theorem dX7_depth_18 : decode cX7_depth 18 = .ok (.invokevirtual 118, 3) := by decide +kernel
theorem dX7_depth_21 : decode cX7_depth 21 = .ok (.ireturn, 1) := by decide +kernel
theorem dX7_lacks_0 : decode cX7_lacks 0 = .ok (.aload_n 0, 1) := by decide +kernel
theorem dX7_lacks_1 : decode cX7_lacks 1 = .ok (.iload_n 1, 1) := by decide +kernel
theorem dX7_lacks_2 : decode cX7_lacks 2 = .ok (.invokevirtual 126, 3) := by decide +kernel
theorem dX7_lacks_5 : decode cX7_lacks 5 = .ok (.ifCond .eq 11, 3) := by decide +kernel
theorem dX7_lacks_8 : decode cX7_lacks 8 = .ok (.aload_n 0, 1) := by decide +kernel
theorem dX7_lacks_9 : decode cX7_lacks 9 = .ok (.iload_n 1, 1) := by decide +kernel
theorem dX7_lacks_10 : decode cX7_lacks 10 = .ok (.invokevirtual 164, 3) := by decide +kernel
theorem dX7_lacks_13 : decode cX7_lacks 13 = .ok (.goto 11, 3) := by decide +kernel
theorem dX7_lacks_16 : decode cX7_lacks 16 = .ok (.ldc 167, 2) := by decide +kernel
theorem dX7_lacks_18 : decode cX7_lacks 18 = .ok (.aload_n 0, 1) := by decide +kernel
theorem dX7_lacks_19 : decode cX7_lacks 19 = .ok (.iconst (-1), 1) := by decide +kernel
theorem dX7_lacks_20 : decode cX7_lacks 20 = .ok (.invokevirtual 118, 3) := by decide +kernel
theorem dX7_lacks_23 : decode cX7_lacks 23 = .ok (.iadd, 1) := by decide +kernel
theorem dX7_lacks_24 : decode cX7_lacks 24 = .ok (.ireturn, 1) := by decide +kernel
theorem dX7_dredger_0 : decode cX7_dredger 0 = .ok (.iload_n 1, 1) := by decide +kernel
theorem dX7_dredger_1 : decode cX7_dredger 1 = .ok (.i2l, 1) := by decide +kernel
theorem dX7_dredger_2 : decode cX7_dredger 2 = .ok (.lconst 0, 1) := by decide +kernel
theorem dX7_dredger_3 : decode cX7_dredger 3 = .ok (.ldc2_w 168, 3) := by decide +kernel
theorem dX7_dredger_6 : decode cX7_dredger 6 = .ok (.invokestatic 114, 3) := by decide +kernel
theorem dX7_dredger_9 : decode cX7_dredger 9 = .ok (.ifCond .ne 10, 3) := by decide +kernel
theorem dX7_dredger_12 : decode cX7_dredger 12 = .ok (.aload_n 0, 1) := by decide +kernel
theorem dX7_dredger_13 : decode cX7_dredger 13 = .ok (.bipush (-2), 2) := by decide +kernel
theorem dX7_dredger_15 : decode cX7_dredger 15 = .ok (.invokevirtual 118, 3) := by decide +kernel
theorem dX7_dredger_18 : decode cX7_dredger 18 = .ok (.ireturn, 1) := by decide +kernel
theorem dX7_dredger_19 : decode cX7_dredger 19 = .ok (.iload_n 1, 1) := by decide +kernel
theorem dX7_dredger_20 : decode cX7_dredger 20 = .ok (.iconst 1, 1) := by decide +kernel
theorem dX7_dredger_21 : decode cX7_dredger 21 = .ok (.if_icmp .ne 17, 3) := by decide +kernel
theorem dX7_dredger_24 : decode cX7_dredger 24 = .ok (.iload_n 2, 1) := by decide +kernel
theorem dX7_dredger_25 : decode cX7_dredger 25 = .ok (.bipush 8, 2) := by decide +kernel
theorem dX7_dredger_27 : decode cX7_dredger 27 = .ok (.if_icmp .eq 11, 3) := by decide +kernel
theorem dX7_dredger_30 : decode cX7_dredger 30 = .ok (.aload_n 0, 1) := by decide +kernel
theorem dX7_dredger_31 : decode cX7_dredger 31 = .ok (.iload_n 2, 1) := by decide +kernel
theorem dX7_dredger_32 : decode cX7_dredger 32 = .ok (.invokevirtual 126, 3) := by decide +kernel
theorem dX7_dredger_35 : decode cX7_dredger 35 = .ok (.ifCond .eq 16, 3) := by decide +kernel
theorem dX7_dredger_38 : decode cX7_dredger 38 = .ok (.iload_n 1, 1) := by decide +kernel
theorem dX7_dredger_39 : decode cX7_dredger 39 = .ok (.iconst 3, 1) := by decide +kernel
theorem dX7_dredger_40 : decode cX7_dredger 40 = .ok (.if_icmp .ne 17, 3) := by decide +kernel
theorem dX7_dredger_43 : decode cX7_dredger 43 = .ok (.aload_n 0, 1) := by decide +kernel
theorem dX7_dredger_44 : decode cX7_dredger 44 = .ok (.iload_n 2, 1) := by decide +kernel
theorem dX7_dredger_45 : decode cX7_dredger 45 = .ok (.invokevirtual 126, 3) := by decide +kernel
theorem dX7_dredger_48 : decode cX7_dredger 48 = .ok (.ifCond .ne 9, 3) := by decide +kernel
theorem dX7_dredger_51 : decode cX7_dredger 51 = .ok (.aload_n 0, 1) := by decide +kernel
theorem dX7_dredger_52 : decode cX7_dredger 52 = .ok (.iconst (-1), 1) := by decide +kernel
theorem dX7_dredger_53 : decode cX7_dredger 53 = .ok (.invokevirtual 118, 3) := by decide +kernel
theorem dX7_dredger_56 : decode cX7_dredger 56 = .ok (.ireturn, 1) := by decide +kernel
theorem dX7_dredger_57 : decode cX7_dredger 57 = .ok (.iload_n 2, 1) := by decide +kernel
theorem dX7_dredger_58 : decode cX7_dredger 58 = .ok (.ifCond .ge 10, 3) := by decide +kernel
theorem dX7_dredger_61 : decode cX7_dredger 61 = .ok (.aload_n 0, 1) := by decide +kernel
theorem dX7_dredger_62 : decode cX7_dredger 62 = .ok (.bipush (-4), 2) := by decide +kernel
theorem dX7_dredger_64 : decode cX7_dredger 64 = .ok (.invokevirtual 118, 3) := by decide +kernel
theorem dX7_dredger_67 : decode cX7_dredger 67 = .ok (.ireturn, 1) := by decide +kernel
theorem dX7_dredger_68 : decode cX7_dredger 68 = .ok (.iload_n 1, 1) := by decide +kernel
theorem dX7_dredger_69 : decode cX7_dredger 69 = .ok (.ifCond .ne 10, 3) := by decide +kernel
theorem dX7_dredger_72 : decode cX7_dredger 72 = .ok (.iload_n 2, 1) := by decide +kernel
theorem dX7_dredger_73 : decode cX7_dredger 73 = .ok (.sipush 999, 3) := by decide +kernel
theorem dX7_dredger_76 : decode cX7_dredger 76 = .ok (.if_icmp .gt 24, 3) := by decide +kernel
theorem dX7_dredger_79 : decode cX7_dredger 79 = .ok (.iload_n 1, 1) := by decide +kernel
theorem dX7_dredger_80 : decode cX7_dredger 80 = .ok (.iconst 2, 1) := by decide +kernel
theorem dX7_dredger_81 : decode cX7_dredger 81 = .ok (.if_icmp .ne 8, 3) := by decide +kernel
theorem dX7_dredger_84 : decode cX7_dredger 84 = .ok (.iload_n 2, 1) := by decide +kernel
theorem dX7_dredger_85 : decode cX7_dredger 85 = .ok (.iconst 4, 1) := by decide +kernel
theorem dX7_dredger_86 : decode cX7_dredger 86 = .ok (.if_icmp .gt 14, 3) := by decide +kernel
theorem dX7_dredger_89 : decode cX7_dredger 89 = .ok (.iload_n 1, 1) := by decide +kernel
theorem dX7_dredger_90 : decode cX7_dredger 90 = .ok (.iconst 4, 1) := by decide +kernel
theorem dX7_dredger_91 : decode cX7_dredger 91 = .ok (.if_icmp .ne 16, 3) := by decide +kernel
theorem dX7_dredger_94 : decode cX7_dredger 94 = .ok (.iload_n 2, 1) := by decide +kernel
theorem dX7_dredger_95 : decode cX7_dredger 95 = .ok (.bipush 99, 2) := by decide +kernel
theorem dX7_dredger_97 : decode cX7_dredger 97 = .ok (.if_icmp .le 10, 3) := by decide +kernel
theorem dX7_dredger_100 : decode cX7_dredger 100 = .ok (.aload_n 0, 1) := by decide +kernel
theorem dX7_dredger_101 : decode cX7_dredger 101 = .ok (.bipush (-6), 2) := by decide +kernel
theorem dX7_dredger_103 : decode cX7_dredger 103 = .ok (.invokevirtual 118, 3) := by decide +kernel
theorem dX7_dredger_106 : decode cX7_dredger 106 = .ok (.ireturn, 1) := by decide +kernel
theorem dX7_dredger_107 : decode cX7_dredger 107 = .ok (.iload_n 1, 1) := by decide +kernel
theorem dX7_dredger_108 : decode cX7_dredger 108 = .ok (.ifCond .ne 10, 3) := by decide +kernel
theorem dX7_dredger_111 : decode cX7_dredger 111 = .ok (.aload_n 0, 1) := by decide +kernel
theorem dX7_dredger_112 : decode cX7_dredger 112 = .ok (.getfield 170, 3) := by decide +kernel
theorem dX7_dredger_115 : decode cX7_dredger 115 = .ok (.goto 43, 3) := by decide +kernel
theorem dX7_dredger_118 : decode cX7_dredger 118 = .ok (.iload_n 1, 1) := by decide +kernel
theorem dX7_dredger_119 : decode cX7_dredger 119 = .ok (.iconst 1, 1) := by decide +kernel
theorem dX7_dredger_120 : decode cX7_dredger 120 = .ok (.if_icmp .ne 10, 3) := by decide +kernel
theorem dX7_dredger_123 : decode cX7_dredger 123 = .ok (.aload_n 0, 1) := by decide +kernel
theorem dX7_dredger_124 : decode cX7_dredger 124 = .ok (.getfield 66, 3) := by decide +kernel
theorem dX7_dredger_127 : decode cX7_dredger 127 = .ok (.goto 31, 3) := by decide +kernel
theorem dX7_dredger_130 : decode cX7_dredger 130 = .ok (.iload_n 1, 1) := by decide +kernel
theorem dX7_dredger_131 : decode cX7_dredger 131 = .ok (.iconst 2, 1) := by decide +kernel
theorem dX7_dredger_132 : decode cX7_dredger 132 = .ok (.if_icmp .ne 10, 3) := by decide +kernel
theorem dX7_dredger_135 : decode cX7_dredger 135 = .ok (.aload_n 0, 1) := by decide +kernel
theorem dX7_dredger_136 : decode cX7_dredger 136 = .ok (.getfield 173, 3) := by decide +kernel
theorem dX7_dredger_139 : decode cX7_dredger 139 = .ok (.goto 19, 3) := by decide +kernel
theorem dX7_dredger_142 : decode cX7_dredger 142 = .ok (.iload_n 1, 1) := by decide +kernel
theorem dX7_dredger_143 : decode cX7_dredger 143 = .ok (.iconst 3, 1) := by decide +kernel
theorem dX7_dredger_144 : decode cX7_dredger 144 = .ok (.if_icmp .ne 10, 3) := by decide +kernel
theorem dX7_dredger_147 : decode cX7_dredger 147 = .ok (.aload_n 0, 1) := by decide +kernel
theorem dX7_dredger_148 : decode cX7_dredger 148 = .ok (.getfield 176, 3) := by decide +kernel
theorem dX7_dredger_151 : decode cX7_dredger 151 = .ok (.goto 7, 3) := by decide +kernel
theorem dX7_dredger_154 : decode cX7_dredger 154 = .ok (.aload_n 0, 1) := by decide +kernel
theorem dX7_dredger_155 : decode cX7_dredger 155 = .ok (.getfield 69, 3) := by decide +kernel
theorem dX7_dredger_158 : decode cX7_dredger 158 = .ok (.istore_n 3, 1) := by decide +kernel
theorem dX7_dredger_159 : decode cX7_dredger 159 = .ok (.aload_n 0, 1) := by decide +kernel
theorem dX7_dredger_160 : decode cX7_dredger 160 = .ok (.iload_n 1, 1) := by decide +kernel
theorem dX7_dredger_161 : decode cX7_dredger 161 = .ok (.ifCond .ne 7, 3) := by decide +kernel
theorem dX7_dredger_164 : decode cX7_dredger 164 = .ok (.iload_n 2, 1) := by decide +kernel
theorem dX7_dredger_165 : decode cX7_dredger 165 = .ok (.goto 7, 3) := by decide +kernel
theorem dX7_dredger_168 : decode cX7_dredger 168 = .ok (.aload_n 0, 1) := by decide +kernel
theorem dX7_dredger_169 : decode cX7_dredger 169 = .ok (.getfield 170, 3) := by decide +kernel
theorem dX7_dredger_172 : decode cX7_dredger 172 = .ok (.putfield 170, 3) := by decide +kernel
theorem dX7_dredger_175 : decode cX7_dredger 175 = .ok (.aload_n 0, 1) := by decide +kernel
theorem dX7_dredger_176 : decode cX7_dredger 176 = .ok (.iload_n 1, 1) := by decide +kernel
theorem dX7_dredger_177 : decode cX7_dredger 177 = .ok (.iconst 1, 1) := by decide +kernel
theorem dX7_dredger_178 : decode cX7_dredger 178 = .ok (.if_icmp .ne 7, 3) := by decide +kernel
theorem dX7_dredger_181 : decode cX7_dredger 181 = .ok (.iload_n 2, 1) := by decide +kernel
theorem dX7_dredger_182 : decode cX7_dredger 182 = .ok (.goto 7, 3) := by decide +kernel
theorem dX7_dredger_185 : decode cX7_dredger 185 = .ok (.aload_n 0, 1) := by decide +kernel
theorem dX7_dredger_186 : decode cX7_dredger 186 = .ok (.getfield 66, 3) := by decide +kernel
theorem dX7_dredger_189 : decode cX7_dredger 189 = .ok (.putfield 66, 3) := by decide +kernel
theorem dX7_dredger_192 : decode cX7_dredger 192 = .ok (.aload_n 0, 1) := by decide +kernel
theorem dX7_dredger_193 : decode cX7_dredger 193 = .ok (.iload_n 1, 1) := by decide +kernel
theorem dX7_dredger_194 : decode cX7_dredger 194 = .ok (.iconst 2, 1) := by decide +kernel
theorem dX7_dredger_195 : decode cX7_dredger 195 = .ok (.if_icmp .ne 7, 3) := by decide +kernel
theorem dX7_dredger_198 : decode cX7_dredger 198 = .ok (.iload_n 2, 1) := by decide +kernel
theorem dX7_dredger_199 : decode cX7_dredger 199 = .ok (.goto 7, 3) := by decide +kernel
theorem dX7_dredger_202 : decode cX7_dredger 202 = .ok (.aload_n 0, 1) := by decide +kernel
theorem dX7_dredger_203 : decode cX7_dredger 203 = .ok (.getfield 173, 3) := by decide +kernel
theorem dX7_dredger_206 : decode cX7_dredger 206 = .ok (.putfield 173, 3) := by decide +kernel
theorem dX7_dredger_209 : decode cX7_dredger 209 = .ok (.aload_n 0, 1) := by decide +kernel
theorem dX7_dredger_210 : decode cX7_dredger 210 = .ok (.iload_n 1, 1) := by decide +kernel
theorem dX7_dredger_211 : decode cX7_dredger 211 = .ok (.iconst 3, 1) := by decide +kernel
theorem dX7_dredger_212 : decode cX7_dredger 212 = .ok (.if_icmp .ne 7, 3) := by decide +kernel
theorem dX7_dredger_215 : decode cX7_dredger 215 = .ok (.iload_n 2, 1) := by decide +kernel
theorem dX7_dredger_216 : decode cX7_dredger 216 = .ok (.goto 7, 3) := by decide +kernel
theorem dX7_dredger_219 : decode cX7_dredger 219 = .ok (.aload_n 0, 1) := by decide +kernel
theorem dX7_dredger_220 : decode cX7_dredger 220 = .ok (.getfield 176, 3) := by decide +kernel
theorem dX7_dredger_223 : decode cX7_dredger 223 = .ok (.putfield 176, 3) := by decide +kernel
theorem dX7_dredger_226 : decode cX7_dredger 226 = .ok (.aload_n 0, 1) := by decide +kernel
theorem dX7_dredger_227 : decode cX7_dredger 227 = .ok (.iload_n 1, 1) := by decide +kernel
theorem dX7_dredger_228 : decode cX7_dredger 228 = .ok (.iconst 4, 1) := by decide +kernel
theorem dX7_dredger_229 : decode cX7_dredger 229 = .ok (.if_icmp .ne 7, 3) := by decide +kernel
theorem dX7_dredger_232 : decode cX7_dredger 232 = .ok (.iload_n 2, 1) := by decide +kernel
theorem dX7_dredger_233 : decode cX7_dredger 233 = .ok (.goto 7, 3) := by decide +kernel
theorem dX7_dredger_236 : decode cX7_dredger 236 = .ok (.aload_n 0, 1) := by decide +kernel
theorem dX7_dredger_237 : decode cX7_dredger 237 = .ok (.getfield 69, 3) := by decide +kernel
theorem dX7_dredger_240 : decode cX7_dredger 240 = .ok (.putfield 69, 3) := by decide +kernel
theorem dX7_dredger_243 : decode cX7_dredger 243 = .ok (.iload_n 3, 1) := by decide +kernel
theorem dX7_dredger_244 : decode cX7_dredger 244 = .ok (.ireturn, 1) := by decide +kernel
theorem dX7_kindAt_0 : decode cX7_kindAt 0 = .ok (.aload_n 0, 1) := by decide +kernel
theorem dX7_kindAt_1 : decode cX7_kindAt 1 = .ok (.getfield 59, 3) := by decide +kernel
theorem dX7_kindAt_4 : decode cX7_kindAt 4 = .ok (.iload_n 1, 1) := by decide +kernel
theorem dX7_kindAt_5 : decode cX7_kindAt 5 = .ok (.aload_n 0, 1) := by decide +kernel
theorem dX7_kindAt_6 : decode cX7_kindAt 6 = .ok (.getfield 62, 3) := by decide +kernel
theorem dX7_kindAt_9 : decode cX7_kindAt 9 = .ok (.irem, 1) := by decide +kernel
theorem dX7_kindAt_10 : decode cX7_kindAt 10 = .ok (.iaload, 1) := by decide +kernel
theorem dX7_kindAt_11 : decode cX7_kindAt 11 = .ok (.ireturn, 1) := by decide +kernel
theorem dX7_lackingMost_0 : decode cX7_lackingMost 0 = .ok (.bipush (-9), 2) := by decide +kernel
theorem dX7_lackingMost_2 : decode cX7_lackingMost 2 = .ok (.istore_n 1, 1) := by decide +kernel
theorem dX7_lackingMost_3 : decode cX7_lackingMost 3 = .ok (.iconst 0, 1) := by decide +kernel
theorem dX7_lackingMost_4 : decode cX7_lackingMost 4 = .ok (.istore_n 2, 1) := by decide +kernel
theorem dX7_lackingMost_5 : decode cX7_lackingMost 5 = .ok (.iload_n 2, 1) := by decide +kernel
theorem dX7_lackingMost_6 : decode cX7_lackingMost 6 = .ok (.aload_n 0, 1) := by decide +kernel
theorem dX7_lackingMost_7 : decode cX7_lackingMost 7 = .ok (.getfield 111, 3) := by decide +kernel
theorem dX7_lackingMost_10 : decode cX7_lackingMost 10 = .ok (.if_icmp .ge 58, 3) := by decide +kernel
theorem dX7_lackingMost_13 : decode cX7_lackingMost 13 = .ok (.aload_n 0, 1) := by decide +kernel
theorem dX7_lackingMost_14 : decode cX7_lackingMost 14 = .ok (.iload_n 2, 1) := by decide +kernel
theorem dX7_lackingMost_15 : decode cX7_lackingMost 15 = .ok (.invokevirtual 164, 3) := by decide +kernel
theorem dX7_lackingMost_18 : decode cX7_lackingMost 18 = .ok (.ifCond .le 24, 3) := by decide +kernel
theorem dX7_lackingMost_21 : decode cX7_lackingMost 21 = .ok (.iload_n 1, 1) := by decide +kernel
theorem dX7_lackingMost_22 : decode cX7_lackingMost 22 = .ok (.ifCond .lt 16, 3) := by decide +kernel
theorem dX7_lackingMost_25 : decode cX7_lackingMost 25 = .ok (.aload_n 0, 1) := by decide +kernel
theorem dX7_lackingMost_26 : decode cX7_lackingMost 26 = .ok (.iload_n 2, 1) := by decide +kernel
theorem dX7_lackingMost_27 : decode cX7_lackingMost 27 = .ok (.invokevirtual 164, 3) := by decide +kernel
theorem dX7_lackingMost_30 : decode cX7_lackingMost 30 = .ok (.aload_n 0, 1) := by decide +kernel
theorem dX7_lackingMost_31 : decode cX7_lackingMost 31 = .ok (.iload_n 1, 1) := by decide +kernel
theorem dX7_lackingMost_32 : decode cX7_lackingMost 32 = .ok (.invokevirtual 164, 3) := by decide +kernel
theorem dX7_lackingMost_35 : decode cX7_lackingMost 35 = .ok (.if_icmp .le 7, 3) := by decide +kernel
theorem dX7_lackingMost_38 : decode cX7_lackingMost 38 = .ok (.iconst 1, 1) := by decide +kernel
theorem dX7_lackingMost_39 : decode cX7_lackingMost 39 = .ok (.goto 4, 3) := by decide +kernel
theorem dX7_lackingMost_42 : decode cX7_lackingMost 42 = .ok (.iconst 0, 1) := by decide +kernel
theorem dX7_lackingMost_43 : decode cX7_lackingMost 43 = .ok (.istore_n 3, 1) := by decide +kernel
theorem dX7_lackingMost_44 : decode cX7_lackingMost 44 = .ok (.iload_n 2, 1) := by decide +kernel
theorem dX7_lackingMost_45 : decode cX7_lackingMost 45 = .ok (.aload_n 0, 1) := by decide +kernel
theorem dX7_lackingMost_46 : decode cX7_lackingMost 46 = .ok (.getfield 66, 3) := by decide +kernel
theorem dX7_lackingMost_49 : decode cX7_lackingMost 49 = .ok (.if_icmp .eq 11, 3) := by decide +kernel
theorem dX7_lackingMost_52 : decode cX7_lackingMost 52 = .ok (.iload_n 3, 1) := by decide +kernel
theorem dX7_lackingMost_53 : decode cX7_lackingMost 53 = .ok (.ifCond .eq 7, 3) := by decide +kernel
theorem dX7_lackingMost_56 : decode cX7_lackingMost 56 = .ok (.iload_n 2, 1) := by decide +kernel
theorem dX7_lackingMost_57 : decode cX7_lackingMost 57 = .ok (.goto 4, 3) := by decide +kernel
theorem dX7_lackingMost_60 : decode cX7_lackingMost 60 = .ok (.iload_n 1, 1) := by decide +kernel
theorem dX7_lackingMost_61 : decode cX7_lackingMost 61 = .ok (.istore_n 1, 1) := by decide +kernel
theorem dX7_lackingMost_62 : decode cX7_lackingMost 62 = .ok (.iinc 2 1, 3) := by decide +kernel
theorem dX7_lackingMost_65 : decode cX7_lackingMost 65 = .ok (.goto (-60), 3) := by decide +kernel
theorem dX7_lackingMost_68 : decode cX7_lackingMost 68 = .ok (.iload_n 1, 1) := by decide +kernel
theorem dX7_lackingMost_69 : decode cX7_lackingMost 69 = .ok (.ireturn, 1) := by decide +kernel
theorem dX7_deepest_0 : decode cX7_deepest 0 = .ok (.bipush (-9), 2) := by decide +kernel
theorem dX7_deepest_2 : decode cX7_deepest 2 = .ok (.istore_n 1, 1) := by decide +kernel
theorem dX7_deepest_3 : decode cX7_deepest 3 = .ok (.iconst 0, 1) := by decide +kernel
theorem dX7_deepest_4 : decode cX7_deepest 4 = .ok (.istore_n 2, 1) := by decide +kernel
theorem dX7_deepest_5 : decode cX7_deepest 5 = .ok (.iload_n 2, 1) := by decide +kernel
theorem dX7_deepest_6 : decode cX7_deepest 6 = .ok (.aload_n 0, 1) := by decide +kernel
theorem dX7_deepest_7 : decode cX7_deepest 7 = .ok (.getfield 111, 3) := by decide +kernel
theorem dX7_deepest_10 : decode cX7_deepest 10 = .ok (.if_icmp .ge 60, 3) := by decide +kernel
theorem dX7_deepest_13 : decode cX7_deepest 13 = .ok (.aload_n 0, 1) := by decide +kernel
theorem dX7_deepest_14 : decode cX7_deepest 14 = .ok (.iload_n 2, 1) := by decide +kernel
theorem dX7_deepest_15 : decode cX7_deepest 15 = .ok (.invokevirtual 164, 3) := by decide +kernel
theorem dX7_deepest_18 : decode cX7_deepest 18 = .ok (.bipush (-2), 2) := by decide +kernel
theorem dX7_deepest_20 : decode cX7_deepest 20 = .ok (.if_icmp .le 24, 3) := by decide +kernel
theorem dX7_deepest_23 : decode cX7_deepest 23 = .ok (.iload_n 1, 1) := by decide +kernel
theorem dX7_deepest_24 : decode cX7_deepest 24 = .ok (.ifCond .lt 16, 3) := by decide +kernel
theorem dX7_deepest_27 : decode cX7_deepest 27 = .ok (.aload_n 0, 1) := by decide +kernel
theorem dX7_deepest_28 : decode cX7_deepest 28 = .ok (.iload_n 2, 1) := by decide +kernel
theorem dX7_deepest_29 : decode cX7_deepest 29 = .ok (.invokevirtual 158, 3) := by decide +kernel
theorem dX7_deepest_32 : decode cX7_deepest 32 = .ok (.aload_n 0, 1) := by decide +kernel
theorem dX7_deepest_33 : decode cX7_deepest 33 = .ok (.iload_n 1, 1) := by decide +kernel
theorem dX7_deepest_34 : decode cX7_deepest 34 = .ok (.invokevirtual 158, 3) := by decide +kernel
theorem dX7_deepest_37 : decode cX7_deepest 37 = .ok (.if_icmp .le 7, 3) := by decide +kernel
theorem dX7_deepest_40 : decode cX7_deepest 40 = .ok (.iconst 1, 1) := by decide +kernel
theorem dX7_deepest_41 : decode cX7_deepest 41 = .ok (.goto 4, 3) := by decide +kernel
theorem dX7_deepest_44 : decode cX7_deepest 44 = .ok (.iconst 0, 1) := by decide +kernel
theorem dX7_deepest_45 : decode cX7_deepest 45 = .ok (.istore_n 3, 1) := by decide +kernel
theorem dX7_deepest_46 : decode cX7_deepest 46 = .ok (.iload_n 2, 1) := by decide +kernel
theorem dX7_deepest_47 : decode cX7_deepest 47 = .ok (.aload_n 0, 1) := by decide +kernel
theorem dX7_deepest_48 : decode cX7_deepest 48 = .ok (.getfield 66, 3) := by decide +kernel
theorem dX7_deepest_51 : decode cX7_deepest 51 = .ok (.if_icmp .eq 11, 3) := by decide +kernel
theorem dX7_deepest_54 : decode cX7_deepest 54 = .ok (.iload_n 3, 1) := by decide +kernel
theorem dX7_deepest_55 : decode cX7_deepest 55 = .ok (.ifCond .eq 7, 3) := by decide +kernel
theorem dX7_deepest_58 : decode cX7_deepest 58 = .ok (.iload_n 2, 1) := by decide +kernel
theorem dX7_deepest_59 : decode cX7_deepest 59 = .ok (.goto 4, 3) := by decide +kernel
theorem dX7_deepest_62 : decode cX7_deepest 62 = .ok (.iload_n 1, 1) := by decide +kernel
theorem dX7_deepest_63 : decode cX7_deepest 63 = .ok (.istore_n 1, 1) := by decide +kernel
theorem dX7_deepest_64 : decode cX7_deepest 64 = .ok (.iinc 2 1, 3) := by decide +kernel
theorem dX7_deepest_67 : decode cX7_deepest 67 = .ok (.goto (-62), 3) := by decide +kernel
theorem dX7_deepest_70 : decode cX7_deepest 70 = .ok (.iload_n 1, 1) := by decide +kernel
theorem dX7_deepest_71 : decode cX7_deepest 71 = .ok (.ireturn, 1) := by decide +kernel
theorem dX7_chosen_0 : decode cX7_chosen 0 = .ok (.aload_n 0, 1) := by decide +kernel
theorem dX7_chosen_1 : decode cX7_chosen 1 = .ok (.getfield 176, 3) := by decide +kernel
theorem dX7_chosen_4 : decode cX7_chosen 4 = .ok (.aload_n 0, 1) := by decide +kernel
theorem dX7_chosen_5 : decode cX7_chosen 5 = .ok (.getfield 66, 3) := by decide +kernel
theorem dX7_chosen_8 : decode cX7_chosen 8 = .ok (.if_icmp .ne 8, 3) := by decide +kernel
theorem dX7_chosen_11 : decode cX7_chosen 11 = .ok (.bipush (-9), 2) := by decide +kernel
theorem dX7_chosen_13 : decode cX7_chosen 13 = .ok (.goto 7, 3) := by decide +kernel
theorem dX7_chosen_16 : decode cX7_chosen 16 = .ok (.aload_n 0, 1) := by decide +kernel
theorem dX7_chosen_17 : decode cX7_chosen 17 = .ok (.getfield 176, 3) := by decide +kernel
theorem dX7_chosen_20 : decode cX7_chosen 20 = .ok (.istore_n 2, 1) := by decide +kernel
theorem dX7_chosen_21 : decode cX7_chosen 21 = .ok (.aload_n 0, 1) := by decide +kernel
theorem dX7_chosen_22 : decode cX7_chosen 22 = .ok (.getfield 173, 3) := by decide +kernel
theorem dX7_chosen_25 : decode cX7_chosen 25 = .ok (.tableswitch 58 0 3 #[31, 36, 51, 53], 31) := by decide +kernel
theorem dX7_chosen_56 : decode cX7_chosen 56 = .ok (.aload_n 0, 1) := by decide +kernel
theorem dX7_chosen_57 : decode cX7_chosen 57 = .ok (.invokevirtual 179, 3) := by decide +kernel
theorem dX7_chosen_60 : decode cX7_chosen 60 = .ok (.ireturn, 1) := by decide +kernel
theorem dX7_chosen_61 : decode cX7_chosen 61 = .ok (.iload_n 1, 1) := by decide +kernel
theorem dX7_chosen_62 : decode cX7_chosen 62 = .ok (.iconst 1, 1) := by decide +kernel
theorem dX7_chosen_63 : decode cX7_chosen 63 = .ok (.if_icmp .ne 10, 3) := by decide +kernel
theorem dX7_chosen_66 : decode cX7_chosen 66 = .ok (.aload_n 0, 1) := by decide +kernel
theorem dX7_chosen_67 : decode cX7_chosen 67 = .ok (.invokevirtual 179, 3) := by decide +kernel
theorem dX7_chosen_70 : decode cX7_chosen 70 = .ok (.goto 5, 3) := by decide +kernel
theorem dX7_chosen_73 : decode cX7_chosen 73 = .ok (.bipush (-9), 2) := by decide +kernel
theorem dX7_chosen_75 : decode cX7_chosen 75 = .ok (.ireturn, 1) := by decide +kernel
theorem dX7_chosen_76 : decode cX7_chosen 76 = .ok (.iload_n 2, 1) := by decide +kernel
theorem dX7_chosen_77 : decode cX7_chosen 77 = .ok (.ireturn, 1) := by decide +kernel
theorem dX7_chosen_78 : decode cX7_chosen 78 = .ok (.aload_n 0, 1) := by decide +kernel
theorem dX7_chosen_79 : decode cX7_chosen 79 = .ok (.invokevirtual 183, 3) := by decide +kernel
theorem dX7_chosen_82 : decode cX7_chosen 82 = .ok (.ireturn, 1) := by decide +kernel
theorem dX7_chosen_83 : decode cX7_chosen 83 = .ok (.iload_n 1, 1) := by decide +kernel
theorem dX7_chosen_84 : decode cX7_chosen 84 = .ok (.ifCond .ne 7, 3) := by decide +kernel
theorem dX7_chosen_87 : decode cX7_chosen 87 = .ok (.iload_n 2, 1) := by decide +kernel
theorem dX7_chosen_88 : decode cX7_chosen 88 = .ok (.goto 7, 3) := by decide +kernel
theorem dX7_chosen_91 : decode cX7_chosen 91 = .ok (.aload_n 0, 1) := by decide +kernel
theorem dX7_chosen_92 : decode cX7_chosen 92 = .ok (.invokevirtual 179, 3) := by decide +kernel
theorem dX7_chosen_95 : decode cX7_chosen 95 = .ok (.ireturn, 1) := by decide +kernel
theorem dX7_flow_0 : decode cX7_flow 0 = .ok (.aload_n 0, 1) := by decide +kernel
theorem dX7_flow_1 : decode cX7_flow 1 = .ok (.aload_n 0, 1) := by decide +kernel
theorem dX7_flow_2 : decode cX7_flow 2 = .ok (.getfield 186, 3) := by decide +kernel
theorem dX7_flow_5 : decode cX7_flow 5 = .ok (.invokevirtual 189, 3) := by decide +kernel
theorem dX7_flow_8 : decode cX7_flow 8 = .ok (.istore_n 1, 1) := by decide +kernel
theorem dX7_flow_9 : decode cX7_flow 9 = .ok (.iconst 0, 1) := by decide +kernel
theorem dX7_flow_10 : decode cX7_flow 10 = .ok (.istore_n 2, 1) := by decide +kernel
theorem dX7_flow_11 : decode cX7_flow 11 = .ok (.iload_n 2, 1) := by decide +kernel
theorem dX7_flow_12 : decode cX7_flow 12 = .ok (.iconst 2, 1) := by decide +kernel
theorem dX7_flow_13 : decode cX7_flow 13 = .ok (.aload_n 0, 1) := by decide +kernel
theorem dX7_flow_14 : decode cX7_flow 14 = .ok (.getfield 111, 3) := by decide +kernel
theorem dX7_flow_17 : decode cX7_flow 17 = .ok (.imul, 1) := by decide +kernel
theorem dX7_flow_18 : decode cX7_flow 18 = .ok (.if_icmp .ge 72, 3) := by decide +kernel
theorem dX7_flow_21 : decode cX7_flow 21 = .ok (.iload_n 1, 1) := by decide +kernel
theorem dX7_flow_22 : decode cX7_flow 22 = .ok (.ifCond .ne 28, 3) := by decide +kernel
theorem dX7_flow_25 : decode cX7_flow 25 = .ok (.aload_n 0, 1) := by decide +kernel
theorem dX7_flow_26 : decode cX7_flow 26 = .ok (.getfield 28, 3) := by decide +kernel
theorem dX7_flow_29 : decode cX7_flow 29 = .ok (.iload_n 2, 1) := by decide +kernel
theorem dX7_flow_30 : decode cX7_flow 30 = .ok (.iaload, 1) := by decide +kernel
theorem dX7_flow_31 : decode cX7_flow 31 = .ok (.i2l, 1) := by decide +kernel
theorem dX7_flow_32 : decode cX7_flow 32 = .ok (.aload_n 0, 1) := by decide +kernel
theorem dX7_flow_33 : decode cX7_flow 33 = .ok (.getfield 19, 3) := by decide +kernel
theorem dX7_flow_36 : decode cX7_flow 36 = .ok (.iload_n 2, 1) := by decide +kernel
theorem dX7_flow_37 : decode cX7_flow 37 = .ok (.iconst 2, 1) := by decide +kernel
theorem dX7_flow_38 : decode cX7_flow 38 = .ok (.idiv, 1) := by decide +kernel
theorem dX7_flow_39 : decode cX7_flow 39 = .ok (.iaload, 1) := by decide +kernel
theorem dX7_flow_40 : decode cX7_flow 40 = .ok (.i2l, 1) := by decide +kernel
theorem dX7_flow_41 : decode cX7_flow 41 = .ok (.lmul, 1) := by decide +kernel
theorem dX7_flow_42 : decode cX7_flow 42 = .ok (.ldc2_w 192, 3) := by decide +kernel
theorem dX7_flow_45 : decode cX7_flow 45 = .ok (.ldiv, 1) := by decide +kernel
theorem dX7_flow_46 : decode cX7_flow 46 = .ok (.l2i, 1) := by decide +kernel
theorem dX7_flow_47 : decode cX7_flow 47 = .ok (.goto 4, 3) := by decide +kernel
theorem dX7_flow_50 : decode cX7_flow 50 = .ok (.iconst 0, 1) := by decide +kernel
theorem dX7_flow_51 : decode cX7_flow 51 = .ok (.istore_n 3, 1) := by decide +kernel
theorem dX7_flow_52 : decode cX7_flow 52 = .ok (.aload_n 0, 1) := by decide +kernel
theorem dX7_flow_53 : decode cX7_flow 53 = .ok (.getfield 28, 3) := by decide +kernel
theorem dX7_flow_56 : decode cX7_flow 56 = .ok (.iload_n 2, 1) := by decide +kernel
theorem dX7_flow_57 : decode cX7_flow 57 = .ok (.dup2, 1) := by decide +kernel
theorem dX7_flow_58 : decode cX7_flow 58 = .ok (.iaload, 1) := by decide +kernel
theorem dX7_flow_59 : decode cX7_flow 59 = .ok (.iload_n 3, 1) := by decide +kernel
theorem dX7_flow_60 : decode cX7_flow 60 = .ok (.isub, 1) := by decide +kernel
theorem dX7_flow_61 : decode cX7_flow 61 = .ok (.iastore, 1) := by decide +kernel
theorem dX7_flow_62 : decode cX7_flow 62 = .ok (.aload_n 0, 1) := by decide +kernel
theorem dX7_flow_63 : decode cX7_flow 63 = .ok (.getfield 25, 3) := by decide +kernel
theorem dX7_flow_66 : decode cX7_flow 66 = .ok (.iload_n 2, 1) := by decide +kernel
theorem dX7_flow_67 : decode cX7_flow 67 = .ok (.dup2, 1) := by decide +kernel
theorem dX7_flow_68 : decode cX7_flow 68 = .ok (.iaload, 1) := by decide +kernel
theorem dX7_flow_69 : decode cX7_flow 69 = .ok (.iload_n 3, 1) := by decide +kernel
theorem dX7_flow_70 : decode cX7_flow 70 = .ok (.iadd, 1) := by decide +kernel
theorem dX7_flow_71 : decode cX7_flow 71 = .ok (.iastore, 1) := by decide +kernel
theorem dX7_flow_72 : decode cX7_flow 72 = .ok (.aload_n 0, 1) := by decide +kernel
theorem dX7_flow_73 : decode cX7_flow 73 = .ok (.getfield 84, 3) := by decide +kernel
theorem dX7_flow_76 : decode cX7_flow 76 = .ok (.iload_n 2, 1) := by decide +kernel
theorem dX7_flow_77 : decode cX7_flow 77 = .ok (.aload_n 0, 1) := by decide +kernel
theorem dX7_flow_78 : decode cX7_flow 78 = .ok (.getfield 25, 3) := by decide +kernel
theorem dX7_flow_81 : decode cX7_flow 81 = .ok (.iload_n 2, 1) := by decide +kernel
theorem dX7_flow_82 : decode cX7_flow 82 = .ok (.iaload, 1) := by decide +kernel
theorem dX7_flow_83 : decode cX7_flow 83 = .ok (.iastore, 1) := by decide +kernel
theorem dX7_flow_84 : decode cX7_flow 84 = .ok (.iinc 2 1, 3) := by decide +kernel
theorem dX7_flow_87 : decode cX7_flow 87 = .ok (.goto (-76), 3) := by decide +kernel
theorem dX7_flow_90 : decode cX7_flow 90 = .ok (.iconst 0, 1) := by decide +kernel
theorem dX7_flow_91 : decode cX7_flow 91 = .ok (.istore_n 2, 1) := by decide +kernel
theorem dX7_flow_92 : decode cX7_flow 92 = .ok (.iload_n 2, 1) := by decide +kernel
theorem dX7_flow_93 : decode cX7_flow 93 = .ok (.aload_n 0, 1) := by decide +kernel
theorem dX7_flow_94 : decode cX7_flow 94 = .ok (.getfield 132, 3) := by decide +kernel
theorem dX7_flow_97 : decode cX7_flow 97 = .ok (.if_icmp .ge 127, 3) := by decide +kernel
theorem dX7_flow_100 : decode cX7_flow 100 = .ok (.aload_n 0, 1) := by decide +kernel
theorem dX7_flow_101 : decode cX7_flow 101 = .ok (.getfield 37, 3) := by decide +kernel
theorem dX7_flow_104 : decode cX7_flow 104 = .ok (.iload_n 2, 1) := by decide +kernel
theorem dX7_flow_105 : decode cX7_flow 105 = .ok (.iaload, 1) := by decide +kernel
theorem dX7_flow_106 : decode cX7_flow 106 = .ok (.iload_n 1, 1) := by decide +kernel
theorem dX7_flow_107 : decode cX7_flow 107 = .ok (.if_icmp .ne 111, 3) := by decide +kernel
theorem dX7_flow_110 : decode cX7_flow 110 = .ok (.aload_n 0, 1) := by decide +kernel
theorem dX7_flow_111 : decode cX7_flow 111 = .ok (.getfield 46, 3) := by decide +kernel
theorem dX7_flow_114 : decode cX7_flow 114 = .ok (.iload_n 2, 1) := by decide +kernel
theorem dX7_flow_115 : decode cX7_flow 115 = .ok (.baload, 1) := by decide +kernel
theorem dX7_flow_116 : decode cX7_flow 116 = .ok (.ifCond .ne 102, 3) := by decide +kernel
theorem dX7_flow_119 : decode cX7_flow 119 = .ok (.iconst 2, 1) := by decide +kernel
theorem dX7_flow_120 : decode cX7_flow 120 = .ok (.aload_n 0, 1) := by decide +kernel
theorem dX7_flow_121 : decode cX7_flow 121 = .ok (.getfield 31, 3) := by decide +kernel
theorem dX7_flow_124 : decode cX7_flow 124 = .ok (.iload_n 2, 1) := by decide +kernel
theorem dX7_flow_125 : decode cX7_flow 125 = .ok (.iaload, 1) := by decide +kernel
theorem dX7_flow_126 : decode cX7_flow 126 = .ok (.imul, 1) := by decide +kernel
theorem dX7_flow_127 : decode cX7_flow 127 = .ok (.aload_n 0, 1) := by decide +kernel
theorem dX7_flow_128 : decode cX7_flow 128 = .ok (.getfield 40, 3) := by decide +kernel
theorem dX7_flow_131 : decode cX7_flow 131 = .ok (.iload_n 2, 1) := by decide +kernel
theorem dX7_flow_132 : decode cX7_flow 132 = .ok (.iaload, 1) := by decide +kernel
theorem dX7_flow_133 : decode cX7_flow 133 = .ok (.iadd, 1) := by decide +kernel
theorem dX7_flow_134 : decode cX7_flow 134 = .ok (.istore_n 3, 1) := by decide +kernel
theorem dX7_flow_135 : decode cX7_flow 135 = .ok (.aload_n 0, 1) := by decide +kernel
theorem dX7_flow_136 : decode cX7_flow 136 = .ok (.getfield 84, 3) := by decide +kernel
theorem dX7_flow_139 : decode cX7_flow 139 = .ok (.iload_n 3, 1) := by decide +kernel
theorem dX7_flow_140 : decode cX7_flow 140 = .ok (.iaload, 1) := by decide +kernel
theorem dX7_flow_141 : decode cX7_flow 141 = .ok (.i2l, 1) := by decide +kernel
theorem dX7_flow_142 : decode cX7_flow 142 = .ok (.aload_n 0, 1) := by decide +kernel
theorem dX7_flow_143 : decode cX7_flow 143 = .ok (.getfield 43, 3) := by decide +kernel
theorem dX7_flow_146 : decode cX7_flow 146 = .ok (.iload_n 2, 1) := by decide +kernel
theorem dX7_flow_147 : decode cX7_flow 147 = .ok (.iaload, 1) := by decide +kernel
theorem dX7_flow_148 : decode cX7_flow 148 = .ok (.i2l, 1) := by decide +kernel
theorem dX7_flow_149 : decode cX7_flow 149 = .ok (.lmul, 1) := by decide +kernel
theorem dX7_flow_150 : decode cX7_flow 150 = .ok (.ldc2_w 192, 3) := by decide +kernel
theorem dX7_flow_153 : decode cX7_flow 153 = .ok (.ldiv, 1) := by decide +kernel
theorem dX7_flow_154 : decode cX7_flow 154 = .ok (.l2i, 1) := by decide +kernel
theorem dX7_flow_155 : decode cX7_flow 155 = .ok (.istore 4, 2) := by decide +kernel
theorem dX7_flow_157 : decode cX7_flow 157 = .ok (.aload_n 0, 1) := by decide +kernel
theorem dX7_flow_158 : decode cX7_flow 158 = .ok (.getfield 25, 3) := by decide +kernel
theorem dX7_flow_161 : decode cX7_flow 161 = .ok (.iload_n 3, 1) := by decide +kernel
theorem dX7_flow_162 : decode cX7_flow 162 = .ok (.dup2, 1) := by decide +kernel
theorem dX7_flow_163 : decode cX7_flow 163 = .ok (.iaload, 1) := by decide +kernel
theorem dX7_flow_164 : decode cX7_flow 164 = .ok (.iload 4, 2) := by decide +kernel
theorem dX7_flow_166 : decode cX7_flow 166 = .ok (.isub, 1) := by decide +kernel
theorem dX7_flow_167 : decode cX7_flow 167 = .ok (.iastore, 1) := by decide +kernel
theorem dX7_flow_168 : decode cX7_flow 168 = .ok (.aload_n 0, 1) := by decide +kernel
theorem dX7_flow_169 : decode cX7_flow 169 = .ok (.getfield 34, 3) := by decide +kernel
theorem dX7_flow_172 : decode cX7_flow 172 = .ok (.iload_n 2, 1) := by decide +kernel
theorem dX7_flow_173 : decode cX7_flow 173 = .ok (.iaload, 1) := by decide +kernel
theorem dX7_flow_174 : decode cX7_flow 174 = .ok (.bipush 8, 2) := by decide +kernel
theorem dX7_flow_176 : decode cX7_flow 176 = .ok (.if_icmp .ne 17, 3) := by decide +kernel
theorem dX7_flow_179 : decode cX7_flow 179 = .ok (.aload_n 0, 1) := by decide +kernel
theorem dX7_flow_180 : decode cX7_flow 180 = .ok (.dup, 1) := by decide +kernel
theorem dX7_flow_181 : decode cX7_flow 181 = .ok (.getfield 194, 3) := by decide +kernel
theorem dX7_flow_184 : decode cX7_flow 184 = .ok (.iload 4, 2) := by decide +kernel
theorem dX7_flow_186 : decode cX7_flow 186 = .ok (.iadd, 1) := by decide +kernel
theorem dX7_flow_187 : decode cX7_flow 187 = .ok (.putfield 194, 3) := by decide +kernel
theorem dX7_flow_190 : decode cX7_flow 190 = .ok (.goto 28, 3) := by decide +kernel
theorem dX7_flow_193 : decode cX7_flow 193 = .ok (.aload_n 0, 1) := by decide +kernel
theorem dX7_flow_194 : decode cX7_flow 194 = .ok (.getfield 25, 3) := by decide +kernel
theorem dX7_flow_197 : decode cX7_flow 197 = .ok (.iconst 2, 1) := by decide +kernel
theorem dX7_flow_198 : decode cX7_flow 198 = .ok (.aload_n 0, 1) := by decide +kernel
theorem dX7_flow_199 : decode cX7_flow 199 = .ok (.getfield 34, 3) := by decide +kernel
theorem dX7_flow_202 : decode cX7_flow 202 = .ok (.iload_n 2, 1) := by decide +kernel
theorem dX7_flow_203 : decode cX7_flow 203 = .ok (.iaload, 1) := by decide +kernel
theorem dX7_flow_204 : decode cX7_flow 204 = .ok (.imul, 1) := by decide +kernel
theorem dX7_flow_205 : decode cX7_flow 205 = .ok (.aload_n 0, 1) := by decide +kernel
theorem dX7_flow_206 : decode cX7_flow 206 = .ok (.getfield 40, 3) := by decide +kernel
theorem dX7_flow_209 : decode cX7_flow 209 = .ok (.iload_n 2, 1) := by decide +kernel
theorem dX7_flow_210 : decode cX7_flow 210 = .ok (.iaload, 1) := by decide +kernel
theorem dX7_flow_211 : decode cX7_flow 211 = .ok (.iadd, 1) := by decide +kernel
theorem dX7_flow_212 : decode cX7_flow 212 = .ok (.dup2, 1) := by decide +kernel
theorem dX7_flow_213 : decode cX7_flow 213 = .ok (.iaload, 1) := by decide +kernel
theorem dX7_flow_214 : decode cX7_flow 214 = .ok (.iload 4, 2) := by decide +kernel
theorem dX7_flow_216 : decode cX7_flow 216 = .ok (.iadd, 1) := by decide +kernel
theorem dX7_flow_217 : decode cX7_flow 217 = .ok (.iastore, 1) := by decide +kernel
theorem dX7_flow_218 : decode cX7_flow 218 = .ok (.iinc 2 1, 3) := by decide +kernel
theorem dX7_flow_221 : decode cX7_flow 221 = .ok (.goto (-129), 3) := by decide +kernel
theorem dX7_flow_224 : decode cX7_flow 224 = .ok (.iconst 0, 1) := by decide +kernel
theorem dX7_flow_225 : decode cX7_flow 225 = .ok (.istore_n 2, 1) := by decide +kernel
theorem dX7_flow_226 : decode cX7_flow 226 = .ok (.iload_n 2, 1) := by decide +kernel
theorem dX7_flow_227 : decode cX7_flow 227 = .ok (.aload_n 0, 1) := by decide +kernel
theorem dX7_flow_228 : decode cX7_flow 228 = .ok (.getfield 147, 3) := by decide +kernel
theorem dX7_flow_231 : decode cX7_flow 231 = .ok (.if_icmp .ge 50, 3) := by decide +kernel
theorem dX7_flow_234 : decode cX7_flow 234 = .ok (.aload_n 0, 1) := by decide +kernel
theorem dX7_flow_235 : decode cX7_flow 235 = .ok (.getfield 25, 3) := by decide +kernel
theorem dX7_flow_238 : decode cX7_flow 238 = .ok (.iconst 2, 1) := by decide +kernel
theorem dX7_flow_239 : decode cX7_flow 239 = .ok (.aload_n 0, 1) := by decide +kernel
theorem dX7_flow_240 : decode cX7_flow 240 = .ok (.getfield 50, 3) := by decide +kernel
theorem dX7_flow_243 : decode cX7_flow 243 = .ok (.iload_n 2, 1) := by decide +kernel
theorem dX7_flow_244 : decode cX7_flow 244 = .ok (.iaload, 1) := by decide +kernel
theorem dX7_flow_245 : decode cX7_flow 245 = .ok (.imul, 1) := by decide +kernel
theorem dX7_flow_246 : decode cX7_flow 246 = .ok (.aload_n 0, 1) := by decide +kernel
theorem dX7_flow_247 : decode cX7_flow 247 = .ok (.getfield 53, 3) := by decide +kernel
theorem dX7_flow_250 : decode cX7_flow 250 = .ok (.iload_n 2, 1) := by decide +kernel
theorem dX7_flow_251 : decode cX7_flow 251 = .ok (.iaload, 1) := by decide +kernel
theorem dX7_flow_252 : decode cX7_flow 252 = .ok (.iadd, 1) := by decide +kernel
theorem dX7_flow_253 : decode cX7_flow 253 = .ok (.dup2, 1) := by decide +kernel
theorem dX7_flow_254 : decode cX7_flow 254 = .ok (.iaload, 1) := by decide +kernel
theorem dX7_flow_255 : decode cX7_flow 255 = .ok (.iload_n 2, 1) := by decide +kernel
theorem dX7_flow_256 : decode cX7_flow 256 = .ok (.aload_n 0, 1) := by decide +kernel
theorem dX7_flow_257 : decode cX7_flow 257 = .ok (.getfield 81, 3) := by decide +kernel
theorem dX7_flow_260 : decode cX7_flow 260 = .ok (.if_icmp .ne 7, 3) := by decide +kernel
theorem dX7_flow_263 : decode cX7_flow 263 = .ok (.iconst 0, 1) := by decide +kernel
theorem dX7_flow_264 : decode cX7_flow 264 = .ok (.goto 9, 3) := by decide +kernel
theorem dX7_flow_267 : decode cX7_flow 267 = .ok (.aload_n 0, 1) := by decide +kernel
theorem dX7_flow_268 : decode cX7_flow 268 = .ok (.getfield 56, 3) := by decide +kernel
theorem dX7_flow_271 : decode cX7_flow 271 = .ok (.iload_n 2, 1) := by decide +kernel
theorem dX7_flow_272 : decode cX7_flow 272 = .ok (.iaload, 1) := by decide +kernel
theorem dX7_flow_273 : decode cX7_flow 273 = .ok (.iadd, 1) := by decide +kernel
theorem dX7_flow_274 : decode cX7_flow 274 = .ok (.iastore, 1) := by decide +kernel
theorem dX7_flow_275 : decode cX7_flow 275 = .ok (.iinc 2 1, 3) := by decide +kernel
theorem dX7_flow_278 : decode cX7_flow 278 = .ok (.goto (-52), 3) := by decide +kernel
theorem dX7_flow_281 : decode cX7_flow 281 = .ok (.iconst 0, 1) := by decide +kernel
theorem dX7_flow_282 : decode cX7_flow 282 = .ok (.istore_n 2, 1) := by decide +kernel
theorem dX7_flow_283 : decode cX7_flow 283 = .ok (.iload_n 2, 1) := by decide +kernel
theorem dX7_flow_284 : decode cX7_flow 284 = .ok (.iconst 2, 1) := by decide +kernel
theorem dX7_flow_285 : decode cX7_flow 285 = .ok (.aload_n 0, 1) := by decide +kernel
theorem dX7_flow_286 : decode cX7_flow 286 = .ok (.getfield 111, 3) := by decide +kernel
theorem dX7_flow_289 : decode cX7_flow 289 = .ok (.imul, 1) := by decide +kernel
theorem dX7_flow_290 : decode cX7_flow 290 = .ok (.if_icmp .ge 52, 3) := by decide +kernel
theorem dX7_flow_293 : decode cX7_flow 293 = .ok (.aload_n 0, 1) := by decide +kernel
theorem dX7_flow_294 : decode cX7_flow 294 = .ok (.getfield 25, 3) := by decide +kernel
theorem dX7_flow_297 : decode cX7_flow 297 = .ok (.iload_n 2, 1) := by decide +kernel
theorem dX7_flow_298 : decode cX7_flow 298 = .ok (.iaload, 1) := by decide +kernel
theorem dX7_flow_299 : decode cX7_flow 299 = .ok (.i2l, 1) := by decide +kernel
theorem dX7_flow_300 : decode cX7_flow 300 = .ok (.aload_n 0, 1) := by decide +kernel
theorem dX7_flow_301 : decode cX7_flow 301 = .ok (.getfield 16, 3) := by decide +kernel
theorem dX7_flow_304 : decode cX7_flow 304 = .ok (.iload_n 2, 1) := by decide +kernel
theorem dX7_flow_305 : decode cX7_flow 305 = .ok (.iconst 2, 1) := by decide +kernel
theorem dX7_flow_306 : decode cX7_flow 306 = .ok (.idiv, 1) := by decide +kernel
theorem dX7_flow_307 : decode cX7_flow 307 = .ok (.iaload, 1) := by decide +kernel
theorem dX7_flow_308 : decode cX7_flow 308 = .ok (.i2l, 1) := by decide +kernel
theorem dX7_flow_309 : decode cX7_flow 309 = .ok (.lmul, 1) := by decide +kernel
theorem dX7_flow_310 : decode cX7_flow 310 = .ok (.ldc2_w 192, 3) := by decide +kernel
theorem dX7_flow_313 : decode cX7_flow 313 = .ok (.ldiv, 1) := by decide +kernel
theorem dX7_flow_314 : decode cX7_flow 314 = .ok (.l2i, 1) := by decide +kernel
theorem dX7_flow_315 : decode cX7_flow 315 = .ok (.istore_n 3, 1) := by decide +kernel
theorem dX7_flow_316 : decode cX7_flow 316 = .ok (.aload_n 0, 1) := by decide +kernel
theorem dX7_flow_317 : decode cX7_flow 317 = .ok (.getfield 25, 3) := by decide +kernel
theorem dX7_flow_320 : decode cX7_flow 320 = .ok (.iload_n 2, 1) := by decide +kernel
theorem dX7_flow_321 : decode cX7_flow 321 = .ok (.dup2, 1) := by decide +kernel
theorem dX7_flow_322 : decode cX7_flow 322 = .ok (.iaload, 1) := by decide +kernel
theorem dX7_flow_323 : decode cX7_flow 323 = .ok (.iload_n 3, 1) := by decide +kernel
theorem dX7_flow_324 : decode cX7_flow 324 = .ok (.isub, 1) := by decide +kernel
theorem dX7_flow_325 : decode cX7_flow 325 = .ok (.iastore, 1) := by decide +kernel
theorem dX7_flow_326 : decode cX7_flow 326 = .ok (.aload_n 0, 1) := by decide +kernel
theorem dX7_flow_327 : decode cX7_flow 327 = .ok (.getfield 28, 3) := by decide +kernel
theorem dX7_flow_330 : decode cX7_flow 330 = .ok (.iload_n 2, 1) := by decide +kernel
theorem dX7_flow_331 : decode cX7_flow 331 = .ok (.dup2, 1) := by decide +kernel
theorem dX7_flow_332 : decode cX7_flow 332 = .ok (.iaload, 1) := by decide +kernel
theorem dX7_flow_333 : decode cX7_flow 333 = .ok (.iload_n 3, 1) := by decide +kernel
theorem dX7_flow_334 : decode cX7_flow 334 = .ok (.iadd, 1) := by decide +kernel
theorem dX7_flow_335 : decode cX7_flow 335 = .ok (.iastore, 1) := by decide +kernel
theorem dX7_flow_336 : decode cX7_flow 336 = .ok (.iinc 2 1, 3) := by decide +kernel
theorem dX7_flow_339 : decode cX7_flow 339 = .ok (.goto (-56), 3) := by decide +kernel
theorem dX7_flow_342 : decode cX7_flow 342 = .ok (.return_, 1) := by decide +kernel
theorem dX7_take_0 : decode cX7_take 0 = .ok (.aload_n 0, 1) := by decide +kernel
theorem dX7_take_1 : decode cX7_take 1 = .ok (.iconst 0, 1) := by decide +kernel
theorem dX7_take_2 : decode cX7_take 2 = .ok (.putfield 197, 3) := by decide +kernel
theorem dX7_take_5 : decode cX7_take 5 = .ok (.aload_n 0, 1) := by decide +kernel
theorem dX7_take_6 : decode cX7_take 6 = .ok (.iconst 0, 1) := by decide +kernel
theorem dX7_take_7 : decode cX7_take 7 = .ok (.putfield 200, 3) := by decide +kernel
theorem dX7_take_10 : decode cX7_take 10 = .ok (.iload_n 1, 1) := by decide +kernel
theorem dX7_take_11 : decode cX7_take 11 = .ok (.ifCond .lt 11, 3) := by decide +kernel
theorem dX7_take_14 : decode cX7_take 14 = .ok (.iload_n 1, 1) := by decide +kernel
theorem dX7_take_15 : decode cX7_take 15 = .ok (.aload_n 0, 1) := by decide +kernel
theorem dX7_take_16 : decode cX7_take 16 = .ok (.getfield 66, 3) := by decide +kernel
theorem dX7_take_19 : decode cX7_take 19 = .ok (.if_icmp .ne 4, 3) := by decide +kernel
theorem dX7_take_22 : decode cX7_take 22 = .ok (.return_, 1) := by decide +kernel
theorem dX7_take_23 : decode cX7_take 23 = .ok (.aload_n 0, 1) := by decide +kernel
theorem dX7_take_24 : decode cX7_take 24 = .ok (.getfield 170, 3) := by decide +kernel
theorem dX7_take_27 : decode cX7_take 27 = .ok (.istore_n 2, 1) := by decide +kernel
theorem dX7_take_28 : decode cX7_take 28 = .ok (.iconst 1, 1) := by decide +kernel
theorem dX7_take_29 : decode cX7_take 29 = .ok (.istore_n 3, 1) := by decide +kernel
theorem dX7_take_30 : decode cX7_take 30 = .ok (.iload_n 3, 1) := by decide +kernel
theorem dX7_take_31 : decode cX7_take 31 = .ok (.ifCond .lt 120, 3) := by decide +kernel
theorem dX7_take_34 : decode cX7_take 34 = .ok (.iconst 2, 1) := by decide +kernel
theorem dX7_take_35 : decode cX7_take 35 = .ok (.iload_n 1, 1) := by decide +kernel
theorem dX7_take_36 : decode cX7_take 36 = .ok (.imul, 1) := by decide +kernel
theorem dX7_take_37 : decode cX7_take 37 = .ok (.iload_n 3, 1) := by decide +kernel
theorem dX7_take_38 : decode cX7_take 38 = .ok (.iadd, 1) := by decide +kernel
theorem dX7_take_39 : decode cX7_take 39 = .ok (.istore 4, 2) := by decide +kernel
theorem dX7_take_41 : decode cX7_take 41 = .ok (.aload_n 0, 1) := by decide +kernel
theorem dX7_take_42 : decode cX7_take 42 = .ok (.getfield 28, 3) := by decide +kernel
theorem dX7_take_45 : decode cX7_take 45 = .ok (.iload 4, 2) := by decide +kernel
theorem dX7_take_47 : decode cX7_take 47 = .ok (.iaload, 1) := by decide +kernel
theorem dX7_take_48 : decode cX7_take 48 = .ok (.iload_n 2, 1) := by decide +kernel
theorem dX7_take_49 : decode cX7_take 49 = .ok (.if_icmp .ge 13, 3) := by decide +kernel
theorem dX7_take_52 : decode cX7_take 52 = .ok (.aload_n 0, 1) := by decide +kernel
theorem dX7_take_53 : decode cX7_take 53 = .ok (.getfield 28, 3) := by decide +kernel
theorem dX7_take_56 : decode cX7_take 56 = .ok (.iload 4, 2) := by decide +kernel
theorem dX7_take_58 : decode cX7_take 58 = .ok (.iaload, 1) := by decide +kernel
theorem dX7_take_59 : decode cX7_take 59 = .ok (.goto 4, 3) := by decide +kernel
theorem dX7_take_62 : decode cX7_take 62 = .ok (.iload_n 2, 1) := by decide +kernel
theorem dX7_take_63 : decode cX7_take 63 = .ok (.istore 5, 2) := by decide +kernel
theorem dX7_take_65 : decode cX7_take 65 = .ok (.aload_n 0, 1) := by decide +kernel
theorem dX7_take_66 : decode cX7_take 66 = .ok (.getfield 28, 3) := by decide +kernel
theorem dX7_take_69 : decode cX7_take 69 = .ok (.iload 4, 2) := by decide +kernel
theorem dX7_take_71 : decode cX7_take 71 = .ok (.dup2, 1) := by decide +kernel
theorem dX7_take_72 : decode cX7_take 72 = .ok (.iaload, 1) := by decide +kernel
theorem dX7_take_73 : decode cX7_take 73 = .ok (.iload 5, 2) := by decide +kernel
theorem dX7_take_75 : decode cX7_take 75 = .ok (.isub, 1) := by decide +kernel
theorem dX7_take_76 : decode cX7_take 76 = .ok (.iastore, 1) := by decide +kernel
theorem dX7_take_77 : decode cX7_take 77 = .ok (.iload_n 2, 1) := by decide +kernel
theorem dX7_take_78 : decode cX7_take 78 = .ok (.iload 5, 2) := by decide +kernel
theorem dX7_take_80 : decode cX7_take 80 = .ok (.isub, 1) := by decide +kernel
theorem dX7_take_81 : decode cX7_take 81 = .ok (.istore_n 2, 1) := by decide +kernel
theorem dX7_take_82 : decode cX7_take 82 = .ok (.aload_n 0, 1) := by decide +kernel
theorem dX7_take_83 : decode cX7_take 83 = .ok (.dup, 1) := by decide +kernel
theorem dX7_take_84 : decode cX7_take 84 = .ok (.getfield 197, 3) := by decide +kernel
theorem dX7_take_87 : decode cX7_take 87 = .ok (.iload 5, 2) := by decide +kernel
theorem dX7_take_89 : decode cX7_take 89 = .ok (.iadd, 1) := by decide +kernel
theorem dX7_take_90 : decode cX7_take 90 = .ok (.putfield 197, 3) := by decide +kernel
theorem dX7_take_93 : decode cX7_take 93 = .ok (.aload_n 0, 1) := by decide +kernel
theorem dX7_take_94 : decode cX7_take 94 = .ok (.getfield 66, 3) := by decide +kernel
theorem dX7_take_97 : decode cX7_take 97 = .ok (.bipush 8, 2) := by decide +kernel
theorem dX7_take_99 : decode cX7_take 99 = .ok (.if_icmp .ne 28, 3) := by decide +kernel
theorem dX7_take_102 : decode cX7_take 102 = .ok (.aload_n 0, 1) := by decide +kernel
theorem dX7_take_103 : decode cX7_take 103 = .ok (.dup, 1) := by decide +kernel
theorem dX7_take_104 : decode cX7_take 104 = .ok (.getfield 200, 3) := by decide +kernel
theorem dX7_take_107 : decode cX7_take 107 = .ok (.iload 5, 2) := by decide +kernel
theorem dX7_take_109 : decode cX7_take 109 = .ok (.iadd, 1) := by decide +kernel
theorem dX7_take_110 : decode cX7_take 110 = .ok (.putfield 200, 3) := by decide +kernel
theorem dX7_take_113 : decode cX7_take 113 = .ok (.aload_n 0, 1) := by decide +kernel
theorem dX7_take_114 : decode cX7_take 114 = .ok (.dup, 1) := by decide +kernel
theorem dX7_take_115 : decode cX7_take 115 = .ok (.getfield 194, 3) := by decide +kernel
theorem dX7_take_118 : decode cX7_take 118 = .ok (.iload 5, 2) := by decide +kernel
theorem dX7_take_120 : decode cX7_take 120 = .ok (.iadd, 1) := by decide +kernel
theorem dX7_take_121 : decode cX7_take 121 = .ok (.putfield 194, 3) := by decide +kernel
theorem dX7_take_124 : decode cX7_take 124 = .ok (.goto 21, 3) := by decide +kernel
theorem dX7_take_127 : decode cX7_take 127 = .ok (.aload_n 0, 1) := by decide +kernel
theorem dX7_take_128 : decode cX7_take 128 = .ok (.getfield 25, 3) := by decide +kernel
theorem dX7_take_131 : decode cX7_take 131 = .ok (.iconst 2, 1) := by decide +kernel
theorem dX7_take_132 : decode cX7_take 132 = .ok (.aload_n 0, 1) := by decide +kernel
theorem dX7_take_133 : decode cX7_take 133 = .ok (.getfield 66, 3) := by decide +kernel
theorem dX7_take_136 : decode cX7_take 136 = .ok (.imul, 1) := by decide +kernel
theorem dX7_take_137 : decode cX7_take 137 = .ok (.iload_n 3, 1) := by decide +kernel
theorem dX7_take_138 : decode cX7_take 138 = .ok (.iadd, 1) := by decide +kernel
theorem dX7_take_139 : decode cX7_take 139 = .ok (.dup2, 1) := by decide +kernel
theorem dX7_take_140 : decode cX7_take 140 = .ok (.iaload, 1) := by decide +kernel
theorem dX7_take_141 : decode cX7_take 141 = .ok (.iload 5, 2) := by decide +kernel
theorem dX7_take_143 : decode cX7_take 143 = .ok (.iadd, 1) := by decide +kernel
theorem dX7_take_144 : decode cX7_take 144 = .ok (.iastore, 1) := by decide +kernel
theorem dX7_take_145 : decode cX7_take 145 = .ok (.iinc 3 (-1), 3) := by decide +kernel
theorem dX7_take_148 : decode cX7_take 148 = .ok (.goto (-118), 3) := by decide +kernel
theorem dX7_take_151 : decode cX7_take 151 = .ok (.aload_n 0, 1) := by decide +kernel
theorem dX7_take_152 : decode cX7_take 152 = .ok (.dup, 1) := by decide +kernel
theorem dX7_take_153 : decode cX7_take 153 = .ok (.getfield 203, 3) := by decide +kernel
theorem dX7_take_156 : decode cX7_take 156 = .ok (.aload_n 0, 1) := by decide +kernel
theorem dX7_take_157 : decode cX7_take 157 = .ok (.getfield 197, 3) := by decide +kernel
theorem dX7_take_160 : decode cX7_take 160 = .ok (.iadd, 1) := by decide +kernel
theorem dX7_take_161 : decode cX7_take 161 = .ok (.putfield 203, 3) := by decide +kernel
theorem dX7_take_164 : decode cX7_take 164 = .ok (.return_, 1) := by decide +kernel
theorem dX7_feetLacking_0 : decode cX7_feetLacking 0 = .ok (.iconst 0, 1) := by decide +kernel
theorem dX7_feetLacking_1 : decode cX7_feetLacking 1 = .ok (.istore_n 2, 1) := by decide +kernel
theorem dX7_feetLacking_2 : decode cX7_feetLacking 2 = .ok (.iconst 0, 1) := by decide +kernel
theorem dX7_feetLacking_3 : decode cX7_feetLacking 3 = .ok (.istore_n 3, 1) := by decide +kernel
theorem dX7_feetLacking_4 : decode cX7_feetLacking 4 = .ok (.iload_n 3, 1) := by decide +kernel
theorem dX7_feetLacking_5 : decode cX7_feetLacking 5 = .ok (.aload_n 0, 1) := by decide +kernel
theorem dX7_feetLacking_6 : decode cX7_feetLacking 6 = .ok (.getfield 111, 3) := by decide +kernel
theorem dX7_feetLacking_9 : decode cX7_feetLacking 9 = .ok (.if_icmp .ge 45, 3) := by decide +kernel
theorem dX7_feetLacking_12 : decode cX7_feetLacking 12 = .ok (.aload_n 0, 1) := by decide +kernel
theorem dX7_feetLacking_13 : decode cX7_feetLacking 13 = .ok (.iload_n 3, 1) := by decide +kernel
theorem dX7_feetLacking_14 : decode cX7_feetLacking 14 = .ok (.invokevirtual 164, 3) := by decide +kernel
theorem dX7_feetLacking_17 : decode cX7_feetLacking 17 = .ok (.istore 4, 2) := by decide +kernel
theorem dX7_feetLacking_19 : decode cX7_feetLacking 19 = .ok (.iload_n 2, 1) := by decide +kernel
theorem dX7_feetLacking_20 : decode cX7_feetLacking 20 = .ok (.iload 4, 2) := by decide +kernel
theorem dX7_feetLacking_22 : decode cX7_feetLacking 22 = .ok (.ifCond .le 23, 3) := by decide +kernel
theorem dX7_feetLacking_25 : decode cX7_feetLacking 25 = .ok (.iload 4, 2) := by decide +kernel
theorem dX7_feetLacking_27 : decode cX7_feetLacking 27 = .ok (.iload_n 1, 1) := by decide +kernel
theorem dX7_feetLacking_28 : decode cX7_feetLacking 28 = .ok (.ifCond .eq 12, 3) := by decide +kernel
theorem dX7_feetLacking_31 : decode cX7_feetLacking 31 = .ok (.aload_n 0, 1) := by decide +kernel
theorem dX7_feetLacking_32 : decode cX7_feetLacking 32 = .ok (.getfield 22, 3) := by decide +kernel
theorem dX7_feetLacking_35 : decode cX7_feetLacking 35 = .ok (.iload_n 3, 1) := by decide +kernel
theorem dX7_feetLacking_36 : decode cX7_feetLacking 36 = .ok (.iaload, 1) := by decide +kernel
theorem dX7_feetLacking_37 : decode cX7_feetLacking 37 = .ok (.goto 4, 3) := by decide +kernel
theorem dX7_feetLacking_40 : decode cX7_feetLacking 40 = .ok (.iconst 1, 1) := by decide +kernel
theorem dX7_feetLacking_41 : decode cX7_feetLacking 41 = .ok (.imul, 1) := by decide +kernel
theorem dX7_feetLacking_42 : decode cX7_feetLacking 42 = .ok (.goto 4, 3) := by decide +kernel
theorem dX7_feetLacking_45 : decode cX7_feetLacking 45 = .ok (.iconst 0, 1) := by decide +kernel
theorem dX7_feetLacking_46 : decode cX7_feetLacking 46 = .ok (.iadd, 1) := by decide +kernel
theorem dX7_feetLacking_47 : decode cX7_feetLacking 47 = .ok (.istore_n 2, 1) := by decide +kernel
theorem dX7_feetLacking_48 : decode cX7_feetLacking 48 = .ok (.iinc 3 1, 3) := by decide +kernel
theorem dX7_feetLacking_51 : decode cX7_feetLacking 51 = .ok (.goto (-47), 3) := by decide +kernel
theorem dX7_feetLacking_54 : decode cX7_feetLacking 54 = .ok (.iload_n 2, 1) := by decide +kernel
theorem dX7_feetLacking_55 : decode cX7_feetLacking 55 = .ok (.ireturn, 1) := by decide +kernel
theorem dX7_costNow_0 : decode cX7_costNow 0 = .ok (.aload_n 0, 1) := by decide +kernel
theorem dX7_costNow_1 : decode cX7_costNow 1 = .ok (.iconst 1, 1) := by decide +kernel
theorem dX7_costNow_2 : decode cX7_costNow 2 = .ok (.invokevirtual 206, 3) := by decide +kernel
theorem dX7_costNow_5 : decode cX7_costNow 5 = .ok (.aload_n 0, 1) := by decide +kernel
theorem dX7_costNow_6 : decode cX7_costNow 6 = .ok (.getfield 197, 3) := by decide +kernel
theorem dX7_costNow_9 : decode cX7_costNow 9 = .ok (.aload_n 0, 1) := by decide +kernel
theorem dX7_costNow_10 : decode cX7_costNow 10 = .ok (.getfield 69, 3) := by decide +kernel
theorem dX7_costNow_13 : decode cX7_costNow 13 = .ok (.imul, 1) := by decide +kernel
theorem dX7_costNow_14 : decode cX7_costNow 14 = .ok (.iadd, 1) := by decide +kernel
theorem dX7_costNow_15 : decode cX7_costNow 15 = .ok (.iconst 2, 1) := by decide +kernel
theorem dX7_costNow_16 : decode cX7_costNow 16 = .ok (.aload_n 0, 1) := by decide +kernel
theorem dX7_costNow_17 : decode cX7_costNow 17 = .ok (.getfield 200, 3) := by decide +kernel
theorem dX7_costNow_20 : decode cX7_costNow 20 = .ok (.imul, 1) := by decide +kernel
theorem dX7_costNow_21 : decode cX7_costNow 21 = .ok (.iadd, 1) := by decide +kernel
theorem dX7_costNow_22 : decode cX7_costNow 22 = .ok (.ireturn, 1) := by decide +kernel
theorem dX7_passTide_0 : decode cX7_passTide 0 = .ok (.aload_n 0, 1) := by decide +kernel
theorem dX7_passTide_1 : decode cX7_passTide 1 = .ok (.invokevirtual 210, 3) := by decide +kernel
theorem dX7_passTide_4 : decode cX7_passTide 4 = .ok (.aload_n 0, 1) := by decide +kernel
theorem dX7_passTide_5 : decode cX7_passTide 5 = .ok (.aload_n 0, 1) := by decide +kernel
theorem dX7_passTide_6 : decode cX7_passTide 6 = .ok (.aload_n 0, 1) := by decide +kernel
theorem dX7_passTide_7 : decode cX7_passTide 7 = .ok (.aload_n 0, 1) := by decide +kernel
theorem dX7_passTide_8 : decode cX7_passTide 8 = .ok (.getfield 186, 3) := by decide +kernel
theorem dX7_passTide_11 : decode cX7_passTide 11 = .ok (.invokevirtual 189, 3) := by decide +kernel
theorem dX7_passTide_14 : decode cX7_passTide 14 = .ok (.invokevirtual 213, 3) := by decide +kernel
theorem dX7_passTide_17 : decode cX7_passTide 17 = .ok (.invokevirtual 216, 3) := by decide +kernel
theorem dX7_passTide_20 : decode cX7_passTide 20 = .ok (.aload_n 0, 1) := by decide +kernel
theorem dX7_passTide_21 : decode cX7_passTide 21 = .ok (.dup, 1) := by decide +kernel
theorem dX7_passTide_22 : decode cX7_passTide 22 = .ok (.getfield 186, 3) := by decide +kernel
theorem dX7_passTide_25 : decode cX7_passTide 25 = .ok (.iconst 1, 1) := by decide +kernel
theorem dX7_passTide_26 : decode cX7_passTide 26 = .ok (.iadd, 1) := by decide +kernel
theorem dX7_passTide_27 : decode cX7_passTide 27 = .ok (.putfield 186, 3) := by decide +kernel
theorem dX7_passTide_30 : decode cX7_passTide 30 = .ok (.return_, 1) := by decide +kernel
theorem dX7_takes_0 : decode cX7_takes 0 = .ok (.aload_n 0, 1) := by decide +kernel
theorem dX7_takes_1 : decode cX7_takes 1 = .ok (.getfield 111, 3) := by decide +kernel
theorem dX7_takes_4 : decode cX7_takes 4 = .ok (.ifCond .ne 12, 3) := by decide +kernel
theorem dX7_takes_7 : decode cX7_takes 7 = .ok (.aload_n 0, 1) := by decide +kernel
theorem dX7_takes_8 : decode cX7_takes 8 = .ok (.bipush (-3), 2) := by decide +kernel
theorem dX7_takes_10 : decode cX7_takes 10 = .ok (.invokevirtual 118, 3) := by decide +kernel
theorem dX7_takes_13 : decode cX7_takes 13 = .ok (.goto 15, 3) := by decide +kernel
theorem dX7_takes_16 : decode cX7_takes 16 = .ok (.aload_n 0, 1) := by decide +kernel
theorem dX7_takes_17 : decode cX7_takes 17 = .ok (.aload_n 0, 1) := by decide +kernel
theorem dX7_takes_18 : decode cX7_takes 18 = .ok (.aload_n 0, 1) := by decide +kernel
theorem dX7_takes_19 : decode cX7_takes 19 = .ok (.getfield 186, 3) := by decide +kernel
theorem dX7_takes_22 : decode cX7_takes 22 = .ok (.invokevirtual 189, 3) := by decide +kernel
theorem dX7_takes_25 : decode cX7_takes 25 = .ok (.invokevirtual 213, 3) := by decide +kernel
theorem dX7_takes_28 : decode cX7_takes 28 = .ok (.ireturn, 1) := by decide +kernel
theorem dX7_wrongTides_0 : decode cX7_wrongTides 0 = .ok (.iload_n 1, 1) := by decide +kernel
theorem dX7_wrongTides_1 : decode cX7_wrongTides 1 = .ok (.iconst 1, 1) := by decide +kernel
