theorem dX6_share_56 : decode cX6_share 56 = .ok (.getfield 16, 3) := by decide +kernel
theorem dX6_share_59 : decode cX6_share 59 = .ok (.aload_n 0, 1) := by decide +kernel
theorem dX6_share_60 : decode cX6_share 60 = .ok (.getfield 10, 3) := by decide +kernel
theorem dX6_share_63 : decode cX6_share 63 = .ok (.invokevirtual 55, 3) := by decide +kernel
theorem dX6_share_66 : decode cX6_share 66 = .ok (.aload_n 0, 1) := by decide +kernel
theorem dX6_share_67 : decode cX6_share 67 = .ok (.getfield 16, 3) := by decide +kernel
theorem dX6_share_70 : decode cX6_share 70 = .ok (.iload_n 2, 1) := by decide +kernel
theorem dX6_share_71 : decode cX6_share 71 = .ok (.iconst (-1), 1) := by decide +kernel
theorem dX6_share_72 : decode cX6_share 72 = .ok (.invokevirtual 163, 3) := by decide +kernel
theorem dX6_share_75 : decode cX6_share 75 = .ok (.aload_n 0, 1) := by decide +kernel
theorem dX6_share_76 : decode cX6_share 76 = .ok (.getfield 16, 3) := by decide +kernel
theorem dX6_share_79 : decode cX6_share 79 = .ok (.getfield 63, 3) := by decide +kernel
theorem dX6_share_82 : decode cX6_share 82 = .ok (.invokevirtual 203, 3) := by decide +kernel
theorem dX6_share_85 : decode cX6_share 85 = .ok (.istore_n 3, 1) := by decide +kernel
theorem dX6_share_86 : decode cX6_share 86 = .ok (.aload_n 0, 1) := by decide +kernel
theorem dX6_share_87 : decode cX6_share 87 = .ok (.getfield 16, 3) := by decide +kernel
theorem dX6_share_90 : decode cX6_share 90 = .ok (.aload_n 0, 1) := by decide +kernel
theorem dX6_share_91 : decode cX6_share 91 = .ok (.getfield 10, 3) := by decide +kernel
theorem dX6_share_94 : decode cX6_share 94 = .ok (.invokevirtual 55, 3) := by decide +kernel
theorem dX6_share_97 : decode cX6_share 97 = .ok (.aload_n 0, 1) := by decide +kernel
theorem dX6_share_98 : decode cX6_share 98 = .ok (.getfield 16, 3) := by decide +kernel
theorem dX6_share_101 : decode cX6_share 101 = .ok (.getfield 196, 3) := by decide +kernel
theorem dX6_share_104 : decode cX6_share 104 = .ok (.getfield 206, 3) := by decide +kernel
theorem dX6_share_107 : decode cX6_share 107 = .ok (.iload_n 1, 1) := by decide +kernel
theorem dX6_share_108 : decode cX6_share 108 = .ok (.iconst 0, 1) := by decide +kernel
theorem dX6_share_109 : decode cX6_share 109 = .ok (.iastore, 1) := by decide +kernel
theorem dX6_share_110 : decode cX6_share 110 = .ok (.aload_n 0, 1) := by decide +kernel
theorem dX6_share_111 : decode cX6_share 111 = .ok (.getfield 16, 3) := by decide +kernel
theorem dX6_share_114 : decode cX6_share 114 = .ok (.iload_n 2, 1) := by decide +kernel
theorem dX6_share_115 : decode cX6_share 115 = .ok (.iconst (-1), 1) := by decide +kernel
theorem dX6_share_116 : decode cX6_share 116 = .ok (.invokevirtual 163, 3) := by decide +kernel
theorem dX6_share_119 : decode cX6_share 119 = .ok (.iload_n 3, 1) := by decide +kernel
theorem dX6_share_120 : decode cX6_share 120 = .ok (.aload_n 0, 1) := by decide +kernel
theorem dX6_share_121 : decode cX6_share 121 = .ok (.getfield 16, 3) := by decide +kernel
theorem dX6_share_124 : decode cX6_share 124 = .ok (.getfield 63, 3) := by decide +kernel
theorem dX6_share_127 : decode cX6_share 127 = .ok (.invokevirtual 203, 3) := by decide +kernel
theorem dX6_share_130 : decode cX6_share 130 = .ok (.isub, 1) := by decide +kernel
theorem dX6_share_131 : decode cX6_share 131 = .ok (.ireturn, 1) := by decide +kernel
theorem dX6_row_0 : decode cX6_row 0 = .ok (.iload_n 1, 1) := by decide +kernel
theorem dX6_row_1 : decode cX6_row 1 = .ok (.ifCond .ge 10, 3) := by decide +kernel
theorem dX6_row_4 : decode cX6_row 4 = .ok (.aload_n 0, 1) := by decide +kernel
theorem dX6_row_5 : decode cX6_row 5 = .ok (.bipush (-4), 2) := by decide +kernel
theorem dX6_row_7 : decode cX6_row 7 = .ok (.invokevirtual 44, 3) := by decide +kernel
theorem dX6_row_10 : decode cX6_row 10 = .ok (.ireturn, 1) := by decide +kernel
theorem dX6_row_11 : decode cX6_row 11 = .ok (.iload_n 1, 1) := by decide +kernel
theorem dX6_row_12 : decode cX6_row 12 = .ok (.bipush 9, 2) := by decide +kernel
theorem dX6_row_14 : decode cX6_row 14 = .ok (.if_icmp .gt 19, 3) := by decide +kernel
theorem dX6_row_17 : decode cX6_row 17 = .ok (.aload_n 0, 1) := by decide +kernel
theorem dX6_row_18 : decode cX6_row 18 = .ok (.getfield 37, 3) := by decide +kernel
theorem dX6_row_21 : decode cX6_row 21 = .ok (.ifCond .lt 12, 3) := by decide +kernel
theorem dX6_row_24 : decode cX6_row 24 = .ok (.aload_n 0, 1) := by decide +kernel
theorem dX6_row_25 : decode cX6_row 25 = .ok (.getfield 37, 3) := by decide +kernel
theorem dX6_row_28 : decode cX6_row 28 = .ok (.bipush 28, 2) := by decide +kernel
theorem dX6_row_30 : decode cX6_row 30 = .ok (.if_icmp .lt 10, 3) := by decide +kernel
theorem dX6_row_33 : decode cX6_row 33 = .ok (.aload_n 0, 1) := by decide +kernel
theorem dX6_row_34 : decode cX6_row 34 = .ok (.bipush (-6), 2) := by decide +kernel
theorem dX6_row_36 : decode cX6_row 36 = .ok (.invokevirtual 44, 3) := by decide +kernel
theorem dX6_row_39 : decode cX6_row 39 = .ok (.ireturn, 1) := by decide +kernel
theorem dX6_row_40 : decode cX6_row 40 = .ok (.aload_n 0, 1) := by decide +kernel
theorem dX6_row_41 : decode cX6_row 41 = .ok (.getfield 33, 3) := by decide +kernel
theorem dX6_row_44 : decode cX6_row 44 = .ok (.aload_n 0, 1) := by decide +kernel
theorem dX6_row_45 : decode cX6_row 45 = .ok (.getfield 37, 3) := by decide +kernel
theorem dX6_row_48 : decode cX6_row 48 = .ok (.iload_n 1, 1) := by decide +kernel
theorem dX6_row_49 : decode cX6_row 49 = .ok (.iastore, 1) := by decide +kernel
theorem dX6_row_50 : decode cX6_row 50 = .ok (.aload_n 0, 1) := by decide +kernel
theorem dX6_row_51 : decode cX6_row 51 = .ok (.dup, 1) := by decide +kernel
theorem dX6_row_52 : decode cX6_row 52 = .ok (.getfield 37, 3) := by decide +kernel
theorem dX6_row_55 : decode cX6_row 55 = .ok (.iconst 1, 1) := by decide +kernel
theorem dX6_row_56 : decode cX6_row 56 = .ok (.iadd, 1) := by decide +kernel
theorem dX6_row_57 : decode cX6_row 57 = .ok (.putfield 37, 3) := by decide +kernel
theorem dX6_row_60 : decode cX6_row 60 = .ok (.aload_n 0, 1) := by decide +kernel
theorem dX6_row_61 : decode cX6_row 61 = .ok (.getfield 37, 3) := by decide +kernel
theorem dX6_row_64 : decode cX6_row 64 = .ok (.ireturn, 1) := by decide +kernel
theorem dX6_judge_0 : decode cX6_judge 0 = .ok (.iload_n 1, 1) := by decide +kernel
theorem dX6_judge_1 : decode cX6_judge 1 = .ok (.ifCond .lt 8, 3) := by decide +kernel
theorem dX6_judge_4 : decode cX6_judge 4 = .ok (.iload_n 1, 1) := by decide +kernel
theorem dX6_judge_5 : decode cX6_judge 5 = .ok (.iconst 2, 1) := by decide +kernel
theorem dX6_judge_6 : decode cX6_judge 6 = .ok (.if_icmp .le 10, 3) := by decide +kernel
theorem dX6_judge_9 : decode cX6_judge 9 = .ok (.aload_n 0, 1) := by decide +kernel
theorem dX6_judge_10 : decode cX6_judge 10 = .ok (.bipush (-2), 2) := by decide +kernel
theorem dX6_judge_12 : decode cX6_judge 12 = .ok (.invokevirtual 44, 3) := by decide +kernel
theorem dX6_judge_15 : decode cX6_judge 15 = .ok (.ireturn, 1) := by decide +kernel
theorem dX6_judge_16 : decode cX6_judge 16 = .ok (.aload_n 0, 1) := by decide +kernel
theorem dX6_judge_17 : decode cX6_judge 17 = .ok (.invokevirtual 209, 3) := by decide +kernel
theorem dX6_judge_20 : decode cX6_judge 20 = .ok (.ifCond .ne 9, 3) := by decide +kernel
theorem dX6_judge_23 : decode cX6_judge 23 = .ok (.aload_n 0, 1) := by decide +kernel
theorem dX6_judge_24 : decode cX6_judge 24 = .ok (.iconst (-1), 1) := by decide +kernel
theorem dX6_judge_25 : decode cX6_judge 25 = .ok (.invokevirtual 44, 3) := by decide +kernel
theorem dX6_judge_28 : decode cX6_judge 28 = .ok (.ireturn, 1) := by decide +kernel
theorem dX6_judge_29 : decode cX6_judge 29 = .ok (.aload_n 0, 1) := by decide +kernel
theorem dX6_judge_30 : decode cX6_judge 30 = .ok (.getfield 10, 3) := by decide +kernel
theorem dX6_judge_33 : decode cX6_judge 33 = .ok (.getfield 63, 3) := by decide +kernel
theorem dX6_judge_36 : decode cX6_judge 36 = .ok (.getfield 147, 3) := by decide +kernel
theorem dX6_judge_39 : decode cX6_judge 39 = .ok (.ifCond .ne 10, 3) := by decide +kernel
theorem dX6_judge_42 : decode cX6_judge 42 = .ok (.aload_n 0, 1) := by decide +kernel
theorem dX6_judge_43 : decode cX6_judge 43 = .ok (.bipush (-3), 2) := by decide +kernel
theorem dX6_judge_45 : decode cX6_judge 45 = .ok (.invokevirtual 44, 3) := by decide +kernel
theorem dX6_judge_48 : decode cX6_judge 48 = .ok (.ireturn, 1) := by decide +kernel
theorem dX6_judge_49 : decode cX6_judge 49 = .ok (.aload_n 0, 1) := by decide +kernel
theorem dX6_judge_50 : decode cX6_judge 50 = .ok (.getfield 16, 3) := by decide +kernel
theorem dX6_judge_53 : decode cX6_judge 53 = .ok (.aload_n 0, 1) := by decide +kernel
theorem dX6_judge_54 : decode cX6_judge 54 = .ok (.getfield 10, 3) := by decide +kernel
theorem dX6_judge_57 : decode cX6_judge 57 = .ok (.invokevirtual 55, 3) := by decide +kernel
theorem dX6_judge_60 : decode cX6_judge 60 = .ok (.bipush (-9), 2) := by decide +kernel
theorem dX6_judge_62 : decode cX6_judge 62 = .ok (.istore_n 2, 1) := by decide +kernel
theorem dX6_judge_63 : decode cX6_judge 63 = .ok (.lconst 0, 1) := by decide +kernel
theorem dX6_judge_64 : decode cX6_judge 64 = .ok (.lstore_n 3, 1) := by decide +kernel
theorem dX6_judge_65 : decode cX6_judge 65 = .ok (.iconst 0, 1) := by decide +kernel
theorem dX6_judge_66 : decode cX6_judge 66 = .ok (.istore 5, 2) := by decide +kernel
theorem dX6_judge_68 : decode cX6_judge 68 = .ok (.iload 5, 2) := by decide +kernel
theorem dX6_judge_70 : decode cX6_judge 70 = .ok (.aload_n 0, 1) := by decide +kernel
theorem dX6_judge_71 : decode cX6_judge 71 = .ok (.getfield 37, 3) := by decide +kernel
theorem dX6_judge_74 : decode cX6_judge 74 = .ok (.if_icmp .ge 71, 3) := by decide +kernel
theorem dX6_judge_77 : decode cX6_judge 77 = .ok (.iload 5, 2) := by decide +kernel
theorem dX6_judge_79 : decode cX6_judge 79 = .ok (.bipush 28, 2) := by decide +kernel
theorem dX6_judge_81 : decode cX6_judge 81 = .ok (.if_icmp .ge 64, 3) := by decide +kernel
theorem dX6_judge_84 : decode cX6_judge 84 = .ok (.aload_n 0, 1) := by decide +kernel
theorem dX6_judge_85 : decode cX6_judge 85 = .ok (.getfield 16, 3) := by decide +kernel
theorem dX6_judge_88 : decode cX6_judge 88 = .ok (.aload_n 0, 1) := by decide +kernel
theorem dX6_judge_89 : decode cX6_judge 89 = .ok (.getfield 33, 3) := by decide +kernel
theorem dX6_judge_92 : decode cX6_judge 92 = .ok (.iload 5, 2) := by decide +kernel
theorem dX6_judge_94 : decode cX6_judge 94 = .ok (.iaload, 1) := by decide +kernel
theorem dX6_judge_95 : decode cX6_judge 95 = .ok (.invokevirtual 213, 3) := by decide +kernel
theorem dX6_judge_98 : decode cX6_judge 98 = .ok (.lload_n 3, 1) := by decide +kernel
theorem dX6_judge_99 : decode cX6_judge 99 = .ok (.aload_n 0, 1) := by decide +kernel
theorem dX6_judge_100 : decode cX6_judge 100 = .ok (.getfield 16, 3) := by decide +kernel
theorem dX6_judge_103 : decode cX6_judge 103 = .ok (.invokevirtual 216, 3) := by decide +kernel
theorem dX6_judge_106 : decode cX6_judge 106 = .ok (.ladd, 1) := by decide +kernel
theorem dX6_judge_107 : decode cX6_judge 107 = .ok (.lstore_n 3, 1) := by decide +kernel
theorem dX6_judge_108 : decode cX6_judge 108 = .ok (.iload_n 2, 1) := by decide +kernel
theorem dX6_judge_109 : decode cX6_judge 109 = .ok (.bipush (-9), 2) := by decide +kernel
theorem dX6_judge_111 : decode cX6_judge 111 = .ok (.if_icmp .ne 28, 3) := by decide +kernel
theorem dX6_judge_114 : decode cX6_judge 114 = .ok (.aload_n 0, 1) := by decide +kernel
theorem dX6_judge_115 : decode cX6_judge 115 = .ok (.getfield 33, 3) := by decide +kernel
theorem dX6_judge_118 : decode cX6_judge 118 = .ok (.iload 5, 2) := by decide +kernel
theorem dX6_judge_120 : decode cX6_judge 120 = .ok (.iaload, 1) := by decide +kernel
theorem dX6_judge_121 : decode cX6_judge 121 = .ok (.bipush 9, 2) := by decide +kernel
theorem dX6_judge_123 : decode cX6_judge 123 = .ok (.if_icmp .eq 16, 3) := by decide +kernel
theorem dX6_judge_126 : decode cX6_judge 126 = .ok (.aload_n 0, 1) := by decide +kernel
theorem dX6_judge_127 : decode cX6_judge 127 = .ok (.getfield 16, 3) := by decide +kernel
theorem dX6_judge_130 : decode cX6_judge 130 = .ok (.getfield 220, 3) := by decide +kernel
theorem dX6_judge_133 : decode cX6_judge 133 = .ok (.ifCond .ne 6, 3) := by decide +kernel
theorem dX6_judge_136 : decode cX6_judge 136 = .ok (.iload 5, 2) := by decide +kernel
theorem dX6_judge_138 : decode cX6_judge 138 = .ok (.istore_n 2, 1) := by decide +kernel
theorem dX6_judge_139 : decode cX6_judge 139 = .ok (.iinc 5 1, 3) := by decide +kernel
theorem dX6_judge_142 : decode cX6_judge 142 = .ok (.goto (-74), 3) := by decide +kernel
theorem dX6_judge_145 : decode cX6_judge 145 = .ok (.aload_n 0, 1) := by decide +kernel
theorem dX6_judge_146 : decode cX6_judge 146 = .ok (.iconst 0, 1) := by decide +kernel
theorem dX6_judge_147 : decode cX6_judge 147 = .ok (.putfield 37, 3) := by decide +kernel
theorem dX6_judge_150 : decode cX6_judge 150 = .ok (.iload_n 1, 1) := by decide +kernel
theorem dX6_judge_151 : decode cX6_judge 151 = .ok (.ifCond .ne 5, 3) := by decide +kernel
theorem dX6_judge_154 : decode cX6_judge 154 = .ok (.iload_n 2, 1) := by decide +kernel
theorem dX6_judge_155 : decode cX6_judge 155 = .ok (.ireturn, 1) := by decide +kernel
theorem dX6_judge_156 : decode cX6_judge 156 = .ok (.iload_n 1, 1) := by decide +kernel
theorem dX6_judge_157 : decode cX6_judge 157 = .ok (.iconst 1, 1) := by decide +kernel
theorem dX6_judge_158 : decode cX6_judge 158 = .ok (.if_icmp .ne 8, 3) := by decide +kernel
theorem dX6_judge_161 : decode cX6_judge 161 = .ok (.lload_n 3, 1) := by decide +kernel
theorem dX6_judge_162 : decode cX6_judge 162 = .ok (.l2i, 1) := by decide +kernel
theorem dX6_judge_163 : decode cX6_judge 163 = .ok (.goto 13, 3) := by decide +kernel
theorem dX6_judge_166 : decode cX6_judge 166 = .ok (.aload_n 0, 1) := by decide +kernel
theorem dX6_judge_167 : decode cX6_judge 167 = .ok (.getfield 16, 3) := by decide +kernel
theorem dX6_judge_170 : decode cX6_judge 170 = .ok (.getfield 63, 3) := by decide +kernel
theorem dX6_judge_173 : decode cX6_judge 173 = .ok (.invokevirtual 223, 3) := by decide +kernel
theorem dX6_judge_176 : decode cX6_judge 176 = .ok (.ireturn, 1) := by decide +kernel
theorem dX6_image_0 : decode cX6_image 0 = .ok (.aload_n 0, 1) := by decide +kernel
theorem dX6_image_1 : decode cX6_image 1 = .ok (.getfield 19, 3) := by decide +kernel
theorem dX6_image_4 : decode cX6_image 4 = .ok (.aload_n 0, 1) := by decide +kernel
theorem dX6_image_5 : decode cX6_image 5 = .ok (.getfield 10, 3) := by decide +kernel
theorem dX6_image_8 : decode cX6_image 8 = .ok (.invokevirtual 55, 3) := by decide +kernel
theorem dX6_image_11 : decode cX6_image 11 = .ok (.aload_n 0, 1) := by decide +kernel
theorem dX6_image_12 : decode cX6_image 12 = .ok (.iconst 1, 1) := by decide +kernel
theorem dX6_image_13 : decode cX6_image 13 = .ok (.putfield 22, 3) := by decide +kernel
theorem dX6_image_16 : decode cX6_image 16 = .ok (.aload_n 0, 1) := by decide +kernel
theorem dX6_image_17 : decode cX6_image 17 = .ok (.getfield 19, 3) := by decide +kernel
theorem dX6_image_20 : decode cX6_image 20 = .ok (.getfield 63, 3) := by decide +kernel
theorem dX6_image_23 : decode cX6_image 23 = .ok (.getfield 147, 3) := by decide +kernel
theorem dX6_image_26 : decode cX6_image 26 = .ok (.ireturn, 1) := by decide +kernel
theorem dX6_restore_0 : decode cX6_restore 0 = .ok (.aload_n 0, 1) := by decide +kernel
theorem dX6_restore_1 : decode cX6_restore 1 = .ok (.getfield 22, 3) := by decide +kernel
theorem dX6_restore_4 : decode cX6_restore 4 = .ok (.ifCond .ne 10, 3) := by decide +kernel
theorem dX6_restore_7 : decode cX6_restore 7 = .ok (.aload_n 0, 1) := by decide +kernel
theorem dX6_restore_8 : decode cX6_restore 8 = .ok (.bipush (-3), 2) := by decide +kernel
theorem dX6_restore_10 : decode cX6_restore 10 = .ok (.invokevirtual 44, 3) := by decide +kernel
theorem dX6_restore_13 : decode cX6_restore 13 = .ok (.ireturn, 1) := by decide +kernel
theorem dX6_restore_14 : decode cX6_restore 14 = .ok (.aload_n 0, 1) := by decide +kernel
theorem dX6_restore_15 : decode cX6_restore 15 = .ok (.getfield 10, 3) := by decide +kernel
theorem dX6_restore_18 : decode cX6_restore 18 = .ok (.aload_n 0, 1) := by decide +kernel
theorem dX6_restore_19 : decode cX6_restore 19 = .ok (.getfield 19, 3) := by decide +kernel
theorem dX6_restore_22 : decode cX6_restore 22 = .ok (.invokevirtual 55, 3) := by decide +kernel
theorem dX6_restore_25 : decode cX6_restore 25 = .ok (.aload_n 0, 1) := by decide +kernel
theorem dX6_restore_26 : decode cX6_restore 26 = .ok (.getfield 10, 3) := by decide +kernel
theorem dX6_restore_29 : decode cX6_restore 29 = .ok (.getfield 63, 3) := by decide +kernel
theorem dX6_restore_32 : decode cX6_restore 32 = .ok (.getfield 147, 3) := by decide +kernel
theorem dX6_restore_35 : decode cX6_restore 35 = .ok (.ireturn, 1) := by decide +kernel
theorem dX6_count_0 : decode cX6_count 0 = .ok (.iload_n 1, 1) := by decide +kernel
theorem dX6_count_1 : decode cX6_count 1 = .ok (.bipush 11, 2) := by decide +kernel
theorem dX6_count_3 : decode cX6_count 3 = .ok (.if_icmp .lt 19, 3) := by decide +kernel
theorem dX6_count_6 : decode cX6_count 6 = .ok (.iload_n 1, 1) := by decide +kernel
theorem dX6_count_7 : decode cX6_count 7 = .ok (.bipush 16, 2) := by decide +kernel
theorem dX6_count_9 : decode cX6_count 9 = .ok (.if_icmp .gt 13, 3) := by decide +kernel
theorem dX6_count_12 : decode cX6_count 12 = .ok (.aload_n 0, 1) := by decide +kernel
theorem dX6_count_13 : decode cX6_count 13 = .ok (.getfield 41, 3) := by decide +kernel
theorem dX6_count_16 : decode cX6_count 16 = .ok (.iload_n 1, 1) := by decide +kernel
theorem dX6_count_17 : decode cX6_count 17 = .ok (.bipush 10, 2) := by decide +kernel
theorem dX6_count_19 : decode cX6_count 19 = .ok (.isub, 1) := by decide +kernel
theorem dX6_count_20 : decode cX6_count 20 = .ok (.iaload, 1) := by decide +kernel
theorem dX6_count_21 : decode cX6_count 21 = .ok (.ireturn, 1) := by decide +kernel
theorem dX6_count_22 : decode cX6_count 22 = .ok (.iload_n 1, 1) := by decide +kernel
theorem dX6_count_23 : decode cX6_count 23 = .ok (.tableswitch 142 0 9 #[53, 64, 75, 86, 94, 105, 113, 121, 129, 134], 53) := by decide +kernel
theorem dX6_count_76 : decode cX6_count 76 = .ok (.aload_n 0, 1) := by decide +kernel
theorem dX6_count_77 : decode cX6_count 77 = .ok (.getfield 10, 3) := by decide +kernel
theorem dX6_count_80 : decode cX6_count 80 = .ok (.getfield 63, 3) := by decide +kernel
theorem dX6_count_83 : decode cX6_count 83 = .ok (.getfield 147, 3) := by decide +kernel
theorem dX6_count_86 : decode cX6_count 86 = .ok (.ireturn, 1) := by decide +kernel
theorem dX6_count_87 : decode cX6_count 87 = .ok (.aload_n 0, 1) := by decide +kernel
theorem dX6_count_88 : decode cX6_count 88 = .ok (.getfield 10, 3) := by decide +kernel
theorem dX6_count_91 : decode cX6_count 91 = .ok (.getfield 88, 3) := by decide +kernel
theorem dX6_count_94 : decode cX6_count 94 = .ok (.getfield 195, 3) := by decide +kernel
theorem dX6_count_97 : decode cX6_count 97 = .ok (.ireturn, 1) := by decide +kernel
theorem dX6_count_98 : decode cX6_count 98 = .ok (.aload_n 0, 1) := by decide +kernel
theorem dX6_count_99 : decode cX6_count 99 = .ok (.getfield 10, 3) := by decide +kernel
theorem dX6_count_102 : decode cX6_count 102 = .ok (.getfield 196, 3) := by decide +kernel
theorem dX6_count_105 : decode cX6_count 105 = .ok (.getfield 226, 3) := by decide +kernel
theorem dX6_count_108 : decode cX6_count 108 = .ok (.ireturn, 1) := by decide +kernel
theorem dX6_count_109 : decode cX6_count 109 = .ok (.aload_n 0, 1) := by decide +kernel
theorem dX6_count_110 : decode cX6_count 110 = .ok (.getfield 10, 3) := by decide +kernel
theorem dX6_count_113 : decode cX6_count 113 = .ok (.getfield 166, 3) := by decide +kernel
theorem dX6_count_116 : decode cX6_count 116 = .ok (.ireturn, 1) := by decide +kernel
theorem dX6_count_117 : decode cX6_count 117 = .ok (.aload_n 0, 1) := by decide +kernel
theorem dX6_count_118 : decode cX6_count 118 = .ok (.getfield 10, 3) := by decide +kernel
theorem dX6_count_121 : decode cX6_count 121 = .ok (.getfield 63, 3) := by decide +kernel
theorem dX6_count_124 : decode cX6_count 124 = .ok (.invokevirtual 227, 3) := by decide +kernel
theorem dX6_count_127 : decode cX6_count 127 = .ok (.ireturn, 1) := by decide +kernel
theorem dX6_count_128 : decode cX6_count 128 = .ok (.aload_n 0, 1) := by decide +kernel
theorem dX6_count_129 : decode cX6_count 129 = .ok (.getfield 10, 3) := by decide +kernel
theorem dX6_count_132 : decode cX6_count 132 = .ok (.getfield 230, 3) := by decide +kernel
theorem dX6_count_135 : decode cX6_count 135 = .ok (.ireturn, 1) := by decide +kernel
theorem dX6_count_136 : decode cX6_count 136 = .ok (.aload_n 0, 1) := by decide +kernel
theorem dX6_count_137 : decode cX6_count 137 = .ok (.getfield 10, 3) := by decide +kernel
theorem dX6_count_140 : decode cX6_count 140 = .ok (.getfield 233, 3) := by decide +kernel
theorem dX6_count_143 : decode cX6_count 143 = .ok (.ireturn, 1) := by decide +kernel
theorem dX6_count_144 : decode cX6_count 144 = .ok (.aload_n 0, 1) := by decide +kernel
theorem dX6_count_145 : decode cX6_count 145 = .ok (.getfield 29, 3) := by decide +kernel
theorem dX6_count_148 : decode cX6_count 148 = .ok (.getfield 48, 3) := by decide +kernel
theorem dX6_count_151 : decode cX6_count 151 = .ok (.ireturn, 1) := by decide +kernel
theorem dX6_count_152 : decode cX6_count 152 = .ok (.aload_n 0, 1) := by decide +kernel
theorem dX6_count_153 : decode cX6_count 153 = .ok (.getfield 37, 3) := by decide +kernel
theorem dX6_count_156 : decode cX6_count 156 = .ok (.ireturn, 1) := by decide +kernel
theorem dX6_count_157 : decode cX6_count 157 = .ok (.aload_n 0, 1) := by decide +kernel
theorem dX6_count_158 : decode cX6_count 158 = .ok (.getfield 10, 3) := by decide +kernel
theorem dX6_count_161 : decode cX6_count 161 = .ok (.getfield 105, 3) := by decide +kernel
theorem dX6_count_164 : decode cX6_count 164 = .ok (.ireturn, 1) := by decide +kernel
theorem dX6_count_165 : decode cX6_count 165 = .ok (.bipush (-9), 2) := by decide +kernel
theorem dX6_count_167 : decode cX6_count 167 = .ok (.ireturn, 1) := by decide +kernel
theorem dX6_refuse_0 : decode cX6_refuse 0 = .ok (.iload_n 1, 1) := by decide +kernel
theorem dX6_refuse_1 : decode cX6_refuse 1 = .ok (.ineg, 1) := by decide +kernel
theorem dX6_refuse_2 : decode cX6_refuse 2 = .ok (.istore_n 2, 1) := by decide +kernel
theorem dX6_refuse_3 : decode cX6_refuse 3 = .ok (.iload_n 2, 1) := by decide +kernel
theorem dX6_refuse_4 : decode cX6_refuse 4 = .ok (.ifCond .lt 22, 3) := by decide +kernel
theorem dX6_refuse_7 : decode cX6_refuse 7 = .ok (.iload_n 2, 1) := by decide +kernel
theorem dX6_refuse_8 : decode cX6_refuse 8 = .ok (.aload_n 0, 1) := by decide +kernel
theorem dX6_refuse_9 : decode cX6_refuse 9 = .ok (.getfield 41, 3) := by decide +kernel
theorem dX6_refuse_12 : decode cX6_refuse 12 = .ok (.arraylength, 1) := by decide +kernel
theorem dX6_refuse_13 : decode cX6_refuse 13 = .ok (.if_icmp .ge 13, 3) := by decide +kernel
theorem dX6_refuse_16 : decode cX6_refuse 16 = .ok (.aload_n 0, 1) := by decide +kernel
theorem dX6_refuse_17 : decode cX6_refuse 17 = .ok (.getfield 41, 3) := by decide +kernel
theorem dX6_refuse_20 : decode cX6_refuse 20 = .ok (.iload_n 2, 1) := by decide +kernel
theorem dX6_refuse_21 : decode cX6_refuse 21 = .ok (.dup2, 1) := by decide +kernel
theorem dX6_refuse_22 : decode cX6_refuse 22 = .ok (.iaload, 1) := by decide +kernel
theorem dX6_refuse_23 : decode cX6_refuse 23 = .ok (.iconst 1, 1) := by decide +kernel
theorem dX6_refuse_24 : decode cX6_refuse 24 = .ok (.iadd, 1) := by decide +kernel
theorem dX6_refuse_25 : decode cX6_refuse 25 = .ok (.iastore, 1) := by decide +kernel
theorem dX6_refuse_26 : decode cX6_refuse 26 = .ok (.iload_n 1, 1) := by decide +kernel
theorem dX6_refuse_27 : decode cX6_refuse 27 = .ok (.ireturn, 1) := by decide +kernel
theorem dX6_refuseIfBelow0_0 : decode cX6_refuseIfBelow0 0 = .ok (.iload_n 1, 1) := by decide +kernel
theorem dX6_refuseIfBelow0_1 : decode cX6_refuseIfBelow0 1 = .ok (.ifCond .ge 11, 3) := by decide +kernel
theorem dX6_refuseIfBelow0_4 : decode cX6_refuseIfBelow0 4 = .ok (.aload_n 0, 1) := by decide +kernel
theorem dX6_refuseIfBelow0_5 : decode cX6_refuseIfBelow0 5 = .ok (.iload_n 1, 1) := by decide +kernel
theorem dX6_refuseIfBelow0_6 : decode cX6_refuseIfBelow0 6 = .ok (.invokevirtual 44, 3) := by decide +kernel
theorem dX6_refuseIfBelow0_9 : decode cX6_refuseIfBelow0 9 = .ok (.goto 4, 3) := by decide +kernel
theorem dX6_refuseIfBelow0_12 : decode cX6_refuseIfBelow0 12 = .ok (.iload_n 1, 1) := by decide +kernel
theorem dX6_refuseIfBelow0_13 : decode cX6_refuseIfBelow0 13 = .ok (.ireturn, 1) := by decide +kernel
theorem dX6_whyNoRun_0 : decode cX6_whyNoRun 0 = .ok (.iload_n 1, 1) := by decide +kernel
theorem dX6_whyNoRun_1 : decode cX6_whyNoRun 1 = .ok (.iconst 1, 1) := by decide +kernel
theorem dX6_whyNoRun_2 : decode cX6_whyNoRun 2 = .ok (.if_icmp .ge 6, 3) := by decide +kernel
theorem dX6_whyNoRun_5 : decode cX6_whyNoRun 5 = .ok (.bipush (-4), 2) := by decide +kernel
theorem dX6_whyNoRun_7 : decode cX6_whyNoRun 7 = .ok (.ireturn, 1) := by decide +kernel
theorem dX6_whyNoRun_8 : decode cX6_whyNoRun 8 = .ok (.iload_n 1, 1) := by decide +kernel
theorem dX6_whyNoRun_9 : decode cX6_whyNoRun 9 = .ok (.sipush 200, 3) := by decide +kernel
theorem dX6_whyNoRun_12 : decode cX6_whyNoRun 12 = .ok (.if_icmp .le 6, 3) := by decide +kernel
theorem dX6_whyNoRun_15 : decode cX6_whyNoRun 15 = .ok (.bipush (-6), 2) := by decide +kernel
theorem dX6_whyNoRun_17 : decode cX6_whyNoRun 17 = .ok (.ireturn, 1) := by decide +kernel
theorem dX6_whyNoRun_18 : decode cX6_whyNoRun 18 = .ok (.aload_n 0, 1) := by decide +kernel
theorem dX6_whyNoRun_19 : decode cX6_whyNoRun 19 = .ok (.getfield 10, 3) := by decide +kernel
theorem dX6_whyNoRun_22 : decode cX6_whyNoRun 22 = .ok (.getfield 63, 3) := by decide +kernel
theorem dX6_whyNoRun_25 : decode cX6_whyNoRun 25 = .ok (.getfield 147, 3) := by decide +kernel
theorem dX6_whyNoRun_28 : decode cX6_whyNoRun 28 = .ok (.ifCond .ne 8, 3) := by decide +kernel
theorem dX6_whyNoRun_31 : decode cX6_whyNoRun 31 = .ok (.bipush (-3), 2) := by decide +kernel
theorem dX6_whyNoRun_33 : decode cX6_whyNoRun 33 = .ok (.goto 4, 3) := by decide +kernel
theorem dX6_whyNoRun_36 : decode cX6_whyNoRun 36 = .ok (.iconst 0, 1) := by decide +kernel
theorem dX6_whyNoRun_37 : decode cX6_whyNoRun 37 = .ok (.ireturn, 1) := by decide +kernel
theorem dX6_rowIsOfCells_0 : decode cX6_rowIsOfCells 0 = .ok (.iconst 0, 1) := by decide +kernel
theorem dX6_rowIsOfCells_1 : decode cX6_rowIsOfCells 1 = .ok (.istore_n 1, 1) := by decide +kernel
theorem dX6_rowIsOfCells_2 : decode cX6_rowIsOfCells 2 = .ok (.iload_n 1, 1) := by decide +kernel
theorem dX6_rowIsOfCells_3 : decode cX6_rowIsOfCells 3 = .ok (.aload_n 0, 1) := by decide +kernel
theorem dX6_rowIsOfCells_4 : decode cX6_rowIsOfCells 4 = .ok (.getfield 37, 3) := by decide +kernel
theorem dX6_rowIsOfCells_7 : decode cX6_rowIsOfCells 7 = .ok (.if_icmp .ge 47, 3) := by decide +kernel
theorem dX6_rowIsOfCells_10 : decode cX6_rowIsOfCells 10 = .ok (.iload_n 1, 1) := by decide +kernel
theorem dX6_rowIsOfCells_11 : decode cX6_rowIsOfCells 11 = .ok (.bipush 28, 2) := by decide +kernel
theorem dX6_rowIsOfCells_13 : decode cX6_rowIsOfCells 13 = .ok (.if_icmp .ge 41, 3) := by decide +kernel
theorem dX6_rowIsOfCells_16 : decode cX6_rowIsOfCells 16 = .ok (.aload_n 0, 1) := by decide +kernel
theorem dX6_rowIsOfCells_17 : decode cX6_rowIsOfCells 17 = .ok (.getfield 33, 3) := by decide +kernel
theorem dX6_rowIsOfCells_20 : decode cX6_rowIsOfCells 20 = .ok (.iload_n 1, 1) := by decide +kernel
theorem dX6_rowIsOfCells_21 : decode cX6_rowIsOfCells 21 = .ok (.iaload, 1) := by decide +kernel
theorem dX6_rowIsOfCells_22 : decode cX6_rowIsOfCells 22 = .ok (.bipush 9, 2) := by decide +kernel
theorem dX6_rowIsOfCells_24 : decode cX6_rowIsOfCells 24 = .ok (.if_icmp .eq 24, 3) := by decide +kernel
theorem dX6_rowIsOfCells_27 : decode cX6_rowIsOfCells 27 = .ok (.aload_n 0, 1) := by decide +kernel
theorem dX6_rowIsOfCells_28 : decode cX6_rowIsOfCells 28 = .ok (.getfield 10, 3) := by decide +kernel
theorem dX6_rowIsOfCells_31 : decode cX6_rowIsOfCells 31 = .ok (.getfield 63, 3) := by decide +kernel
theorem dX6_rowIsOfCells_34 : decode cX6_rowIsOfCells 34 = .ok (.aload_n 0, 1) := by decide +kernel
theorem dX6_rowIsOfCells_35 : decode cX6_rowIsOfCells 35 = .ok (.getfield 33, 3) := by decide +kernel
theorem dX6_rowIsOfCells_38 : decode cX6_rowIsOfCells 38 = .ok (.iload_n 1, 1) := by decide +kernel
theorem dX6_rowIsOfCells_39 : decode cX6_rowIsOfCells 39 = .ok (.iaload, 1) := by decide +kernel
theorem dX6_rowIsOfCells_40 : decode cX6_rowIsOfCells 40 = .ok (.invokevirtual 76, 3) := by decide +kernel
theorem dX6_rowIsOfCells_43 : decode cX6_rowIsOfCells 43 = .ok (.ifCond .ne 5, 3) := by decide +kernel
theorem dX6_rowIsOfCells_46 : decode cX6_rowIsOfCells 46 = .ok (.iconst 0, 1) := by decide +kernel
theorem dX6_rowIsOfCells_47 : decode cX6_rowIsOfCells 47 = .ok (.ireturn, 1) := by decide +kernel
theorem dX6_rowIsOfCells_48 : decode cX6_rowIsOfCells 48 = .ok (.iinc 1 1, 3) := by decide +kernel
theorem dX6_rowIsOfCells_51 : decode cX6_rowIsOfCells 51 = .ok (.goto (-49), 3) := by decide +kernel
theorem dX6_rowIsOfCells_54 : decode cX6_rowIsOfCells 54 = .ok (.iconst 1, 1) := by decide +kernel
theorem dX6_rowIsOfCells_55 : decode cX6_rowIsOfCells 55 = .ok (.ireturn, 1) := by decide +kernel
theorem dX6_isStuff_0 : decode cX6_isStuff 0 = .ok (.iload_n 0, 1) := by decide +kernel
theorem dX6_isStuff_1 : decode cX6_isStuff 1 = .ok (.ifCond .eq 8, 3) := by decide +kernel
theorem dX6_isStuff_4 : decode cX6_isStuff 4 = .ok (.iload_n 0, 1) := by decide +kernel
theorem dX6_isStuff_5 : decode cX6_isStuff 5 = .ok (.iconst 1, 1) := by decide +kernel
theorem dX6_isStuff_6 : decode cX6_isStuff 6 = .ok (.if_icmp .ne 7, 3) := by decide +kernel
theorem dX6_isStuff_9 : decode cX6_isStuff 9 = .ok (.iconst 1, 1) := by decide +kernel
theorem dX6_isStuff_10 : decode cX6_isStuff 10 = .ok (.goto 4, 3) := by decide +kernel
theorem dX6_isStuff_13 : decode cX6_isStuff 13 = .ok (.iconst 0, 1) := by decide +kernel
theorem dX6_isStuff_14 : decode cX6_isStuff 14 = .ok (.ireturn, 1) := by decide +kernel
theorem dX6_isKind_0 : decode cX6_isKind 0 = .ok (.iload_n 0, 1) := by decide +kernel
theorem dX6_isKind_1 : decode cX6_isKind 1 = .ok (.ifCond .eq 8, 3) := by decide +kernel
theorem dX6_isKind_4 : decode cX6_isKind 4 = .ok (.iload_n 0, 1) := by decide +kernel
theorem dX6_isKind_5 : decode cX6_isKind 5 = .ok (.iconst 1, 1) := by decide +kernel
theorem dX6_isKind_6 : decode cX6_isKind 6 = .ok (.if_icmp .ne 7, 3) := by decide +kernel
theorem dX6_isKind_9 : decode cX6_isKind 9 = .ok (.iconst 1, 1) := by decide +kernel
theorem dX6_isKind_10 : decode cX6_isKind 10 = .ok (.goto 4, 3) := by decide +kernel
theorem dX6_isKind_13 : decode cX6_isKind 13 = .ok (.iconst 0, 1) := by decide +kernel
theorem dX6_isKind_14 : decode cX6_isKind 14 = .ok (.ireturn, 1) := by decide +kernel
theorem dX6_heapOf_0 : decode cX6_heapOf 0 = .ok (.iload_n 1, 1) := by decide +kernel
theorem dX6_heapOf_1 : decode cX6_heapOf 1 = .ok (.iconst 1, 1) := by decide +kernel
theorem dX6_heapOf_2 : decode cX6_heapOf 2 = .ok (.iand, 1) := by decide +kernel
theorem dX6_heapOf_3 : decode cX6_heapOf 3 = .ok (.bipush 8, 2) := by decide +kernel
theorem dX6_heapOf_5 : decode cX6_heapOf 5 = .ok (.imul, 1) := by decide +kernel
theorem dX6_heapOf_6 : decode cX6_heapOf 6 = .ok (.iload_n 0, 1) := by decide +kernel
theorem dX6_heapOf_7 : decode cX6_heapOf 7 = .ok (.bipush 7, 2) := by decide +kernel
theorem dX6_heapOf_9 : decode cX6_heapOf 9 = .ok (.iand, 1) := by decide +kernel
theorem dX6_heapOf_10 : decode cX6_heapOf 10 = .ok (.iadd, 1) := by decide +kernel
theorem dX6_heapOf_11 : decode cX6_heapOf 11 = .ok (.ireturn, 1) := by decide +kernel
theorem dX6_depthAbove_0 : decode cX6_depthAbove 0 = .ok (.iconst 0, 1) := by decide +kernel
theorem dX6_depthAbove_1 : decode cX6_depthAbove 1 = .ok (.iload_n 1, 1) := by decide +kernel
theorem dX6_depthAbove_2 : decode cX6_depthAbove 2 = .ok (.iload_n 0, 1) := by decide +kernel
theorem dX6_depthAbove_3 : decode cX6_depthAbove 3 = .ok (.bipush 100, 2) := by decide +kernel
theorem dX6_depthAbove_5 : decode cX6_depthAbove 5 = .ok (.idiv, 1) := by decide +kernel
theorem dX6_depthAbove_6 : decode cX6_depthAbove 6 = .ok (.isub, 1) := by decide +kernel
theorem dX6_depthAbove_7 : decode cX6_depthAbove 7 = .ok (.invokestatic 122, 3) := by decide +kernel
theorem dX6_depthAbove_10 : decode cX6_depthAbove 10 = .ok (.ireturn, 1) := by decide +kernel
theorem dX6_partOf_0 : decode cX6_partOf 0 = .ok (.iload_n 0, 1) := by decide +kernel
theorem dX6_partOf_1 : decode cX6_partOf 1 = .ok (.i2l, 1) := by decide +kernel
theorem dX6_partOf_2 : decode cX6_partOf 2 = .ok (.iload_n 1, 1) := by decide +kernel
theorem dX6_partOf_3 : decode cX6_partOf 3 = .ok (.i2l, 1) := by decide +kernel
theorem dX6_partOf_4 : decode cX6_partOf 4 = .ok (.lmul, 1) := by decide +kernel
theorem dX6_partOf_5 : decode cX6_partOf 5 = .ok (.ldc2_w 236, 3) := by decide +kernel
theorem dX6_partOf_8 : decode cX6_partOf 8 = .ok (.ldiv, 1) := by decide +kernel
theorem dX6_partOf_9 : decode cX6_partOf 9 = .ok (.l2i, 1) := by decide +kernel
theorem dX6_partOf_10 : decode cX6_partOf 10 = .ok (.ireturn, 1) := by decide +kernel
theorem dX7_init_0 : decode cX7_init 0 = .ok (.aload_n 0, 1) := by decide +kernel
theorem dX7_init_1 : decode cX7_init 1 = .ok (.invokespecial 1, 3) := by decide +kernel
theorem dX7_init_4 : decode cX7_init 4 = .ok (.aload_n 0, 1) := by decide +kernel
theorem dX7_init_5 : decode cX7_init 5 = .ok (.bipush 8, 2) := by decide +kernel
theorem dX7_init_7 : decode cX7_init 7 = .ok (.newarray .int, 2) := by decide +kernel
theorem dX7_init_9 : decode cX7_init 9 = .ok (.putfield 7, 3) := by decide +kernel
theorem dX7_init_12 : decode cX7_init 12 = .ok (.aload_n 0, 1) := by decide +kernel
theorem dX7_init_13 : decode cX7_init 13 = .ok (.bipush 8, 2) := by decide +kernel
theorem dX7_init_15 : decode cX7_init 15 = .ok (.newarray .int, 2) := by decide +kernel
theorem dX7_init_17 : decode cX7_init 17 = .ok (.putfield 13, 3) := by decide +kernel
theorem dX7_init_20 : decode cX7_init 20 = .ok (.aload_n 0, 1) := by decide +kernel
theorem dX7_init_21 : decode cX7_init 21 = .ok (.bipush 8, 2) := by decide +kernel
theorem dX7_init_23 : decode cX7_init 23 = .ok (.newarray .int, 2) := by decide +kernel
theorem dX7_init_25 : decode cX7_init 25 = .ok (.putfield 16, 3) := by decide +kernel
theorem dX7_init_28 : decode cX7_init 28 = .ok (.aload_n 0, 1) := by decide +kernel
theorem dX7_init_29 : decode cX7_init 29 = .ok (.bipush 8, 2) := by decide +kernel
theorem dX7_init_31 : decode cX7_init 31 = .ok (.newarray .int, 2) := by decide +kernel
theorem dX7_init_33 : decode cX7_init 33 = .ok (.putfield 19, 3) := by decide +kernel
theorem dX7_init_36 : decode cX7_init 36 = .ok (.aload_n 0, 1) := by decide +kernel
theorem dX7_init_37 : decode cX7_init 37 = .ok (.bipush 8, 2) := by decide +kernel
theorem dX7_init_39 : decode cX7_init 39 = .ok (.newarray .int, 2) := by decide +kernel
theorem dX7_init_41 : decode cX7_init 41 = .ok (.putfield 22, 3) := by decide +kernel
theorem dX7_init_44 : decode cX7_init 44 = .ok (.aload_n 0, 1) := by decide +kernel
theorem dX7_init_45 : decode cX7_init 45 = .ok (.bipush 16, 2) := by decide +kernel
theorem dX7_init_47 : decode cX7_init 47 = .ok (.newarray .int, 2) := by decide +kernel
theorem dX7_init_49 : decode cX7_init 49 = .ok (.putfield 25, 3) := by decide +kernel
theorem dX7_init_52 : decode cX7_init 52 = .ok (.aload_n 0, 1) := by decide +kernel
theorem dX7_init_53 : decode cX7_init 53 = .ok (.bipush 16, 2) := by decide +kernel
theorem dX7_init_55 : decode cX7_init 55 = .ok (.newarray .int, 2) := by decide +kernel
theorem dX7_init_57 : decode cX7_init 57 = .ok (.putfield 28, 3) := by decide +kernel
theorem dX7_init_60 : decode cX7_init 60 = .ok (.aload_n 0, 1) := by decide +kernel
theorem dX7_init_61 : decode cX7_init 61 = .ok (.bipush 24, 2) := by decide +kernel
theorem dX7_init_63 : decode cX7_init 63 = .ok (.newarray .int, 2) := by decide +kernel
theorem dX7_init_65 : decode cX7_init 65 = .ok (.putfield 31, 3) := by decide +kernel
theorem dX7_init_68 : decode cX7_init 68 = .ok (.aload_n 0, 1) := by decide +kernel
theorem dX7_init_69 : decode cX7_init 69 = .ok (.bipush 24, 2) := by decide +kernel
theorem dX7_init_71 : decode cX7_init 71 = .ok (.newarray .int, 2) := by decide +kernel
theorem dX7_init_73 : decode cX7_init 73 = .ok (.putfield 34, 3) := by decide +kernel
theorem dX7_init_76 : decode cX7_init 76 = .ok (.aload_n 0, 1) := by decide +kernel
theorem dX7_init_77 : decode cX7_init 77 = .ok (.bipush 24, 2) := by decide +kernel
theorem dX7_init_79 : decode cX7_init 79 = .ok (.newarray .int, 2) := by decide +kernel
theorem dX7_init_81 : decode cX7_init 81 = .ok (.putfield 37, 3) := by decide +kernel
theorem dX7_init_84 : decode cX7_init 84 = .ok (.aload_n 0, 1) := by decide +kernel
theorem dX7_init_85 : decode cX7_init 85 = .ok (.bipush 24, 2) := by decide +kernel
theorem dX7_init_87 : decode cX7_init 87 = .ok (.newarray .int, 2) := by decide +kernel
theorem dX7_init_89 : decode cX7_init 89 = .ok (.putfield 40, 3) := by decide +kernel
theorem dX7_init_92 : decode cX7_init 92 = .ok (.aload_n 0, 1) := by decide +kernel
theorem dX7_init_93 : decode cX7_init 93 = .ok (.bipush 24, 2) := by decide +kernel
theorem dX7_init_95 : decode cX7_init 95 = .ok (.newarray .int, 2) := by decide +kernel
theorem dX7_init_97 : decode cX7_init 97 = .ok (.putfield 43, 3) := by decide +kernel
theorem dX7_init_100 : decode cX7_init 100 = .ok (.aload_n 0, 1) := by decide +kernel
theorem dX7_init_101 : decode cX7_init 101 = .ok (.bipush 24, 2) := by decide +kernel
theorem dX7_init_103 : decode cX7_init 103 = .ok (.newarray .boolean, 2) := by decide +kernel
theorem dX7_init_105 : decode cX7_init 105 = .ok (.putfield 46, 3) := by decide +kernel
theorem dX7_init_108 : decode cX7_init 108 = .ok (.aload_n 0, 1) := by decide +kernel
theorem dX7_init_109 : decode cX7_init 109 = .ok (.bipush 8, 2) := by decide +kernel
theorem dX7_init_111 : decode cX7_init 111 = .ok (.newarray .int, 2) := by decide +kernel
theorem dX7_init_113 : decode cX7_init 113 = .ok (.putfield 50, 3) := by decide +kernel
theorem dX7_init_116 : decode cX7_init 116 = .ok (.aload_n 0, 1) := by decide +kernel
theorem dX7_init_117 : decode cX7_init 117 = .ok (.bipush 8, 2) := by decide +kernel
theorem dX7_init_119 : decode cX7_init 119 = .ok (.newarray .int, 2) := by decide +kernel
theorem dX7_init_121 : decode cX7_init 121 = .ok (.putfield 53, 3) := by decide +kernel
theorem dX7_init_124 : decode cX7_init 124 = .ok (.aload_n 0, 1) := by decide +kernel
theorem dX7_init_125 : decode cX7_init 125 = .ok (.bipush 8, 2) := by decide +kernel
theorem dX7_init_127 : decode cX7_init 127 = .ok (.newarray .int, 2) := by decide +kernel
theorem dX7_init_129 : decode cX7_init 129 = .ok (.putfield 56, 3) := by decide +kernel
theorem dX7_init_132 : decode cX7_init 132 = .ok (.aload_n 0, 1) := by decide +kernel
theorem dX7_init_133 : decode cX7_init 133 = .ok (.bipush 28, 2) := by decide +kernel
theorem dX7_init_135 : decode cX7_init 135 = .ok (.newarray .int, 2) := by decide +kernel
theorem dX7_init_137 : decode cX7_init 137 = .ok (.putfield 59, 3) := by decide +kernel
theorem dX7_init_140 : decode cX7_init 140 = .ok (.aload_n 0, 1) := by decide +kernel
theorem dX7_init_141 : decode cX7_init 141 = .ok (.iconst 1, 1) := by decide +kernel
theorem dX7_init_142 : decode cX7_init 142 = .ok (.putfield 62, 3) := by decide +kernel
theorem dX7_init_145 : decode cX7_init 145 = .ok (.aload_n 0, 1) := by decide +kernel
theorem dX7_init_146 : decode cX7_init 146 = .ok (.bipush 8, 2) := by decide +kernel
theorem dX7_init_148 : decode cX7_init 148 = .ok (.putfield 66, 3) := by decide +kernel
theorem dX7_init_151 : decode cX7_init 151 = .ok (.aload_n 0, 1) := by decide +kernel
theorem dX7_init_152 : decode cX7_init 152 = .ok (.iconst 1, 1) := by decide +kernel
theorem dX7_init_153 : decode cX7_init 153 = .ok (.putfield 69, 3) := by decide +kernel
theorem dX7_init_156 : decode cX7_init 156 = .ok (.aload_n 0, 1) := by decide +kernel
theorem dX7_init_157 : decode cX7_init 157 = .ok (.bipush 96, 2) := by decide +kernel
theorem dX7_init_159 : decode cX7_init 159 = .ok (.newarray .int, 2) := by decide +kernel
theorem dX7_init_161 : decode cX7_init 161 = .ok (.putfield 72, 3) := by decide +kernel
theorem dX7_init_164 : decode cX7_init 164 = .ok (.aload_n 0, 1) := by decide +kernel
theorem dX7_init_165 : decode cX7_init 165 = .ok (.bipush 28, 2) := by decide +kernel
theorem dX7_init_167 : decode cX7_init 167 = .ok (.newarray .int, 2) := by decide +kernel
theorem dX7_init_169 : decode cX7_init 169 = .ok (.putfield 75, 3) := by decide +kernel
theorem dX7_init_172 : decode cX7_init 172 = .ok (.aload_n 0, 1) := by decide +kernel
theorem dX7_init_173 : decode cX7_init 173 = .ok (.bipush 7, 2) := by decide +kernel
theorem dX7_init_175 : decode cX7_init 175 = .ok (.newarray .int, 2) := by decide +kernel
theorem dX7_init_177 : decode cX7_init 177 = .ok (.putfield 78, 3) := by decide +kernel
theorem dX7_init_180 : decode cX7_init 180 = .ok (.aload_n 0, 1) := by decide +kernel
theorem dX7_init_181 : decode cX7_init 181 = .ok (.iconst (-1), 1) := by decide +kernel
theorem dX7_init_182 : decode cX7_init 182 = .ok (.putfield 81, 3) := by decide +kernel
theorem dX7_init_185 : decode cX7_init 185 = .ok (.aload_n 0, 1) := by decide +kernel
theorem dX7_init_186 : decode cX7_init 186 = .ok (.bipush 16, 2) := by decide +kernel
theorem dX7_init_188 : decode cX7_init 188 = .ok (.newarray .int, 2) := by decide +kernel
theorem dX7_init_190 : decode cX7_init 190 = .ok (.putfield 84, 3) := by decide +kernel
theorem dX7_init_193 : decode cX7_init 193 = .ok (.aload_n 0, 1) := by decide +kernel
theorem dX7_init_194 : decode cX7_init 194 = .ok (.bipush 16, 2) := by decide +kernel
theorem dX7_init_196 : decode cX7_init 196 = .ok (.newarray .int, 2) := by decide +kernel
theorem dX7_init_198 : decode cX7_init 198 = .ok (.putfield 87, 3) := by decide +kernel
theorem dX7_init_201 : decode cX7_init 201 = .ok (.aload_n 0, 1) := by decide +kernel
theorem dX7_init_202 : decode cX7_init 202 = .ok (.bipush 16, 2) := by decide +kernel
theorem dX7_init_204 : decode cX7_init 204 = .ok (.newarray .int, 2) := by decide +kernel
theorem dX7_init_206 : decode cX7_init 206 = .ok (.putfield 90, 3) := by decide +kernel
theorem dX7_init_209 : decode cX7_init 209 = .ok (.aload_n 0, 1) := by decide +kernel
theorem dX7_init_210 : decode cX7_init 210 = .ok (.bipush 50, 2) := by decide +kernel
theorem dX7_init_212 : decode cX7_init 212 = .ok (.newarray .int, 2) := by decide +kernel
theorem dX7_init_214 : decode cX7_init 214 = .ok (.putfield 93, 3) := by decide +kernel
theorem dX7_init_217 : decode cX7_init 217 = .ok (.aload_n 0, 1) := by decide +kernel
theorem dX7_init_218 : decode cX7_init 218 = .ok (.bipush 50, 2) := by decide +kernel
theorem dX7_init_220 : decode cX7_init 220 = .ok (.newarray .int, 2) := by decide +kernel
theorem dX7_init_222 : decode cX7_init 222 = .ok (.putfield 96, 3) := by decide +kernel
theorem dX7_init_225 : decode cX7_init 225 = .ok (.aload_n 0, 1) := by decide +kernel
theorem dX7_init_226 : decode cX7_init 226 = .ok (.sipush 250, 3) := by decide +kernel
theorem dX7_init_229 : decode cX7_init 229 = .ok (.newarray .int, 2) := by decide +kernel
theorem dX7_init_231 : decode cX7_init 231 = .ok (.putfield 99, 3) := by decide +kernel
theorem dX7_init_234 : decode cX7_init 234 = .ok (.aload_n 0, 1) := by decide +kernel
theorem dX7_init_235 : decode cX7_init 235 = .ok (.bipush 28, 2) := by decide +kernel
theorem dX7_init_237 : decode cX7_init 237 = .ok (.newarray .int, 2) := by decide +kernel
theorem dX7_init_239 : decode cX7_init 239 = .ok (.putfield 102, 3) := by decide +kernel
theorem dX7_init_242 : decode cX7_init 242 = .ok (.aload_n 0, 1) := by decide +kernel
theorem dX7_init_243 : decode cX7_init 243 = .ok (.sipush 330, 3) := by decide +kernel
theorem dX7_init_246 : decode cX7_init 246 = .ok (.newarray .int, 2) := by decide +kernel
theorem dX7_init_248 : decode cX7_init 248 = .ok (.putfield 105, 3) := by decide +kernel
theorem dX7_init_251 : decode cX7_init 251 = .ok (.aload_n 0, 1) := by decide +kernel
theorem dX7_init_252 : decode cX7_init 252 = .ok (.iconst 0, 1) := by decide +kernel
theorem dX7_init_253 : decode cX7_init 253 = .ok (.putfield 108, 3) := by decide +kernel
theorem dX7_init_256 : decode cX7_init 256 = .ok (.return_, 1) := by decide +kernel
theorem dX7_in_0 : decode cX7_in 0 = .ok (.lload_n 0, 1) := by decide +kernel
theorem dX7_in_1 : decode cX7_in 1 = .ok (.lload_n 2, 1) := by decide +kernel
theorem dX7_in_2 : decode cX7_in 2 = .ok (.lcmp, 1) := by decide +kernel
theorem dX7_in_3 : decode cX7_in 3 = .ok (.ifCond .lt 14, 3) := by decide +kernel
theorem dX7_in_6 : decode cX7_in 6 = .ok (.lload_n 0, 1) := by decide +kernel
theorem dX7_in_7 : decode cX7_in 7 = .ok (.lload 4, 2) := by decide +kernel
theorem dX7_in_9 : decode cX7_in 9 = .ok (.lcmp, 1) := by decide +kernel
theorem dX7_in_10 : decode cX7_in 10 = .ok (.ifCond .gt 7, 3) := by decide +kernel
theorem dX7_in_13 : decode cX7_in 13 = .ok (.iconst 1, 1) := by decide +kernel
theorem dX7_in_14 : decode cX7_in 14 = .ok (.goto 4, 3) := by decide +kernel
theorem dX7_in_17 : decode cX7_in 17 = .ok (.iconst 0, 1) := by decide +kernel
theorem dX7_in_18 : decode cX7_in 18 = .ok (.ireturn, 1) := by decide +kernel
theorem dX7_refuse_0 : decode cX7_refuse 0 = .ok (.aload_n 0, 1) := by decide +kernel
theorem dX7_refuse_1 : decode cX7_refuse 1 = .ok (.getfield 78, 3) := by decide +kernel
theorem dX7_refuse_4 : decode cX7_refuse 4 = .ok (.iload_n 1, 1) := by decide +kernel
theorem dX7_refuse_5 : decode cX7_refuse 5 = .ok (.ineg, 1) := by decide +kernel
theorem dX7_refuse_6 : decode cX7_refuse 6 = .ok (.dup2, 1) := by decide +kernel
theorem dX7_refuse_7 : decode cX7_refuse 7 = .ok (.iaload, 1) := by decide +kernel
theorem dX7_refuse_8 : decode cX7_refuse 8 = .ok (.iconst 1, 1) := by decide +kernel
theorem dX7_refuse_9 : decode cX7_refuse 9 = .ok (.iadd, 1) := by decide +kernel
theorem dX7_refuse_10 : decode cX7_refuse 10 = .ok (.iastore, 1) := by decide +kernel
theorem dX7_refuse_11 : decode cX7_refuse 11 = .ok (.iload_n 1, 1) := by decide +kernel
theorem dX7_refuse_12 : decode cX7_refuse 12 = .ok (.ireturn, 1) := by decide +kernel
theorem dX7_isCell_0 : decode cX7_isCell 0 = .ok (.iload_n 1, 1) := by decide +kernel
theorem dX7_isCell_1 : decode cX7_isCell 1 = .ok (.i2l, 1) := by decide +kernel
theorem dX7_isCell_2 : decode cX7_isCell 2 = .ok (.lconst 0, 1) := by decide +kernel
theorem dX7_isCell_3 : decode cX7_isCell 3 = .ok (.aload_n 0, 1) := by decide +kernel
theorem dX7_isCell_4 : decode cX7_isCell 4 = .ok (.getfield 111, 3) := by decide +kernel
theorem dX7_isCell_7 : decode cX7_isCell 7 = .ok (.iconst 1, 1) := by decide +kernel
theorem dX7_isCell_8 : decode cX7_isCell 8 = .ok (.isub, 1) := by decide +kernel
theorem dX7_isCell_9 : decode cX7_isCell 9 = .ok (.i2l, 1) := by decide +kernel
theorem dX7_isCell_10 : decode cX7_isCell 10 = .ok (.invokestatic 114, 3) := by decide +kernel
theorem dX7_isCell_13 : decode cX7_isCell 13 = .ok (.ireturn, 1) := by decide +kernel
theorem dX7_isStuff_0 : decode cX7_isStuff 0 = .ok (.iload_n 0, 1) := by decide +kernel
theorem dX7_isStuff_1 : decode cX7_isStuff 1 = .ok (.i2l, 1) := by decide +kernel
theorem dX7_isStuff_2 : decode cX7_isStuff 2 = .ok (.lconst 0, 1) := by decide +kernel
theorem dX7_isStuff_3 : decode cX7_isStuff 3 = .ok (.lconst 1, 1) := by decide +kernel
theorem dX7_isStuff_4 : decode cX7_isStuff 4 = .ok (.invokestatic 114, 3) := by decide +kernel
theorem dX7_isStuff_7 : decode cX7_isStuff 7 = .ok (.ireturn, 1) := by decide +kernel
theorem dX7_addCell_0 : decode cX7_addCell 0 = .ok (.aload_n 0, 1) := by decide +kernel
theorem dX7_addCell_1 : decode cX7_addCell 1 = .ok (.getfield 7, 3) := by decide +kernel
theorem dX7_addCell_4 : decode cX7_addCell 4 = .ok (.aload_n 0, 1) := by decide +kernel
theorem dX7_addCell_5 : decode cX7_addCell 5 = .ok (.getfield 111, 3) := by decide +kernel
theorem dX7_addCell_8 : decode cX7_addCell 8 = .ok (.iload_n 1, 1) := by decide +kernel
theorem dX7_addCell_9 : decode cX7_addCell 9 = .ok (.iastore, 1) := by decide +kernel
theorem dX7_addCell_10 : decode cX7_addCell 10 = .ok (.aload_n 0, 1) := by decide +kernel
theorem dX7_addCell_11 : decode cX7_addCell 11 = .ok (.getfield 13, 3) := by decide +kernel
theorem dX7_addCell_14 : decode cX7_addCell 14 = .ok (.aload_n 0, 1) := by decide +kernel
theorem dX7_addCell_15 : decode cX7_addCell 15 = .ok (.getfield 111, 3) := by decide +kernel
theorem dX7_addCell_18 : decode cX7_addCell 18 = .ok (.iload_n 2, 1) := by decide +kernel
theorem dX7_addCell_19 : decode cX7_addCell 19 = .ok (.iastore, 1) := by decide +kernel
theorem dX7_addCell_20 : decode cX7_addCell 20 = .ok (.aload_n 0, 1) := by decide +kernel
theorem dX7_addCell_21 : decode cX7_addCell 21 = .ok (.getfield 16, 3) := by decide +kernel
theorem dX7_addCell_24 : decode cX7_addCell 24 = .ok (.aload_n 0, 1) := by decide +kernel
theorem dX7_addCell_25 : decode cX7_addCell 25 = .ok (.getfield 111, 3) := by decide +kernel
theorem dX7_addCell_28 : decode cX7_addCell 28 = .ok (.bipush 50, 2) := by decide +kernel
theorem dX7_addCell_30 : decode cX7_addCell 30 = .ok (.iastore, 1) := by decide +kernel
theorem dX7_addCell_31 : decode cX7_addCell 31 = .ok (.aload_n 0, 1) := by decide +kernel
theorem dX7_addCell_32 : decode cX7_addCell 32 = .ok (.getfield 19, 3) := by decide +kernel
theorem dX7_addCell_35 : decode cX7_addCell 35 = .ok (.aload_n 0, 1) := by decide +kernel
theorem dX7_addCell_36 : decode cX7_addCell 36 = .ok (.getfield 111, 3) := by decide +kernel
theorem dX7_addCell_39 : decode cX7_addCell 39 = .ok (.bipush 20, 2) := by decide +kernel
theorem dX7_addCell_41 : decode cX7_addCell 41 = .ok (.iastore, 1) := by decide +kernel
theorem dX7_addCell_42 : decode cX7_addCell 42 = .ok (.aload_n 0, 1) := by decide +kernel
theorem dX7_addCell_43 : decode cX7_addCell 43 = .ok (.getfield 22, 3) := by decide +kernel
theorem dX7_addCell_46 : decode cX7_addCell 46 = .ok (.aload_n 0, 1) := by decide +kernel
theorem dX7_addCell_47 : decode cX7_addCell 47 = .ok (.getfield 111, 3) := by decide +kernel
theorem dX7_addCell_50 : decode cX7_addCell 50 = .ok (.iconst 1, 1) := by decide +kernel
theorem dX7_addCell_51 : decode cX7_addCell 51 = .ok (.iastore, 1) := by decide +kernel
theorem dX7_addCell_52 : decode cX7_addCell 52 = .ok (.iconst 0, 1) := by decide +kernel
theorem dX7_addCell_53 : decode cX7_addCell 53 = .ok (.istore_n 3, 1) := by decide +kernel
theorem dX7_addCell_54 : decode cX7_addCell 54 = .ok (.iload_n 3, 1) := by decide +kernel
theorem dX7_addCell_55 : decode cX7_addCell 55 = .ok (.iconst 2, 1) := by decide +kernel
theorem dX7_addCell_56 : decode cX7_addCell 56 = .ok (.if_icmp .ge 37, 3) := by decide +kernel
theorem dX7_addCell_59 : decode cX7_addCell 59 = .ok (.aload_n 0, 1) := by decide +kernel
theorem dX7_addCell_60 : decode cX7_addCell 60 = .ok (.getfield 25, 3) := by decide +kernel
theorem dX7_addCell_63 : decode cX7_addCell 63 = .ok (.iconst 2, 1) := by decide +kernel
theorem dX7_addCell_64 : decode cX7_addCell 64 = .ok (.aload_n 0, 1) := by decide +kernel
theorem dX7_addCell_65 : decode cX7_addCell 65 = .ok (.getfield 111, 3) := by decide +kernel
theorem dX7_addCell_68 : decode cX7_addCell 68 = .ok (.imul, 1) := by decide +kernel
theorem dX7_addCell_69 : decode cX7_addCell 69 = .ok (.iload_n 3, 1) := by decide +kernel
theorem dX7_addCell_70 : decode cX7_addCell 70 = .ok (.iadd, 1) := by decide +kernel
theorem dX7_addCell_71 : decode cX7_addCell 71 = .ok (.iconst 0, 1) := by decide +kernel
theorem dX7_addCell_72 : decode cX7_addCell 72 = .ok (.iastore, 1) := by decide +kernel
theorem dX7_addCell_73 : decode cX7_addCell 73 = .ok (.aload_n 0, 1) := by decide +kernel
theorem dX7_addCell_74 : decode cX7_addCell 74 = .ok (.getfield 28, 3) := by decide +kernel
theorem dX7_addCell_77 : decode cX7_addCell 77 = .ok (.iconst 2, 1) := by decide +kernel
theorem dX7_addCell_78 : decode cX7_addCell 78 = .ok (.aload_n 0, 1) := by decide +kernel
theorem dX7_addCell_79 : decode cX7_addCell 79 = .ok (.getfield 111, 3) := by decide +kernel
theorem dX7_addCell_82 : decode cX7_addCell 82 = .ok (.imul, 1) := by decide +kernel
theorem dX7_addCell_83 : decode cX7_addCell 83 = .ok (.iload_n 3, 1) := by decide +kernel
theorem dX7_addCell_84 : decode cX7_addCell 84 = .ok (.iadd, 1) := by decide +kernel
theorem dX7_addCell_85 : decode cX7_addCell 85 = .ok (.iconst 0, 1) := by decide +kernel
theorem dX7_addCell_86 : decode cX7_addCell 86 = .ok (.iastore, 1) := by decide +kernel
theorem dX7_addCell_87 : decode cX7_addCell 87 = .ok (.iinc 3 1, 3) := by decide +kernel
theorem dX7_addCell_90 : decode cX7_addCell 90 = .ok (.goto (-36), 3) := by decide +kernel
theorem dX7_addCell_93 : decode cX7_addCell 93 = .ok (.aload_n 0, 1) := by decide +kernel
theorem dX7_addCell_94 : decode cX7_addCell 94 = .ok (.dup, 1) := by decide +kernel
theorem dX7_addCell_95 : decode cX7_addCell 95 = .ok (.getfield 111, 3) := by decide +kernel
theorem dX7_addCell_98 : decode cX7_addCell 98 = .ok (.iconst 1, 1) := by decide +kernel
theorem dX7_addCell_99 : decode cX7_addCell 99 = .ok (.iadd, 1) := by decide +kernel
theorem dX7_addCell_100 : decode cX7_addCell 100 = .ok (.putfield 111, 3) := by decide +kernel
theorem dX7_addCell_103 : decode cX7_addCell 103 = .ok (.return_, 1) := by decide +kernel
theorem dX7_cell_0 : decode cX7_cell 0 = .ok (.iload_n 1, 1) := by decide +kernel
theorem dX7_cell_1 : decode cX7_cell 1 = .ok (.iconst 1, 1) := by decide +kernel
theorem dX7_cell_2 : decode cX7_cell 2 = .ok (.if_icmp .lt 7, 3) := by decide +kernel
theorem dX7_cell_5 : decode cX7_cell 5 = .ok (.iload_n 2, 1) := by decide +kernel
theorem dX7_cell_6 : decode cX7_cell 6 = .ok (.ifCond .ge 10, 3) := by decide +kernel
theorem dX7_cell_9 : decode cX7_cell 9 = .ok (.aload_n 0, 1) := by decide +kernel
theorem dX7_cell_10 : decode cX7_cell 10 = .ok (.bipush (-4), 2) := by decide +kernel
theorem dX7_cell_12 : decode cX7_cell 12 = .ok (.invokevirtual 118, 3) := by decide +kernel
theorem dX7_cell_15 : decode cX7_cell 15 = .ok (.ireturn, 1) := by decide +kernel
theorem dX7_cell_16 : decode cX7_cell 16 = .ok (.iload_n 1, 1) := by decide +kernel
theorem dX7_cell_17 : decode cX7_cell 17 = .ok (.bipush 99, 2) := by decide +kernel
theorem dX7_cell_19 : decode cX7_cell 19 = .ok (.if_icmp .gt 18, 3) := by decide +kernel
theorem dX7_cell_22 : decode cX7_cell 22 = .ok (.iload_n 2, 1) := by decide +kernel
theorem dX7_cell_23 : decode cX7_cell 23 = .ok (.bipush 99, 2) := by decide +kernel
theorem dX7_cell_25 : decode cX7_cell 25 = .ok (.if_icmp .gt 12, 3) := by decide +kernel
theorem dX7_cell_28 : decode cX7_cell 28 = .ok (.aload_n 0, 1) := by decide +kernel
theorem dX7_cell_29 : decode cX7_cell 29 = .ok (.getfield 111, 3) := by decide +kernel
theorem dX7_cell_32 : decode cX7_cell 32 = .ok (.bipush 8, 2) := by decide +kernel
theorem dX7_cell_34 : decode cX7_cell 34 = .ok (.if_icmp .ne 10, 3) := by decide +kernel
theorem dX7_cell_37 : decode cX7_cell 37 = .ok (.aload_n 0, 1) := by decide +kernel
theorem dX7_cell_38 : decode cX7_cell 38 = .ok (.bipush (-6), 2) := by decide +kernel
theorem dX7_cell_40 : decode cX7_cell 40 = .ok (.invokevirtual 118, 3) := by decide +kernel
theorem dX7_cell_43 : decode cX7_cell 43 = .ok (.ireturn, 1) := by decide +kernel
theorem dX7_cell_44 : decode cX7_cell 44 = .ok (.aload_n 0, 1) := by decide +kernel
theorem dX7_cell_45 : decode cX7_cell 45 = .ok (.iload_n 1, 1) := by decide +kernel
theorem dX7_cell_46 : decode cX7_cell 46 = .ok (.iload_n 2, 1) := by decide +kernel
theorem dX7_cell_47 : decode cX7_cell 47 = .ok (.invokevirtual 122, 3) := by decide +kernel
theorem dX7_cell_50 : decode cX7_cell 50 = .ok (.aload_n 0, 1) := by decide +kernel
theorem dX7_cell_51 : decode cX7_cell 51 = .ok (.getfield 111, 3) := by decide +kernel
theorem dX7_cell_54 : decode cX7_cell 54 = .ok (.iconst 1, 1) := by decide +kernel
theorem dX7_cell_55 : decode cX7_cell 55 = .ok (.isub, 1) := by decide +kernel
theorem dX7_cell_56 : decode cX7_cell 56 = .ok (.ireturn, 1) := by decide +kernel
theorem dX7_set_0 : decode cX7_set 0 = .ok (.aload_n 0, 1) := by decide +kernel
theorem dX7_set_1 : decode cX7_set 1 = .ok (.iload_n 1, 1) := by decide +kernel
theorem dX7_set_2 : decode cX7_set 2 = .ok (.invokevirtual 126, 3) := by decide +kernel
theorem dX7_set_5 : decode cX7_set 5 = .ok (.ifCond .ne 9, 3) := by decide +kernel
theorem dX7_set_8 : decode cX7_set 8 = .ok (.aload_n 0, 1) := by decide +kernel
theorem dX7_set_9 : decode cX7_set 9 = .ok (.iconst (-1), 1) := by decide +kernel
theorem dX7_set_10 : decode cX7_set 10 = .ok (.invokevirtual 118, 3) := by decide +kernel
theorem dX7_set_13 : decode cX7_set 13 = .ok (.ireturn, 1) := by decide +kernel
theorem dX7_set_14 : decode cX7_set 14 = .ok (.iload_n 2, 1) := by decide +kernel
theorem dX7_set_15 : decode cX7_set 15 = .ok (.i2l, 1) := by decide +kernel
theorem dX7_set_16 : decode cX7_set 16 = .ok (.lconst 0, 1) := by decide +kernel
theorem dX7_set_17 : decode cX7_set 17 = .ok (.ldc2_w 130, 3) := by decide +kernel
theorem dX7_set_20 : decode cX7_set 20 = .ok (.invokestatic 114, 3) := by decide +kernel
theorem dX7_set_23 : decode cX7_set 23 = .ok (.ifCond .ne 10, 3) := by decide +kernel
theorem dX7_set_26 : decode cX7_set 26 = .ok (.aload_n 0, 1) := by decide +kernel
theorem dX7_set_27 : decode cX7_set 27 = .ok (.bipush (-2), 2) := by decide +kernel
theorem dX7_set_29 : decode cX7_set 29 = .ok (.invokevirtual 118, 3) := by decide +kernel
theorem dX7_set_32 : decode cX7_set 32 = .ok (.ireturn, 1) := by decide +kernel
theorem dX7_set_33 : decode cX7_set 33 = .ok (.iload_n 3, 1) := by decide +kernel
theorem dX7_set_34 : decode cX7_set 34 = .ok (.ifCond .ge 10, 3) := by decide +kernel
theorem dX7_set_37 : decode cX7_set 37 = .ok (.aload_n 0, 1) := by decide +kernel
theorem dX7_set_38 : decode cX7_set 38 = .ok (.bipush (-4), 2) := by decide +kernel
theorem dX7_set_40 : decode cX7_set 40 = .ok (.invokevirtual 118, 3) := by decide +kernel
theorem dX7_set_43 : decode cX7_set 43 = .ok (.ireturn, 1) := by decide +kernel
theorem dX7_set_44 : decode cX7_set 44 = .ok (.iload_n 3, 1) := by decide +kernel
theorem dX7_set_45 : decode cX7_set 45 = .ok (.iload_n 2, 1) := by decide +kernel
theorem dX7_set_46 : decode cX7_set 46 = .ok (.iconst 2, 1) := by decide +kernel
theorem dX7_set_47 : decode cX7_set 47 = .ok (.if_icmp .ge 8, 3) := by decide +kernel
theorem dX7_set_50 : decode cX7_set 50 = .ok (.bipush 100, 2) := by decide +kernel
theorem dX7_set_52 : decode cX7_set 52 = .ok (.goto 5, 3) := by decide +kernel
theorem dX7_set_55 : decode cX7_set 55 = .ok (.bipush 99, 2) := by decide +kernel
theorem dX7_set_57 : decode cX7_set 57 = .ok (.if_icmp .le 10, 3) := by decide +kernel
theorem dX7_set_60 : decode cX7_set 60 = .ok (.aload_n 0, 1) := by decide +kernel
theorem dX7_set_61 : decode cX7_set 61 = .ok (.bipush (-6), 2) := by decide +kernel
theorem dX7_set_63 : decode cX7_set 63 = .ok (.invokevirtual 118, 3) := by decide +kernel
theorem dX7_set_66 : decode cX7_set 66 = .ok (.ireturn, 1) := by decide +kernel
theorem dX7_set_67 : decode cX7_set 67 = .ok (.iload_n 2, 1) := by decide +kernel
theorem dX7_set_68 : decode cX7_set 68 = .ok (.ifCond .ne 12, 3) := by decide +kernel
theorem dX7_set_71 : decode cX7_set 71 = .ok (.aload_n 0, 1) := by decide +kernel
theorem dX7_set_72 : decode cX7_set 72 = .ok (.getfield 16, 3) := by decide +kernel
theorem dX7_set_75 : decode cX7_set 75 = .ok (.iload_n 1, 1) := by decide +kernel
theorem dX7_set_76 : decode cX7_set 76 = .ok (.iaload, 1) := by decide +kernel
theorem dX7_set_77 : decode cX7_set 77 = .ok (.goto 37, 3) := by decide +kernel
theorem dX7_set_80 : decode cX7_set 80 = .ok (.iload_n 2, 1) := by decide +kernel
theorem dX7_set_81 : decode cX7_set 81 = .ok (.iconst 1, 1) := by decide +kernel
theorem dX7_set_82 : decode cX7_set 82 = .ok (.if_icmp .ne 12, 3) := by decide +kernel
theorem dX7_set_85 : decode cX7_set 85 = .ok (.aload_n 0, 1) := by decide +kernel
theorem dX7_set_86 : decode cX7_set 86 = .ok (.getfield 19, 3) := by decide +kernel
theorem dX7_set_89 : decode cX7_set 89 = .ok (.iload_n 1, 1) := by decide +kernel
theorem dX7_set_90 : decode cX7_set 90 = .ok (.iaload, 1) := by decide +kernel
theorem dX7_set_91 : decode cX7_set 91 = .ok (.goto 23, 3) := by decide +kernel
theorem dX7_set_94 : decode cX7_set 94 = .ok (.iload_n 2, 1) := by decide +kernel
theorem dX7_set_95 : decode cX7_set 95 = .ok (.iconst 2, 1) := by decide +kernel
theorem dX7_set_96 : decode cX7_set 96 = .ok (.if_icmp .ne 12, 3) := by decide +kernel
theorem dX7_set_99 : decode cX7_set 99 = .ok (.aload_n 0, 1) := by decide +kernel
theorem dX7_set_100 : decode cX7_set 100 = .ok (.getfield 22, 3) := by decide +kernel
theorem dX7_set_103 : decode cX7_set 103 = .ok (.iload_n 1, 1) := by decide +kernel
theorem dX7_set_104 : decode cX7_set 104 = .ok (.iaload, 1) := by decide +kernel
theorem dX7_set_105 : decode cX7_set 105 = .ok (.goto 9, 3) := by decide +kernel
theorem dX7_set_108 : decode cX7_set 108 = .ok (.aload_n 0, 1) := by decide +kernel
theorem dX7_set_109 : decode cX7_set 109 = .ok (.getfield 13, 3) := by decide +kernel
theorem dX7_set_112 : decode cX7_set 112 = .ok (.iload_n 1, 1) := by decide +kernel
theorem dX7_set_113 : decode cX7_set 113 = .ok (.iaload, 1) := by decide +kernel
theorem dX7_set_114 : decode cX7_set 114 = .ok (.istore 4, 2) := by decide +kernel
theorem dX7_set_116 : decode cX7_set 116 = .ok (.aload_n 0, 1) := by decide +kernel
theorem dX7_set_117 : decode cX7_set 117 = .ok (.getfield 16, 3) := by decide +kernel
theorem dX7_set_120 : decode cX7_set 120 = .ok (.iload_n 1, 1) := by decide +kernel
theorem dX7_set_121 : decode cX7_set 121 = .ok (.iload_n 2, 1) := by decide +kernel
theorem dX7_set_122 : decode cX7_set 122 = .ok (.ifCond .ne 7, 3) := by decide +kernel
theorem dX7_set_125 : decode cX7_set 125 = .ok (.iload_n 3, 1) := by decide +kernel
theorem dX7_set_126 : decode cX7_set 126 = .ok (.goto 9, 3) := by decide +kernel
theorem dX7_set_129 : decode cX7_set 129 = .ok (.aload_n 0, 1) := by decide +kernel
theorem dX7_set_130 : decode cX7_set 130 = .ok (.getfield 16, 3) := by decide +kernel
theorem dX7_set_133 : decode cX7_set 133 = .ok (.iload_n 1, 1) := by decide +kernel
theorem dX7_set_134 : decode cX7_set 134 = .ok (.iaload, 1) := by decide +kernel
theorem dX7_set_135 : decode cX7_set 135 = .ok (.iastore, 1) := by decide +kernel
theorem dX7_set_136 : decode cX7_set 136 = .ok (.aload_n 0, 1) := by decide +kernel
theorem dX7_set_137 : decode cX7_set 137 = .ok (.getfield 19, 3) := by decide +kernel
theorem dX7_set_140 : decode cX7_set 140 = .ok (.iload_n 1, 1) := by decide +kernel
theorem dX7_set_141 : decode cX7_set 141 = .ok (.iload_n 2, 1) := by decide +kernel
theorem dX7_set_142 : decode cX7_set 142 = .ok (.iconst 1, 1) := by decide +kernel
theorem dX7_set_143 : decode cX7_set 143 = .ok (.if_icmp .ne 7, 3) := by decide +kernel
theorem dX7_set_146 : decode cX7_set 146 = .ok (.iload_n 3, 1) := by decide +kernel
theorem dX7_set_147 : decode cX7_set 147 = .ok (.goto 9, 3) := by decide +kernel
theorem dX7_set_150 : decode cX7_set 150 = .ok (.aload_n 0, 1) := by decide +kernel
theorem dX7_set_151 : decode cX7_set 151 = .ok (.getfield 19, 3) := by decide +kernel
theorem dX7_set_154 : decode cX7_set 154 = .ok (.iload_n 1, 1) := by decide +kernel
theorem dX7_set_155 : decode cX7_set 155 = .ok (.iaload, 1) := by decide +kernel
theorem dX7_set_156 : decode cX7_set 156 = .ok (.iastore, 1) := by decide +kernel
theorem dX7_set_157 : decode cX7_set 157 = .ok (.aload_n 0, 1) := by decide +kernel
theorem dX7_set_158 : decode cX7_set 158 = .ok (.getfield 22, 3) := by decide +kernel
theorem dX7_set_161 : decode cX7_set 161 = .ok (.iload_n 1, 1) := by decide +kernel
theorem dX7_set_162 : decode cX7_set 162 = .ok (.iload_n 2, 1) := by decide +kernel
theorem dX7_set_163 : decode cX7_set 163 = .ok (.iconst 2, 1) := by decide +kernel
theorem dX7_set_164 : decode cX7_set 164 = .ok (.if_icmp .ne 7, 3) := by decide +kernel
theorem dX7_set_167 : decode cX7_set 167 = .ok (.iload_n 3, 1) := by decide +kernel
theorem dX7_set_168 : decode cX7_set 168 = .ok (.goto 9, 3) := by decide +kernel
theorem dX7_set_171 : decode cX7_set 171 = .ok (.aload_n 0, 1) := by decide +kernel
theorem dX7_set_172 : decode cX7_set 172 = .ok (.getfield 22, 3) := by decide +kernel
theorem dX7_set_175 : decode cX7_set 175 = .ok (.iload_n 1, 1) := by decide +kernel
theorem dX7_set_176 : decode cX7_set 176 = .ok (.iaload, 1) := by decide +kernel
theorem dX7_set_177 : decode cX7_set 177 = .ok (.iastore, 1) := by decide +kernel
theorem dX7_set_178 : decode cX7_set 178 = .ok (.aload_n 0, 1) := by decide +kernel
theorem dX7_set_179 : decode cX7_set 179 = .ok (.getfield 13, 3) := by decide +kernel
theorem dX7_set_182 : decode cX7_set 182 = .ok (.iload_n 1, 1) := by decide +kernel
theorem dX7_set_183 : decode cX7_set 183 = .ok (.iload_n 2, 1) := by decide +kernel
theorem dX7_set_184 : decode cX7_set 184 = .ok (.iconst 3, 1) := by decide +kernel
theorem dX7_set_185 : decode cX7_set 185 = .ok (.if_icmp .ne 7, 3) := by decide +kernel
theorem dX7_set_188 : decode cX7_set 188 = .ok (.iload_n 3, 1) := by decide +kernel
theorem dX7_set_189 : decode cX7_set 189 = .ok (.goto 9, 3) := by decide +kernel
theorem dX7_set_192 : decode cX7_set 192 = .ok (.aload_n 0, 1) := by decide +kernel
theorem dX7_set_193 : decode cX7_set 193 = .ok (.getfield 13, 3) := by decide +kernel
theorem dX7_set_196 : decode cX7_set 196 = .ok (.iload_n 1, 1) := by decide +kernel
theorem dX7_set_197 : decode cX7_set 197 = .ok (.iaload, 1) := by decide +kernel
theorem dX7_set_198 : decode cX7_set 198 = .ok (.iastore, 1) := by decide +kernel
theorem dX7_set_199 : decode cX7_set 199 = .ok (.iload 4, 2) := by decide +kernel
theorem dX7_set_201 : decode cX7_set 201 = .ok (.ireturn, 1) := by decide +kernel
theorem dX7_partsFrom_0 : decode cX7_partsFrom 0 = .ok (.iconst 0, 1) := by decide +kernel
theorem dX7_partsFrom_1 : decode cX7_partsFrom 1 = .ok (.istore 4, 2) := by decide +kernel
theorem dX7_partsFrom_3 : decode cX7_partsFrom 3 = .ok (.iconst 0, 1) := by decide +kernel
theorem dX7_partsFrom_4 : decode cX7_partsFrom 4 = .ok (.istore 5, 2) := by decide +kernel
theorem dX7_partsFrom_6 : decode cX7_partsFrom 6 = .ok (.iload 5, 2) := by decide +kernel
theorem dX7_partsFrom_8 : decode cX7_partsFrom 8 = .ok (.aload_n 0, 1) := by decide +kernel
theorem dX7_partsFrom_9 : decode cX7_partsFrom 9 = .ok (.getfield 132, 3) := by decide +kernel
theorem dX7_partsFrom_12 : decode cX7_partsFrom 12 = .ok (.if_icmp .ge 58, 3) := by decide +kernel
theorem dX7_partsFrom_15 : decode cX7_partsFrom 15 = .ok (.iload 4, 2) := by decide +kernel
theorem dX7_partsFrom_17 : decode cX7_partsFrom 17 = .ok (.aload_n 0, 1) := by decide +kernel
theorem dX7_partsFrom_18 : decode cX7_partsFrom 18 = .ok (.getfield 31, 3) := by decide +kernel
theorem dX7_partsFrom_21 : decode cX7_partsFrom 21 = .ok (.iload 5, 2) := by decide +kernel
theorem dX7_partsFrom_23 : decode cX7_partsFrom 23 = .ok (.iaload, 1) := by decide +kernel
theorem dX7_partsFrom_24 : decode cX7_partsFrom 24 = .ok (.iload_n 1, 1) := by decide +kernel
theorem dX7_partsFrom_25 : decode cX7_partsFrom 25 = .ok (.if_icmp .ne 35, 3) := by decide +kernel
theorem dX7_partsFrom_28 : decode cX7_partsFrom 28 = .ok (.aload_n 0, 1) := by decide +kernel
theorem dX7_partsFrom_29 : decode cX7_partsFrom 29 = .ok (.getfield 37, 3) := by decide +kernel
theorem dX7_partsFrom_32 : decode cX7_partsFrom 32 = .ok (.iload 5, 2) := by decide +kernel
theorem dX7_partsFrom_34 : decode cX7_partsFrom 34 = .ok (.iaload, 1) := by decide +kernel
theorem dX7_partsFrom_35 : decode cX7_partsFrom 35 = .ok (.iload_n 2, 1) := by decide +kernel
theorem dX7_partsFrom_36 : decode cX7_partsFrom 36 = .ok (.if_icmp .ne 24, 3) := by decide +kernel
theorem dX7_partsFrom_39 : decode cX7_partsFrom 39 = .ok (.aload_n 0, 1) := by decide +kernel
theorem dX7_partsFrom_40 : decode cX7_partsFrom 40 = .ok (.getfield 40, 3) := by decide +kernel
theorem dX7_partsFrom_43 : decode cX7_partsFrom 43 = .ok (.iload 5, 2) := by decide +kernel
theorem dX7_partsFrom_45 : decode cX7_partsFrom 45 = .ok (.iaload, 1) := by decide +kernel
theorem dX7_partsFrom_46 : decode cX7_partsFrom 46 = .ok (.iload_n 3, 1) := by decide +kernel
theorem dX7_partsFrom_47 : decode cX7_partsFrom 47 = .ok (.if_icmp .ne 13, 3) := by decide +kernel
theorem dX7_partsFrom_50 : decode cX7_partsFrom 50 = .ok (.aload_n 0, 1) := by decide +kernel
theorem dX7_partsFrom_51 : decode cX7_partsFrom 51 = .ok (.getfield 43, 3) := by decide +kernel
theorem dX7_partsFrom_54 : decode cX7_partsFrom 54 = .ok (.iload 5, 2) := by decide +kernel
theorem dX7_partsFrom_56 : decode cX7_partsFrom 56 = .ok (.iaload, 1) := by decide +kernel
theorem dX7_partsFrom_57 : decode cX7_partsFrom 57 = .ok (.goto 4, 3) := by decide +kernel
theorem dX7_partsFrom_60 : decode cX7_partsFrom 60 = .ok (.iconst 0, 1) := by decide +kernel
theorem dX7_partsFrom_61 : decode cX7_partsFrom 61 = .ok (.iadd, 1) := by decide +kernel
theorem dX7_partsFrom_62 : decode cX7_partsFrom 62 = .ok (.istore 4, 2) := by decide +kernel
theorem dX7_partsFrom_64 : decode cX7_partsFrom 64 = .ok (.iinc 5 1, 3) := by decide +kernel
theorem dX7_partsFrom_67 : decode cX7_partsFrom 67 = .ok (.goto (-61), 3) := by decide +kernel
theorem dX7_partsFrom_70 : decode cX7_partsFrom 70 = .ok (.iload 4, 2) := by decide +kernel
theorem dX7_partsFrom_72 : decode cX7_partsFrom 72 = .ok (.ireturn, 1) := by decide +kernel
theorem dX7_addWay_0 : decode cX7_addWay 0 = .ok (.aload_n 0, 1) := by decide +kernel
theorem dX7_addWay_1 : decode cX7_addWay 1 = .ok (.getfield 31, 3) := by decide +kernel
theorem dX7_addWay_4 : decode cX7_addWay 4 = .ok (.aload_n 0, 1) := by decide +kernel
theorem dX7_addWay_5 : decode cX7_addWay 5 = .ok (.getfield 132, 3) := by decide +kernel
theorem dX7_addWay_8 : decode cX7_addWay 8 = .ok (.iload_n 1, 1) := by decide +kernel
theorem dX7_addWay_9 : decode cX7_addWay 9 = .ok (.iastore, 1) := by decide +kernel
theorem dX7_addWay_10 : decode cX7_addWay 10 = .ok (.aload_n 0, 1) := by decide +kernel
theorem dX7_addWay_11 : decode cX7_addWay 11 = .ok (.getfield 34, 3) := by decide +kernel
theorem dX7_addWay_14 : decode cX7_addWay 14 = .ok (.aload_n 0, 1) := by decide +kernel
theorem dX7_addWay_15 : decode cX7_addWay 15 = .ok (.getfield 132, 3) := by decide +kernel
theorem dX7_addWay_18 : decode cX7_addWay 18 = .ok (.iload_n 2, 1) := by decide +kernel
theorem dX7_addWay_19 : decode cX7_addWay 19 = .ok (.iastore, 1) := by decide +kernel
theorem dX7_addWay_20 : decode cX7_addWay 20 = .ok (.aload_n 0, 1) := by decide +kernel
theorem dX7_addWay_21 : decode cX7_addWay 21 = .ok (.getfield 37, 3) := by decide +kernel
theorem dX7_addWay_24 : decode cX7_addWay 24 = .ok (.aload_n 0, 1) := by decide +kernel
theorem dX7_addWay_25 : decode cX7_addWay 25 = .ok (.getfield 132, 3) := by decide +kernel
theorem dX7_addWay_28 : decode cX7_addWay 28 = .ok (.iload_n 3, 1) := by decide +kernel
theorem dX7_addWay_29 : decode cX7_addWay 29 = .ok (.iastore, 1) := by decide +kernel
theorem dX7_addWay_30 : decode cX7_addWay 30 = .ok (.aload_n 0, 1) := by decide +kernel
theorem dX7_addWay_31 : decode cX7_addWay 31 = .ok (.getfield 40, 3) := by decide +kernel
theorem dX7_addWay_34 : decode cX7_addWay 34 = .ok (.aload_n 0, 1) := by decide +kernel
theorem dX7_addWay_35 : decode cX7_addWay 35 = .ok (.getfield 132, 3) := by decide +kernel
theorem dX7_addWay_38 : decode cX7_addWay 38 = .ok (.iload 4, 2) := by decide +kernel
theorem dX7_addWay_40 : decode cX7_addWay 40 = .ok (.iastore, 1) := by decide +kernel
theorem dX7_addWay_41 : decode cX7_addWay 41 = .ok (.aload_n 0, 1) := by decide +kernel
theorem dX7_addWay_42 : decode cX7_addWay 42 = .ok (.getfield 43, 3) := by decide +kernel
theorem dX7_addWay_45 : decode cX7_addWay 45 = .ok (.aload_n 0, 1) := by decide +kernel
theorem dX7_addWay_46 : decode cX7_addWay 46 = .ok (.getfield 132, 3) := by decide +kernel
theorem dX7_addWay_49 : decode cX7_addWay 49 = .ok (.iload 5, 2) := by decide +kernel
theorem dX7_addWay_51 : decode cX7_addWay 51 = .ok (.iastore, 1) := by decide +kernel
theorem dX7_addWay_52 : decode cX7_addWay 52 = .ok (.aload_n 0, 1) := by decide +kernel
theorem dX7_addWay_53 : decode cX7_addWay 53 = .ok (.getfield 46, 3) := by decide +kernel
theorem dX7_addWay_56 : decode cX7_addWay 56 = .ok (.aload_n 0, 1) := by decide +kernel
theorem dX7_addWay_57 : decode cX7_addWay 57 = .ok (.getfield 132, 3) := by decide +kernel
theorem dX7_addWay_60 : decode cX7_addWay 60 = .ok (.iconst 0, 1) := by decide +kernel
theorem dX7_addWay_61 : decode cX7_addWay 61 = .ok (.bastore, 1) := by decide +kernel
theorem dX7_addWay_62 : decode cX7_addWay 62 = .ok (.aload_n 0, 1) := by decide +kernel
theorem dX7_addWay_63 : decode cX7_addWay 63 = .ok (.dup, 1) := by decide +kernel
theorem dX7_addWay_64 : decode cX7_addWay 64 = .ok (.getfield 132, 3) := by decide +kernel
theorem dX7_addWay_67 : decode cX7_addWay 67 = .ok (.iconst 1, 1) := by decide +kernel
theorem dX7_addWay_68 : decode cX7_addWay 68 = .ok (.iadd, 1) := by decide +kernel
theorem dX7_addWay_69 : decode cX7_addWay 69 = .ok (.putfield 132, 3) := by decide +kernel
theorem dX7_addWay_72 : decode cX7_addWay 72 = .ok (.return_, 1) := by decide +kernel
theorem dX7_areEnds_0 : decode cX7_areEnds 0 = .ok (.aload_n 0, 1) := by decide +kernel
theorem dX7_areEnds_1 : decode cX7_areEnds 1 = .ok (.iload_n 1, 1) := by decide +kernel
theorem dX7_areEnds_2 : decode cX7_areEnds 2 = .ok (.invokevirtual 126, 3) := by decide +kernel
theorem dX7_areEnds_5 : decode cX7_areEnds 5 = .ok (.ifCond .eq 26, 3) := by decide +kernel
theorem dX7_areEnds_8 : decode cX7_areEnds 8 = .ok (.iload_n 2, 1) := by decide +kernel
theorem dX7_areEnds_9 : decode cX7_areEnds 9 = .ok (.bipush 8, 2) := by decide +kernel
theorem dX7_areEnds_11 : decode cX7_areEnds 11 = .ok (.if_icmp .eq 11, 3) := by decide +kernel
theorem dX7_areEnds_14 : decode cX7_areEnds 14 = .ok (.aload_n 0, 1) := by decide +kernel
theorem dX7_areEnds_15 : decode cX7_areEnds 15 = .ok (.iload_n 2, 1) := by decide +kernel
theorem dX7_areEnds_16 : decode cX7_areEnds 16 = .ok (.invokevirtual 126, 3) := by decide +kernel
theorem dX7_areEnds_19 : decode cX7_areEnds 19 = .ok (.ifCond .eq 12, 3) := by decide +kernel
theorem dX7_areEnds_22 : decode cX7_areEnds 22 = .ok (.iload_n 1, 1) := by decide +kernel
theorem dX7_areEnds_23 : decode cX7_areEnds 23 = .ok (.iload_n 2, 1) := by decide +kernel
theorem dX7_areEnds_24 : decode cX7_areEnds 24 = .ok (.if_icmp .eq 7, 3) := by decide +kernel
theorem dX7_areEnds_27 : decode cX7_areEnds 27 = .ok (.iconst 1, 1) := by decide +kernel
theorem dX7_areEnds_28 : decode cX7_areEnds 28 = .ok (.goto 4, 3) := by decide +kernel
theorem dX7_areEnds_31 : decode cX7_areEnds 31 = .ok (.iconst 0, 1) := by decide +kernel
theorem dX7_areEnds_32 : decode cX7_areEnds 32 = .ok (.ireturn, 1) := by decide +kernel
theorem dX7_way_0 : decode cX7_way 0 = .ok (.aload_n 0, 1) := by decide +kernel
theorem dX7_way_1 : decode cX7_way 1 = .ok (.iload_n 1, 1) := by decide +kernel
theorem dX7_way_2 : decode cX7_way 2 = .ok (.iload_n 2, 1) := by decide +kernel
theorem dX7_way_3 : decode cX7_way 3 = .ok (.invokevirtual 135, 3) := by decide +kernel
theorem dX7_way_6 : decode cX7_way 6 = .ok (.ifCond .eq 25, 3) := by decide +kernel
theorem dX7_way_9 : decode cX7_way 9 = .ok (.iload_n 3, 1) := by decide +kernel
theorem dX7_way_10 : decode cX7_way 10 = .ok (.ifCond .eq 27, 3) := by decide +kernel
theorem dX7_way_13 : decode cX7_way 13 = .ok (.iload_n 3, 1) := by decide +kernel
theorem dX7_way_14 : decode cX7_way 14 = .ok (.bipush 10, 2) := by decide +kernel
theorem dX7_way_16 : decode cX7_way 16 = .ok (.if_icmp .eq 21, 3) := by decide +kernel
theorem dX7_way_19 : decode cX7_way 19 = .ok (.iload_n 3, 1) := by decide +kernel
theorem dX7_way_20 : decode cX7_way 20 = .ok (.bipush 100, 2) := by decide +kernel
theorem dX7_way_22 : decode cX7_way 22 = .ok (.if_icmp .eq 15, 3) := by decide +kernel
theorem dX7_way_25 : decode cX7_way 25 = .ok (.iload_n 3, 1) := by decide +kernel
theorem dX7_way_26 : decode cX7_way 26 = .ok (.bipush 110, 2) := by decide +kernel
theorem dX7_way_28 : decode cX7_way 28 = .ok (.if_icmp .eq 9, 3) := by decide +kernel
theorem dX7_way_31 : decode cX7_way 31 = .ok (.aload_n 0, 1) := by decide +kernel
theorem dX7_way_32 : decode cX7_way 32 = .ok (.iconst (-1), 1) := by decide +kernel
theorem dX7_way_33 : decode cX7_way 33 = .ok (.invokevirtual 118, 3) := by decide +kernel
theorem dX7_way_36 : decode cX7_way 36 = .ok (.ireturn, 1) := by decide +kernel
theorem dX7_way_37 : decode cX7_way 37 = .ok (.iload 4, 2) := by decide +kernel
theorem dX7_way_39 : decode cX7_way 39 = .ok (.iconst 1, 1) := by decide +kernel
theorem dX7_way_40 : decode cX7_way 40 = .ok (.if_icmp .ge 10, 3) := by decide +kernel
theorem dX7_way_43 : decode cX7_way 43 = .ok (.aload_n 0, 1) := by decide +kernel
theorem dX7_way_44 : decode cX7_way 44 = .ok (.bipush (-4), 2) := by decide +kernel
theorem dX7_way_46 : decode cX7_way 46 = .ok (.invokevirtual 118, 3) := by decide +kernel
theorem dX7_way_49 : decode cX7_way 49 = .ok (.ireturn, 1) := by decide +kernel
theorem dX7_way_50 : decode cX7_way 50 = .ok (.iload 4, 2) := by decide +kernel
theorem dX7_way_52 : decode cX7_way 52 = .ok (.bipush 100, 2) := by decide +kernel
theorem dX7_way_54 : decode cX7_way 54 = .ok (.if_icmp .gt 12, 3) := by decide +kernel
theorem dX7_way_57 : decode cX7_way 57 = .ok (.aload_n 0, 1) := by decide +kernel
theorem dX7_way_58 : decode cX7_way 58 = .ok (.getfield 132, 3) := by decide +kernel
theorem dX7_way_61 : decode cX7_way 61 = .ok (.bipush 24, 2) := by decide +kernel
theorem dX7_way_63 : decode cX7_way 63 = .ok (.if_icmp .ne 10, 3) := by decide +kernel
theorem dX7_way_66 : decode cX7_way 66 = .ok (.aload_n 0, 1) := by decide +kernel
theorem dX7_way_67 : decode cX7_way 67 = .ok (.bipush (-6), 2) := by decide +kernel
theorem dX7_way_69 : decode cX7_way 69 = .ok (.invokevirtual 118, 3) := by decide +kernel
theorem dX7_way_72 : decode cX7_way 72 = .ok (.ireturn, 1) := by decide +kernel
theorem dX7_way_73 : decode cX7_way 73 = .ok (.aload_n 0, 1) := by decide +kernel
theorem dX7_way_74 : decode cX7_way 74 = .ok (.iload_n 1, 1) := by decide +kernel
theorem dX7_way_75 : decode cX7_way 75 = .ok (.iload_n 3, 1) := by decide +kernel
theorem dX7_way_76 : decode cX7_way 76 = .ok (.bipush 100, 2) := by decide +kernel
theorem dX7_way_78 : decode cX7_way 78 = .ok (.idiv, 1) := by decide +kernel
theorem dX7_way_79 : decode cX7_way 79 = .ok (.iload_n 3, 1) := by decide +kernel
theorem dX7_way_80 : decode cX7_way 80 = .ok (.bipush 10, 2) := by decide +kernel
theorem dX7_way_82 : decode cX7_way 82 = .ok (.idiv, 1) := by decide +kernel
theorem dX7_way_83 : decode cX7_way 83 = .ok (.bipush 10, 2) := by decide +kernel
theorem dX7_way_85 : decode cX7_way 85 = .ok (.irem, 1) := by decide +kernel
theorem dX7_way_86 : decode cX7_way 86 = .ok (.invokevirtual 139, 3) := by decide +kernel
theorem dX7_way_89 : decode cX7_way 89 = .ok (.iload 4, 2) := by decide +kernel
theorem dX7_way_91 : decode cX7_way 91 = .ok (.iadd, 1) := by decide +kernel
theorem dX7_way_92 : decode cX7_way 92 = .ok (.bipush 100, 2) := by decide +kernel
theorem dX7_way_94 : decode cX7_way 94 = .ok (.if_icmp .le 10, 3) := by decide +kernel
theorem dX7_way_97 : decode cX7_way 97 = .ok (.aload_n 0, 1) := by decide +kernel
theorem dX7_way_98 : decode cX7_way 98 = .ok (.bipush (-3), 2) := by decide +kernel
theorem dX7_way_100 : decode cX7_way 100 = .ok (.invokevirtual 118, 3) := by decide +kernel
theorem dX7_way_103 : decode cX7_way 103 = .ok (.ireturn, 1) := by decide +kernel
theorem dX7_way_104 : decode cX7_way 104 = .ok (.aload_n 0, 1) := by decide +kernel
theorem dX7_way_105 : decode cX7_way 105 = .ok (.iload_n 1, 1) := by decide +kernel
theorem dX7_way_106 : decode cX7_way 106 = .ok (.iload_n 2, 1) := by decide +kernel
theorem dX7_way_107 : decode cX7_way 107 = .ok (.iload_n 3, 1) := by decide +kernel
theorem dX7_way_108 : decode cX7_way 108 = .ok (.bipush 100, 2) := by decide +kernel
theorem dX7_way_110 : decode cX7_way 110 = .ok (.idiv, 1) := by decide +kernel
theorem dX7_way_111 : decode cX7_way 111 = .ok (.iload_n 3, 1) := by decide +kernel
theorem dX7_way_112 : decode cX7_way 112 = .ok (.bipush 10, 2) := by decide +kernel
theorem dX7_way_114 : decode cX7_way 114 = .ok (.idiv, 1) := by decide +kernel
theorem dX7_way_115 : decode cX7_way 115 = .ok (.bipush 10, 2) := by decide +kernel
theorem dX7_way_117 : decode cX7_way 117 = .ok (.irem, 1) := by decide +kernel
theorem dX7_way_118 : decode cX7_way 118 = .ok (.iload 4, 2) := by decide +kernel
theorem dX7_way_120 : decode cX7_way 120 = .ok (.invokevirtual 143, 3) := by decide +kernel
theorem dX7_way_123 : decode cX7_way 123 = .ok (.aload_n 0, 1) := by decide +kernel
theorem dX7_way_124 : decode cX7_way 124 = .ok (.getfield 132, 3) := by decide +kernel
theorem dX7_way_127 : decode cX7_way 127 = .ok (.iconst 1, 1) := by decide +kernel
theorem dX7_way_128 : decode cX7_way 128 = .ok (.isub, 1) := by decide +kernel
theorem dX7_way_129 : decode cX7_way 129 = .ok (.ireturn, 1) := by decide +kernel
theorem dX7_shut_0 : decode cX7_shut 0 = .ok (.iload_n 1, 1) := by decide +kernel
theorem dX7_shut_1 : decode cX7_shut 1 = .ok (.i2l, 1) := by decide +kernel
theorem dX7_shut_2 : decode cX7_shut 2 = .ok (.lconst 0, 1) := by decide +kernel
theorem dX7_shut_3 : decode cX7_shut 3 = .ok (.aload_n 0, 1) := by decide +kernel
theorem dX7_shut_4 : decode cX7_shut 4 = .ok (.getfield 132, 3) := by decide +kernel
theorem dX7_shut_7 : decode cX7_shut 7 = .ok (.iconst 1, 1) := by decide +kernel
theorem dX7_shut_8 : decode cX7_shut 8 = .ok (.isub, 1) := by decide +kernel
theorem dX7_shut_9 : decode cX7_shut 9 = .ok (.i2l, 1) := by decide +kernel
theorem dX7_shut_10 : decode cX7_shut 10 = .ok (.invokestatic 114, 3) := by decide +kernel
theorem dX7_shut_13 : decode cX7_shut 13 = .ok (.ifCond .ne 9, 3) := by decide +kernel
theorem dX7_shut_16 : decode cX7_shut 16 = .ok (.aload_n 0, 1) := by decide +kernel
theorem dX7_shut_17 : decode cX7_shut 17 = .ok (.iconst (-1), 1) := by decide +kernel
theorem dX7_shut_18 : decode cX7_shut 18 = .ok (.invokevirtual 118, 3) := by decide +kernel
theorem dX7_shut_21 : decode cX7_shut 21 = .ok (.ireturn, 1) := by decide +kernel
theorem dX7_shut_22 : decode cX7_shut 22 = .ok (.aload_n 0, 1) := by decide +kernel
theorem dX7_shut_23 : decode cX7_shut 23 = .ok (.getfield 46, 3) := by decide +kernel
theorem dX7_shut_26 : decode cX7_shut 26 = .ok (.iload_n 1, 1) := by decide +kernel
