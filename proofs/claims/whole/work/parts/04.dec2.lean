theorem dX6_pays_110 : decode cX6_pays 110 = .ok (.isub, 1) := by decide +kernel
theorem dX6_pays_111 : decode cX6_pays 111 = .ok (.invokestatic 66, 3) := by decide +kernel
theorem dX6_pays_114 : decode cX6_pays 114 = .ok (.iinc 5 1, 3) := by decide +kernel
theorem dX6_pays_117 : decode cX6_pays 117 = .ok (.goto (-90), 3) := by decide +kernel
theorem dX6_pays_120 : decode cX6_pays 120 = .ok (.aload_n 1, 1) := by decide +kernel
theorem dX6_pays_121 : decode cX6_pays 121 = .ok (.bipush 7, 2) := by decide +kernel
theorem dX6_pays_123 : decode cX6_pays 123 = .ok (.dup2, 1) := by decide +kernel
theorem dX6_pays_124 : decode cX6_pays 124 = .ok (.iaload, 1) := by decide +kernel
theorem dX6_pays_125 : decode cX6_pays 125 = .ok (.iconst 1, 1) := by decide +kernel
theorem dX6_pays_126 : decode cX6_pays 126 = .ok (.iadd, 1) := by decide +kernel
theorem dX6_pays_127 : decode cX6_pays 127 = .ok (.iastore, 1) := by decide +kernel
theorem dX6_pays_128 : decode cX6_pays 128 = .ok (.aload_n 1, 1) := by decide +kernel
theorem dX6_pays_129 : decode cX6_pays 129 = .ok (.bipush 8, 2) := by decide +kernel
theorem dX6_pays_131 : decode cX6_pays 131 = .ok (.dup2, 1) := by decide +kernel
theorem dX6_pays_132 : decode cX6_pays 132 = .ok (.iaload, 1) := by decide +kernel
theorem dX6_pays_133 : decode cX6_pays 133 = .ok (.aload_n 1, 1) := by decide +kernel
theorem dX6_pays_134 : decode cX6_pays 134 = .ok (.iload_n 2, 1) := by decide +kernel
theorem dX6_pays_135 : decode cX6_pays 135 = .ok (.invokestatic 54, 3) := by decide +kernel
theorem dX6_pays_138 : decode cX6_pays 138 = .ok (.ifCond .le 7, 3) := by decide +kernel
theorem dX6_pays_141 : decode cX6_pays 141 = .ok (.iconst 1, 1) := by decide +kernel
theorem dX6_pays_142 : decode cX6_pays 142 = .ok (.goto 4, 3) := by decide +kernel
theorem dX6_pays_145 : decode cX6_pays 145 = .ok (.iconst 0, 1) := by decide +kernel
theorem dX6_pays_146 : decode cX6_pays 146 = .ok (.iadd, 1) := by decide +kernel
theorem dX6_pays_147 : decode cX6_pays 147 = .ok (.iastore, 1) := by decide +kernel
theorem dX6_pays_148 : decode cX6_pays 148 = .ok (.aload_n 1, 1) := by decide +kernel
theorem dX6_pays_149 : decode cX6_pays 149 = .ok (.bipush 9, 2) := by decide +kernel
theorem dX6_pays_151 : decode cX6_pays 151 = .ok (.dup2, 1) := by decide +kernel
theorem dX6_pays_152 : decode cX6_pays 152 = .ok (.iaload, 1) := by decide +kernel
theorem dX6_pays_153 : decode cX6_pays 153 = .ok (.iload 4, 2) := by decide +kernel
theorem dX6_pays_155 : decode cX6_pays 155 = .ok (.iadd, 1) := by decide +kernel
theorem dX6_pays_156 : decode cX6_pays 156 = .ok (.iastore, 1) := by decide +kernel
theorem dX6_pays_157 : decode cX6_pays 157 = .ok (.aload_n 1, 1) := by decide +kernel
theorem dX6_pays_158 : decode cX6_pays 158 = .ok (.iload_n 2, 1) := by decide +kernel
theorem dX6_pays_159 : decode cX6_pays 159 = .ok (.invokestatic 69, 3) := by decide +kernel
theorem dX6_pays_162 : decode cX6_pays 162 = .ok (.return_, 1) := by decide +kernel
theorem dX6_isLent_0 : decode cX6_isLent 0 = .ok (.aload_n 0, 1) := by decide +kernel
theorem dX6_isLent_1 : decode cX6_isLent 1 = .ok (.iconst 1, 1) := by decide +kernel
theorem dX6_isLent_2 : decode cX6_isLent 2 = .ok (.iaload, 1) := by decide +kernel
theorem dX6_isLent_3 : decode cX6_isLent 3 = .ok (.iconst 1, 1) := by decide +kernel
theorem dX6_isLent_4 : decode cX6_isLent 4 = .ok (.if_icmp .ne 17, 3) := by decide +kernel
theorem dX6_isLent_7 : decode cX6_isLent 7 = .ok (.aload_n 0, 1) := by decide +kernel
theorem dX6_isLent_8 : decode cX6_isLent 8 = .ok (.bipush 14, 2) := by decide +kernel
theorem dX6_isLent_10 : decode cX6_isLent 10 = .ok (.iload_n 1, 1) := by decide +kernel
theorem dX6_isLent_11 : decode cX6_isLent 11 = .ok (.iadd, 1) := by decide +kernel
theorem dX6_isLent_12 : decode cX6_isLent 12 = .ok (.iaload, 1) := by decide +kernel
theorem dX6_isLent_13 : decode cX6_isLent 13 = .ok (.iload_n 2, 1) := by decide +kernel
theorem dX6_isLent_14 : decode cX6_isLent 14 = .ok (.if_icmp .lt 7, 3) := by decide +kernel
theorem dX6_isLent_17 : decode cX6_isLent 17 = .ok (.iconst 1, 1) := by decide +kernel
theorem dX6_isLent_18 : decode cX6_isLent 18 = .ok (.goto 4, 3) := by decide +kernel
theorem dX6_isLent_21 : decode cX6_isLent 21 = .ok (.iconst 0, 1) := by decide +kernel
theorem dX6_isLent_22 : decode cX6_isLent 22 = .ok (.ireturn, 1) := by decide +kernel
theorem dX6_takes_0 : decode cX6_takes 0 = .ok (.aload_n 0, 1) := by decide +kernel
theorem dX6_takes_1 : decode cX6_takes 1 = .ok (.iload_n 2, 1) := by decide +kernel
theorem dX6_takes_2 : decode cX6_takes 2 = .ok (.iconst 1, 1) := by decide +kernel
theorem dX6_takes_3 : decode cX6_takes 3 = .ok (.invokestatic 43, 3) := by decide +kernel
theorem dX6_takes_6 : decode cX6_takes 6 = .ok (.istore_n 3, 1) := by decide +kernel
theorem dX6_takes_7 : decode cX6_takes 7 = .ok (.aload_n 0, 1) := by decide +kernel
theorem dX6_takes_8 : decode cX6_takes 8 = .ok (.iload_n 2, 1) := by decide +kernel
theorem dX6_takes_9 : decode cX6_takes 9 = .ok (.invokestatic 73, 3) := by decide +kernel
theorem dX6_takes_12 : decode cX6_takes 12 = .ok (.istore 4, 2) := by decide +kernel
theorem dX6_takes_14 : decode cX6_takes 14 = .ok (.aload_n 0, 1) := by decide +kernel
theorem dX6_takes_15 : decode cX6_takes 15 = .ok (.iload_n 1, 1) := by decide +kernel
theorem dX6_takes_16 : decode cX6_takes 16 = .ok (.bipush 8, 2) := by decide +kernel
theorem dX6_takes_18 : decode cX6_takes 18 = .ok (.iload_n 3, 1) := by decide +kernel
theorem dX6_takes_19 : decode cX6_takes 19 = .ok (.iadd, 1) := by decide +kernel
theorem dX6_takes_20 : decode cX6_takes 20 = .ok (.invokestatic 47, 3) := by decide +kernel
theorem dX6_takes_23 : decode cX6_takes 23 = .ok (.iload 4, 2) := by decide +kernel
theorem dX6_takes_25 : decode cX6_takes 25 = .ok (.if_icmp .lt 7, 3) := by decide +kernel
theorem dX6_takes_28 : decode cX6_takes 28 = .ok (.iconst 1, 1) := by decide +kernel
theorem dX6_takes_29 : decode cX6_takes 29 = .ok (.goto 4, 3) := by decide +kernel
theorem dX6_takes_32 : decode cX6_takes 32 = .ok (.iconst 0, 1) := by decide +kernel
theorem dX6_takes_33 : decode cX6_takes 33 = .ok (.istore 5, 2) := by decide +kernel
theorem dX6_takes_35 : decode cX6_takes 35 = .ok (.iload 5, 2) := by decide +kernel
theorem dX6_takes_37 : decode cX6_takes 37 = .ok (.ifCond .ne 15, 3) := by decide +kernel
theorem dX6_takes_40 : decode cX6_takes 40 = .ok (.aload_n 0, 1) := by decide +kernel
theorem dX6_takes_41 : decode cX6_takes 41 = .ok (.iload_n 3, 1) := by decide +kernel
theorem dX6_takes_42 : decode cX6_takes 42 = .ok (.iload 4, 2) := by decide +kernel
theorem dX6_takes_44 : decode cX6_takes 44 = .ok (.invokestatic 76, 3) := by decide +kernel
theorem dX6_takes_47 : decode cX6_takes 47 = .ok (.ifCond .ne 5, 3) := by decide +kernel
theorem dX6_takes_50 : decode cX6_takes 50 = .ok (.iconst 0, 1) := by decide +kernel
theorem dX6_takes_51 : decode cX6_takes 51 = .ok (.ireturn, 1) := by decide +kernel
theorem dX6_takes_52 : decode cX6_takes 52 = .ok (.iload 5, 2) := by decide +kernel
theorem dX6_takes_54 : decode cX6_takes 54 = .ok (.ifCond .eq 18, 3) := by decide +kernel
theorem dX6_takes_57 : decode cX6_takes 57 = .ok (.aload_n 0, 1) := by decide +kernel
theorem dX6_takes_58 : decode cX6_takes 58 = .ok (.iload_n 1, 1) := by decide +kernel
theorem dX6_takes_59 : decode cX6_takes 59 = .ok (.bipush 8, 2) := by decide +kernel
theorem dX6_takes_61 : decode cX6_takes 61 = .ok (.iload_n 3, 1) := by decide +kernel
theorem dX6_takes_62 : decode cX6_takes 62 = .ok (.iadd, 1) := by decide +kernel
theorem dX6_takes_63 : decode cX6_takes 63 = .ok (.iload 4, 2) := by decide +kernel
theorem dX6_takes_65 : decode cX6_takes 65 = .ok (.ineg, 1) := by decide +kernel
theorem dX6_takes_66 : decode cX6_takes 66 = .ok (.invokestatic 66, 3) := by decide +kernel
theorem dX6_takes_69 : decode cX6_takes 69 = .ok (.goto 31, 3) := by decide +kernel
theorem dX6_takes_72 : decode cX6_takes 72 = .ok (.aload_n 0, 1) := by decide +kernel
theorem dX6_takes_73 : decode cX6_takes 73 = .ok (.bipush 14, 2) := by decide +kernel
theorem dX6_takes_75 : decode cX6_takes 75 = .ok (.iload_n 3, 1) := by decide +kernel
theorem dX6_takes_76 : decode cX6_takes 76 = .ok (.iadd, 1) := by decide +kernel
theorem dX6_takes_77 : decode cX6_takes 77 = .ok (.dup2, 1) := by decide +kernel
theorem dX6_takes_78 : decode cX6_takes 78 = .ok (.iaload, 1) := by decide +kernel
theorem dX6_takes_79 : decode cX6_takes 79 = .ok (.iload 4, 2) := by decide +kernel
theorem dX6_takes_81 : decode cX6_takes 81 = .ok (.isub, 1) := by decide +kernel
theorem dX6_takes_82 : decode cX6_takes 82 = .ok (.iastore, 1) := by decide +kernel
theorem dX6_takes_83 : decode cX6_takes 83 = .ok (.aload_n 0, 1) := by decide +kernel
theorem dX6_takes_84 : decode cX6_takes 84 = .ok (.iload_n 1, 1) := by decide +kernel
theorem dX6_takes_85 : decode cX6_takes 85 = .ok (.iconst 3, 1) := by decide +kernel
theorem dX6_takes_86 : decode cX6_takes 86 = .ok (.iload 4, 2) := by decide +kernel
theorem dX6_takes_88 : decode cX6_takes 88 = .ok (.invokestatic 66, 3) := by decide +kernel
theorem dX6_takes_91 : decode cX6_takes 91 = .ok (.aload_n 0, 1) := by decide +kernel
theorem dX6_takes_92 : decode cX6_takes 92 = .ok (.iload_n 1, 1) := by decide +kernel
theorem dX6_takes_93 : decode cX6_takes 93 = .ok (.bipush 7, 2) := by decide +kernel
theorem dX6_takes_95 : decode cX6_takes 95 = .ok (.iload 4, 2) := by decide +kernel
theorem dX6_takes_97 : decode cX6_takes 97 = .ok (.invokestatic 66, 3) := by decide +kernel
theorem dX6_takes_100 : decode cX6_takes 100 = .ok (.aload_n 0, 1) := by decide +kernel
theorem dX6_takes_101 : decode cX6_takes 101 = .ok (.bipush 12, 2) := by decide +kernel
theorem dX6_takes_103 : decode cX6_takes 103 = .ok (.dup2, 1) := by decide +kernel
theorem dX6_takes_104 : decode cX6_takes 104 = .ok (.iaload, 1) := by decide +kernel
theorem dX6_takes_105 : decode cX6_takes 105 = .ok (.iload 4, 2) := by decide +kernel
theorem dX6_takes_107 : decode cX6_takes 107 = .ok (.iadd, 1) := by decide +kernel
theorem dX6_takes_108 : decode cX6_takes 108 = .ok (.iastore, 1) := by decide +kernel
theorem dX6_takes_109 : decode cX6_takes 109 = .ok (.iconst 1, 1) := by decide +kernel
theorem dX6_takes_110 : decode cX6_takes 110 = .ok (.ireturn, 1) := by decide +kernel
theorem dX6_makes_0 : decode cX6_makes 0 = .ok (.aload_n 0, 1) := by decide +kernel
theorem dX6_makes_1 : decode cX6_makes 1 = .ok (.iload_n 1, 1) := by decide +kernel
theorem dX6_makes_2 : decode cX6_makes 2 = .ok (.iconst 5, 1) := by decide +kernel
theorem dX6_makes_3 : decode cX6_makes 3 = .ok (.iconst 1, 1) := by decide +kernel
theorem dX6_makes_4 : decode cX6_makes 4 = .ok (.invokestatic 66, 3) := by decide +kernel
theorem dX6_makes_7 : decode cX6_makes 7 = .ok (.aload_n 0, 1) := by decide +kernel
theorem dX6_makes_8 : decode cX6_makes 8 = .ok (.bipush 10, 2) := by decide +kernel
theorem dX6_makes_10 : decode cX6_makes 10 = .ok (.dup2, 1) := by decide +kernel
theorem dX6_makes_11 : decode cX6_makes 11 = .ok (.iaload, 1) := by decide +kernel
theorem dX6_makes_12 : decode cX6_makes 12 = .ok (.iconst 1, 1) := by decide +kernel
theorem dX6_makes_13 : decode cX6_makes 13 = .ok (.iadd, 1) := by decide +kernel
theorem dX6_makes_14 : decode cX6_makes 14 = .ok (.iastore, 1) := by decide +kernel
theorem dX6_makes_15 : decode cX6_makes 15 = .ok (.aload_n 0, 1) := by decide +kernel
theorem dX6_makes_16 : decode cX6_makes 16 = .ok (.iload_n 1, 1) := by decide +kernel
theorem dX6_makes_17 : decode cX6_makes 17 = .ok (.iconst 2, 1) := by decide +kernel
theorem dX6_makes_18 : decode cX6_makes 18 = .ok (.invokestatic 47, 3) := by decide +kernel
theorem dX6_makes_21 : decode cX6_makes 21 = .ok (.ifCond .le 38, 3) := by decide +kernel
theorem dX6_makes_24 : decode cX6_makes 24 = .ok (.aload_n 0, 1) := by decide +kernel
theorem dX6_makes_25 : decode cX6_makes 25 = .ok (.iload_n 1, 1) := by decide +kernel
theorem dX6_makes_26 : decode cX6_makes 26 = .ok (.iconst 5, 1) := by decide +kernel
theorem dX6_makes_27 : decode cX6_makes 27 = .ok (.invokestatic 47, 3) := by decide +kernel
theorem dX6_makes_30 : decode cX6_makes 30 = .ok (.aload_n 0, 1) := by decide +kernel
theorem dX6_makes_31 : decode cX6_makes 31 = .ok (.iload_n 1, 1) := by decide +kernel
theorem dX6_makes_32 : decode cX6_makes 32 = .ok (.iconst 2, 1) := by decide +kernel
theorem dX6_makes_33 : decode cX6_makes 33 = .ok (.invokestatic 47, 3) := by decide +kernel
theorem dX6_makes_36 : decode cX6_makes 36 = .ok (.irem, 1) := by decide +kernel
theorem dX6_makes_37 : decode cX6_makes 37 = .ok (.ifCond .ne 22, 3) := by decide +kernel
theorem dX6_makes_40 : decode cX6_makes 40 = .ok (.aload_n 0, 1) := by decide +kernel
theorem dX6_makes_41 : decode cX6_makes 41 = .ok (.iload_n 1, 1) := by decide +kernel
theorem dX6_makes_42 : decode cX6_makes 42 = .ok (.bipush 6, 2) := by decide +kernel
theorem dX6_makes_44 : decode cX6_makes 44 = .ok (.iconst 1, 1) := by decide +kernel
theorem dX6_makes_45 : decode cX6_makes 45 = .ok (.invokestatic 66, 3) := by decide +kernel
theorem dX6_makes_48 : decode cX6_makes 48 = .ok (.aload_n 0, 1) := by decide +kernel
theorem dX6_makes_49 : decode cX6_makes 49 = .ok (.bipush 11, 2) := by decide +kernel
theorem dX6_makes_51 : decode cX6_makes 51 = .ok (.dup2, 1) := by decide +kernel
theorem dX6_makes_52 : decode cX6_makes 52 = .ok (.iaload, 1) := by decide +kernel
theorem dX6_makes_53 : decode cX6_makes 53 = .ok (.iconst 1, 1) := by decide +kernel
theorem dX6_makes_54 : decode cX6_makes 54 = .ok (.iadd, 1) := by decide +kernel
theorem dX6_makes_55 : decode cX6_makes 55 = .ok (.iastore, 1) := by decide +kernel
theorem dX6_makes_56 : decode cX6_makes 56 = .ok (.goto 21, 3) := by decide +kernel
theorem dX6_makes_59 : decode cX6_makes 59 = .ok (.aload_n 0, 1) := by decide +kernel
theorem dX6_makes_60 : decode cX6_makes 60 = .ok (.bipush 90, 2) := by decide +kernel
theorem dX6_makes_62 : decode cX6_makes 62 = .ok (.bipush 12, 2) := by decide +kernel
theorem dX6_makes_64 : decode cX6_makes 64 = .ok (.iload_n 2, 1) := by decide +kernel
theorem dX6_makes_65 : decode cX6_makes 65 = .ok (.imul, 1) := by decide +kernel
theorem dX6_makes_66 : decode cX6_makes 66 = .ok (.iadd, 1) := by decide +kernel
theorem dX6_makes_67 : decode cX6_makes 67 = .ok (.bipush 6, 2) := by decide +kernel
theorem dX6_makes_69 : decode cX6_makes 69 = .ok (.iadd, 1) := by decide +kernel
theorem dX6_makes_70 : decode cX6_makes 70 = .ok (.iload_n 1, 1) := by decide +kernel
theorem dX6_makes_71 : decode cX6_makes 71 = .ok (.iadd, 1) := by decide +kernel
theorem dX6_makes_72 : decode cX6_makes 72 = .ok (.dup2, 1) := by decide +kernel
theorem dX6_makes_73 : decode cX6_makes 73 = .ok (.iaload, 1) := by decide +kernel
theorem dX6_makes_74 : decode cX6_makes 74 = .ok (.iconst 1, 1) := by decide +kernel
theorem dX6_makes_75 : decode cX6_makes 75 = .ok (.iadd, 1) := by decide +kernel
theorem dX6_makes_76 : decode cX6_makes 76 = .ok (.iastore, 1) := by decide +kernel
theorem dX6_makes_77 : decode cX6_makes 77 = .ok (.return_, 1) := by decide +kernel
theorem dX6_weaves_0 : decode cX6_weaves 0 = .ok (.aload_n 1, 1) := by decide +kernel
theorem dX6_weaves_1 : decode cX6_weaves 1 = .ok (.iload_n 2, 1) := by decide +kernel
theorem dX6_weaves_2 : decode cX6_weaves 2 = .ok (.invokestatic 80, 3) := by decide +kernel
theorem dX6_weaves_5 : decode cX6_weaves 5 = .ok (.istore_n 3, 1) := by decide +kernel
theorem dX6_weaves_6 : decode cX6_weaves 6 = .ok (.iconst 0, 1) := by decide +kernel
theorem dX6_weaves_7 : decode cX6_weaves 7 = .ok (.istore 4, 2) := by decide +kernel
theorem dX6_weaves_9 : decode cX6_weaves 9 = .ok (.iload_n 3, 1) := by decide +kernel
theorem dX6_weaves_10 : decode cX6_weaves 10 = .ok (.iconst (-1), 1) := by decide +kernel
theorem dX6_weaves_11 : decode cX6_weaves 11 = .ok (.if_icmp .eq 7, 3) := by decide +kernel
theorem dX6_weaves_14 : decode cX6_weaves 14 = .ok (.iconst 1, 1) := by decide +kernel
theorem dX6_weaves_15 : decode cX6_weaves 15 = .ok (.goto 4, 3) := by decide +kernel
theorem dX6_weaves_18 : decode cX6_weaves 18 = .ok (.iconst 0, 1) := by decide +kernel
theorem dX6_weaves_19 : decode cX6_weaves 19 = .ok (.istore 5, 2) := by decide +kernel
theorem dX6_weaves_21 : decode cX6_weaves 21 = .ok (.iload 5, 2) := by decide +kernel
theorem dX6_weaves_23 : decode cX6_weaves 23 = .ok (.ifCond .eq 62, 3) := by decide +kernel
theorem dX6_weaves_26 : decode cX6_weaves 26 = .ok (.iload 4, 2) := by decide +kernel
theorem dX6_weaves_28 : decode cX6_weaves 28 = .ok (.aload_n 1, 1) := by decide +kernel
theorem dX6_weaves_29 : decode cX6_weaves 29 = .ok (.iload_n 2, 1) := by decide +kernel
theorem dX6_weaves_30 : decode cX6_weaves 30 = .ok (.iconst 1, 1) := by decide +kernel
theorem dX6_weaves_31 : decode cX6_weaves 31 = .ok (.invokestatic 47, 3) := by decide +kernel
theorem dX6_weaves_34 : decode cX6_weaves 34 = .ok (.if_icmp .ge 51, 3) := by decide +kernel
theorem dX6_weaves_37 : decode cX6_weaves 37 = .ok (.aload_n 1, 1) := by decide +kernel
theorem dX6_weaves_38 : decode cX6_weaves 38 = .ok (.iload_n 2, 1) := by decide +kernel
theorem dX6_weaves_39 : decode cX6_weaves 39 = .ok (.iload_n 3, 1) := by decide +kernel
theorem dX6_weaves_40 : decode cX6_weaves 40 = .ok (.invokestatic 83, 3) := by decide +kernel
theorem dX6_weaves_43 : decode cX6_weaves 43 = .ok (.istore 5, 2) := by decide +kernel
theorem dX6_weaves_45 : decode cX6_weaves 45 = .ok (.iload 5, 2) := by decide +kernel
theorem dX6_weaves_47 : decode cX6_weaves 47 = .ok (.ifCond .eq (-26), 3) := by decide +kernel
theorem dX6_weaves_50 : decode cX6_weaves 50 = .ok (.aload_n 1, 1) := by decide +kernel
theorem dX6_weaves_51 : decode cX6_weaves 51 = .ok (.iload_n 2, 1) := by decide +kernel
theorem dX6_weaves_52 : decode cX6_weaves 52 = .ok (.iload_n 3, 1) := by decide +kernel
theorem dX6_weaves_53 : decode cX6_weaves 53 = .ok (.invokestatic 86, 3) := by decide +kernel
theorem dX6_weaves_56 : decode cX6_weaves 56 = .ok (.iinc 4 1, 3) := by decide +kernel
theorem dX6_weaves_59 : decode cX6_weaves 59 = .ok (.aload_n 1, 1) := by decide +kernel
theorem dX6_weaves_60 : decode cX6_weaves 60 = .ok (.iload_n 3, 1) := by decide +kernel
theorem dX6_weaves_61 : decode cX6_weaves 61 = .ok (.invokestatic 90, 3) := by decide +kernel
theorem dX6_weaves_64 : decode cX6_weaves 64 = .ok (.aload_n 1, 1) := by decide +kernel
theorem dX6_weaves_65 : decode cX6_weaves 65 = .ok (.iload_n 3, 1) := by decide +kernel
theorem dX6_weaves_66 : decode cX6_weaves 66 = .ok (.iconst 3, 1) := by decide +kernel
theorem dX6_weaves_67 : decode cX6_weaves 67 = .ok (.invokestatic 43, 3) := by decide +kernel
theorem dX6_weaves_70 : decode cX6_weaves 70 = .ok (.if_icmp .ne (-49), 3) := by decide +kernel
theorem dX6_weaves_73 : decode cX6_weaves 73 = .ok (.aload_n 0, 1) := by decide +kernel
theorem dX6_weaves_74 : decode cX6_weaves 74 = .ok (.aload_n 1, 1) := by decide +kernel
theorem dX6_weaves_75 : decode cX6_weaves 75 = .ok (.iload_n 3, 1) := by decide +kernel
theorem dX6_weaves_76 : decode cX6_weaves 76 = .ok (.invokevirtual 93, 3) := by decide +kernel
theorem dX6_weaves_79 : decode cX6_weaves 79 = .ok (.iconst 0, 1) := by decide +kernel
theorem dX6_weaves_80 : decode cX6_weaves 80 = .ok (.istore 5, 2) := by decide +kernel
theorem dX6_weaves_82 : decode cX6_weaves 82 = .ok (.goto (-61), 3) := by decide +kernel
theorem dX6_weaves_85 : decode cX6_weaves 85 = .ok (.aload_n 1, 1) := by decide +kernel
theorem dX6_weaves_86 : decode cX6_weaves 86 = .ok (.bipush 13, 2) := by decide +kernel
theorem dX6_weaves_88 : decode cX6_weaves 88 = .ok (.dup2, 1) := by decide +kernel
theorem dX6_weaves_89 : decode cX6_weaves 89 = .ok (.iaload, 1) := by decide +kernel
theorem dX6_weaves_90 : decode cX6_weaves 90 = .ok (.iload 4, 2) := by decide +kernel
theorem dX6_weaves_92 : decode cX6_weaves 92 = .ok (.ifCond .ne 7, 3) := by decide +kernel
theorem dX6_weaves_95 : decode cX6_weaves 95 = .ok (.iconst 1, 1) := by decide +kernel
theorem dX6_weaves_96 : decode cX6_weaves 96 = .ok (.goto 4, 3) := by decide +kernel
theorem dX6_weaves_99 : decode cX6_weaves 99 = .ok (.iconst 0, 1) := by decide +kernel
theorem dX6_weaves_100 : decode cX6_weaves 100 = .ok (.iadd, 1) := by decide +kernel
theorem dX6_weaves_101 : decode cX6_weaves 101 = .ok (.iastore, 1) := by decide +kernel
theorem dX6_weaves_102 : decode cX6_weaves 102 = .ok (.return_, 1) := by decide +kernel
theorem dX6_hour_0 : decode cX6_hour 0 = .ok (.iconst 0, 1) := by decide +kernel
theorem dX6_hour_1 : decode cX6_hour 1 = .ok (.istore_n 2, 1) := by decide +kernel
theorem dX6_hour_2 : decode cX6_hour 2 = .ok (.iload_n 2, 1) := by decide +kernel
theorem dX6_hour_3 : decode cX6_hour 3 = .ok (.bipush 6, 2) := by decide +kernel
theorem dX6_hour_5 : decode cX6_hour 5 = .ok (.if_icmp .ge 24, 3) := by decide +kernel
theorem dX6_hour_8 : decode cX6_hour 8 = .ok (.aload_n 1, 1) := by decide +kernel
theorem dX6_hour_9 : decode cX6_hour 9 = .ok (.iload_n 2, 1) := by decide +kernel
theorem dX6_hour_10 : decode cX6_hour 10 = .ok (.iconst 0, 1) := by decide +kernel
theorem dX6_hour_11 : decode cX6_hour 11 = .ok (.invokestatic 47, 3) := by decide +kernel
theorem dX6_hour_14 : decode cX6_hour 14 = .ok (.ifCond .le 9, 3) := by decide +kernel
theorem dX6_hour_17 : decode cX6_hour 17 = .ok (.aload_n 0, 1) := by decide +kernel
theorem dX6_hour_18 : decode cX6_hour 18 = .ok (.aload_n 1, 1) := by decide +kernel
theorem dX6_hour_19 : decode cX6_hour 19 = .ok (.iload_n 2, 1) := by decide +kernel
theorem dX6_hour_20 : decode cX6_hour 20 = .ok (.invokevirtual 96, 3) := by decide +kernel
theorem dX6_hour_23 : decode cX6_hour 23 = .ok (.iinc 2 1, 3) := by decide +kernel
theorem dX6_hour_26 : decode cX6_hour 26 = .ok (.goto (-24), 3) := by decide +kernel
theorem dX6_hour_29 : decode cX6_hour 29 = .ok (.aload_n 1, 1) := by decide +kernel
theorem dX6_hour_30 : decode cX6_hour 30 = .ok (.iconst 4, 1) := by decide +kernel
theorem dX6_hour_31 : decode cX6_hour 31 = .ok (.dup2, 1) := by decide +kernel
theorem dX6_hour_32 : decode cX6_hour 32 = .ok (.iaload, 1) := by decide +kernel
theorem dX6_hour_33 : decode cX6_hour 33 = .ok (.iconst 1, 1) := by decide +kernel
theorem dX6_hour_34 : decode cX6_hour 34 = .ok (.iadd, 1) := by decide +kernel
theorem dX6_hour_35 : decode cX6_hour 35 = .ok (.iastore, 1) := by decide +kernel
theorem dX6_hour_36 : decode cX6_hour 36 = .ok (.return_, 1) := by decide +kernel
theorem dX6_hours_0 : decode cX6_hours 0 = .ok (.iconst 0, 1) := by decide +kernel
theorem dX6_hours_1 : decode cX6_hours 1 = .ok (.istore_n 3, 1) := by decide +kernel
theorem dX6_hours_2 : decode cX6_hours 2 = .ok (.iload_n 3, 1) := by decide +kernel
theorem dX6_hours_3 : decode cX6_hours 3 = .ok (.iload_n 2, 1) := by decide +kernel
theorem dX6_hours_4 : decode cX6_hours 4 = .ok (.if_icmp .ge 14, 3) := by decide +kernel
theorem dX6_hours_7 : decode cX6_hours 7 = .ok (.aload_n 0, 1) := by decide +kernel
theorem dX6_hours_8 : decode cX6_hours 8 = .ok (.aload_n 1, 1) := by decide +kernel
theorem dX6_hours_9 : decode cX6_hours 9 = .ok (.invokevirtual 99, 3) := by decide +kernel
theorem dX6_hours_12 : decode cX6_hours 12 = .ok (.iinc 3 1, 3) := by decide +kernel
theorem dX6_hours_15 : decode cX6_hours 15 = .ok (.goto (-13), 3) := by decide +kernel
theorem dX6_hours_18 : decode cX6_hours 18 = .ok (.return_, 1) := by decide +kernel
theorem dX6_loom_0 : decode cX6_loom 0 = .ok (.aload_n 0, 1) := by decide +kernel
theorem dX6_loom_1 : decode cX6_loom 1 = .ok (.iconst 0, 1) := by decide +kernel
theorem dX6_loom_2 : decode cX6_loom 2 = .ok (.putfield 28, 3) := by decide +kernel
theorem dX6_loom_5 : decode cX6_loom 5 = .ok (.iload_n 1, 1) := by decide +kernel
theorem dX6_loom_6 : decode cX6_loom 6 = .ok (.invokestatic 103, 3) := by decide +kernel
theorem dX6_loom_9 : decode cX6_loom 9 = .ok (.ifCond .ne 9, 3) := by decide +kernel
theorem dX6_loom_12 : decode cX6_loom 12 = .ok (.aload_n 0, 1) := by decide +kernel
theorem dX6_loom_13 : decode cX6_loom 13 = .ok (.iconst 1, 1) := by decide +kernel
theorem dX6_loom_14 : decode cX6_loom 14 = .ok (.invokevirtual 39, 3) := by decide +kernel
theorem dX6_loom_17 : decode cX6_loom 17 = .ok (.ireturn, 1) := by decide +kernel
theorem dX6_loom_18 : decode cX6_loom 18 = .ok (.iload_n 2, 1) := by decide +kernel
theorem dX6_loom_19 : decode cX6_loom 19 = .ok (.ifCond .eq 42, 3) := by decide +kernel
theorem dX6_loom_22 : decode cX6_loom 22 = .ok (.iload_n 2, 1) := by decide +kernel
theorem dX6_loom_23 : decode cX6_loom 23 = .ok (.bipush 40, 2) := by decide +kernel
theorem dX6_loom_25 : decode cX6_loom 25 = .ok (.sipush 200, 3) := by decide +kernel
theorem dX6_loom_28 : decode cX6_loom 28 = .ok (.invokestatic 32, 3) := by decide +kernel
theorem dX6_loom_31 : decode cX6_loom 31 = .ok (.ifCond .eq 24, 3) := by decide +kernel
theorem dX6_loom_34 : decode cX6_loom 34 = .ok (.iload_n 3, 1) := by decide +kernel
theorem dX6_loom_35 : decode cX6_loom 35 = .ok (.iconst 1, 1) := by decide +kernel
theorem dX6_loom_36 : decode cX6_loom 36 = .ok (.bipush 9, 2) := by decide +kernel
theorem dX6_loom_38 : decode cX6_loom 38 = .ok (.invokestatic 32, 3) := by decide +kernel
theorem dX6_loom_41 : decode cX6_loom 41 = .ok (.ifCond .eq 14, 3) := by decide +kernel
theorem dX6_loom_44 : decode cX6_loom 44 = .ok (.iload 4, 2) := by decide +kernel
theorem dX6_loom_46 : decode cX6_loom 46 = .ok (.iconst 0, 1) := by decide +kernel
theorem dX6_loom_47 : decode cX6_loom 47 = .ok (.bipush 99, 2) := by decide +kernel
theorem dX6_loom_49 : decode cX6_loom 49 = .ok (.invokestatic 32, 3) := by decide +kernel
theorem dX6_loom_52 : decode cX6_loom 52 = .ok (.ifCond .ne 9, 3) := by decide +kernel
theorem dX6_loom_55 : decode cX6_loom 55 = .ok (.aload_n 0, 1) := by decide +kernel
theorem dX6_loom_56 : decode cX6_loom 56 = .ok (.iconst 2, 1) := by decide +kernel
theorem dX6_loom_57 : decode cX6_loom 57 = .ok (.invokevirtual 39, 3) := by decide +kernel
theorem dX6_loom_60 : decode cX6_loom 60 = .ok (.ireturn, 1) := by decide +kernel
theorem dX6_loom_61 : decode cX6_loom 61 = .ok (.aload_n 0, 1) := by decide +kernel
theorem dX6_loom_62 : decode cX6_loom 62 = .ok (.invokevirtual 107, 3) := by decide +kernel
theorem dX6_loom_65 : decode cX6_loom 65 = .ok (.bipush 18, 2) := by decide +kernel
theorem dX6_loom_67 : decode cX6_loom 67 = .ok (.bipush 12, 2) := by decide +kernel
theorem dX6_loom_69 : decode cX6_loom 69 = .ok (.iload_n 1, 1) := by decide +kernel
theorem dX6_loom_70 : decode cX6_loom 70 = .ok (.imul, 1) := by decide +kernel
theorem dX6_loom_71 : decode cX6_loom 71 = .ok (.iadd, 1) := by decide +kernel
theorem dX6_loom_72 : decode cX6_loom 72 = .ok (.istore 5, 2) := by decide +kernel
theorem dX6_loom_74 : decode cX6_loom 74 = .ok (.aload_n 0, 1) := by decide +kernel
theorem dX6_loom_75 : decode cX6_loom 75 = .ok (.getfield 7, 3) := by decide +kernel
theorem dX6_loom_78 : decode cX6_loom 78 = .ok (.iload 5, 2) := by decide +kernel
theorem dX6_loom_80 : decode cX6_loom 80 = .ok (.iaload, 1) := by decide +kernel
theorem dX6_loom_81 : decode cX6_loom 81 = .ok (.istore 6, 2) := by decide +kernel
theorem dX6_loom_83 : decode cX6_loom 83 = .ok (.aload_n 0, 1) := by decide +kernel
theorem dX6_loom_84 : decode cX6_loom 84 = .ok (.getfield 7, 3) := by decide +kernel
theorem dX6_loom_87 : decode cX6_loom 87 = .ok (.iload 5, 2) := by decide +kernel
theorem dX6_loom_89 : decode cX6_loom 89 = .ok (.iconst 0, 1) := by decide +kernel
theorem dX6_loom_90 : decode cX6_loom 90 = .ok (.iadd, 1) := by decide +kernel
theorem dX6_loom_91 : decode cX6_loom 91 = .ok (.iload_n 2, 1) := by decide +kernel
theorem dX6_loom_92 : decode cX6_loom 92 = .ok (.iastore, 1) := by decide +kernel
theorem dX6_loom_93 : decode cX6_loom 93 = .ok (.aload_n 0, 1) := by decide +kernel
theorem dX6_loom_94 : decode cX6_loom 94 = .ok (.getfield 7, 3) := by decide +kernel
theorem dX6_loom_97 : decode cX6_loom 97 = .ok (.iload 5, 2) := by decide +kernel
theorem dX6_loom_99 : decode cX6_loom 99 = .ok (.iconst 1, 1) := by decide +kernel
theorem dX6_loom_100 : decode cX6_loom 100 = .ok (.iadd, 1) := by decide +kernel
theorem dX6_loom_101 : decode cX6_loom 101 = .ok (.iload_n 2, 1) := by decide +kernel
theorem dX6_loom_102 : decode cX6_loom 102 = .ok (.ifCond .ne 7, 3) := by decide +kernel
theorem dX6_loom_105 : decode cX6_loom 105 = .ok (.iconst 0, 1) := by decide +kernel
theorem dX6_loom_106 : decode cX6_loom 106 = .ok (.goto 4, 3) := by decide +kernel
theorem dX6_loom_109 : decode cX6_loom 109 = .ok (.iload_n 3, 1) := by decide +kernel
theorem dX6_loom_110 : decode cX6_loom 110 = .ok (.iastore, 1) := by decide +kernel
theorem dX6_loom_111 : decode cX6_loom 111 = .ok (.aload_n 0, 1) := by decide +kernel
theorem dX6_loom_112 : decode cX6_loom 112 = .ok (.getfield 7, 3) := by decide +kernel
theorem dX6_loom_115 : decode cX6_loom 115 = .ok (.iload 5, 2) := by decide +kernel
theorem dX6_loom_117 : decode cX6_loom 117 = .ok (.iconst 2, 1) := by decide +kernel
theorem dX6_loom_118 : decode cX6_loom 118 = .ok (.iadd, 1) := by decide +kernel
theorem dX6_loom_119 : decode cX6_loom 119 = .ok (.iload_n 2, 1) := by decide +kernel
theorem dX6_loom_120 : decode cX6_loom 120 = .ok (.ifCond .ne 7, 3) := by decide +kernel
theorem dX6_loom_123 : decode cX6_loom 123 = .ok (.iconst 0, 1) := by decide +kernel
theorem dX6_loom_124 : decode cX6_loom 124 = .ok (.goto 5, 3) := by decide +kernel
theorem dX6_loom_127 : decode cX6_loom 127 = .ok (.iload 4, 2) := by decide +kernel
theorem dX6_loom_129 : decode cX6_loom 129 = .ok (.iastore, 1) := by decide +kernel
theorem dX6_loom_130 : decode cX6_loom 130 = .ok (.iload 6, 2) := by decide +kernel
theorem dX6_loom_132 : decode cX6_loom 132 = .ok (.ireturn, 1) := by decide +kernel
theorem dX6_yarn_0 : decode cX6_yarn 0 = .ok (.aload_n 0, 1) := by decide +kernel
theorem dX6_yarn_1 : decode cX6_yarn 1 = .ok (.iconst 0, 1) := by decide +kernel
theorem dX6_yarn_2 : decode cX6_yarn 2 = .ok (.putfield 28, 3) := by decide +kernel
theorem dX6_yarn_5 : decode cX6_yarn 5 = .ok (.iload_n 1, 1) := by decide +kernel
theorem dX6_yarn_6 : decode cX6_yarn 6 = .ok (.invokestatic 103, 3) := by decide +kernel
theorem dX6_yarn_9 : decode cX6_yarn 9 = .ok (.ifCond .eq 10, 3) := by decide +kernel
theorem dX6_yarn_12 : decode cX6_yarn 12 = .ok (.iload_n 2, 1) := by decide +kernel
theorem dX6_yarn_13 : decode cX6_yarn 13 = .ok (.invokestatic 110, 3) := by decide +kernel
theorem dX6_yarn_16 : decode cX6_yarn 16 = .ok (.ifCond .ne 9, 3) := by decide +kernel
theorem dX6_yarn_19 : decode cX6_yarn 19 = .ok (.aload_n 0, 1) := by decide +kernel
theorem dX6_yarn_20 : decode cX6_yarn 20 = .ok (.iconst 1, 1) := by decide +kernel
theorem dX6_yarn_21 : decode cX6_yarn 21 = .ok (.invokevirtual 39, 3) := by decide +kernel
theorem dX6_yarn_24 : decode cX6_yarn 24 = .ok (.ireturn, 1) := by decide +kernel
theorem dX6_yarn_25 : decode cX6_yarn 25 = .ok (.iload_n 3, 1) := by decide +kernel
theorem dX6_yarn_26 : decode cX6_yarn 26 = .ok (.sipush (-9999), 3) := by decide +kernel
theorem dX6_yarn_29 : decode cX6_yarn 29 = .ok (.sipush 9999, 3) := by decide +kernel
theorem dX6_yarn_32 : decode cX6_yarn 32 = .ok (.invokestatic 32, 3) := by decide +kernel
theorem dX6_yarn_35 : decode cX6_yarn 35 = .ok (.ifCond .ne 9, 3) := by decide +kernel
theorem dX6_yarn_38 : decode cX6_yarn 38 = .ok (.aload_n 0, 1) := by decide +kernel
theorem dX6_yarn_39 : decode cX6_yarn 39 = .ok (.iconst 2, 1) := by decide +kernel
theorem dX6_yarn_40 : decode cX6_yarn 40 = .ok (.invokevirtual 39, 3) := by decide +kernel
theorem dX6_yarn_43 : decode cX6_yarn 43 = .ok (.ireturn, 1) := by decide +kernel
theorem dX6_yarn_44 : decode cX6_yarn 44 = .ok (.aload_n 0, 1) := by decide +kernel
theorem dX6_yarn_45 : decode cX6_yarn 45 = .ok (.getfield 7, 3) := by decide +kernel
theorem dX6_yarn_48 : decode cX6_yarn 48 = .ok (.iload_n 1, 1) := by decide +kernel
theorem dX6_yarn_49 : decode cX6_yarn 49 = .ok (.bipush 8, 2) := by decide +kernel
theorem dX6_yarn_51 : decode cX6_yarn 51 = .ok (.iload_n 2, 1) := by decide +kernel
theorem dX6_yarn_52 : decode cX6_yarn 52 = .ok (.iadd, 1) := by decide +kernel
theorem dX6_yarn_53 : decode cX6_yarn 53 = .ok (.invokestatic 47, 3) := by decide +kernel
theorem dX6_yarn_56 : decode cX6_yarn 56 = .ok (.iload_n 3, 1) := by decide +kernel
theorem dX6_yarn_57 : decode cX6_yarn 57 = .ok (.iadd, 1) := by decide +kernel
theorem dX6_yarn_58 : decode cX6_yarn 58 = .ok (.iconst 0, 1) := by decide +kernel
theorem dX6_yarn_59 : decode cX6_yarn 59 = .ok (.sipush 9999, 3) := by decide +kernel
theorem dX6_yarn_62 : decode cX6_yarn 62 = .ok (.invokestatic 32, 3) := by decide +kernel
theorem dX6_yarn_65 : decode cX6_yarn 65 = .ok (.ifCond .ne 9, 3) := by decide +kernel
theorem dX6_yarn_68 : decode cX6_yarn 68 = .ok (.aload_n 0, 1) := by decide +kernel
theorem dX6_yarn_69 : decode cX6_yarn 69 = .ok (.iconst 3, 1) := by decide +kernel
theorem dX6_yarn_70 : decode cX6_yarn 70 = .ok (.invokevirtual 39, 3) := by decide +kernel
theorem dX6_yarn_73 : decode cX6_yarn 73 = .ok (.ireturn, 1) := by decide +kernel
theorem dX6_yarn_74 : decode cX6_yarn 74 = .ok (.aload_n 0, 1) := by decide +kernel
theorem dX6_yarn_75 : decode cX6_yarn 75 = .ok (.invokevirtual 107, 3) := by decide +kernel
theorem dX6_yarn_78 : decode cX6_yarn 78 = .ok (.aload_n 0, 1) := by decide +kernel
theorem dX6_yarn_79 : decode cX6_yarn 79 = .ok (.getfield 7, 3) := by decide +kernel
theorem dX6_yarn_82 : decode cX6_yarn 82 = .ok (.iload_n 1, 1) := by decide +kernel
theorem dX6_yarn_83 : decode cX6_yarn 83 = .ok (.bipush 8, 2) := by decide +kernel
theorem dX6_yarn_85 : decode cX6_yarn 85 = .ok (.iload_n 2, 1) := by decide +kernel
theorem dX6_yarn_86 : decode cX6_yarn 86 = .ok (.iadd, 1) := by decide +kernel
theorem dX6_yarn_87 : decode cX6_yarn 87 = .ok (.iload_n 3, 1) := by decide +kernel
theorem dX6_yarn_88 : decode cX6_yarn 88 = .ok (.invokestatic 66, 3) := by decide +kernel
theorem dX6_yarn_91 : decode cX6_yarn 91 = .ok (.aload_n 0, 1) := by decide +kernel
theorem dX6_yarn_92 : decode cX6_yarn 92 = .ok (.getfield 7, 3) := by decide +kernel
theorem dX6_yarn_95 : decode cX6_yarn 95 = .ok (.iload_n 1, 1) := by decide +kernel
theorem dX6_yarn_96 : decode cX6_yarn 96 = .ok (.bipush 8, 2) := by decide +kernel
theorem dX6_yarn_98 : decode cX6_yarn 98 = .ok (.iload_n 2, 1) := by decide +kernel
theorem dX6_yarn_99 : decode cX6_yarn 99 = .ok (.iadd, 1) := by decide +kernel
theorem dX6_yarn_100 : decode cX6_yarn 100 = .ok (.invokestatic 47, 3) := by decide +kernel
theorem dX6_yarn_103 : decode cX6_yarn 103 = .ok (.ireturn, 1) := by decide +kernel
theorem dX6_store_0 : decode cX6_store 0 = .ok (.aload_n 0, 1) := by decide +kernel
theorem dX6_store_1 : decode cX6_store 1 = .ok (.iconst 0, 1) := by decide +kernel
theorem dX6_store_2 : decode cX6_store 2 = .ok (.putfield 28, 3) := by decide +kernel
theorem dX6_store_5 : decode cX6_store 5 = .ok (.iload_n 1, 1) := by decide +kernel
theorem dX6_store_6 : decode cX6_store 6 = .ok (.invokestatic 110, 3) := by decide +kernel
theorem dX6_store_9 : decode cX6_store 9 = .ok (.ifCond .ne 9, 3) := by decide +kernel
theorem dX6_store_12 : decode cX6_store 12 = .ok (.aload_n 0, 1) := by decide +kernel
theorem dX6_store_13 : decode cX6_store 13 = .ok (.iconst 1, 1) := by decide +kernel
theorem dX6_store_14 : decode cX6_store 14 = .ok (.invokevirtual 39, 3) := by decide +kernel
theorem dX6_store_17 : decode cX6_store 17 = .ok (.ireturn, 1) := by decide +kernel
theorem dX6_store_18 : decode cX6_store 18 = .ok (.iload_n 2, 1) := by decide +kernel
theorem dX6_store_19 : decode cX6_store 19 = .ok (.iconst 1, 1) := by decide +kernel
theorem dX6_store_20 : decode cX6_store 20 = .ok (.sipush 9999, 3) := by decide +kernel
theorem dX6_store_23 : decode cX6_store 23 = .ok (.invokestatic 32, 3) := by decide +kernel
theorem dX6_store_26 : decode cX6_store 26 = .ok (.ifCond .ne 9, 3) := by decide +kernel
theorem dX6_store_29 : decode cX6_store 29 = .ok (.aload_n 0, 1) := by decide +kernel
theorem dX6_store_30 : decode cX6_store 30 = .ok (.iconst 2, 1) := by decide +kernel
theorem dX6_store_31 : decode cX6_store 31 = .ok (.invokevirtual 39, 3) := by decide +kernel
theorem dX6_store_34 : decode cX6_store 34 = .ok (.ireturn, 1) := by decide +kernel
theorem dX6_store_35 : decode cX6_store 35 = .ok (.aload_n 0, 1) := by decide +kernel
theorem dX6_store_36 : decode cX6_store 36 = .ok (.getfield 7, 3) := by decide +kernel
theorem dX6_store_39 : decode cX6_store 39 = .ok (.bipush 14, 2) := by decide +kernel
theorem dX6_store_41 : decode cX6_store 41 = .ok (.iload_n 1, 1) := by decide +kernel
theorem dX6_store_42 : decode cX6_store 42 = .ok (.iadd, 1) := by decide +kernel
theorem dX6_store_43 : decode cX6_store 43 = .ok (.iaload, 1) := by decide +kernel
theorem dX6_store_44 : decode cX6_store 44 = .ok (.iload_n 2, 1) := by decide +kernel
theorem dX6_store_45 : decode cX6_store 45 = .ok (.iadd, 1) := by decide +kernel
theorem dX6_store_46 : decode cX6_store 46 = .ok (.ldc 113, 2) := by decide +kernel
theorem dX6_store_48 : decode cX6_store 48 = .ok (.if_icmp .le 9, 3) := by decide +kernel
theorem dX6_store_51 : decode cX6_store 51 = .ok (.aload_n 0, 1) := by decide +kernel
theorem dX6_store_52 : decode cX6_store 52 = .ok (.iconst 3, 1) := by decide +kernel
theorem dX6_store_53 : decode cX6_store 53 = .ok (.invokevirtual 39, 3) := by decide +kernel
theorem dX6_store_56 : decode cX6_store 56 = .ok (.ireturn, 1) := by decide +kernel
theorem dX6_store_57 : decode cX6_store 57 = .ok (.aload_n 0, 1) := by decide +kernel
theorem dX6_store_58 : decode cX6_store 58 = .ok (.invokevirtual 107, 3) := by decide +kernel
theorem dX6_store_61 : decode cX6_store 61 = .ok (.aload_n 0, 1) := by decide +kernel
theorem dX6_store_62 : decode cX6_store 62 = .ok (.getfield 7, 3) := by decide +kernel
theorem dX6_store_65 : decode cX6_store 65 = .ok (.bipush 14, 2) := by decide +kernel
theorem dX6_store_67 : decode cX6_store 67 = .ok (.iload_n 1, 1) := by decide +kernel
theorem dX6_store_68 : decode cX6_store 68 = .ok (.iadd, 1) := by decide +kernel
theorem dX6_store_69 : decode cX6_store 69 = .ok (.dup2, 1) := by decide +kernel
theorem dX6_store_70 : decode cX6_store 70 = .ok (.iaload, 1) := by decide +kernel
theorem dX6_store_71 : decode cX6_store 71 = .ok (.iload_n 2, 1) := by decide +kernel
theorem dX6_store_72 : decode cX6_store 72 = .ok (.iadd, 1) := by decide +kernel
theorem dX6_store_73 : decode cX6_store 73 = .ok (.iastore, 1) := by decide +kernel
theorem dX6_store_74 : decode cX6_store 74 = .ok (.aload_n 0, 1) := by decide +kernel
theorem dX6_store_75 : decode cX6_store 75 = .ok (.getfield 7, 3) := by decide +kernel
theorem dX6_store_78 : decode cX6_store 78 = .ok (.bipush 14, 2) := by decide +kernel
theorem dX6_store_80 : decode cX6_store 80 = .ok (.iload_n 1, 1) := by decide +kernel
theorem dX6_store_81 : decode cX6_store 81 = .ok (.iadd, 1) := by decide +kernel
theorem dX6_store_82 : decode cX6_store 82 = .ok (.iaload, 1) := by decide +kernel
theorem dX6_store_83 : decode cX6_store 83 = .ok (.ireturn, 1) := by decide +kernel
theorem dX6_give_0 : decode cX6_give 0 = .ok (.aload_n 0, 1) := by decide +kernel
theorem dX6_give_1 : decode cX6_give 1 = .ok (.iconst 0, 1) := by decide +kernel
theorem dX6_give_2 : decode cX6_give 2 = .ok (.putfield 28, 3) := by decide +kernel
theorem dX6_give_5 : decode cX6_give 5 = .ok (.iload_n 1, 1) := by decide +kernel
theorem dX6_give_6 : decode cX6_give 6 = .ok (.invokestatic 103, 3) := by decide +kernel
theorem dX6_give_9 : decode cX6_give 9 = .ok (.ifCond .eq 17, 3) := by decide +kernel
theorem dX6_give_12 : decode cX6_give 12 = .ok (.iload_n 2, 1) := by decide +kernel
theorem dX6_give_13 : decode cX6_give 13 = .ok (.invokestatic 103, 3) := by decide +kernel
theorem dX6_give_16 : decode cX6_give 16 = .ok (.ifCond .eq 10, 3) := by decide +kernel
theorem dX6_give_19 : decode cX6_give 19 = .ok (.iload_n 3, 1) := by decide +kernel
theorem dX6_give_20 : decode cX6_give 20 = .ok (.invokestatic 110, 3) := by decide +kernel
theorem dX6_give_23 : decode cX6_give 23 = .ok (.ifCond .ne 9, 3) := by decide +kernel
theorem dX6_give_26 : decode cX6_give 26 = .ok (.aload_n 0, 1) := by decide +kernel
theorem dX6_give_27 : decode cX6_give 27 = .ok (.iconst 1, 1) := by decide +kernel
theorem dX6_give_28 : decode cX6_give 28 = .ok (.invokevirtual 39, 3) := by decide +kernel
theorem dX6_give_31 : decode cX6_give 31 = .ok (.ireturn, 1) := by decide +kernel
theorem dX6_give_32 : decode cX6_give 32 = .ok (.iload_n 1, 1) := by decide +kernel
theorem dX6_give_33 : decode cX6_give 33 = .ok (.iload_n 2, 1) := by decide +kernel
theorem dX6_give_34 : decode cX6_give 34 = .ok (.if_icmp .eq 15, 3) := by decide +kernel
theorem dX6_give_37 : decode cX6_give 37 = .ok (.iload 4, 2) := by decide +kernel
theorem dX6_give_39 : decode cX6_give 39 = .ok (.iconst 1, 1) := by decide +kernel
theorem dX6_give_40 : decode cX6_give 40 = .ok (.sipush 9999, 3) := by decide +kernel
theorem dX6_give_43 : decode cX6_give 43 = .ok (.invokestatic 32, 3) := by decide +kernel
theorem dX6_give_46 : decode cX6_give 46 = .ok (.ifCond .ne 9, 3) := by decide +kernel
theorem dX6_give_49 : decode cX6_give 49 = .ok (.aload_n 0, 1) := by decide +kernel
theorem dX6_give_50 : decode cX6_give 50 = .ok (.iconst 2, 1) := by decide +kernel
theorem dX6_give_51 : decode cX6_give 51 = .ok (.invokevirtual 39, 3) := by decide +kernel
theorem dX6_give_54 : decode cX6_give 54 = .ok (.ireturn, 1) := by decide +kernel
theorem dX6_give_55 : decode cX6_give 55 = .ok (.aload_n 0, 1) := by decide +kernel
theorem dX6_give_56 : decode cX6_give 56 = .ok (.getfield 7, 3) := by decide +kernel
theorem dX6_give_59 : decode cX6_give 59 = .ok (.iload_n 1, 1) := by decide +kernel
theorem dX6_give_60 : decode cX6_give 60 = .ok (.bipush 8, 2) := by decide +kernel
theorem dX6_give_62 : decode cX6_give 62 = .ok (.iload_n 3, 1) := by decide +kernel
theorem dX6_give_63 : decode cX6_give 63 = .ok (.iadd, 1) := by decide +kernel
theorem dX6_give_64 : decode cX6_give 64 = .ok (.invokestatic 47, 3) := by decide +kernel
theorem dX6_give_67 : decode cX6_give 67 = .ok (.iload 4, 2) := by decide +kernel
theorem dX6_give_69 : decode cX6_give 69 = .ok (.if_icmp .lt 24, 3) := by decide +kernel
theorem dX6_give_72 : decode cX6_give 72 = .ok (.aload_n 0, 1) := by decide +kernel
theorem dX6_give_73 : decode cX6_give 73 = .ok (.getfield 7, 3) := by decide +kernel
theorem dX6_give_76 : decode cX6_give 76 = .ok (.iload_n 2, 1) := by decide +kernel
theorem dX6_give_77 : decode cX6_give 77 = .ok (.bipush 8, 2) := by decide +kernel
theorem dX6_give_79 : decode cX6_give 79 = .ok (.iload_n 3, 1) := by decide +kernel
theorem dX6_give_80 : decode cX6_give 80 = .ok (.iadd, 1) := by decide +kernel
theorem dX6_give_81 : decode cX6_give 81 = .ok (.invokestatic 47, 3) := by decide +kernel
theorem dX6_give_84 : decode cX6_give 84 = .ok (.iload 4, 2) := by decide +kernel
theorem dX6_give_86 : decode cX6_give 86 = .ok (.iadd, 1) := by decide +kernel
theorem dX6_give_87 : decode cX6_give 87 = .ok (.sipush 9999, 3) := by decide +kernel
theorem dX6_give_90 : decode cX6_give 90 = .ok (.if_icmp .le 9, 3) := by decide +kernel
theorem dX6_give_93 : decode cX6_give 93 = .ok (.aload_n 0, 1) := by decide +kernel
theorem dX6_give_94 : decode cX6_give 94 = .ok (.iconst 3, 1) := by decide +kernel
theorem dX6_give_95 : decode cX6_give 95 = .ok (.invokevirtual 39, 3) := by decide +kernel
theorem dX6_give_98 : decode cX6_give 98 = .ok (.ireturn, 1) := by decide +kernel
theorem dX6_give_99 : decode cX6_give 99 = .ok (.aload_n 0, 1) := by decide +kernel
theorem dX6_give_100 : decode cX6_give 100 = .ok (.invokevirtual 107, 3) := by decide +kernel
theorem dX6_give_103 : decode cX6_give 103 = .ok (.aload_n 0, 1) := by decide +kernel
theorem dX6_give_104 : decode cX6_give 104 = .ok (.getfield 7, 3) := by decide +kernel
theorem dX6_give_107 : decode cX6_give 107 = .ok (.iload_n 1, 1) := by decide +kernel
theorem dX6_give_108 : decode cX6_give 108 = .ok (.bipush 8, 2) := by decide +kernel
theorem dX6_give_110 : decode cX6_give 110 = .ok (.iload_n 3, 1) := by decide +kernel
theorem dX6_give_111 : decode cX6_give 111 = .ok (.iadd, 1) := by decide +kernel
theorem dX6_give_112 : decode cX6_give 112 = .ok (.iload 4, 2) := by decide +kernel
theorem dX6_give_114 : decode cX6_give 114 = .ok (.ineg, 1) := by decide +kernel
theorem dX6_give_115 : decode cX6_give 115 = .ok (.invokestatic 66, 3) := by decide +kernel
theorem dX6_give_118 : decode cX6_give 118 = .ok (.aload_n 0, 1) := by decide +kernel
theorem dX6_give_119 : decode cX6_give 119 = .ok (.getfield 7, 3) := by decide +kernel
theorem dX6_give_122 : decode cX6_give 122 = .ok (.iload_n 2, 1) := by decide +kernel
theorem dX6_give_123 : decode cX6_give 123 = .ok (.bipush 8, 2) := by decide +kernel
theorem dX6_give_125 : decode cX6_give 125 = .ok (.iload_n 3, 1) := by decide +kernel
theorem dX6_give_126 : decode cX6_give 126 = .ok (.iadd, 1) := by decide +kernel
theorem dX6_give_127 : decode cX6_give 127 = .ok (.iload 4, 2) := by decide +kernel
theorem dX6_give_129 : decode cX6_give 129 = .ok (.invokestatic 66, 3) := by decide +kernel
theorem dX6_give_132 : decode cX6_give 132 = .ok (.aload_n 0, 1) := by decide +kernel
theorem dX6_give_133 : decode cX6_give 133 = .ok (.getfield 7, 3) := by decide +kernel
theorem dX6_give_136 : decode cX6_give 136 = .ok (.iload_n 2, 1) := by decide +kernel
theorem dX6_give_137 : decode cX6_give 137 = .ok (.bipush 8, 2) := by decide +kernel
theorem dX6_give_139 : decode cX6_give 139 = .ok (.iload_n 3, 1) := by decide +kernel
theorem dX6_give_140 : decode cX6_give 140 = .ok (.iadd, 1) := by decide +kernel
theorem dX6_give_141 : decode cX6_give 141 = .ok (.invokestatic 47, 3) := by decide +kernel
theorem dX6_give_144 : decode cX6_give 144 = .ok (.ireturn, 1) := by decide +kernel
theorem dX6_comes_0 : decode cX6_comes 0 = .ok (.aload_n 0, 1) := by decide +kernel
theorem dX6_comes_1 : decode cX6_comes 1 = .ok (.getfield 7, 3) := by decide +kernel
theorem dX6_comes_4 : decode cX6_comes 4 = .ok (.iconst 5, 1) := by decide +kernel
theorem dX6_comes_5 : decode cX6_comes 5 = .ok (.iaload, 1) := by decide +kernel
theorem dX6_comes_6 : decode cX6_comes 6 = .ok (.istore 6, 2) := by decide +kernel
theorem dX6_comes_8 : decode cX6_comes 8 = .ok (.iload 6, 2) := by decide +kernel
theorem dX6_comes_10 : decode cX6_comes 10 = .ok (.ifCond .le 71, 3) := by decide +kernel
theorem dX6_comes_13 : decode cX6_comes 13 = .ok (.aload_n 0, 1) := by decide +kernel
theorem dX6_comes_14 : decode cX6_comes 14 = .ok (.getfield 7, 3) := by decide +kernel
theorem dX6_comes_17 : decode cX6_comes 17 = .ok (.iload 6, 2) := by decide +kernel
theorem dX6_comes_19 : decode cX6_comes 19 = .ok (.iconst 1, 1) := by decide +kernel
theorem dX6_comes_20 : decode cX6_comes 20 = .ok (.isub, 1) := by decide +kernel
theorem dX6_comes_21 : decode cX6_comes 21 = .ok (.iconst 5, 1) := by decide +kernel
theorem dX6_comes_22 : decode cX6_comes 22 = .ok (.invokestatic 43, 3) := by decide +kernel
theorem dX6_comes_25 : decode cX6_comes 25 = .ok (.iload 5, 2) := by decide +kernel
theorem dX6_comes_27 : decode cX6_comes 27 = .ok (.if_icmp .le 54, 3) := by decide +kernel
theorem dX6_comes_30 : decode cX6_comes 30 = .ok (.iconst 0, 1) := by decide +kernel
theorem dX6_comes_31 : decode cX6_comes 31 = .ok (.istore 7, 2) := by decide +kernel
theorem dX6_comes_33 : decode cX6_comes 33 = .ok (.iload 7, 2) := by decide +kernel
theorem dX6_comes_35 : decode cX6_comes 35 = .ok (.bipush 12, 2) := by decide +kernel
theorem dX6_comes_37 : decode cX6_comes 37 = .ok (.if_icmp .ge 38, 3) := by decide +kernel
theorem dX6_comes_40 : decode cX6_comes 40 = .ok (.aload_n 0, 1) := by decide +kernel
theorem dX6_comes_41 : decode cX6_comes 41 = .ok (.getfield 7, 3) := by decide +kernel
theorem dX6_comes_44 : decode cX6_comes 44 = .ok (.bipush 90, 2) := by decide +kernel
theorem dX6_comes_46 : decode cX6_comes 46 = .ok (.bipush 12, 2) := by decide +kernel
theorem dX6_comes_48 : decode cX6_comes 48 = .ok (.iload 6, 2) := by decide +kernel
theorem dX6_comes_50 : decode cX6_comes 50 = .ok (.imul, 1) := by decide +kernel
theorem dX6_comes_51 : decode cX6_comes 51 = .ok (.iadd, 1) := by decide +kernel
theorem dX6_comes_52 : decode cX6_comes 52 = .ok (.iload 7, 2) := by decide +kernel
theorem dX6_comes_54 : decode cX6_comes 54 = .ok (.iadd, 1) := by decide +kernel
theorem dX6_comes_55 : decode cX6_comes 55 = .ok (.aload_n 0, 1) := by decide +kernel
theorem dX6_comes_56 : decode cX6_comes 56 = .ok (.getfield 7, 3) := by decide +kernel
theorem dX6_comes_59 : decode cX6_comes 59 = .ok (.iload 6, 2) := by decide +kernel
theorem dX6_comes_61 : decode cX6_comes 61 = .ok (.iconst 1, 1) := by decide +kernel
theorem dX6_comes_62 : decode cX6_comes 62 = .ok (.isub, 1) := by decide +kernel
theorem dX6_comes_63 : decode cX6_comes 63 = .ok (.iload 7, 2) := by decide +kernel
theorem dX6_comes_65 : decode cX6_comes 65 = .ok (.invokestatic 43, 3) := by decide +kernel
theorem dX6_comes_68 : decode cX6_comes 68 = .ok (.iastore, 1) := by decide +kernel
theorem dX6_comes_69 : decode cX6_comes 69 = .ok (.iinc 7 1, 3) := by decide +kernel
theorem dX6_comes_72 : decode cX6_comes 72 = .ok (.goto (-39), 3) := by decide +kernel
theorem dX6_comes_75 : decode cX6_comes 75 = .ok (.iinc 6 (-1), 3) := by decide +kernel
theorem dX6_comes_78 : decode cX6_comes 78 = .ok (.goto (-70), 3) := by decide +kernel
theorem dX6_comes_81 : decode cX6_comes 81 = .ok (.bipush 90, 2) := by decide +kernel
theorem dX6_comes_83 : decode cX6_comes 83 = .ok (.bipush 12, 2) := by decide +kernel
theorem dX6_comes_85 : decode cX6_comes 85 = .ok (.iload 6, 2) := by decide +kernel
theorem dX6_comes_87 : decode cX6_comes 87 = .ok (.imul, 1) := by decide +kernel
theorem dX6_comes_88 : decode cX6_comes 88 = .ok (.iadd, 1) := by decide +kernel
theorem dX6_comes_89 : decode cX6_comes 89 = .ok (.istore 7, 2) := by decide +kernel
theorem dX6_comes_91 : decode cX6_comes 91 = .ok (.iconst 0, 1) := by decide +kernel
theorem dX6_comes_92 : decode cX6_comes 92 = .ok (.istore 8, 2) := by decide +kernel
theorem dX6_comes_94 : decode cX6_comes 94 = .ok (.iload 8, 2) := by decide +kernel
theorem dX6_comes_96 : decode cX6_comes 96 = .ok (.bipush 12, 2) := by decide +kernel
theorem dX6_comes_98 : decode cX6_comes 98 = .ok (.if_icmp .ge 20, 3) := by decide +kernel
theorem dX6_comes_101 : decode cX6_comes 101 = .ok (.aload_n 0, 1) := by decide +kernel
theorem dX6_comes_102 : decode cX6_comes 102 = .ok (.getfield 7, 3) := by decide +kernel
theorem dX6_comes_105 : decode cX6_comes 105 = .ok (.iload 7, 2) := by decide +kernel
theorem dX6_comes_107 : decode cX6_comes 107 = .ok (.iload 8, 2) := by decide +kernel
theorem dX6_comes_109 : decode cX6_comes 109 = .ok (.iadd, 1) := by decide +kernel
theorem dX6_comes_110 : decode cX6_comes 110 = .ok (.iconst 0, 1) := by decide +kernel
theorem dX6_comes_111 : decode cX6_comes 111 = .ok (.iastore, 1) := by decide +kernel
theorem dX6_comes_112 : decode cX6_comes 112 = .ok (.iinc 8 1, 3) := by decide +kernel
theorem dX6_comes_115 : decode cX6_comes 115 = .ok (.goto (-21), 3) := by decide +kernel
theorem dX6_comes_118 : decode cX6_comes 118 = .ok (.aload_n 0, 1) := by decide +kernel
theorem dX6_comes_119 : decode cX6_comes 119 = .ok (.getfield 7, 3) := by decide +kernel
theorem dX6_comes_122 : decode cX6_comes 122 = .ok (.iload 7, 2) := by decide +kernel
theorem dX6_comes_124 : decode cX6_comes 124 = .ok (.iconst 0, 1) := by decide +kernel
theorem dX6_comes_125 : decode cX6_comes 125 = .ok (.iadd, 1) := by decide +kernel
theorem dX6_comes_126 : decode cX6_comes 126 = .ok (.aload_n 0, 1) := by decide +kernel
theorem dX6_comes_127 : decode cX6_comes 127 = .ok (.getfield 7, 3) := by decide +kernel
theorem dX6_comes_130 : decode cX6_comes 130 = .ok (.bipush 6, 2) := by decide +kernel
theorem dX6_comes_132 : decode cX6_comes 132 = .ok (.iaload, 1) := by decide +kernel
theorem dX6_comes_133 : decode cX6_comes 133 = .ok (.iastore, 1) := by decide +kernel
theorem dX6_comes_134 : decode cX6_comes 134 = .ok (.aload_n 0, 1) := by decide +kernel
theorem dX6_comes_135 : decode cX6_comes 135 = .ok (.getfield 7, 3) := by decide +kernel
theorem dX6_comes_138 : decode cX6_comes 138 = .ok (.iload 7, 2) := by decide +kernel
theorem dX6_comes_140 : decode cX6_comes 140 = .ok (.iconst 1, 1) := by decide +kernel
theorem dX6_comes_141 : decode cX6_comes 141 = .ok (.iadd, 1) := by decide +kernel
theorem dX6_comes_142 : decode cX6_comes 142 = .ok (.iload_n 1, 1) := by decide +kernel
theorem dX6_comes_143 : decode cX6_comes 143 = .ok (.iastore, 1) := by decide +kernel
theorem dX6_comes_144 : decode cX6_comes 144 = .ok (.aload_n 0, 1) := by decide +kernel
theorem dX6_comes_145 : decode cX6_comes 145 = .ok (.getfield 7, 3) := by decide +kernel
theorem dX6_comes_148 : decode cX6_comes 148 = .ok (.iload 7, 2) := by decide +kernel
theorem dX6_comes_150 : decode cX6_comes 150 = .ok (.iconst 2, 1) := by decide +kernel
theorem dX6_comes_151 : decode cX6_comes 151 = .ok (.iadd, 1) := by decide +kernel
theorem dX6_comes_152 : decode cX6_comes 152 = .ok (.iload_n 2, 1) := by decide +kernel
theorem dX6_comes_153 : decode cX6_comes 153 = .ok (.iastore, 1) := by decide +kernel
theorem dX6_comes_154 : decode cX6_comes 154 = .ok (.aload_n 0, 1) := by decide +kernel
theorem dX6_comes_155 : decode cX6_comes 155 = .ok (.getfield 7, 3) := by decide +kernel
theorem dX6_comes_158 : decode cX6_comes 158 = .ok (.iload 7, 2) := by decide +kernel
theorem dX6_comes_160 : decode cX6_comes 160 = .ok (.iconst 3, 1) := by decide +kernel
theorem dX6_comes_161 : decode cX6_comes 161 = .ok (.iadd, 1) := by decide +kernel
theorem dX6_comes_162 : decode cX6_comes 162 = .ok (.iload_n 3, 1) := by decide +kernel
theorem dX6_comes_163 : decode cX6_comes 163 = .ok (.iastore, 1) := by decide +kernel
theorem dX6_comes_164 : decode cX6_comes 164 = .ok (.aload_n 0, 1) := by decide +kernel
theorem dX6_comes_165 : decode cX6_comes 165 = .ok (.getfield 7, 3) := by decide +kernel
theorem dX6_comes_168 : decode cX6_comes 168 = .ok (.iload 7, 2) := by decide +kernel
theorem dX6_comes_170 : decode cX6_comes 170 = .ok (.iconst 4, 1) := by decide +kernel
theorem dX6_comes_171 : decode cX6_comes 171 = .ok (.iadd, 1) := by decide +kernel
theorem dX6_comes_172 : decode cX6_comes 172 = .ok (.iload 4, 2) := by decide +kernel
theorem dX6_comes_174 : decode cX6_comes 174 = .ok (.iastore, 1) := by decide +kernel
theorem dX6_comes_175 : decode cX6_comes 175 = .ok (.aload_n 0, 1) := by decide +kernel
theorem dX6_comes_176 : decode cX6_comes 176 = .ok (.getfield 7, 3) := by decide +kernel
theorem dX6_comes_179 : decode cX6_comes 179 = .ok (.iload 7, 2) := by decide +kernel
theorem dX6_comes_181 : decode cX6_comes 181 = .ok (.iconst 5, 1) := by decide +kernel
theorem dX6_comes_182 : decode cX6_comes 182 = .ok (.iadd, 1) := by decide +kernel
theorem dX6_comes_183 : decode cX6_comes 183 = .ok (.iload 5, 2) := by decide +kernel
theorem dX6_comes_185 : decode cX6_comes 185 = .ok (.iastore, 1) := by decide +kernel
theorem dX6_comes_186 : decode cX6_comes 186 = .ok (.aload_n 0, 1) := by decide +kernel
theorem dX6_comes_187 : decode cX6_comes 187 = .ok (.getfield 7, 3) := by decide +kernel
theorem dX6_comes_190 : decode cX6_comes 190 = .ok (.iconst 5, 1) := by decide +kernel
theorem dX6_comes_191 : decode cX6_comes 191 = .ok (.dup2, 1) := by decide +kernel
theorem dX6_comes_192 : decode cX6_comes 192 = .ok (.iaload, 1) := by decide +kernel
theorem dX6_comes_193 : decode cX6_comes 193 = .ok (.iconst 1, 1) := by decide +kernel
theorem dX6_comes_194 : decode cX6_comes 194 = .ok (.iadd, 1) := by decide +kernel
theorem dX6_comes_195 : decode cX6_comes 195 = .ok (.iastore, 1) := by decide +kernel
theorem dX6_comes_196 : decode cX6_comes 196 = .ok (.aload_n 0, 1) := by decide +kernel
theorem dX6_comes_197 : decode cX6_comes 197 = .ok (.getfield 7, 3) := by decide +kernel
theorem dX6_comes_200 : decode cX6_comes 200 = .ok (.bipush 6, 2) := by decide +kernel
theorem dX6_comes_202 : decode cX6_comes 202 = .ok (.dup2, 1) := by decide +kernel
theorem dX6_comes_203 : decode cX6_comes 203 = .ok (.iaload, 1) := by decide +kernel
theorem dX6_comes_204 : decode cX6_comes 204 = .ok (.iconst 1, 1) := by decide +kernel
theorem dX6_comes_205 : decode cX6_comes 205 = .ok (.iadd, 1) := by decide +kernel
theorem dX6_comes_206 : decode cX6_comes 206 = .ok (.iastore, 1) := by decide +kernel
theorem dX6_comes_207 : decode cX6_comes 207 = .ok (.aload_n 0, 1) := by decide +kernel
theorem dX6_comes_208 : decode cX6_comes 208 = .ok (.getfield 7, 3) := by decide +kernel
theorem dX6_comes_211 : decode cX6_comes 211 = .ok (.bipush 6, 2) := by decide +kernel
theorem dX6_comes_213 : decode cX6_comes 213 = .ok (.iaload, 1) := by decide +kernel
theorem dX6_comes_214 : decode cX6_comes 214 = .ok (.iconst 1, 1) := by decide +kernel
theorem dX6_comes_215 : decode cX6_comes 215 = .ok (.isub, 1) := by decide +kernel
theorem dX6_comes_216 : decode cX6_comes 216 = .ok (.ireturn, 1) := by decide +kernel
theorem dX6_order_0 : decode cX6_order 0 = .ok (.aload_n 0, 1) := by decide +kernel
theorem dX6_order_1 : decode cX6_order 1 = .ok (.iconst 0, 1) := by decide +kernel
theorem dX6_order_2 : decode cX6_order 2 = .ok (.putfield 28, 3) := by decide +kernel
theorem dX6_order_5 : decode cX6_order 5 = .ok (.iload_n 1, 1) := by decide +kernel
theorem dX6_order_6 : decode cX6_order 6 = .ok (.invokestatic 110, 3) := by decide +kernel
theorem dX6_order_9 : decode cX6_order 9 = .ok (.ifCond .ne 9, 3) := by decide +kernel
theorem dX6_order_12 : decode cX6_order 12 = .ok (.aload_n 0, 1) := by decide +kernel
theorem dX6_order_13 : decode cX6_order 13 = .ok (.iconst 1, 1) := by decide +kernel
theorem dX6_order_14 : decode cX6_order 14 = .ok (.invokevirtual 39, 3) := by decide +kernel
theorem dX6_order_17 : decode cX6_order 17 = .ok (.ireturn, 1) := by decide +kernel
theorem dX6_order_18 : decode cX6_order 18 = .ok (.iload_n 2, 1) := by decide +kernel
theorem dX6_order_19 : decode cX6_order 19 = .ok (.bipush 40, 2) := by decide +kernel
theorem dX6_order_21 : decode cX6_order 21 = .ok (.sipush 200, 3) := by decide +kernel
theorem dX6_order_24 : decode cX6_order 24 = .ok (.invokestatic 32, 3) := by decide +kernel
theorem dX6_order_27 : decode cX6_order 27 = .ok (.ifCond .eq 37, 3) := by decide +kernel
theorem dX6_order_30 : decode cX6_order 30 = .ok (.iload_n 3, 1) := by decide +kernel
theorem dX6_order_31 : decode cX6_order 31 = .ok (.iconst 1, 1) := by decide +kernel
theorem dX6_order_32 : decode cX6_order 32 = .ok (.sipush 200, 3) := by decide +kernel
theorem dX6_order_35 : decode cX6_order 35 = .ok (.invokestatic 32, 3) := by decide +kernel
theorem dX6_order_38 : decode cX6_order 38 = .ok (.ifCond .eq 26, 3) := by decide +kernel
theorem dX6_order_41 : decode cX6_order 41 = .ok (.iload 4, 2) := by decide +kernel
theorem dX6_order_43 : decode cX6_order 43 = .ok (.iconst 1, 1) := by decide +kernel
theorem dX6_order_44 : decode cX6_order 44 = .ok (.bipush 99, 2) := by decide +kernel
theorem dX6_order_46 : decode cX6_order 46 = .ok (.invokestatic 32, 3) := by decide +kernel
theorem dX6_order_49 : decode cX6_order 49 = .ok (.ifCond .eq 15, 3) := by decide +kernel
theorem dX6_order_52 : decode cX6_order 52 = .ok (.iload 5, 2) := by decide +kernel
theorem dX6_order_54 : decode cX6_order 54 = .ok (.iconst 0, 1) := by decide +kernel
theorem dX6_order_55 : decode cX6_order 55 = .ok (.sipush 9999, 3) := by decide +kernel
theorem dX6_order_58 : decode cX6_order 58 = .ok (.invokestatic 32, 3) := by decide +kernel
theorem dX6_order_61 : decode cX6_order 61 = .ok (.ifCond .ne 9, 3) := by decide +kernel
theorem dX6_order_64 : decode cX6_order 64 = .ok (.aload_n 0, 1) := by decide +kernel
theorem dX6_order_65 : decode cX6_order 65 = .ok (.iconst 2, 1) := by decide +kernel
theorem dX6_order_66 : decode cX6_order 66 = .ok (.invokevirtual 39, 3) := by decide +kernel
theorem dX6_order_69 : decode cX6_order 69 = .ok (.ireturn, 1) := by decide +kernel
theorem dX6_order_70 : decode cX6_order 70 = .ok (.aload_n 0, 1) := by decide +kernel
theorem dX6_order_71 : decode cX6_order 71 = .ok (.getfield 7, 3) := by decide +kernel
theorem dX6_order_74 : decode cX6_order 74 = .ok (.iconst 5, 1) := by decide +kernel
theorem dX6_order_75 : decode cX6_order 75 = .ok (.iaload, 1) := by decide +kernel
theorem dX6_order_76 : decode cX6_order 76 = .ok (.bipush 10, 2) := by decide +kernel
theorem dX6_order_78 : decode cX6_order 78 = .ok (.if_icmp .ne 9, 3) := by decide +kernel
theorem dX6_order_81 : decode cX6_order 81 = .ok (.aload_n 0, 1) := by decide +kernel
theorem dX6_order_82 : decode cX6_order 82 = .ok (.iconst 3, 1) := by decide +kernel
theorem dX6_order_83 : decode cX6_order 83 = .ok (.invokevirtual 39, 3) := by decide +kernel
theorem dX6_order_86 : decode cX6_order 86 = .ok (.ireturn, 1) := by decide +kernel
theorem dX6_order_87 : decode cX6_order 87 = .ok (.aload_n 0, 1) := by decide +kernel
theorem dX6_order_88 : decode cX6_order 88 = .ok (.invokevirtual 107, 3) := by decide +kernel
theorem dX6_order_91 : decode cX6_order 91 = .ok (.aload_n 0, 1) := by decide +kernel
theorem dX6_order_92 : decode cX6_order 92 = .ok (.iload_n 1, 1) := by decide +kernel
theorem dX6_order_93 : decode cX6_order 93 = .ok (.iload_n 2, 1) := by decide +kernel
theorem dX6_order_94 : decode cX6_order 94 = .ok (.iload_n 3, 1) := by decide +kernel
theorem dX6_order_95 : decode cX6_order 95 = .ok (.iload 4, 2) := by decide +kernel
theorem dX6_order_97 : decode cX6_order 97 = .ok (.iload 5, 2) := by decide +kernel
theorem dX6_order_99 : decode cX6_order 99 = .ok (.invokevirtual 114, 3) := by decide +kernel
theorem dX6_order_102 : decode cX6_order 102 = .ok (.ireturn, 1) := by decide +kernel
theorem dX6_cancel_0 : decode cX6_cancel 0 = .ok (.aload_n 0, 1) := by decide +kernel
theorem dX6_cancel_1 : decode cX6_cancel 1 = .ok (.iconst 0, 1) := by decide +kernel
theorem dX6_cancel_2 : decode cX6_cancel 2 = .ok (.putfield 28, 3) := by decide +kernel
theorem dX6_cancel_5 : decode cX6_cancel 5 = .ok (.aload_n 0, 1) := by decide +kernel
theorem dX6_cancel_6 : decode cX6_cancel 6 = .ok (.getfield 7, 3) := by decide +kernel
theorem dX6_cancel_9 : decode cX6_cancel 9 = .ok (.iload_n 1, 1) := by decide +kernel
theorem dX6_cancel_10 : decode cX6_cancel 10 = .ok (.invokestatic 118, 3) := by decide +kernel
theorem dX6_cancel_13 : decode cX6_cancel 13 = .ok (.istore_n 2, 1) := by decide +kernel
theorem dX6_cancel_14 : decode cX6_cancel 14 = .ok (.iload_n 2, 1) := by decide +kernel
theorem dX6_cancel_15 : decode cX6_cancel 15 = .ok (.iconst (-1), 1) := by decide +kernel
theorem dX6_cancel_16 : decode cX6_cancel 16 = .ok (.if_icmp .ne 9, 3) := by decide +kernel
theorem dX6_cancel_19 : decode cX6_cancel 19 = .ok (.aload_n 0, 1) := by decide +kernel
theorem dX6_cancel_20 : decode cX6_cancel 20 = .ok (.iconst 1, 1) := by decide +kernel
theorem dX6_cancel_21 : decode cX6_cancel 21 = .ok (.invokevirtual 39, 3) := by decide +kernel
theorem dX6_cancel_24 : decode cX6_cancel 24 = .ok (.ireturn, 1) := by decide +kernel
theorem dX6_cancel_25 : decode cX6_cancel 25 = .ok (.aload_n 0, 1) := by decide +kernel
theorem dX6_cancel_26 : decode cX6_cancel 26 = .ok (.invokevirtual 107, 3) := by decide +kernel
theorem dX6_cancel_29 : decode cX6_cancel 29 = .ok (.aload_n 0, 1) := by decide +kernel
theorem dX6_cancel_30 : decode cX6_cancel 30 = .ok (.getfield 7, 3) := by decide +kernel
theorem dX6_cancel_33 : decode cX6_cancel 33 = .ok (.iload_n 2, 1) := by decide +kernel
theorem dX6_cancel_34 : decode cX6_cancel 34 = .ok (.invokestatic 90, 3) := by decide +kernel
theorem dX6_cancel_37 : decode cX6_cancel 37 = .ok (.istore_n 3, 1) := by decide +kernel
theorem dX6_cancel_38 : decode cX6_cancel 38 = .ok (.aload_n 0, 1) := by decide +kernel
theorem dX6_cancel_39 : decode cX6_cancel 39 = .ok (.getfield 7, 3) := by decide +kernel
theorem dX6_cancel_42 : decode cX6_cancel 42 = .ok (.iload_n 2, 1) := by decide +kernel
theorem dX6_cancel_43 : decode cX6_cancel 43 = .ok (.invokestatic 69, 3) := by decide +kernel
theorem dX6_cancel_46 : decode cX6_cancel 46 = .ok (.iload_n 3, 1) := by decide +kernel
theorem dX6_cancel_47 : decode cX6_cancel 47 = .ok (.ireturn, 1) := by decide +kernel
theorem dX6_set_0 : decode cX6_set 0 = .ok (.aload_n 0, 1) := by decide +kernel
theorem dX6_set_1 : decode cX6_set 1 = .ok (.iconst 0, 1) := by decide +kernel
theorem dX6_set_2 : decode cX6_set 2 = .ok (.putfield 28, 3) := by decide +kernel
theorem dX6_set_5 : decode cX6_set 5 = .ok (.iload_n 1, 1) := by decide +kernel
theorem dX6_set_6 : decode cX6_set 6 = .ok (.iconst 0, 1) := by decide +kernel
theorem dX6_set_7 : decode cX6_set 7 = .ok (.iconst 3, 1) := by decide +kernel
theorem dX6_set_8 : decode cX6_set 8 = .ok (.invokestatic 32, 3) := by decide +kernel
theorem dX6_set_11 : decode cX6_set 11 = .ok (.ifCond .ne 9, 3) := by decide +kernel
theorem dX6_set_14 : decode cX6_set 14 = .ok (.aload_n 0, 1) := by decide +kernel
theorem dX6_set_15 : decode cX6_set 15 = .ok (.iconst 1, 1) := by decide +kernel
theorem dX6_set_16 : decode cX6_set 16 = .ok (.invokevirtual 39, 3) := by decide +kernel
theorem dX6_set_19 : decode cX6_set 19 = .ok (.ireturn, 1) := by decide +kernel
theorem dX6_set_20 : decode cX6_set 20 = .ok (.iload_n 2, 1) := by decide +kernel
theorem dX6_set_21 : decode cX6_set 21 = .ok (.iconst 0, 1) := by decide +kernel
theorem dX6_set_22 : decode cX6_set 22 = .ok (.iload_n 1, 1) := by decide +kernel
theorem dX6_set_23 : decode cX6_set 23 = .ok (.ifCond .ne 7, 3) := by decide +kernel
theorem dX6_set_26 : decode cX6_set 26 = .ok (.iconst 2, 1) := by decide +kernel
theorem dX6_set_27 : decode cX6_set 27 = .ok (.goto 24, 3) := by decide +kernel
theorem dX6_set_30 : decode cX6_set 30 = .ok (.iload_n 1, 1) := by decide +kernel
theorem dX6_set_31 : decode cX6_set 31 = .ok (.iconst 1, 1) := by decide +kernel
theorem dX6_set_32 : decode cX6_set 32 = .ok (.if_icmp .ne 7, 3) := by decide +kernel
theorem dX6_set_35 : decode cX6_set 35 = .ok (.iconst 1, 1) := by decide +kernel
theorem dX6_set_36 : decode cX6_set 36 = .ok (.goto 15, 3) := by decide +kernel
theorem dX6_set_39 : decode cX6_set 39 = .ok (.iload_n 1, 1) := by decide +kernel
theorem dX6_set_40 : decode cX6_set 40 = .ok (.iconst 2, 1) := by decide +kernel
theorem dX6_set_41 : decode cX6_set 41 = .ok (.if_icmp .ne 8, 3) := by decide +kernel
theorem dX6_set_44 : decode cX6_set 44 = .ok (.bipush 50, 2) := by decide +kernel
theorem dX6_set_46 : decode cX6_set 46 = .ok (.goto 5, 3) := by decide +kernel
theorem dX6_set_49 : decode cX6_set 49 = .ok (.bipush 9, 2) := by decide +kernel
theorem dX6_set_51 : decode cX6_set 51 = .ok (.invokestatic 32, 3) := by decide +kernel
theorem dX6_set_54 : decode cX6_set 54 = .ok (.ifCond .ne 9, 3) := by decide +kernel
theorem dX6_set_57 : decode cX6_set 57 = .ok (.aload_n 0, 1) := by decide +kernel
theorem dX6_set_58 : decode cX6_set 58 = .ok (.iconst 2, 1) := by decide +kernel
theorem dX6_set_59 : decode cX6_set 59 = .ok (.invokevirtual 39, 3) := by decide +kernel
theorem dX6_set_62 : decode cX6_set 62 = .ok (.ireturn, 1) := by decide +kernel
theorem dX6_set_63 : decode cX6_set 63 = .ok (.aload_n 0, 1) := by decide +kernel
theorem dX6_set_64 : decode cX6_set 64 = .ok (.invokevirtual 107, 3) := by decide +kernel
theorem dX6_set_67 : decode cX6_set 67 = .ok (.aload_n 0, 1) := by decide +kernel
theorem dX6_set_68 : decode cX6_set 68 = .ok (.getfield 7, 3) := by decide +kernel
theorem dX6_set_71 : decode cX6_set 71 = .ok (.iload_n 1, 1) := by decide +kernel
theorem dX6_set_72 : decode cX6_set 72 = .ok (.iaload, 1) := by decide +kernel
theorem dX6_set_73 : decode cX6_set 73 = .ok (.istore_n 3, 1) := by decide +kernel
theorem dX6_set_74 : decode cX6_set 74 = .ok (.aload_n 0, 1) := by decide +kernel
theorem dX6_set_75 : decode cX6_set 75 = .ok (.getfield 7, 3) := by decide +kernel
theorem dX6_set_78 : decode cX6_set 78 = .ok (.iload_n 1, 1) := by decide +kernel
theorem dX6_set_79 : decode cX6_set 79 = .ok (.iload_n 2, 1) := by decide +kernel
theorem dX6_set_80 : decode cX6_set 80 = .ok (.iastore, 1) := by decide +kernel
theorem dX6_set_81 : decode cX6_set 81 = .ok (.iload_n 3, 1) := by decide +kernel
theorem dX6_set_82 : decode cX6_set 82 = .ok (.ireturn, 1) := by decide +kernel
theorem dX6_pass_0 : decode cX6_pass 0 = .ok (.aload_n 0, 1) := by decide +kernel
theorem dX6_pass_1 : decode cX6_pass 1 = .ok (.iconst 0, 1) := by decide +kernel
theorem dX6_pass_2 : decode cX6_pass 2 = .ok (.putfield 28, 3) := by decide +kernel
theorem dX6_pass_5 : decode cX6_pass 5 = .ok (.iload_n 1, 1) := by decide +kernel
theorem dX6_pass_6 : decode cX6_pass 6 = .ok (.iconst 1, 1) := by decide +kernel
theorem dX6_pass_7 : decode cX6_pass 7 = .ok (.bipush 99, 2) := by decide +kernel
theorem dX6_pass_9 : decode cX6_pass 9 = .ok (.invokestatic 32, 3) := by decide +kernel
theorem dX6_pass_12 : decode cX6_pass 12 = .ok (.ifCond .ne 9, 3) := by decide +kernel
theorem dX6_pass_15 : decode cX6_pass 15 = .ok (.aload_n 0, 1) := by decide +kernel
theorem dX6_pass_16 : decode cX6_pass 16 = .ok (.iconst 1, 1) := by decide +kernel
theorem dX6_pass_17 : decode cX6_pass 17 = .ok (.invokevirtual 39, 3) := by decide +kernel
theorem dX6_pass_20 : decode cX6_pass 20 = .ok (.ireturn, 1) := by decide +kernel
theorem dX6_pass_21 : decode cX6_pass 21 = .ok (.aload_n 0, 1) := by decide +kernel
theorem dX6_pass_22 : decode cX6_pass 22 = .ok (.getfield 7, 3) := by decide +kernel
theorem dX6_pass_25 : decode cX6_pass 25 = .ok (.iconst 4, 1) := by decide +kernel
theorem dX6_pass_26 : decode cX6_pass 26 = .ok (.iaload, 1) := by decide +kernel
theorem dX6_pass_27 : decode cX6_pass 27 = .ok (.iload_n 1, 1) := by decide +kernel
theorem dX6_pass_28 : decode cX6_pass 28 = .ok (.iadd, 1) := by decide +kernel
theorem dX6_pass_29 : decode cX6_pass 29 = .ok (.sipush 9999, 3) := by decide +kernel
theorem dX6_pass_32 : decode cX6_pass 32 = .ok (.if_icmp .le 9, 3) := by decide +kernel
theorem dX6_pass_35 : decode cX6_pass 35 = .ok (.aload_n 0, 1) := by decide +kernel
theorem dX6_pass_36 : decode cX6_pass 36 = .ok (.iconst 2, 1) := by decide +kernel
theorem dX6_pass_37 : decode cX6_pass 37 = .ok (.invokevirtual 39, 3) := by decide +kernel
theorem dX6_pass_40 : decode cX6_pass 40 = .ok (.ireturn, 1) := by decide +kernel
theorem dX6_pass_41 : decode cX6_pass 41 = .ok (.aload_n 0, 1) := by decide +kernel
theorem dX6_pass_42 : decode cX6_pass 42 = .ok (.invokevirtual 107, 3) := by decide +kernel
theorem dX6_pass_45 : decode cX6_pass 45 = .ok (.aload_n 0, 1) := by decide +kernel
theorem dX6_pass_46 : decode cX6_pass 46 = .ok (.getfield 7, 3) := by decide +kernel
theorem dX6_pass_49 : decode cX6_pass 49 = .ok (.bipush 7, 2) := by decide +kernel
theorem dX6_pass_51 : decode cX6_pass 51 = .ok (.iaload, 1) := by decide +kernel
theorem dX6_pass_52 : decode cX6_pass 52 = .ok (.istore_n 2, 1) := by decide +kernel
theorem dX6_pass_53 : decode cX6_pass 53 = .ok (.aload_n 0, 1) := by decide +kernel
theorem dX6_pass_54 : decode cX6_pass 54 = .ok (.aload_n 0, 1) := by decide +kernel
theorem dX6_pass_55 : decode cX6_pass 55 = .ok (.getfield 7, 3) := by decide +kernel
theorem dX6_pass_58 : decode cX6_pass 58 = .ok (.iload_n 1, 1) := by decide +kernel
theorem dX6_pass_59 : decode cX6_pass 59 = .ok (.invokevirtual 121, 3) := by decide +kernel
theorem dX6_pass_62 : decode cX6_pass 62 = .ok (.aload_n 0, 1) := by decide +kernel
theorem dX6_pass_63 : decode cX6_pass 63 = .ok (.getfield 7, 3) := by decide +kernel
theorem dX6_pass_66 : decode cX6_pass 66 = .ok (.bipush 7, 2) := by decide +kernel
theorem dX6_pass_68 : decode cX6_pass 68 = .ok (.iaload, 1) := by decide +kernel
theorem dX6_pass_69 : decode cX6_pass 69 = .ok (.iload_n 2, 1) := by decide +kernel
theorem dX6_pass_70 : decode cX6_pass 70 = .ok (.isub, 1) := by decide +kernel
theorem dX6_pass_71 : decode cX6_pass 71 = .ok (.ireturn, 1) := by decide +kernel
theorem dX6_append_0 : decode cX6_append 0 = .ok (.aload_n 0, 1) := by decide +kernel
theorem dX6_append_1 : decode cX6_append 1 = .ok (.iconst 0, 1) := by decide +kernel
theorem dX6_append_2 : decode cX6_append 2 = .ok (.putfield 28, 3) := by decide +kernel
theorem dX6_append_5 : decode cX6_append 5 = .ok (.iload_n 1, 1) := by decide +kernel
theorem dX6_append_6 : decode cX6_append 6 = .ok (.bipush 33, 2) := by decide +kernel
theorem dX6_append_8 : decode cX6_append 8 = .ok (.bipush 126, 2) := by decide +kernel
theorem dX6_append_10 : decode cX6_append 10 = .ok (.invokestatic 32, 3) := by decide +kernel
theorem dX6_append_13 : decode cX6_append 13 = .ok (.ifCond .ne 9, 3) := by decide +kernel
theorem dX6_append_16 : decode cX6_append 16 = .ok (.aload_n 0, 1) := by decide +kernel
theorem dX6_append_17 : decode cX6_append 17 = .ok (.iconst 1, 1) := by decide +kernel
theorem dX6_append_18 : decode cX6_append 18 = .ok (.invokevirtual 39, 3) := by decide +kernel
theorem dX6_append_21 : decode cX6_append 21 = .ok (.ireturn, 1) := by decide +kernel
theorem dX6_append_22 : decode cX6_append 22 = .ok (.aload_n 0, 1) := by decide +kernel
theorem dX6_append_23 : decode cX6_append 23 = .ok (.getfield 124, 3) := by decide +kernel
theorem dX6_append_26 : decode cX6_append 26 = .ok (.bipush 60, 2) := by decide +kernel
theorem dX6_append_28 : decode cX6_append 28 = .ok (.if_icmp .ne 9, 3) := by decide +kernel
theorem dX6_append_31 : decode cX6_append 31 = .ok (.aload_n 0, 1) := by decide +kernel
theorem dX6_append_32 : decode cX6_append 32 = .ok (.iconst 2, 1) := by decide +kernel
theorem dX6_append_33 : decode cX6_append 33 = .ok (.invokevirtual 39, 3) := by decide +kernel
theorem dX6_append_36 : decode cX6_append 36 = .ok (.ireturn, 1) := by decide +kernel
theorem dX6_append_37 : decode cX6_append 37 = .ok (.aload_n 0, 1) := by decide +kernel
theorem dX6_append_38 : decode cX6_append 38 = .ok (.getfield 19, 3) := by decide +kernel
theorem dX6_append_41 : decode cX6_append 41 = .ok (.aload_n 0, 1) := by decide +kernel
theorem dX6_append_42 : decode cX6_append 42 = .ok (.getfield 124, 3) := by decide +kernel
theorem dX6_append_45 : decode cX6_append 45 = .ok (.iload_n 1, 1) := by decide +kernel
theorem dX6_append_46 : decode cX6_append 46 = .ok (.iastore, 1) := by decide +kernel
theorem dX6_append_47 : decode cX6_append 47 = .ok (.aload_n 0, 1) := by decide +kernel
theorem dX6_append_48 : decode cX6_append 48 = .ok (.dup, 1) := by decide +kernel
theorem dX6_append_49 : decode cX6_append 49 = .ok (.getfield 124, 3) := by decide +kernel
theorem dX6_append_52 : decode cX6_append 52 = .ok (.iconst 1, 1) := by decide +kernel
theorem dX6_append_53 : decode cX6_append 53 = .ok (.iadd, 1) := by decide +kernel
theorem dX6_append_54 : decode cX6_append 54 = .ok (.putfield 124, 3) := by decide +kernel
theorem dX6_append_57 : decode cX6_append 57 = .ok (.aload_n 0, 1) := by decide +kernel
theorem dX6_append_58 : decode cX6_append 58 = .ok (.getfield 124, 3) := by decide +kernel
theorem dX6_append_61 : decode cX6_append 61 = .ok (.ireturn, 1) := by decide +kernel
theorem dX6_clearBuffer_0 : decode cX6_clearBuffer 0 = .ok (.aload_n 0, 1) := by decide +kernel
theorem dX6_clearBuffer_1 : decode cX6_clearBuffer 1 = .ok (.iconst 0, 1) := by decide +kernel
theorem dX6_clearBuffer_2 : decode cX6_clearBuffer 2 = .ok (.putfield 28, 3) := by decide +kernel
theorem dX6_clearBuffer_5 : decode cX6_clearBuffer 5 = .ok (.aload_n 0, 1) := by decide +kernel
theorem dX6_clearBuffer_6 : decode cX6_clearBuffer 6 = .ok (.getfield 124, 3) := by decide +kernel
theorem dX6_clearBuffer_9 : decode cX6_clearBuffer 9 = .ok (.istore_n 1, 1) := by decide +kernel
theorem dX6_clearBuffer_10 : decode cX6_clearBuffer 10 = .ok (.aload_n 0, 1) := by decide +kernel
theorem dX6_clearBuffer_11 : decode cX6_clearBuffer 11 = .ok (.iconst 0, 1) := by decide +kernel
theorem dX6_clearBuffer_12 : decode cX6_clearBuffer 12 = .ok (.putfield 124, 3) := by decide +kernel
theorem dX6_clearBuffer_15 : decode cX6_clearBuffer 15 = .ok (.iload_n 1, 1) := by decide +kernel
theorem dX6_clearBuffer_16 : decode cX6_clearBuffer 16 = .ok (.ireturn, 1) := by decide +kernel
theorem dX6_isAt_0 : decode cX6_isAt 0 = .ok (.aload_n 0, 1) := by decide +kernel
theorem dX6_isAt_1 : decode cX6_isAt 1 = .ok (.getfield 127, 3) := by decide +kernel
theorem dX6_isAt_4 : decode cX6_isAt 4 = .ok (.aload_n 0, 1) := by decide +kernel
theorem dX6_isAt_5 : decode cX6_isAt 5 = .ok (.getfield 124, 3) := by decide +kernel
theorem dX6_isAt_8 : decode cX6_isAt 8 = .ok (.if_icmp .ge 24, 3) := by decide +kernel
theorem dX6_isAt_11 : decode cX6_isAt 11 = .ok (.aload_n 0, 1) := by decide +kernel
theorem dX6_isAt_12 : decode cX6_isAt 12 = .ok (.getfield 19, 3) := by decide +kernel
theorem dX6_isAt_15 : decode cX6_isAt 15 = .ok (.aload_n 0, 1) := by decide +kernel
theorem dX6_isAt_16 : decode cX6_isAt 16 = .ok (.getfield 127, 3) := by decide +kernel
theorem dX6_isAt_19 : decode cX6_isAt 19 = .ok (.iaload, 1) := by decide +kernel
theorem dX6_isAt_20 : decode cX6_isAt 20 = .ok (.iload_n 1, 1) := by decide +kernel
theorem dX6_isAt_21 : decode cX6_isAt 21 = .ok (.iload_n 2, 1) := by decide +kernel
theorem dX6_isAt_22 : decode cX6_isAt 22 = .ok (.invokestatic 32, 3) := by decide +kernel
theorem dX6_isAt_25 : decode cX6_isAt 25 = .ok (.ifCond .eq 7, 3) := by decide +kernel
theorem dX6_isAt_28 : decode cX6_isAt 28 = .ok (.iconst 1, 1) := by decide +kernel
theorem dX6_isAt_29 : decode cX6_isAt 29 = .ok (.goto 4, 3) := by decide +kernel
theorem dX6_isAt_32 : decode cX6_isAt 32 = .ok (.iconst 0, 1) := by decide +kernel
theorem dX6_isAt_33 : decode cX6_isAt 33 = .ok (.ireturn, 1) := by decide +kernel
theorem dX6_stops_0 : decode cX6_stops 0 = .ok (.aload_n 0, 1) := by decide +kernel
theorem dX6_stops_1 : decode cX6_stops 1 = .ok (.aload_n 0, 1) := by decide +kernel
theorem dX6_stops_2 : decode cX6_stops 2 = .ok (.getfield 127, 3) := by decide +kernel
theorem dX6_stops_5 : decode cX6_stops 5 = .ok (.aload_n 0, 1) := by decide +kernel
theorem dX6_stops_6 : decode cX6_stops 6 = .ok (.getfield 124, 3) := by decide +kernel
theorem dX6_stops_9 : decode cX6_stops 9 = .ok (.if_icmp .ge 7, 3) := by decide +kernel
theorem dX6_stops_12 : decode cX6_stops 12 = .ok (.iconst 1, 1) := by decide +kernel
theorem dX6_stops_13 : decode cX6_stops 13 = .ok (.goto 4, 3) := by decide +kernel
theorem dX6_stops_16 : decode cX6_stops 16 = .ok (.iconst 0, 1) := by decide +kernel
theorem dX6_stops_17 : decode cX6_stops 17 = .ok (.putfield 130, 3) := by decide +kernel
theorem dX6_stops_20 : decode cX6_stops 20 = .ok (.iconst 0, 1) := by decide +kernel
theorem dX6_stops_21 : decode cX6_stops 21 = .ok (.ireturn, 1) := by decide +kernel
theorem dX6_isSign_0 : decode cX6_isSign 0 = .ok (.aload_n 0, 1) := by decide +kernel
theorem dX6_isSign_1 : decode cX6_isSign 1 = .ok (.iload_n 1, 1) := by decide +kernel
theorem dX6_isSign_2 : decode cX6_isSign 2 = .ok (.iload_n 1, 1) := by decide +kernel
theorem dX6_isSign_3 : decode cX6_isSign 3 = .ok (.invokevirtual 134, 3) := by decide +kernel
theorem dX6_isSign_6 : decode cX6_isSign 6 = .ok (.ifCond .ne 8, 3) := by decide +kernel
theorem dX6_isSign_9 : decode cX6_isSign 9 = .ok (.aload_n 0, 1) := by decide +kernel
theorem dX6_isSign_10 : decode cX6_isSign 10 = .ok (.invokevirtual 138, 3) := by decide +kernel
theorem dX6_isSign_13 : decode cX6_isSign 13 = .ok (.ireturn, 1) := by decide +kernel
theorem dX6_isSign_14 : decode cX6_isSign 14 = .ok (.aload_n 0, 1) := by decide +kernel
theorem dX6_isSign_15 : decode cX6_isSign 15 = .ok (.dup, 1) := by decide +kernel
theorem dX6_isSign_16 : decode cX6_isSign 16 = .ok (.getfield 127, 3) := by decide +kernel
theorem dX6_isSign_19 : decode cX6_isSign 19 = .ok (.iconst 1, 1) := by decide +kernel
theorem dX6_isSign_20 : decode cX6_isSign 20 = .ok (.iadd, 1) := by decide +kernel
theorem dX6_isSign_21 : decode cX6_isSign 21 = .ok (.putfield 127, 3) := by decide +kernel
theorem dX6_isSign_24 : decode cX6_isSign 24 = .ok (.iconst 1, 1) := by decide +kernel
theorem dX6_isSign_25 : decode cX6_isSign 25 = .ok (.ireturn, 1) := by decide +kernel
theorem dX6_begins_0 : decode cX6_begins 0 = .ok (.iload_n 0, 1) := by decide +kernel
theorem dX6_begins_1 : decode cX6_begins 1 = .ok (.istore_n 3, 1) := by decide +kernel
theorem dX6_begins_2 : decode cX6_begins 2 = .ok (.iload_n 0, 1) := by decide +kernel
theorem dX6_begins_3 : decode cX6_begins 3 = .ok (.istore 4, 2) := by decide +kernel
theorem dX6_begins_5 : decode cX6_begins 5 = .ok (.iconst 0, 1) := by decide +kernel
theorem dX6_begins_6 : decode cX6_begins 6 = .ok (.istore 5, 2) := by decide +kernel
theorem dX6_begins_8 : decode cX6_begins 8 = .ok (.iload_n 0, 1) := by decide +kernel
theorem dX6_begins_9 : decode cX6_begins 9 = .ok (.ifCond .le 44, 3) := by decide +kernel
theorem dX6_begins_12 : decode cX6_begins 12 = .ok (.iload_n 3, 1) := by decide +kernel
theorem dX6_begins_13 : decode cX6_begins 13 = .ok (.iload_n 2, 1) := by decide +kernel
theorem dX6_begins_14 : decode cX6_begins 14 = .ok (.if_icmp .gt 39, 3) := by decide +kernel
theorem dX6_begins_17 : decode cX6_begins 17 = .ok (.iload 5, 2) := by decide +kernel
theorem dX6_begins_19 : decode cX6_begins 19 = .ok (.ifCond .ne 34, 3) := by decide +kernel
theorem dX6_begins_22 : decode cX6_begins 22 = .ok (.iload 4, 2) := by decide +kernel
theorem dX6_begins_24 : decode cX6_begins 24 = .ok (.iload_n 1, 1) := by decide +kernel
theorem dX6_begins_25 : decode cX6_begins 25 = .ok (.if_icmp .lt 7, 3) := by decide +kernel
theorem dX6_begins_28 : decode cX6_begins 28 = .ok (.iconst 1, 1) := by decide +kernel
theorem dX6_begins_29 : decode cX6_begins 29 = .ok (.goto 4, 3) := by decide +kernel
theorem dX6_begins_32 : decode cX6_begins 32 = .ok (.iconst 0, 1) := by decide +kernel
theorem dX6_begins_33 : decode cX6_begins 33 = .ok (.istore 5, 2) := by decide +kernel
theorem dX6_begins_35 : decode cX6_begins 35 = .ok (.iload_n 3, 1) := by decide +kernel
theorem dX6_begins_36 : decode cX6_begins 36 = .ok (.bipush 10, 2) := by decide +kernel
theorem dX6_begins_38 : decode cX6_begins 38 = .ok (.imul, 1) := by decide +kernel
theorem dX6_begins_39 : decode cX6_begins 39 = .ok (.istore_n 3, 1) := by decide +kernel
theorem dX6_begins_40 : decode cX6_begins 40 = .ok (.bipush 10, 2) := by decide +kernel
theorem dX6_begins_42 : decode cX6_begins 42 = .ok (.iload 4, 2) := by decide +kernel
theorem dX6_begins_44 : decode cX6_begins 44 = .ok (.imul, 1) := by decide +kernel
theorem dX6_begins_45 : decode cX6_begins 45 = .ok (.bipush 9, 2) := by decide +kernel
theorem dX6_begins_47 : decode cX6_begins 47 = .ok (.iadd, 1) := by decide +kernel
theorem dX6_begins_48 : decode cX6_begins 48 = .ok (.istore 4, 2) := by decide +kernel
theorem dX6_begins_50 : decode cX6_begins 50 = .ok (.goto (-42), 3) := by decide +kernel
theorem dX6_begins_53 : decode cX6_begins 53 = .ok (.iload 5, 2) := by decide +kernel
theorem dX6_begins_55 : decode cX6_begins 55 = .ok (.ifCond .ne 11, 3) := by decide +kernel
theorem dX6_begins_58 : decode cX6_begins 58 = .ok (.iload_n 0, 1) := by decide +kernel
theorem dX6_begins_59 : decode cX6_begins 59 = .ok (.ifCond .ne 11, 3) := by decide +kernel
theorem dX6_begins_62 : decode cX6_begins 62 = .ok (.iload_n 1, 1) := by decide +kernel
theorem dX6_begins_63 : decode cX6_begins 63 = .ok (.ifCond .ne 7, 3) := by decide +kernel
theorem dX6_begins_66 : decode cX6_begins 66 = .ok (.iconst 1, 1) := by decide +kernel
theorem dX6_begins_67 : decode cX6_begins 67 = .ok (.goto 4, 3) := by decide +kernel
theorem dX6_begins_70 : decode cX6_begins 70 = .ok (.iconst 0, 1) := by decide +kernel
theorem dX6_begins_71 : decode cX6_begins 71 = .ok (.ireturn, 1) := by decide +kernel
theorem dX6_isNumber_0 : decode cX6_isNumber 0 = .ok (.aload_n 0, 1) := by decide +kernel
theorem dX6_isNumber_1 : decode cX6_isNumber 1 = .ok (.iconst (-1), 1) := by decide +kernel
theorem dX6_isNumber_2 : decode cX6_isNumber 2 = .ok (.putfield 142, 3) := by decide +kernel
theorem dX6_isNumber_5 : decode cX6_isNumber 5 = .ok (.aload_n 0, 1) := by decide +kernel
theorem dX6_isNumber_6 : decode cX6_isNumber 6 = .ok (.bipush 48, 2) := by decide +kernel
theorem dX6_isNumber_8 : decode cX6_isNumber 8 = .ok (.bipush 57, 2) := by decide +kernel
theorem dX6_isNumber_10 : decode cX6_isNumber 10 = .ok (.invokevirtual 134, 3) := by decide +kernel
theorem dX6_isNumber_13 : decode cX6_isNumber 13 = .ok (.ifCond .eq 99, 3) := by decide +kernel
theorem dX6_isNumber_16 : decode cX6_isNumber 16 = .ok (.aload_n 0, 1) := by decide +kernel
theorem dX6_isNumber_17 : decode cX6_isNumber 17 = .ok (.getfield 142, 3) := by decide +kernel
theorem dX6_isNumber_20 : decode cX6_isNumber 20 = .ok (.ifCond .eq 92, 3) := by decide +kernel
theorem dX6_isNumber_23 : decode cX6_isNumber 23 = .ok (.aload_n 0, 1) := by decide +kernel
theorem dX6_isNumber_24 : decode cX6_isNumber 24 = .ok (.getfield 142, 3) := by decide +kernel
theorem dX6_isNumber_27 : decode cX6_isNumber 27 = .ok (.iconst (-1), 1) := by decide +kernel
theorem dX6_isNumber_28 : decode cX6_isNumber 28 = .ok (.if_icmp .ne 7, 3) := by decide +kernel
theorem dX6_isNumber_31 : decode cX6_isNumber 31 = .ok (.iconst 0, 1) := by decide +kernel
theorem dX6_isNumber_32 : decode cX6_isNumber 32 = .ok (.goto 10, 3) := by decide +kernel
theorem dX6_isNumber_35 : decode cX6_isNumber 35 = .ok (.bipush 10, 2) := by decide +kernel
theorem dX6_isNumber_37 : decode cX6_isNumber 37 = .ok (.aload_n 0, 1) := by decide +kernel
theorem dX6_isNumber_38 : decode cX6_isNumber 38 = .ok (.getfield 142, 3) := by decide +kernel
theorem dX6_isNumber_41 : decode cX6_isNumber 41 = .ok (.imul, 1) := by decide +kernel
theorem dX6_isNumber_42 : decode cX6_isNumber 42 = .ok (.aload_n 0, 1) := by decide +kernel
theorem dX6_isNumber_43 : decode cX6_isNumber 43 = .ok (.getfield 19, 3) := by decide +kernel
theorem dX6_isNumber_46 : decode cX6_isNumber 46 = .ok (.aload_n 0, 1) := by decide +kernel
theorem dX6_isNumber_47 : decode cX6_isNumber 47 = .ok (.getfield 127, 3) := by decide +kernel
theorem dX6_isNumber_50 : decode cX6_isNumber 50 = .ok (.iaload, 1) := by decide +kernel
theorem dX6_isNumber_51 : decode cX6_isNumber 51 = .ok (.iadd, 1) := by decide +kernel
theorem dX6_isNumber_52 : decode cX6_isNumber 52 = .ok (.bipush 48, 2) := by decide +kernel
theorem dX6_isNumber_54 : decode cX6_isNumber 54 = .ok (.isub, 1) := by decide +kernel
theorem dX6_isNumber_55 : decode cX6_isNumber 55 = .ok (.iload_n 2, 1) := by decide +kernel
theorem dX6_isNumber_56 : decode cX6_isNumber 56 = .ok (.iload_n 3, 1) := by decide +kernel
theorem dX6_isNumber_57 : decode cX6_isNumber 57 = .ok (.invokestatic 145, 3) := by decide +kernel
theorem dX6_isNumber_60 : decode cX6_isNumber 60 = .ok (.ifCond .eq 52, 3) := by decide +kernel
theorem dX6_isNumber_63 : decode cX6_isNumber 63 = .ok (.aload_n 0, 1) := by decide +kernel
theorem dX6_isNumber_64 : decode cX6_isNumber 64 = .ok (.aload_n 0, 1) := by decide +kernel
theorem dX6_isNumber_65 : decode cX6_isNumber 65 = .ok (.getfield 142, 3) := by decide +kernel
theorem dX6_isNumber_68 : decode cX6_isNumber 68 = .ok (.iconst (-1), 1) := by decide +kernel
theorem dX6_isNumber_69 : decode cX6_isNumber 69 = .ok (.if_icmp .ne 7, 3) := by decide +kernel
theorem dX6_isNumber_72 : decode cX6_isNumber 72 = .ok (.iconst 0, 1) := by decide +kernel
theorem dX6_isNumber_73 : decode cX6_isNumber 73 = .ok (.goto 10, 3) := by decide +kernel
theorem dX6_isNumber_76 : decode cX6_isNumber 76 = .ok (.bipush 10, 2) := by decide +kernel
theorem dX6_isNumber_78 : decode cX6_isNumber 78 = .ok (.aload_n 0, 1) := by decide +kernel
theorem dX6_isNumber_79 : decode cX6_isNumber 79 = .ok (.getfield 142, 3) := by decide +kernel
theorem dX6_isNumber_82 : decode cX6_isNumber 82 = .ok (.imul, 1) := by decide +kernel
theorem dX6_isNumber_83 : decode cX6_isNumber 83 = .ok (.aload_n 0, 1) := by decide +kernel
theorem dX6_isNumber_84 : decode cX6_isNumber 84 = .ok (.getfield 19, 3) := by decide +kernel
theorem dX6_isNumber_87 : decode cX6_isNumber 87 = .ok (.aload_n 0, 1) := by decide +kernel
theorem dX6_isNumber_88 : decode cX6_isNumber 88 = .ok (.getfield 127, 3) := by decide +kernel
theorem dX6_isNumber_91 : decode cX6_isNumber 91 = .ok (.iaload, 1) := by decide +kernel
theorem dX6_isNumber_92 : decode cX6_isNumber 92 = .ok (.iadd, 1) := by decide +kernel
theorem dX6_isNumber_93 : decode cX6_isNumber 93 = .ok (.bipush 48, 2) := by decide +kernel
theorem dX6_isNumber_95 : decode cX6_isNumber 95 = .ok (.isub, 1) := by decide +kernel
theorem dX6_isNumber_96 : decode cX6_isNumber 96 = .ok (.putfield 142, 3) := by decide +kernel
theorem dX6_isNumber_99 : decode cX6_isNumber 99 = .ok (.aload_n 0, 1) := by decide +kernel
theorem dX6_isNumber_100 : decode cX6_isNumber 100 = .ok (.dup, 1) := by decide +kernel
theorem dX6_isNumber_101 : decode cX6_isNumber 101 = .ok (.getfield 127, 3) := by decide +kernel
theorem dX6_isNumber_104 : decode cX6_isNumber 104 = .ok (.iconst 1, 1) := by decide +kernel
theorem dX6_isNumber_105 : decode cX6_isNumber 105 = .ok (.iadd, 1) := by decide +kernel
theorem dX6_isNumber_106 : decode cX6_isNumber 106 = .ok (.putfield 127, 3) := by decide +kernel
theorem dX6_isNumber_109 : decode cX6_isNumber 109 = .ok (.goto (-104), 3) := by decide +kernel
theorem dX6_isNumber_112 : decode cX6_isNumber 112 = .ok (.aload_n 0, 1) := by decide +kernel
theorem dX6_isNumber_113 : decode cX6_isNumber 113 = .ok (.getfield 22, 3) := by decide +kernel
theorem dX6_isNumber_116 : decode cX6_isNumber 116 = .ok (.iconst 5, 1) := by decide +kernel
theorem dX6_isNumber_117 : decode cX6_isNumber 117 = .ok (.aload_n 0, 1) := by decide +kernel
theorem dX6_isNumber_118 : decode cX6_isNumber 118 = .ok (.getfield 148, 3) := by decide +kernel
theorem dX6_isNumber_121 : decode cX6_isNumber 121 = .ok (.imul, 1) := by decide +kernel
theorem dX6_isNumber_122 : decode cX6_isNumber 122 = .ok (.iload_n 1, 1) := by decide +kernel
theorem dX6_isNumber_123 : decode cX6_isNumber 123 = .ok (.iadd, 1) := by decide +kernel
theorem dX6_isNumber_124 : decode cX6_isNumber 124 = .ok (.aload_n 0, 1) := by decide +kernel
theorem dX6_isNumber_125 : decode cX6_isNumber 125 = .ok (.getfield 142, 3) := by decide +kernel
theorem dX6_isNumber_128 : decode cX6_isNumber 128 = .ok (.iastore, 1) := by decide +kernel
theorem dX6_isNumber_129 : decode cX6_isNumber 129 = .ok (.aload_n 0, 1) := by decide +kernel
theorem dX6_isNumber_130 : decode cX6_isNumber 130 = .ok (.getfield 142, 3) := by decide +kernel
theorem dX6_isNumber_133 : decode cX6_isNumber 133 = .ok (.iload_n 2, 1) := by decide +kernel
theorem dX6_isNumber_134 : decode cX6_isNumber 134 = .ok (.iload_n 3, 1) := by decide +kernel
theorem dX6_isNumber_135 : decode cX6_isNumber 135 = .ok (.invokestatic 32, 3) := by decide +kernel
theorem dX6_isNumber_138 : decode cX6_isNumber 138 = .ok (.ifCond .ne 10, 3) := by decide +kernel
theorem dX6_isNumber_141 : decode cX6_isNumber 141 = .ok (.aload_n 0, 1) := by decide +kernel
theorem dX6_isNumber_142 : decode cX6_isNumber 142 = .ok (.invokevirtual 138, 3) := by decide +kernel
theorem dX6_isNumber_145 : decode cX6_isNumber 145 = .ok (.ifCond .eq 7, 3) := by decide +kernel
theorem dX6_isNumber_148 : decode cX6_isNumber 148 = .ok (.iconst 1, 1) := by decide +kernel
theorem dX6_isNumber_149 : decode cX6_isNumber 149 = .ok (.goto 4, 3) := by decide +kernel
theorem dX6_isNumber_152 : decode cX6_isNumber 152 = .ok (.iconst 0, 1) := by decide +kernel
theorem dX6_isNumber_153 : decode cX6_isNumber 153 = .ok (.ireturn, 1) := by decide +kernel
theorem dX6_isPart_0 : decode cX6_isPart 0 = .ok (.aload_n 0, 1) := by decide +kernel
theorem dX6_isPart_1 : decode cX6_isPart 1 = .ok (.getfield 22, 3) := by decide +kernel
theorem dX6_isPart_4 : decode cX6_isPart 4 = .ok (.iconst 5, 1) := by decide +kernel
theorem dX6_isPart_5 : decode cX6_isPart 5 = .ok (.aload_n 0, 1) := by decide +kernel
theorem dX6_isPart_6 : decode cX6_isPart 6 = .ok (.getfield 148, 3) := by decide +kernel
theorem dX6_isPart_9 : decode cX6_isPart 9 = .ok (.imul, 1) := by decide +kernel
theorem dX6_isPart_10 : decode cX6_isPart 10 = .ok (.iconst 3, 1) := by decide +kernel
theorem dX6_isPart_11 : decode cX6_isPart 11 = .ok (.iadd, 1) := by decide +kernel
theorem dX6_isPart_12 : decode cX6_isPart 12 = .ok (.bipush 10, 2) := by decide +kernel
theorem dX6_isPart_14 : decode cX6_isPart 14 = .ok (.iastore, 1) := by decide +kernel
theorem dX6_isPart_15 : decode cX6_isPart 15 = .ok (.aload_n 0, 1) := by decide +kernel
theorem dX6_isPart_16 : decode cX6_isPart 16 = .ok (.getfield 22, 3) := by decide +kernel
theorem dX6_isPart_19 : decode cX6_isPart 19 = .ok (.iconst 5, 1) := by decide +kernel
theorem dX6_isPart_20 : decode cX6_isPart 20 = .ok (.aload_n 0, 1) := by decide +kernel
theorem dX6_isPart_21 : decode cX6_isPart 21 = .ok (.getfield 148, 3) := by decide +kernel
theorem dX6_isPart_24 : decode cX6_isPart 24 = .ok (.imul, 1) := by decide +kernel
theorem dX6_isPart_25 : decode cX6_isPart 25 = .ok (.iconst 4, 1) := by decide +kernel
theorem dX6_isPart_26 : decode cX6_isPart 26 = .ok (.iadd, 1) := by decide +kernel
theorem dX6_isPart_27 : decode cX6_isPart 27 = .ok (.sipush 9999, 3) := by decide +kernel
theorem dX6_isPart_30 : decode cX6_isPart 30 = .ok (.iastore, 1) := by decide +kernel
theorem dX6_isPart_31 : decode cX6_isPart 31 = .ok (.aload_n 0, 1) := by decide +kernel
theorem dX6_isPart_32 : decode cX6_isPart 32 = .ok (.iconst 0, 1) := by decide +kernel
theorem dX6_isPart_33 : decode cX6_isPart 33 = .ok (.iconst 1, 1) := by decide +kernel
theorem dX6_isPart_34 : decode cX6_isPart 34 = .ok (.sipush 200, 3) := by decide +kernel
theorem dX6_isPart_37 : decode cX6_isPart 37 = .ok (.invokevirtual 151, 3) := by decide +kernel
theorem dX6_isPart_40 : decode cX6_isPart 40 = .ok (.ifCond .eq 34, 3) := by decide +kernel
theorem dX6_isPart_43 : decode cX6_isPart 43 = .ok (.aload_n 0, 1) := by decide +kernel
theorem dX6_isPart_44 : decode cX6_isPart 44 = .ok (.bipush 120, 2) := by decide +kernel
theorem dX6_isPart_46 : decode cX6_isPart 46 = .ok (.invokevirtual 154, 3) := by decide +kernel
theorem dX6_isPart_49 : decode cX6_isPart 49 = .ok (.ifCond .eq 25, 3) := by decide +kernel
theorem dX6_isPart_52 : decode cX6_isPart 52 = .ok (.aload_n 0, 1) := by decide +kernel
theorem dX6_isPart_53 : decode cX6_isPart 53 = .ok (.iconst 1, 1) := by decide +kernel
theorem dX6_isPart_54 : decode cX6_isPart 54 = .ok (.bipush 40, 2) := by decide +kernel
theorem dX6_isPart_56 : decode cX6_isPart 56 = .ok (.sipush 200, 3) := by decide +kernel
theorem dX6_isPart_59 : decode cX6_isPart 59 = .ok (.invokevirtual 151, 3) := by decide +kernel
theorem dX6_isPart_62 : decode cX6_isPart 62 = .ok (.ifCond .eq 12, 3) := by decide +kernel
theorem dX6_isPart_65 : decode cX6_isPart 65 = .ok (.aload_n 0, 1) := by decide +kernel
theorem dX6_isPart_66 : decode cX6_isPart 66 = .ok (.bipush 99, 2) := by decide +kernel
theorem dX6_isPart_68 : decode cX6_isPart 68 = .ok (.invokevirtual 154, 3) := by decide +kernel
theorem dX6_isPart_71 : decode cX6_isPart 71 = .ok (.ifCond .ne 5, 3) := by decide +kernel
theorem dX6_isPart_74 : decode cX6_isPart 74 = .ok (.iconst 0, 1) := by decide +kernel
theorem dX6_isPart_75 : decode cX6_isPart 75 = .ok (.ireturn, 1) := by decide +kernel
theorem dX6_isPart_76 : decode cX6_isPart 76 = .ok (.aload_n 0, 1) := by decide +kernel
theorem dX6_isPart_77 : decode cX6_isPart 77 = .ok (.bipush 48, 2) := by decide +kernel
theorem dX6_isPart_79 : decode cX6_isPart 79 = .ok (.bipush 51, 2) := by decide +kernel
theorem dX6_isPart_81 : decode cX6_isPart 81 = .ok (.invokevirtual 134, 3) := by decide +kernel
theorem dX6_isPart_84 : decode cX6_isPart 84 = .ok (.ifCond .ne 8, 3) := by decide +kernel
theorem dX6_isPart_87 : decode cX6_isPart 87 = .ok (.aload_n 0, 1) := by decide +kernel
theorem dX6_isPart_88 : decode cX6_isPart 88 = .ok (.invokevirtual 138, 3) := by decide +kernel
theorem dX6_isPart_91 : decode cX6_isPart 91 = .ok (.ireturn, 1) := by decide +kernel
theorem dX6_isPart_92 : decode cX6_isPart 92 = .ok (.aload_n 0, 1) := by decide +kernel
theorem dX6_isPart_93 : decode cX6_isPart 93 = .ok (.getfield 22, 3) := by decide +kernel
theorem dX6_isPart_96 : decode cX6_isPart 96 = .ok (.iconst 5, 1) := by decide +kernel
theorem dX6_isPart_97 : decode cX6_isPart 97 = .ok (.aload_n 0, 1) := by decide +kernel
theorem dX6_isPart_98 : decode cX6_isPart 98 = .ok (.getfield 148, 3) := by decide +kernel
theorem dX6_isPart_101 : decode cX6_isPart 101 = .ok (.imul, 1) := by decide +kernel
theorem dX6_isPart_102 : decode cX6_isPart 102 = .ok (.iconst 2, 1) := by decide +kernel
theorem dX6_isPart_103 : decode cX6_isPart 103 = .ok (.iadd, 1) := by decide +kernel
theorem dX6_isPart_104 : decode cX6_isPart 104 = .ok (.aload_n 0, 1) := by decide +kernel
theorem dX6_isPart_105 : decode cX6_isPart 105 = .ok (.getfield 19, 3) := by decide +kernel
theorem dX6_isPart_108 : decode cX6_isPart 108 = .ok (.aload_n 0, 1) := by decide +kernel
theorem dX6_isPart_109 : decode cX6_isPart 109 = .ok (.getfield 127, 3) := by decide +kernel
theorem dX6_isPart_112 : decode cX6_isPart 112 = .ok (.iaload, 1) := by decide +kernel
theorem dX6_isPart_113 : decode cX6_isPart 113 = .ok (.bipush 48, 2) := by decide +kernel
theorem dX6_isPart_115 : decode cX6_isPart 115 = .ok (.isub, 1) := by decide +kernel
theorem dX6_isPart_116 : decode cX6_isPart 116 = .ok (.iastore, 1) := by decide +kernel
theorem dX6_isPart_117 : decode cX6_isPart 117 = .ok (.aload_n 0, 1) := by decide +kernel
theorem dX6_isPart_118 : decode cX6_isPart 118 = .ok (.dup, 1) := by decide +kernel
theorem dX6_isPart_119 : decode cX6_isPart 119 = .ok (.getfield 127, 3) := by decide +kernel
theorem dX6_isPart_122 : decode cX6_isPart 122 = .ok (.iconst 1, 1) := by decide +kernel
theorem dX6_isPart_123 : decode cX6_isPart 123 = .ok (.iadd, 1) := by decide +kernel
theorem dX6_isPart_124 : decode cX6_isPart 124 = .ok (.putfield 127, 3) := by decide +kernel
theorem dX6_isPart_127 : decode cX6_isPart 127 = .ok (.aload_n 0, 1) := by decide +kernel
theorem dX6_isPart_128 : decode cX6_isPart 128 = .ok (.bipush 36, 2) := by decide +kernel
theorem dX6_isPart_130 : decode cX6_isPart 130 = .ok (.bipush 36, 2) := by decide +kernel
theorem dX6_isPart_132 : decode cX6_isPart 132 = .ok (.invokevirtual 134, 3) := by decide +kernel
theorem dX6_isPart_135 : decode cX6_isPart 135 = .ok (.ifCond .eq 26, 3) := by decide +kernel
theorem dX6_isPart_138 : decode cX6_isPart 138 = .ok (.aload_n 0, 1) := by decide +kernel
theorem dX6_isPart_139 : decode cX6_isPart 139 = .ok (.dup, 1) := by decide +kernel
theorem dX6_isPart_140 : decode cX6_isPart 140 = .ok (.getfield 127, 3) := by decide +kernel
theorem dX6_isPart_143 : decode cX6_isPart 143 = .ok (.iconst 1, 1) := by decide +kernel
theorem dX6_isPart_144 : decode cX6_isPart 144 = .ok (.iadd, 1) := by decide +kernel
theorem dX6_isPart_145 : decode cX6_isPart 145 = .ok (.putfield 127, 3) := by decide +kernel
theorem dX6_isPart_148 : decode cX6_isPart 148 = .ok (.aload_n 0, 1) := by decide +kernel
theorem dX6_isPart_149 : decode cX6_isPart 149 = .ok (.iconst 3, 1) := by decide +kernel
theorem dX6_isPart_150 : decode cX6_isPart 150 = .ok (.iconst 1, 1) := by decide +kernel
theorem dX6_isPart_151 : decode cX6_isPart 151 = .ok (.bipush 99, 2) := by decide +kernel
theorem dX6_isPart_153 : decode cX6_isPart 153 = .ok (.invokevirtual 151, 3) := by decide +kernel
theorem dX6_isPart_156 : decode cX6_isPart 156 = .ok (.ifCond .ne 5, 3) := by decide +kernel
theorem dX6_isPart_159 : decode cX6_isPart 159 = .ok (.iconst 0, 1) := by decide +kernel
theorem dX6_isPart_160 : decode cX6_isPart 160 = .ok (.ireturn, 1) := by decide +kernel
theorem dX6_isPart_161 : decode cX6_isPart 161 = .ok (.aload_n 0, 1) := by decide +kernel
theorem dX6_isPart_162 : decode cX6_isPart 162 = .ok (.bipush 64, 2) := by decide +kernel
theorem dX6_isPart_164 : decode cX6_isPart 164 = .ok (.bipush 64, 2) := by decide +kernel
theorem dX6_isPart_166 : decode cX6_isPart 166 = .ok (.invokevirtual 134, 3) := by decide +kernel
theorem dX6_isPart_169 : decode cX6_isPart 169 = .ok (.ifCond .ne 5, 3) := by decide +kernel
theorem dX6_isPart_172 : decode cX6_isPart 172 = .ok (.iconst 1, 1) := by decide +kernel
theorem dX6_isPart_173 : decode cX6_isPart 173 = .ok (.ireturn, 1) := by decide +kernel
theorem dX6_isPart_174 : decode cX6_isPart 174 = .ok (.aload_n 0, 1) := by decide +kernel
theorem dX6_isPart_175 : decode cX6_isPart 175 = .ok (.dup, 1) := by decide +kernel
theorem dX6_isPart_176 : decode cX6_isPart 176 = .ok (.getfield 127, 3) := by decide +kernel
theorem dX6_isPart_179 : decode cX6_isPart 179 = .ok (.iconst 1, 1) := by decide +kernel
theorem dX6_isPart_180 : decode cX6_isPart 180 = .ok (.iadd, 1) := by decide +kernel
theorem dX6_isPart_181 : decode cX6_isPart 181 = .ok (.putfield 127, 3) := by decide +kernel
theorem dX6_isPart_184 : decode cX6_isPart 184 = .ok (.aload_n 0, 1) := by decide +kernel
theorem dX6_isPart_185 : decode cX6_isPart 185 = .ok (.iconst 4, 1) := by decide +kernel
theorem dX6_isPart_186 : decode cX6_isPart 186 = .ok (.iconst 0, 1) := by decide +kernel
theorem dX6_isPart_187 : decode cX6_isPart 187 = .ok (.sipush 9999, 3) := by decide +kernel
theorem dX6_isPart_190 : decode cX6_isPart 190 = .ok (.invokevirtual 151, 3) := by decide +kernel
theorem dX6_isPart_193 : decode cX6_isPart 193 = .ok (.ireturn, 1) := by decide +kernel
theorem dX6_isText_0 : decode cX6_isText 0 = .ok (.aload_n 0, 1) := by decide +kernel
theorem dX6_isText_1 : decode cX6_isText 1 = .ok (.iconst 0, 1) := by decide +kernel
theorem dX6_isText_2 : decode cX6_isText 2 = .ok (.putfield 127, 3) := by decide +kernel
theorem dX6_isText_5 : decode cX6_isText 5 = .ok (.aload_n 0, 1) := by decide +kernel
theorem dX6_isText_6 : decode cX6_isText 6 = .ok (.iconst 0, 1) := by decide +kernel
theorem dX6_isText_7 : decode cX6_isText 7 = .ok (.putfield 148, 3) := by decide +kernel
theorem dX6_isText_10 : decode cX6_isText 10 = .ok (.aload_n 0, 1) := by decide +kernel
theorem dX6_isText_11 : decode cX6_isText 11 = .ok (.iconst 0, 1) := by decide +kernel
theorem dX6_isText_12 : decode cX6_isText 12 = .ok (.putfield 130, 3) := by decide +kernel
theorem dX6_isText_15 : decode cX6_isText 15 = .ok (.iconst 1, 1) := by decide +kernel
theorem dX6_isText_16 : decode cX6_isText 16 = .ok (.istore_n 1, 1) := by decide +kernel
theorem dX6_isText_17 : decode cX6_isText 17 = .ok (.iload_n 1, 1) := by decide +kernel
theorem dX6_isText_18 : decode cX6_isText 18 = .ok (.ifCond .eq 52, 3) := by decide +kernel
theorem dX6_isText_21 : decode cX6_isText 21 = .ok (.aload_n 0, 1) := by decide +kernel
theorem dX6_isText_22 : decode cX6_isText 22 = .ok (.invokevirtual 157, 3) := by decide +kernel
theorem dX6_isText_25 : decode cX6_isText 25 = .ok (.ifCond .ne 5, 3) := by decide +kernel
theorem dX6_isText_28 : decode cX6_isText 28 = .ok (.iconst 0, 1) := by decide +kernel
theorem dX6_isText_29 : decode cX6_isText 29 = .ok (.ireturn, 1) := by decide +kernel
theorem dX6_isText_30 : decode cX6_isText 30 = .ok (.aload_n 0, 1) := by decide +kernel
theorem dX6_isText_31 : decode cX6_isText 31 = .ok (.dup, 1) := by decide +kernel
theorem dX6_isText_32 : decode cX6_isText 32 = .ok (.getfield 148, 3) := by decide +kernel
theorem dX6_isText_35 : decode cX6_isText 35 = .ok (.iconst 1, 1) := by decide +kernel
theorem dX6_isText_36 : decode cX6_isText 36 = .ok (.iadd, 1) := by decide +kernel
theorem dX6_isText_37 : decode cX6_isText 37 = .ok (.putfield 148, 3) := by decide +kernel
theorem dX6_isText_40 : decode cX6_isText 40 = .ok (.aload_n 0, 1) := by decide +kernel
theorem dX6_isText_41 : decode cX6_isText 41 = .ok (.bipush 59, 2) := by decide +kernel
theorem dX6_isText_43 : decode cX6_isText 43 = .ok (.bipush 59, 2) := by decide +kernel
theorem dX6_isText_45 : decode cX6_isText 45 = .ok (.invokevirtual 134, 3) := by decide +kernel
theorem dX6_isText_48 : decode cX6_isText 48 = .ok (.istore_n 1, 1) := by decide +kernel
theorem dX6_isText_49 : decode cX6_isText 49 = .ok (.aload_n 0, 1) := by decide +kernel
theorem dX6_isText_50 : decode cX6_isText 50 = .ok (.dup, 1) := by decide +kernel
theorem dX6_isText_51 : decode cX6_isText 51 = .ok (.getfield 127, 3) := by decide +kernel
theorem dX6_isText_54 : decode cX6_isText 54 = .ok (.iload_n 1, 1) := by decide +kernel
theorem dX6_isText_55 : decode cX6_isText 55 = .ok (.ifCond .eq 7, 3) := by decide +kernel
theorem dX6_isText_58 : decode cX6_isText 58 = .ok (.iconst 1, 1) := by decide +kernel
theorem dX6_isText_59 : decode cX6_isText 59 = .ok (.goto 4, 3) := by decide +kernel
theorem dX6_isText_62 : decode cX6_isText 62 = .ok (.iconst 0, 1) := by decide +kernel
theorem dX6_isText_63 : decode cX6_isText 63 = .ok (.iadd, 1) := by decide +kernel
theorem dX6_isText_64 : decode cX6_isText 64 = .ok (.putfield 127, 3) := by decide +kernel
theorem dX6_isText_67 : decode cX6_isText 67 = .ok (.goto (-50), 3) := by decide +kernel
theorem dX6_isText_70 : decode cX6_isText 70 = .ok (.aload_n 0, 1) := by decide +kernel
theorem dX6_isText_71 : decode cX6_isText 71 = .ok (.aload_n 0, 1) := by decide +kernel
theorem dX6_isText_72 : decode cX6_isText 72 = .ok (.getfield 127, 3) := by decide +kernel
theorem dX6_isText_75 : decode cX6_isText 75 = .ok (.aload_n 0, 1) := by decide +kernel
theorem dX6_isText_76 : decode cX6_isText 76 = .ok (.getfield 124, 3) := by decide +kernel
theorem dX6_isText_79 : decode cX6_isText 79 = .ok (.if_icmp .ge 7, 3) := by decide +kernel
theorem dX6_isText_82 : decode cX6_isText 82 = .ok (.iconst 1, 1) := by decide +kernel
theorem dX6_isText_83 : decode cX6_isText 83 = .ok (.goto 4, 3) := by decide +kernel
theorem dX6_isText_86 : decode cX6_isText 86 = .ok (.iconst 0, 1) := by decide +kernel
theorem dX6_isText_87 : decode cX6_isText 87 = .ok (.putfield 130, 3) := by decide +kernel
theorem dX6_isText_90 : decode cX6_isText 90 = .ok (.aload_n 0, 1) := by decide +kernel
theorem dX6_isText_91 : decode cX6_isText 91 = .ok (.getfield 127, 3) := by decide +kernel
theorem dX6_isText_94 : decode cX6_isText 94 = .ok (.aload_n 0, 1) := by decide +kernel
theorem dX6_isText_95 : decode cX6_isText 95 = .ok (.getfield 124, 3) := by decide +kernel
theorem dX6_isText_98 : decode cX6_isText 98 = .ok (.if_icmp .ne 7, 3) := by decide +kernel
theorem dX6_isText_101 : decode cX6_isText 101 = .ok (.iconst 1, 1) := by decide +kernel
theorem dX6_isText_102 : decode cX6_isText 102 = .ok (.goto 4, 3) := by decide +kernel
theorem dX6_isText_105 : decode cX6_isText 105 = .ok (.iconst 0, 1) := by decide +kernel
theorem dX6_isText_106 : decode cX6_isText 106 = .ok (.ireturn, 1) := by decide +kernel
theorem dX6_firstError_0 : decode cX6_firstError 0 = .ok (.aload_n 0, 1) := by decide +kernel
theorem dX6_firstError_1 : decode cX6_firstError 1 = .ok (.iconst 0, 1) := by decide +kernel
theorem dX6_firstError_2 : decode cX6_firstError 2 = .ok (.putfield 28, 3) := by decide +kernel
theorem dX6_firstError_5 : decode cX6_firstError 5 = .ok (.aload_n 0, 1) := by decide +kernel
theorem dX6_firstError_6 : decode cX6_firstError 6 = .ok (.invokevirtual 160, 3) := by decide +kernel
theorem dX6_firstError_9 : decode cX6_firstError 9 = .ok (.istore_n 1, 1) := by decide +kernel
theorem dX6_firstError_10 : decode cX6_firstError 10 = .ok (.iload_n 1, 1) := by decide +kernel
theorem dX6_firstError_11 : decode cX6_firstError 11 = .ok (.ifCond .ne 17, 3) := by decide +kernel
theorem dX6_firstError_14 : decode cX6_firstError 14 = .ok (.aload_n 0, 1) := by decide +kernel
theorem dX6_firstError_15 : decode cX6_firstError 15 = .ok (.getfield 130, 3) := by decide +kernel
theorem dX6_firstError_18 : decode cX6_firstError 18 = .ok (.ifCond .eq 10, 3) := by decide +kernel
theorem dX6_firstError_21 : decode cX6_firstError 21 = .ok (.aload_n 0, 1) := by decide +kernel
theorem dX6_firstError_22 : decode cX6_firstError 22 = .ok (.getfield 127, 3) := by decide +kernel
theorem dX6_firstError_25 : decode cX6_firstError 25 = .ok (.goto 7, 3) := by decide +kernel
theorem dX6_firstError_28 : decode cX6_firstError 28 = .ok (.aload_n 0, 1) := by decide +kernel
theorem dX6_firstError_29 : decode cX6_firstError 29 = .ok (.getfield 124, 3) := by decide +kernel
theorem dX6_firstError_32 : decode cX6_firstError 32 = .ok (.ireturn, 1) := by decide +kernel
theorem dX6_takeAll_0 : decode cX6_takeAll 0 = .ok (.aload_n 0, 1) := by decide +kernel
theorem dX6_takeAll_1 : decode cX6_takeAll 1 = .ok (.iconst 0, 1) := by decide +kernel
theorem dX6_takeAll_2 : decode cX6_takeAll 2 = .ok (.putfield 28, 3) := by decide +kernel
theorem dX6_takeAll_5 : decode cX6_takeAll 5 = .ok (.aload_n 0, 1) := by decide +kernel
theorem dX6_takeAll_6 : decode cX6_takeAll 6 = .ok (.invokevirtual 160, 3) := by decide +kernel
theorem dX6_takeAll_9 : decode cX6_takeAll 9 = .ok (.ifCond .ne 9, 3) := by decide +kernel
theorem dX6_takeAll_12 : decode cX6_takeAll 12 = .ok (.aload_n 0, 1) := by decide +kernel
theorem dX6_takeAll_13 : decode cX6_takeAll 13 = .ok (.iconst 1, 1) := by decide +kernel
theorem dX6_takeAll_14 : decode cX6_takeAll 14 = .ok (.invokevirtual 39, 3) := by decide +kernel
theorem dX6_takeAll_17 : decode cX6_takeAll 17 = .ok (.ireturn, 1) := by decide +kernel
theorem dX6_takeAll_18 : decode cX6_takeAll 18 = .ok (.aload_n 0, 1) := by decide +kernel
theorem dX6_takeAll_19 : decode cX6_takeAll 19 = .ok (.getfield 7, 3) := by decide +kernel
theorem dX6_takeAll_22 : decode cX6_takeAll 22 = .ok (.iconst 5, 1) := by decide +kernel
theorem dX6_takeAll_23 : decode cX6_takeAll 23 = .ok (.iaload, 1) := by decide +kernel
theorem dX6_takeAll_24 : decode cX6_takeAll 24 = .ok (.aload_n 0, 1) := by decide +kernel
theorem dX6_takeAll_25 : decode cX6_takeAll 25 = .ok (.getfield 148, 3) := by decide +kernel
theorem dX6_takeAll_28 : decode cX6_takeAll 28 = .ok (.iadd, 1) := by decide +kernel
theorem dX6_takeAll_29 : decode cX6_takeAll 29 = .ok (.bipush 10, 2) := by decide +kernel
theorem dX6_takeAll_31 : decode cX6_takeAll 31 = .ok (.if_icmp .le 9, 3) := by decide +kernel
theorem dX6_takeAll_34 : decode cX6_takeAll 34 = .ok (.aload_n 0, 1) := by decide +kernel
theorem dX6_takeAll_35 : decode cX6_takeAll 35 = .ok (.iconst 2, 1) := by decide +kernel
theorem dX6_takeAll_36 : decode cX6_takeAll 36 = .ok (.invokevirtual 39, 3) := by decide +kernel
theorem dX6_takeAll_39 : decode cX6_takeAll 39 = .ok (.ireturn, 1) := by decide +kernel
theorem dX6_takeAll_40 : decode cX6_takeAll 40 = .ok (.aload_n 0, 1) := by decide +kernel
theorem dX6_takeAll_41 : decode cX6_takeAll 41 = .ok (.invokevirtual 107, 3) := by decide +kernel
theorem dX6_takeAll_44 : decode cX6_takeAll 44 = .ok (.aload_n 0, 1) := by decide +kernel
theorem dX6_takeAll_45 : decode cX6_takeAll 45 = .ok (.iconst 0, 1) := by decide +kernel
theorem dX6_takeAll_46 : decode cX6_takeAll 46 = .ok (.putfield 124, 3) := by decide +kernel
theorem dX6_takeAll_49 : decode cX6_takeAll 49 = .ok (.iconst 0, 1) := by decide +kernel
theorem dX6_takeAll_50 : decode cX6_takeAll 50 = .ok (.istore_n 1, 1) := by decide +kernel
theorem dX6_takeAll_51 : decode cX6_takeAll 51 = .ok (.iload_n 1, 1) := by decide +kernel
theorem dX6_takeAll_52 : decode cX6_takeAll 52 = .ok (.aload_n 0, 1) := by decide +kernel
theorem dX6_takeAll_53 : decode cX6_takeAll 53 = .ok (.getfield 148, 3) := by decide +kernel
theorem dX6_takeAll_56 : decode cX6_takeAll 56 = .ok (.if_icmp .ge 62, 3) := by decide +kernel
theorem dX6_takeAll_59 : decode cX6_takeAll 59 = .ok (.aload_n 0, 1) := by decide +kernel
theorem dX6_takeAll_60 : decode cX6_takeAll 60 = .ok (.aload_n 0, 1) := by decide +kernel
theorem dX6_takeAll_61 : decode cX6_takeAll 61 = .ok (.getfield 22, 3) := by decide +kernel
theorem dX6_takeAll_64 : decode cX6_takeAll 64 = .ok (.iconst 5, 1) := by decide +kernel
theorem dX6_takeAll_65 : decode cX6_takeAll 65 = .ok (.iload_n 1, 1) := by decide +kernel
theorem dX6_takeAll_66 : decode cX6_takeAll 66 = .ok (.imul, 1) := by decide +kernel
theorem dX6_takeAll_67 : decode cX6_takeAll 67 = .ok (.iconst 2, 1) := by decide +kernel
theorem dX6_takeAll_68 : decode cX6_takeAll 68 = .ok (.iadd, 1) := by decide +kernel
theorem dX6_takeAll_69 : decode cX6_takeAll 69 = .ok (.iaload, 1) := by decide +kernel
theorem dX6_takeAll_70 : decode cX6_takeAll 70 = .ok (.aload_n 0, 1) := by decide +kernel
theorem dX6_takeAll_71 : decode cX6_takeAll 71 = .ok (.getfield 22, 3) := by decide +kernel
theorem dX6_takeAll_74 : decode cX6_takeAll 74 = .ok (.iconst 5, 1) := by decide +kernel
theorem dX6_takeAll_75 : decode cX6_takeAll 75 = .ok (.iload_n 1, 1) := by decide +kernel
theorem dX6_takeAll_76 : decode cX6_takeAll 76 = .ok (.imul, 1) := by decide +kernel
theorem dX6_takeAll_77 : decode cX6_takeAll 77 = .ok (.iconst 1, 1) := by decide +kernel
theorem dX6_takeAll_78 : decode cX6_takeAll 78 = .ok (.iadd, 1) := by decide +kernel
theorem dX6_takeAll_79 : decode cX6_takeAll 79 = .ok (.iaload, 1) := by decide +kernel
theorem dX6_takeAll_80 : decode cX6_takeAll 80 = .ok (.aload_n 0, 1) := by decide +kernel
theorem dX6_takeAll_81 : decode cX6_takeAll 81 = .ok (.getfield 22, 3) := by decide +kernel
theorem dX6_takeAll_84 : decode cX6_takeAll 84 = .ok (.iconst 5, 1) := by decide +kernel
theorem dX6_takeAll_85 : decode cX6_takeAll 85 = .ok (.iload_n 1, 1) := by decide +kernel
theorem dX6_takeAll_86 : decode cX6_takeAll 86 = .ok (.imul, 1) := by decide +kernel
theorem dX6_takeAll_87 : decode cX6_takeAll 87 = .ok (.iaload, 1) := by decide +kernel
theorem dX6_takeAll_88 : decode cX6_takeAll 88 = .ok (.aload_n 0, 1) := by decide +kernel
theorem dX6_takeAll_89 : decode cX6_takeAll 89 = .ok (.getfield 22, 3) := by decide +kernel
theorem dX6_takeAll_92 : decode cX6_takeAll 92 = .ok (.iconst 5, 1) := by decide +kernel
theorem dX6_takeAll_93 : decode cX6_takeAll 93 = .ok (.iload_n 1, 1) := by decide +kernel
theorem dX6_takeAll_94 : decode cX6_takeAll 94 = .ok (.imul, 1) := by decide +kernel
theorem dX6_takeAll_95 : decode cX6_takeAll 95 = .ok (.iconst 3, 1) := by decide +kernel
theorem dX6_takeAll_96 : decode cX6_takeAll 96 = .ok (.iadd, 1) := by decide +kernel
theorem dX6_takeAll_97 : decode cX6_takeAll 97 = .ok (.iaload, 1) := by decide +kernel
theorem dX6_takeAll_98 : decode cX6_takeAll 98 = .ok (.aload_n 0, 1) := by decide +kernel
theorem dX6_takeAll_99 : decode cX6_takeAll 99 = .ok (.getfield 22, 3) := by decide +kernel
theorem dX6_takeAll_102 : decode cX6_takeAll 102 = .ok (.iconst 5, 1) := by decide +kernel
theorem dX6_takeAll_103 : decode cX6_takeAll 103 = .ok (.iload_n 1, 1) := by decide +kernel
theorem dX6_takeAll_104 : decode cX6_takeAll 104 = .ok (.imul, 1) := by decide +kernel
theorem dX6_takeAll_105 : decode cX6_takeAll 105 = .ok (.iconst 4, 1) := by decide +kernel
theorem dX6_takeAll_106 : decode cX6_takeAll 106 = .ok (.iadd, 1) := by decide +kernel
theorem dX6_takeAll_107 : decode cX6_takeAll 107 = .ok (.iaload, 1) := by decide +kernel
theorem dX6_takeAll_108 : decode cX6_takeAll 108 = .ok (.invokevirtual 114, 3) := by decide +kernel
theorem dX6_takeAll_111 : decode cX6_takeAll 111 = .ok (.pop, 1) := by decide +kernel
theorem dX6_takeAll_112 : decode cX6_takeAll 112 = .ok (.iinc 1 1, 3) := by decide +kernel
theorem dX6_takeAll_115 : decode cX6_takeAll 115 = .ok (.goto (-64), 3) := by decide +kernel
theorem dX6_takeAll_118 : decode cX6_takeAll 118 = .ok (.aload_n 0, 1) := by decide +kernel
theorem dX6_takeAll_119 : decode cX6_takeAll 119 = .ok (.getfield 7, 3) := by decide +kernel
theorem dX6_takeAll_122 : decode cX6_takeAll 122 = .ok (.iconst 5, 1) := by decide +kernel
theorem dX6_takeAll_123 : decode cX6_takeAll 123 = .ok (.iaload, 1) := by decide +kernel
theorem dX6_takeAll_124 : decode cX6_takeAll 124 = .ok (.ireturn, 1) := by decide +kernel
theorem dX6_weaver_0 : decode cX6_weaver 0 = .ok (.aload_n 0, 1) := by decide +kernel
theorem dX6_weaver_1 : decode cX6_weaver 1 = .ok (.iconst 0, 1) := by decide +kernel
theorem dX6_weaver_2 : decode cX6_weaver 2 = .ok (.putfield 28, 3) := by decide +kernel
theorem dX6_weaver_5 : decode cX6_weaver 5 = .ok (.iload_n 1, 1) := by decide +kernel
theorem dX6_weaver_6 : decode cX6_weaver 6 = .ok (.invokestatic 103, 3) := by decide +kernel
theorem dX6_weaver_9 : decode cX6_weaver 9 = .ok (.ifCond .ne 9, 3) := by decide +kernel
theorem dX6_weaver_12 : decode cX6_weaver 12 = .ok (.aload_n 0, 1) := by decide +kernel
theorem dX6_weaver_13 : decode cX6_weaver 13 = .ok (.iconst 1, 1) := by decide +kernel
theorem dX6_weaver_14 : decode cX6_weaver 14 = .ok (.invokevirtual 39, 3) := by decide +kernel
theorem dX6_weaver_17 : decode cX6_weaver 17 = .ok (.ireturn, 1) := by decide +kernel
theorem dX6_weaver_18 : decode cX6_weaver 18 = .ok (.iload_n 2, 1) := by decide +kernel
theorem dX6_weaver_19 : decode cX6_weaver 19 = .ok (.iconst 0, 1) := by decide +kernel
theorem dX6_weaver_20 : decode cX6_weaver 20 = .ok (.bipush 7, 2) := by decide +kernel
theorem dX6_weaver_22 : decode cX6_weaver 22 = .ok (.invokestatic 32, 3) := by decide +kernel
theorem dX6_weaver_25 : decode cX6_weaver 25 = .ok (.ifCond .eq 15, 3) := by decide +kernel
theorem dX6_weaver_28 : decode cX6_weaver 28 = .ok (.aload_n 0, 1) := by decide +kernel
theorem dX6_weaver_29 : decode cX6_weaver 29 = .ok (.getfield 7, 3) := by decide +kernel
theorem dX6_weaver_32 : decode cX6_weaver 32 = .ok (.iload_n 1, 1) := by decide +kernel
theorem dX6_weaver_33 : decode cX6_weaver 33 = .ok (.iload_n 2, 1) := by decide +kernel
theorem dX6_weaver_34 : decode cX6_weaver 34 = .ok (.invokestatic 47, 3) := by decide +kernel
theorem dX6_weaver_37 : decode cX6_weaver 37 = .ok (.goto 8, 3) := by decide +kernel
theorem dX6_weaver_40 : decode cX6_weaver 40 = .ok (.aload_n 0, 1) := by decide +kernel
theorem dX6_weaver_41 : decode cX6_weaver 41 = .ok (.iconst 2, 1) := by decide +kernel
theorem dX6_weaver_42 : decode cX6_weaver 42 = .ok (.invokevirtual 39, 3) := by decide +kernel
theorem dX6_weaver_45 : decode cX6_weaver 45 = .ok (.ireturn, 1) := by decide +kernel
theorem dX6_share_0 : decode cX6_share 0 = .ok (.aload_n 0, 1) := by decide +kernel
theorem dX6_share_1 : decode cX6_share 1 = .ok (.iconst 0, 1) := by decide +kernel
theorem dX6_share_2 : decode cX6_share 2 = .ok (.putfield 28, 3) := by decide +kernel
theorem dX6_share_5 : decode cX6_share 5 = .ok (.iload_n 1, 1) := by decide +kernel
theorem dX6_share_6 : decode cX6_share 6 = .ok (.iconst (-1), 1) := by decide +kernel
theorem dX6_share_7 : decode cX6_share 7 = .ok (.if_icmp .eq 10, 3) := by decide +kernel
theorem dX6_share_10 : decode cX6_share 10 = .ok (.iload_n 1, 1) := by decide +kernel
theorem dX6_share_11 : decode cX6_share 11 = .ok (.invokestatic 103, 3) := by decide +kernel
theorem dX6_share_14 : decode cX6_share 14 = .ok (.ifCond .eq 10, 3) := by decide +kernel
theorem dX6_share_17 : decode cX6_share 17 = .ok (.iload_n 2, 1) := by decide +kernel
theorem dX6_share_18 : decode cX6_share 18 = .ok (.invokestatic 110, 3) := by decide +kernel
theorem dX6_share_21 : decode cX6_share 21 = .ok (.ifCond .ne 9, 3) := by decide +kernel
theorem dX6_share_24 : decode cX6_share 24 = .ok (.aload_n 0, 1) := by decide +kernel
theorem dX6_share_25 : decode cX6_share 25 = .ok (.iconst 1, 1) := by decide +kernel
theorem dX6_share_26 : decode cX6_share 26 = .ok (.invokevirtual 39, 3) := by decide +kernel
theorem dX6_share_29 : decode cX6_share 29 = .ok (.ireturn, 1) := by decide +kernel
theorem dX6_share_30 : decode cX6_share 30 = .ok (.iload_n 1, 1) := by decide +kernel
theorem dX6_share_31 : decode cX6_share 31 = .ok (.iconst (-1), 1) := by decide +kernel
theorem dX6_share_32 : decode cX6_share 32 = .ok (.if_icmp .ne 15, 3) := by decide +kernel
theorem dX6_share_35 : decode cX6_share 35 = .ok (.aload_n 0, 1) := by decide +kernel
theorem dX6_share_36 : decode cX6_share 36 = .ok (.getfield 7, 3) := by decide +kernel
theorem dX6_share_39 : decode cX6_share 39 = .ok (.bipush 14, 2) := by decide +kernel
theorem dX6_share_41 : decode cX6_share 41 = .ok (.iload_n 2, 1) := by decide +kernel
theorem dX6_share_42 : decode cX6_share 42 = .ok (.iadd, 1) := by decide +kernel
theorem dX6_share_43 : decode cX6_share 43 = .ok (.iaload, 1) := by decide +kernel
theorem dX6_share_44 : decode cX6_share 44 = .ok (.goto 15, 3) := by decide +kernel
theorem dX6_share_47 : decode cX6_share 47 = .ok (.aload_n 0, 1) := by decide +kernel
theorem dX6_share_48 : decode cX6_share 48 = .ok (.getfield 7, 3) := by decide +kernel
theorem dX6_share_51 : decode cX6_share 51 = .ok (.iload_n 1, 1) := by decide +kernel
theorem dX6_share_52 : decode cX6_share 52 = .ok (.bipush 8, 2) := by decide +kernel
theorem dX6_share_54 : decode cX6_share 54 = .ok (.iload_n 2, 1) := by decide +kernel
theorem dX6_share_55 : decode cX6_share 55 = .ok (.iadd, 1) := by decide +kernel
theorem dX6_share_56 : decode cX6_share 56 = .ok (.invokestatic 47, 3) := by decide +kernel
theorem dX6_share_59 : decode cX6_share 59 = .ok (.ireturn, 1) := by decide +kernel
theorem dX6_ofOrder_0 : decode cX6_ofOrder 0 = .ok (.iload_n 2, 1) := by decide +kernel
theorem dX6_ofOrder_1 : decode cX6_ofOrder 1 = .ok (.bipush 7, 2) := by decide +kernel
theorem dX6_ofOrder_3 : decode cX6_ofOrder 3 = .ok (.if_icmp .ge 30, 3) := by decide +kernel
theorem dX6_ofOrder_6 : decode cX6_ofOrder 6 = .ok (.iload_n 2, 1) := by decide +kernel
theorem dX6_ofOrder_7 : decode cX6_ofOrder 7 = .ok (.bipush 6, 2) := by decide +kernel
theorem dX6_ofOrder_9 : decode cX6_ofOrder 9 = .ok (.if_icmp .ge 15, 3) := by decide +kernel
theorem dX6_ofOrder_12 : decode cX6_ofOrder 12 = .ok (.aload_n 0, 1) := by decide +kernel
theorem dX6_ofOrder_13 : decode cX6_ofOrder 13 = .ok (.getfield 7, 3) := by decide +kernel
theorem dX6_ofOrder_16 : decode cX6_ofOrder 16 = .ok (.iload_n 1, 1) := by decide +kernel
theorem dX6_ofOrder_17 : decode cX6_ofOrder 17 = .ok (.iload_n 2, 1) := by decide +kernel
theorem dX6_ofOrder_18 : decode cX6_ofOrder 18 = .ok (.invokestatic 43, 3) := by decide +kernel
theorem dX6_ofOrder_21 : decode cX6_ofOrder 21 = .ok (.goto 11, 3) := by decide +kernel
theorem dX6_ofOrder_24 : decode cX6_ofOrder 24 = .ok (.aload_n 0, 1) := by decide +kernel
theorem dX6_ofOrder_25 : decode cX6_ofOrder 25 = .ok (.getfield 7, 3) := by decide +kernel
theorem dX6_ofOrder_28 : decode cX6_ofOrder 28 = .ok (.iload_n 1, 1) := by decide +kernel
theorem dX6_ofOrder_29 : decode cX6_ofOrder 29 = .ok (.invokestatic 90, 3) := by decide +kernel
theorem dX6_ofOrder_32 : decode cX6_ofOrder 32 = .ok (.ireturn, 1) := by decide +kernel
theorem dX6_ofOrder_33 : decode cX6_ofOrder 33 = .ok (.iload_n 2, 1) := by decide +kernel
theorem dX6_ofOrder_34 : decode cX6_ofOrder 34 = .ok (.bipush 7, 2) := by decide +kernel
theorem dX6_ofOrder_36 : decode cX6_ofOrder 36 = .ok (.if_icmp .ne 31, 3) := by decide +kernel
theorem dX6_ofOrder_39 : decode cX6_ofOrder 39 = .ok (.aload_n 0, 1) := by decide +kernel
theorem dX6_ofOrder_40 : decode cX6_ofOrder 40 = .ok (.getfield 7, 3) := by decide +kernel
theorem dX6_ofOrder_43 : decode cX6_ofOrder 43 = .ok (.iload_n 1, 1) := by decide +kernel
theorem dX6_ofOrder_44 : decode cX6_ofOrder 44 = .ok (.iconst 3, 1) := by decide +kernel
theorem dX6_ofOrder_45 : decode cX6_ofOrder 45 = .ok (.invokestatic 43, 3) := by decide +kernel
theorem dX6_ofOrder_48 : decode cX6_ofOrder 48 = .ok (.aload_n 0, 1) := by decide +kernel
theorem dX6_ofOrder_49 : decode cX6_ofOrder 49 = .ok (.getfield 7, 3) := by decide +kernel
theorem dX6_ofOrder_52 : decode cX6_ofOrder 52 = .ok (.iload_n 1, 1) := by decide +kernel
theorem dX6_ofOrder_53 : decode cX6_ofOrder 53 = .ok (.invokestatic 90, 3) := by decide +kernel
theorem dX6_ofOrder_56 : decode cX6_ofOrder 56 = .ok (.isub, 1) := by decide +kernel
theorem dX6_ofOrder_57 : decode cX6_ofOrder 57 = .ok (.aload_n 0, 1) := by decide +kernel
theorem dX6_ofOrder_58 : decode cX6_ofOrder 58 = .ok (.getfield 7, 3) := by decide +kernel
theorem dX6_ofOrder_61 : decode cX6_ofOrder 61 = .ok (.iload_n 1, 1) := by decide +kernel
theorem dX6_ofOrder_62 : decode cX6_ofOrder 62 = .ok (.invokestatic 73, 3) := by decide +kernel
theorem dX6_ofOrder_65 : decode cX6_ofOrder 65 = .ok (.imul, 1) := by decide +kernel
theorem dX6_ofOrder_66 : decode cX6_ofOrder 66 = .ok (.ireturn, 1) := by decide +kernel
theorem dX6_ofOrder_67 : decode cX6_ofOrder 67 = .ok (.iconst 0, 1) := by decide +kernel
theorem dX6_ofOrder_68 : decode cX6_ofOrder 68 = .ok (.istore_n 3, 1) := by decide +kernel
theorem dX6_ofOrder_69 : decode cX6_ofOrder 69 = .ok (.iconst 0, 1) := by decide +kernel
theorem dX6_ofOrder_70 : decode cX6_ofOrder 70 = .ok (.istore 4, 2) := by decide +kernel
theorem dX6_ofOrder_72 : decode cX6_ofOrder 72 = .ok (.iload 4, 2) := by decide +kernel
theorem dX6_ofOrder_74 : decode cX6_ofOrder 74 = .ok (.bipush 6, 2) := by decide +kernel
theorem dX6_ofOrder_76 : decode cX6_ofOrder 76 = .ok (.if_icmp .ge 39, 3) := by decide +kernel
theorem dX6_ofOrder_79 : decode cX6_ofOrder 79 = .ok (.iload_n 3, 1) := by decide +kernel
theorem dX6_ofOrder_80 : decode cX6_ofOrder 80 = .ok (.aload_n 0, 1) := by decide +kernel
theorem dX6_ofOrder_81 : decode cX6_ofOrder 81 = .ok (.getfield 7, 3) := by decide +kernel
theorem dX6_ofOrder_84 : decode cX6_ofOrder 84 = .ok (.iload 4, 2) := by decide +kernel
theorem dX6_ofOrder_86 : decode cX6_ofOrder 86 = .ok (.iconst 0, 1) := by decide +kernel
theorem dX6_ofOrder_87 : decode cX6_ofOrder 87 = .ok (.invokestatic 47, 3) := by decide +kernel
theorem dX6_ofOrder_90 : decode cX6_ofOrder 90 = .ok (.aload_n 0, 1) := by decide +kernel
theorem dX6_ofOrder_91 : decode cX6_ofOrder 91 = .ok (.getfield 7, 3) := by decide +kernel
theorem dX6_ofOrder_94 : decode cX6_ofOrder 94 = .ok (.iload_n 1, 1) := by decide +kernel
theorem dX6_ofOrder_95 : decode cX6_ofOrder 95 = .ok (.iconst 2, 1) := by decide +kernel
theorem dX6_ofOrder_96 : decode cX6_ofOrder 96 = .ok (.invokestatic 43, 3) := by decide +kernel
theorem dX6_ofOrder_99 : decode cX6_ofOrder 99 = .ok (.if_icmp .lt 7, 3) := by decide +kernel
theorem dX6_ofOrder_102 : decode cX6_ofOrder 102 = .ok (.iconst 1, 1) := by decide +kernel
theorem dX6_ofOrder_103 : decode cX6_ofOrder 103 = .ok (.goto 4, 3) := by decide +kernel
theorem dX6_ofOrder_106 : decode cX6_ofOrder 106 = .ok (.iconst 0, 1) := by decide +kernel
theorem dX6_ofOrder_107 : decode cX6_ofOrder 107 = .ok (.iadd, 1) := by decide +kernel
theorem dX6_ofOrder_108 : decode cX6_ofOrder 108 = .ok (.istore_n 3, 1) := by decide +kernel
theorem dX6_ofOrder_109 : decode cX6_ofOrder 109 = .ok (.iinc 4 1, 3) := by decide +kernel
theorem dX6_ofOrder_112 : decode cX6_ofOrder 112 = .ok (.goto (-40), 3) := by decide +kernel
theorem dX6_ofOrder_115 : decode cX6_ofOrder 115 = .ok (.iload_n 3, 1) := by decide +kernel
theorem dX6_ofOrder_116 : decode cX6_ofOrder 116 = .ok (.ireturn, 1) := by decide +kernel
theorem dX6_orderOf_0 : decode cX6_orderOf 0 = .ok (.aload_n 0, 1) := by decide +kernel
theorem dX6_orderOf_1 : decode cX6_orderOf 1 = .ok (.iconst 0, 1) := by decide +kernel
theorem dX6_orderOf_2 : decode cX6_orderOf 2 = .ok (.putfield 28, 3) := by decide +kernel
theorem dX6_orderOf_5 : decode cX6_orderOf 5 = .ok (.iload_n 1, 1) := by decide +kernel
theorem dX6_orderOf_6 : decode cX6_orderOf 6 = .ok (.ifCond .lt 13, 3) := by decide +kernel
theorem dX6_orderOf_9 : decode cX6_orderOf 9 = .ok (.iload_n 2, 1) := by decide +kernel
theorem dX6_orderOf_10 : decode cX6_orderOf 10 = .ok (.iconst 0, 1) := by decide +kernel
theorem dX6_orderOf_11 : decode cX6_orderOf 11 = .ok (.bipush 8, 2) := by decide +kernel
theorem dX6_orderOf_13 : decode cX6_orderOf 13 = .ok (.invokestatic 32, 3) := by decide +kernel
theorem dX6_orderOf_16 : decode cX6_orderOf 16 = .ok (.ifCond .ne 9, 3) := by decide +kernel
theorem dX6_orderOf_19 : decode cX6_orderOf 19 = .ok (.aload_n 0, 1) := by decide +kernel
theorem dX6_orderOf_20 : decode cX6_orderOf 20 = .ok (.iconst 1, 1) := by decide +kernel
theorem dX6_orderOf_21 : decode cX6_orderOf 21 = .ok (.invokevirtual 39, 3) := by decide +kernel
theorem dX6_orderOf_24 : decode cX6_orderOf 24 = .ok (.ireturn, 1) := by decide +kernel
theorem dX6_orderOf_25 : decode cX6_orderOf 25 = .ok (.iload_n 1, 1) := by decide +kernel
theorem dX6_orderOf_26 : decode cX6_orderOf 26 = .ok (.aload_n 0, 1) := by decide +kernel
theorem dX6_orderOf_27 : decode cX6_orderOf 27 = .ok (.getfield 7, 3) := by decide +kernel
theorem dX6_orderOf_30 : decode cX6_orderOf 30 = .ok (.iconst 5, 1) := by decide +kernel
theorem dX6_orderOf_31 : decode cX6_orderOf 31 = .ok (.iaload, 1) := by decide +kernel
theorem dX6_orderOf_32 : decode cX6_orderOf 32 = .ok (.if_icmp .ge 12, 3) := by decide +kernel
theorem dX6_orderOf_35 : decode cX6_orderOf 35 = .ok (.aload_n 0, 1) := by decide +kernel
theorem dX6_orderOf_36 : decode cX6_orderOf 36 = .ok (.iload_n 1, 1) := by decide +kernel
theorem dX6_orderOf_37 : decode cX6_orderOf 37 = .ok (.iload_n 2, 1) := by decide +kernel
theorem dX6_orderOf_38 : decode cX6_orderOf 38 = .ok (.invokevirtual 163, 3) := by decide +kernel
theorem dX6_orderOf_41 : decode cX6_orderOf 41 = .ok (.goto 4, 3) := by decide +kernel
theorem dX6_orderOf_44 : decode cX6_orderOf 44 = .ok (.iconst (-1), 1) := by decide +kernel
theorem dX6_orderOf_45 : decode cX6_orderOf 45 = .ok (.ireturn, 1) := by decide +kernel
theorem dX6_wovenBy_0 : decode cX6_wovenBy 0 = .ok (.aload_n 0, 1) := by decide +kernel
theorem dX6_wovenBy_1 : decode cX6_wovenBy 1 = .ok (.iconst 0, 1) := by decide +kernel
theorem dX6_wovenBy_2 : decode cX6_wovenBy 2 = .ok (.putfield 28, 3) := by decide +kernel
theorem dX6_wovenBy_5 : decode cX6_wovenBy 5 = .ok (.iload_n 1, 1) := by decide +kernel
theorem dX6_wovenBy_6 : decode cX6_wovenBy 6 = .ok (.ifCond .ge 9, 3) := by decide +kernel
theorem dX6_wovenBy_9 : decode cX6_wovenBy 9 = .ok (.aload_n 0, 1) := by decide +kernel
theorem dX6_wovenBy_10 : decode cX6_wovenBy 10 = .ok (.iconst 1, 1) := by decide +kernel
theorem dX6_wovenBy_11 : decode cX6_wovenBy 11 = .ok (.invokevirtual 39, 3) := by decide +kernel
theorem dX6_wovenBy_14 : decode cX6_wovenBy 14 = .ok (.ireturn, 1) := by decide +kernel
theorem dX6_wovenBy_15 : decode cX6_wovenBy 15 = .ok (.iload_n 2, 1) := by decide +kernel
theorem dX6_wovenBy_16 : decode cX6_wovenBy 16 = .ok (.invokestatic 103, 3) := by decide +kernel
theorem dX6_wovenBy_19 : decode cX6_wovenBy 19 = .ok (.ifCond .ne 9, 3) := by decide +kernel
theorem dX6_wovenBy_22 : decode cX6_wovenBy 22 = .ok (.aload_n 0, 1) := by decide +kernel
theorem dX6_wovenBy_23 : decode cX6_wovenBy 23 = .ok (.iconst 2, 1) := by decide +kernel
theorem dX6_wovenBy_24 : decode cX6_wovenBy 24 = .ok (.invokevirtual 39, 3) := by decide +kernel
theorem dX6_wovenBy_27 : decode cX6_wovenBy 27 = .ok (.ireturn, 1) := by decide +kernel
theorem dX6_wovenBy_28 : decode cX6_wovenBy 28 = .ok (.iload_n 1, 1) := by decide +kernel
theorem dX6_wovenBy_29 : decode cX6_wovenBy 29 = .ok (.aload_n 0, 1) := by decide +kernel
theorem dX6_wovenBy_30 : decode cX6_wovenBy 30 = .ok (.getfield 7, 3) := by decide +kernel
theorem dX6_wovenBy_33 : decode cX6_wovenBy 33 = .ok (.iconst 5, 1) := by decide +kernel
theorem dX6_wovenBy_34 : decode cX6_wovenBy 34 = .ok (.iaload, 1) := by decide +kernel
theorem dX6_wovenBy_35 : decode cX6_wovenBy 35 = .ok (.if_icmp .ge 18, 3) := by decide +kernel
theorem dX6_wovenBy_38 : decode cX6_wovenBy 38 = .ok (.aload_n 0, 1) := by decide +kernel
theorem dX6_wovenBy_39 : decode cX6_wovenBy 39 = .ok (.getfield 7, 3) := by decide +kernel
theorem dX6_wovenBy_42 : decode cX6_wovenBy 42 = .ok (.iload_n 1, 1) := by decide +kernel
theorem dX6_wovenBy_43 : decode cX6_wovenBy 43 = .ok (.bipush 6, 2) := by decide +kernel
theorem dX6_wovenBy_45 : decode cX6_wovenBy 45 = .ok (.iload_n 2, 1) := by decide +kernel
theorem dX6_wovenBy_46 : decode cX6_wovenBy 46 = .ok (.iadd, 1) := by decide +kernel
theorem dX6_wovenBy_47 : decode cX6_wovenBy 47 = .ok (.invokestatic 43, 3) := by decide +kernel
theorem dX6_wovenBy_50 : decode cX6_wovenBy 50 = .ok (.goto 4, 3) := by decide +kernel
theorem dX6_wovenBy_53 : decode cX6_wovenBy 53 = .ok (.iconst (-1), 1) := by decide +kernel
theorem dX6_wovenBy_54 : decode cX6_wovenBy 54 = .ok (.ireturn, 1) := by decide +kernel
theorem dX6_ofNext_0 : decode cX6_ofNext 0 = .ok (.aload_n 0, 1) := by decide +kernel
theorem dX6_ofNext_1 : decode cX6_ofNext 1 = .ok (.getfield 7, 3) := by decide +kernel
theorem dX6_ofNext_4 : decode cX6_ofNext 4 = .ok (.iload_n 1, 1) := by decide +kernel
theorem dX6_ofNext_5 : decode cX6_ofNext 5 = .ok (.iconst 0, 1) := by decide +kernel
theorem dX6_ofNext_6 : decode cX6_ofNext 6 = .ok (.invokestatic 47, 3) := by decide +kernel
theorem dX6_ofNext_9 : decode cX6_ofNext 9 = .ok (.ifCond .ne 7, 3) := by decide +kernel
theorem dX6_ofNext_12 : decode cX6_ofNext 12 = .ok (.iconst (-1), 1) := by decide +kernel
theorem dX6_ofNext_13 : decode cX6_ofNext 13 = .ok (.goto 11, 3) := by decide +kernel
theorem dX6_ofNext_16 : decode cX6_ofNext 16 = .ok (.aload_n 0, 1) := by decide +kernel
theorem dX6_ofNext_17 : decode cX6_ofNext 17 = .ok (.getfield 7, 3) := by decide +kernel
theorem dX6_ofNext_20 : decode cX6_ofNext 20 = .ok (.iload_n 1, 1) := by decide +kernel
theorem dX6_ofNext_21 : decode cX6_ofNext 21 = .ok (.invokestatic 80, 3) := by decide +kernel
theorem dX6_ofNext_24 : decode cX6_ofNext 24 = .ok (.istore_n 3, 1) := by decide +kernel
theorem dX6_ofNext_25 : decode cX6_ofNext 25 = .ok (.iload_n 2, 1) := by decide +kernel
theorem dX6_ofNext_26 : decode cX6_ofNext 26 = .ok (.ifCond .eq 8, 3) := by decide +kernel
theorem dX6_ofNext_29 : decode cX6_ofNext 29 = .ok (.iload_n 3, 1) := by decide +kernel
theorem dX6_ofNext_30 : decode cX6_ofNext 30 = .ok (.iconst (-1), 1) := by decide +kernel
theorem dX6_ofNext_31 : decode cX6_ofNext 31 = .ok (.if_icmp .ne 46, 3) := by decide +kernel
theorem dX6_ofNext_34 : decode cX6_ofNext 34 = .ok (.iload_n 2, 1) := by decide +kernel
theorem dX6_ofNext_35 : decode cX6_ofNext 35 = .ok (.ifCond .ne 24, 3) := by decide +kernel
theorem dX6_ofNext_38 : decode cX6_ofNext 38 = .ok (.iload_n 3, 1) := by decide +kernel
theorem dX6_ofNext_39 : decode cX6_ofNext 39 = .ok (.iconst (-1), 1) := by decide +kernel
theorem dX6_ofNext_40 : decode cX6_ofNext 40 = .ok (.if_icmp .ne 7, 3) := by decide +kernel
theorem dX6_ofNext_43 : decode cX6_ofNext 43 = .ok (.iconst (-1), 1) := by decide +kernel
theorem dX6_ofNext_44 : decode cX6_ofNext 44 = .ok (.goto 32, 3) := by decide +kernel
theorem dX6_ofNext_47 : decode cX6_ofNext 47 = .ok (.aload_n 0, 1) := by decide +kernel
theorem dX6_ofNext_48 : decode cX6_ofNext 48 = .ok (.getfield 7, 3) := by decide +kernel
theorem dX6_ofNext_51 : decode cX6_ofNext 51 = .ok (.iload_n 3, 1) := by decide +kernel
theorem dX6_ofNext_52 : decode cX6_ofNext 52 = .ok (.iconst 0, 1) := by decide +kernel
theorem dX6_ofNext_53 : decode cX6_ofNext 53 = .ok (.invokestatic 43, 3) := by decide +kernel
theorem dX6_ofNext_56 : decode cX6_ofNext 56 = .ok (.goto 20, 3) := by decide +kernel
theorem dX6_ofNext_59 : decode cX6_ofNext 59 = .ok (.aload_n 0, 1) := by decide +kernel
theorem dX6_ofNext_60 : decode cX6_ofNext 60 = .ok (.getfield 7, 3) := by decide +kernel
theorem dX6_ofNext_63 : decode cX6_ofNext 63 = .ok (.iload_n 1, 1) := by decide +kernel
theorem dX6_ofNext_64 : decode cX6_ofNext 64 = .ok (.iconst 0, 1) := by decide +kernel
theorem dX6_ofNext_65 : decode cX6_ofNext 65 = .ok (.invokestatic 47, 3) := by decide +kernel
theorem dX6_ofNext_68 : decode cX6_ofNext 68 = .ok (.ifCond .ne 7, 3) := by decide +kernel
theorem dX6_ofNext_71 : decode cX6_ofNext 71 = .ok (.iconst 1, 1) := by decide +kernel
theorem dX6_ofNext_72 : decode cX6_ofNext 72 = .ok (.goto 4, 3) := by decide +kernel
theorem dX6_ofNext_75 : decode cX6_ofNext 75 = .ok (.iconst 2, 1) := by decide +kernel
theorem dX6_ofNext_76 : decode cX6_ofNext 76 = .ok (.ireturn, 1) := by decide +kernel
theorem dX6_ofNext_77 : decode cX6_ofNext 77 = .ok (.aload_n 0, 1) := by decide +kernel
theorem dX6_ofNext_78 : decode cX6_ofNext 78 = .ok (.getfield 7, 3) := by decide +kernel
theorem dX6_ofNext_81 : decode cX6_ofNext 81 = .ok (.iload_n 3, 1) := by decide +kernel
theorem dX6_ofNext_82 : decode cX6_ofNext 82 = .ok (.iconst 1, 1) := by decide +kernel
theorem dX6_ofNext_83 : decode cX6_ofNext 83 = .ok (.invokestatic 43, 3) := by decide +kernel
theorem dX6_ofNext_86 : decode cX6_ofNext 86 = .ok (.istore 4, 2) := by decide +kernel
theorem dX6_ofNext_88 : decode cX6_ofNext 88 = .ok (.aload_n 0, 1) := by decide +kernel
theorem dX6_ofNext_89 : decode cX6_ofNext 89 = .ok (.getfield 7, 3) := by decide +kernel
theorem dX6_ofNext_92 : decode cX6_ofNext 92 = .ok (.iload_n 1, 1) := by decide +kernel
theorem dX6_ofNext_93 : decode cX6_ofNext 93 = .ok (.bipush 8, 2) := by decide +kernel
theorem dX6_ofNext_95 : decode cX6_ofNext 95 = .ok (.iload 4, 2) := by decide +kernel
theorem dX6_ofNext_97 : decode cX6_ofNext 97 = .ok (.iadd, 1) := by decide +kernel
theorem dX6_ofNext_98 : decode cX6_ofNext 98 = .ok (.invokestatic 47, 3) := by decide +kernel
theorem dX6_ofNext_101 : decode cX6_ofNext 101 = .ok (.aload_n 0, 1) := by decide +kernel
theorem dX6_ofNext_102 : decode cX6_ofNext 102 = .ok (.getfield 7, 3) := by decide +kernel
theorem dX6_ofNext_105 : decode cX6_ofNext 105 = .ok (.iload_n 3, 1) := by decide +kernel
theorem dX6_ofNext_106 : decode cX6_ofNext 106 = .ok (.invokestatic 73, 3) := by decide +kernel
theorem dX6_ofNext_109 : decode cX6_ofNext 109 = .ok (.if_icmp .ge 23, 3) := by decide +kernel
theorem dX6_ofNext_112 : decode cX6_ofNext 112 = .ok (.aload_n 0, 1) := by decide +kernel
theorem dX6_ofNext_113 : decode cX6_ofNext 113 = .ok (.getfield 7, 3) := by decide +kernel
theorem dX6_ofNext_116 : decode cX6_ofNext 116 = .ok (.iload 4, 2) := by decide +kernel
theorem dX6_ofNext_118 : decode cX6_ofNext 118 = .ok (.aload_n 0, 1) := by decide +kernel
theorem dX6_ofNext_119 : decode cX6_ofNext 119 = .ok (.getfield 7, 3) := by decide +kernel
theorem dX6_ofNext_122 : decode cX6_ofNext 122 = .ok (.iload_n 3, 1) := by decide +kernel
theorem dX6_ofNext_123 : decode cX6_ofNext 123 = .ok (.invokestatic 73, 3) := by decide +kernel
theorem dX6_ofNext_126 : decode cX6_ofNext 126 = .ok (.invokestatic 76, 3) := by decide +kernel
theorem dX6_ofNext_129 : decode cX6_ofNext 129 = .ok (.ifCond .eq 7, 3) := by decide +kernel
theorem dX6_ofNext_132 : decode cX6_ofNext 132 = .ok (.iconst 0, 1) := by decide +kernel
theorem dX6_ofNext_133 : decode cX6_ofNext 133 = .ok (.goto 4, 3) := by decide +kernel
theorem dX6_ofNext_136 : decode cX6_ofNext 136 = .ok (.iconst 3, 1) := by decide +kernel
theorem dX6_ofNext_137 : decode cX6_ofNext 137 = .ok (.ireturn, 1) := by decide +kernel
theorem dX6_next_0 : decode cX6_next 0 = .ok (.aload_n 0, 1) := by decide +kernel
theorem dX6_next_1 : decode cX6_next 1 = .ok (.iconst 0, 1) := by decide +kernel
theorem dX6_next_2 : decode cX6_next 2 = .ok (.putfield 28, 3) := by decide +kernel
theorem dX6_next_5 : decode cX6_next 5 = .ok (.iload_n 1, 1) := by decide +kernel
theorem dX6_next_6 : decode cX6_next 6 = .ok (.invokestatic 103, 3) := by decide +kernel
theorem dX6_next_9 : decode cX6_next 9 = .ok (.ifCond .ne 9, 3) := by decide +kernel
theorem dX6_next_12 : decode cX6_next 12 = .ok (.aload_n 0, 1) := by decide +kernel
theorem dX6_next_13 : decode cX6_next 13 = .ok (.iconst 1, 1) := by decide +kernel
theorem dX6_next_14 : decode cX6_next 14 = .ok (.invokevirtual 39, 3) := by decide +kernel
theorem dX6_next_17 : decode cX6_next 17 = .ok (.ireturn, 1) := by decide +kernel
theorem dX6_next_18 : decode cX6_next 18 = .ok (.iload_n 2, 1) := by decide +kernel
theorem dX6_next_19 : decode cX6_next 19 = .ok (.iconst 0, 1) := by decide +kernel
theorem dX6_next_20 : decode cX6_next 20 = .ok (.iconst 1, 1) := by decide +kernel
theorem dX6_next_21 : decode cX6_next 21 = .ok (.invokestatic 32, 3) := by decide +kernel
theorem dX6_next_24 : decode cX6_next 24 = .ok (.ifCond .eq 12, 3) := by decide +kernel
theorem dX6_next_27 : decode cX6_next 27 = .ok (.aload_n 0, 1) := by decide +kernel
theorem dX6_next_28 : decode cX6_next 28 = .ok (.iload_n 1, 1) := by decide +kernel
theorem dX6_next_29 : decode cX6_next 29 = .ok (.iload_n 2, 1) := by decide +kernel
theorem dX6_next_30 : decode cX6_next 30 = .ok (.invokevirtual 167, 3) := by decide +kernel
theorem dX6_next_33 : decode cX6_next 33 = .ok (.goto 8, 3) := by decide +kernel
theorem dX6_next_36 : decode cX6_next 36 = .ok (.aload_n 0, 1) := by decide +kernel
theorem dX6_next_37 : decode cX6_next 37 = .ok (.iconst 2, 1) := by decide +kernel
theorem dX6_next_38 : decode cX6_next 38 = .ok (.invokevirtual 39, 3) := by decide +kernel
theorem dX6_next_41 : decode cX6_next 41 = .ok (.ireturn, 1) := by decide +kernel
theorem dX6_debts_0 : decode cX6_debts 0 = .ok (.iconst 0, 1) := by decide +kernel
theorem dX6_debts_1 : decode cX6_debts 1 = .ok (.istore_n 1, 1) := by decide +kernel
theorem dX6_debts_2 : decode cX6_debts 2 = .ok (.iconst 0, 1) := by decide +kernel
theorem dX6_debts_3 : decode cX6_debts 3 = .ok (.istore_n 2, 1) := by decide +kernel
theorem dX6_debts_4 : decode cX6_debts 4 = .ok (.iload_n 2, 1) := by decide +kernel
theorem dX6_debts_5 : decode cX6_debts 5 = .ok (.bipush 6, 2) := by decide +kernel
theorem dX6_debts_7 : decode cX6_debts 7 = .ok (.if_icmp .ge 18, 3) := by decide +kernel
theorem dX6_debts_10 : decode cX6_debts 10 = .ok (.iload_n 1, 1) := by decide +kernel
theorem dX6_debts_11 : decode cX6_debts 11 = .ok (.aload_n 0, 1) := by decide +kernel
theorem dX6_debts_12 : decode cX6_debts 12 = .ok (.iload_n 2, 1) := by decide +kernel
theorem dX6_debts_13 : decode cX6_debts 13 = .ok (.iconst 3, 1) := by decide +kernel
theorem dX6_debts_14 : decode cX6_debts 14 = .ok (.invokestatic 47, 3) := by decide +kernel
theorem dX6_debts_17 : decode cX6_debts 17 = .ok (.iadd, 1) := by decide +kernel
theorem dX6_debts_18 : decode cX6_debts 18 = .ok (.istore_n 1, 1) := by decide +kernel
theorem dX6_debts_19 : decode cX6_debts 19 = .ok (.iinc 2 1, 3) := by decide +kernel
theorem dX6_debts_22 : decode cX6_debts 22 = .ok (.goto (-18), 3) := by decide +kernel
theorem dX6_debts_25 : decode cX6_debts 25 = .ok (.iload_n 1, 1) := by decide +kernel
theorem dX6_debts_26 : decode cX6_debts 26 = .ok (.ireturn, 1) := by decide +kernel
theorem dX6_looms_0 : decode cX6_looms 0 = .ok (.iconst 0, 1) := by decide +kernel
theorem dX6_looms_1 : decode cX6_looms 1 = .ok (.istore_n 1, 1) := by decide +kernel
theorem dX6_looms_2 : decode cX6_looms 2 = .ok (.iconst 0, 1) := by decide +kernel
theorem dX6_looms_3 : decode cX6_looms 3 = .ok (.istore_n 2, 1) := by decide +kernel
theorem dX6_looms_4 : decode cX6_looms 4 = .ok (.iload_n 2, 1) := by decide +kernel
theorem dX6_looms_5 : decode cX6_looms 5 = .ok (.bipush 6, 2) := by decide +kernel
theorem dX6_looms_7 : decode cX6_looms 7 = .ok (.if_icmp .ge 29, 3) := by decide +kernel
theorem dX6_looms_10 : decode cX6_looms 10 = .ok (.iload_n 1, 1) := by decide +kernel
theorem dX6_looms_11 : decode cX6_looms 11 = .ok (.aload_n 0, 1) := by decide +kernel
theorem dX6_looms_12 : decode cX6_looms 12 = .ok (.getfield 7, 3) := by decide +kernel
theorem dX6_looms_15 : decode cX6_looms 15 = .ok (.iload_n 2, 1) := by decide +kernel
theorem dX6_looms_16 : decode cX6_looms 16 = .ok (.iconst 0, 1) := by decide +kernel
theorem dX6_looms_17 : decode cX6_looms 17 = .ok (.invokestatic 47, 3) := by decide +kernel
theorem dX6_looms_20 : decode cX6_looms 20 = .ok (.ifCond .le 7, 3) := by decide +kernel
theorem dX6_looms_23 : decode cX6_looms 23 = .ok (.iconst 1, 1) := by decide +kernel
theorem dX6_looms_24 : decode cX6_looms 24 = .ok (.goto 4, 3) := by decide +kernel
theorem dX6_looms_27 : decode cX6_looms 27 = .ok (.iconst 0, 1) := by decide +kernel
theorem dX6_looms_28 : decode cX6_looms 28 = .ok (.iadd, 1) := by decide +kernel
theorem dX6_looms_29 : decode cX6_looms 29 = .ok (.istore_n 1, 1) := by decide +kernel
theorem dX6_looms_30 : decode cX6_looms 30 = .ok (.iinc 2 1, 3) := by decide +kernel
theorem dX6_looms_33 : decode cX6_looms 33 = .ok (.goto (-29), 3) := by decide +kernel
theorem dX6_looms_36 : decode cX6_looms 36 = .ok (.iload_n 1, 1) := by decide +kernel
theorem dX6_looms_37 : decode cX6_looms 37 = .ok (.ireturn, 1) := by decide +kernel
theorem dX6_counted_0 : decode cX6_counted 0 = .ok (.iload_n 1, 1) := by decide +kernel
theorem dX6_counted_1 : decode cX6_counted 1 = .ok (.iconst 2, 1) := by decide +kernel
theorem dX6_counted_2 : decode cX6_counted 2 = .ok (.if_icmp .ge 12, 3) := by decide +kernel
theorem dX6_counted_5 : decode cX6_counted 5 = .ok (.aload_n 0, 1) := by decide +kernel
theorem dX6_counted_6 : decode cX6_counted 6 = .ok (.getfield 7, 3) := by decide +kernel
theorem dX6_counted_9 : decode cX6_counted 9 = .ok (.iconst 4, 1) := by decide +kernel
theorem dX6_counted_10 : decode cX6_counted 10 = .ok (.iload_n 1, 1) := by decide +kernel
theorem dX6_counted_11 : decode cX6_counted 11 = .ok (.iadd, 1) := by decide +kernel
theorem dX6_counted_12 : decode cX6_counted 12 = .ok (.iaload, 1) := by decide +kernel
theorem dX6_counted_13 : decode cX6_counted 13 = .ok (.ireturn, 1) := by decide +kernel
theorem dX6_counted_14 : decode cX6_counted 14 = .ok (.iload_n 1, 1) := by decide +kernel
theorem dX6_counted_15 : decode cX6_counted 15 = .ok (.bipush 8, 2) := by decide +kernel
theorem dX6_counted_17 : decode cX6_counted 17 = .ok (.if_icmp .ge 15, 3) := by decide +kernel
theorem dX6_counted_20 : decode cX6_counted 20 = .ok (.aload_n 0, 1) := by decide +kernel
theorem dX6_counted_21 : decode cX6_counted 21 = .ok (.getfield 7, 3) := by decide +kernel
theorem dX6_counted_24 : decode cX6_counted 24 = .ok (.bipush 7, 2) := by decide +kernel
theorem dX6_counted_26 : decode cX6_counted 26 = .ok (.iload_n 1, 1) := by decide +kernel
theorem dX6_counted_27 : decode cX6_counted 27 = .ok (.iadd, 1) := by decide +kernel
theorem dX6_counted_28 : decode cX6_counted 28 = .ok (.iconst 2, 1) := by decide +kernel
theorem dX6_counted_29 : decode cX6_counted 29 = .ok (.isub, 1) := by decide +kernel
theorem dX6_counted_30 : decode cX6_counted 30 = .ok (.iaload, 1) := by decide +kernel
theorem dX6_counted_31 : decode cX6_counted 31 = .ok (.ireturn, 1) := by decide +kernel
theorem dX6_counted_32 : decode cX6_counted 32 = .ok (.iload_n 1, 1) := by decide +kernel
theorem dX6_counted_33 : decode cX6_counted 33 = .ok (.bipush 8, 2) := by decide +kernel
theorem dX6_counted_35 : decode cX6_counted 35 = .ok (.if_icmp .ne 13, 3) := by decide +kernel
theorem dX6_counted_38 : decode cX6_counted 38 = .ok (.aload_n 0, 1) := by decide +kernel
theorem dX6_counted_39 : decode cX6_counted 39 = .ok (.getfield 7, 3) := by decide +kernel
theorem dX6_counted_42 : decode cX6_counted 42 = .ok (.invokestatic 170, 3) := by decide +kernel
theorem dX6_counted_45 : decode cX6_counted 45 = .ok (.goto 36, 3) := by decide +kernel
theorem dX6_counted_48 : decode cX6_counted 48 = .ok (.iload_n 1, 1) := by decide +kernel
theorem dX6_counted_49 : decode cX6_counted 49 = .ok (.bipush 9, 2) := by decide +kernel
theorem dX6_counted_51 : decode cX6_counted 51 = .ok (.if_icmp .ne 10, 3) := by decide +kernel
theorem dX6_counted_54 : decode cX6_counted 54 = .ok (.aload_n 0, 1) := by decide +kernel
theorem dX6_counted_55 : decode cX6_counted 55 = .ok (.invokevirtual 174, 3) := by decide +kernel
theorem dX6_counted_58 : decode cX6_counted 58 = .ok (.goto 23, 3) := by decide +kernel
theorem dX6_counted_61 : decode cX6_counted 61 = .ok (.iload_n 1, 1) := by decide +kernel
theorem dX6_counted_62 : decode cX6_counted 62 = .ok (.bipush 10, 2) := by decide +kernel
theorem dX6_counted_64 : decode cX6_counted 64 = .ok (.if_icmp .ne 13, 3) := by decide +kernel
theorem dX6_counted_67 : decode cX6_counted 67 = .ok (.aload_n 0, 1) := by decide +kernel
theorem dX6_counted_68 : decode cX6_counted 68 = .ok (.getfield 7, 3) := by decide +kernel
theorem dX6_counted_71 : decode cX6_counted 71 = .ok (.bipush 13, 2) := by decide +kernel
theorem dX6_counted_73 : decode cX6_counted 73 = .ok (.iaload, 1) := by decide +kernel
theorem dX6_counted_74 : decode cX6_counted 74 = .ok (.goto 7, 3) := by decide +kernel
theorem dX6_counted_77 : decode cX6_counted 77 = .ok (.aload_n 0, 1) := by decide +kernel
theorem dX6_counted_78 : decode cX6_counted 78 = .ok (.getfield 36, 3) := by decide +kernel
theorem dX6_counted_81 : decode cX6_counted 81 = .ok (.ireturn, 1) := by decide +kernel
theorem dX6_count_0 : decode cX6_count 0 = .ok (.aload_n 0, 1) := by decide +kernel
theorem dX6_count_1 : decode cX6_count 1 = .ok (.iconst 0, 1) := by decide +kernel
theorem dX6_count_2 : decode cX6_count 2 = .ok (.putfield 28, 3) := by decide +kernel
theorem dX6_count_5 : decode cX6_count 5 = .ok (.iload_n 1, 1) := by decide +kernel
theorem dX6_count_6 : decode cX6_count 6 = .ok (.iconst 0, 1) := by decide +kernel
theorem dX6_count_7 : decode cX6_count 7 = .ok (.bipush 11, 2) := by decide +kernel
theorem dX6_count_9 : decode cX6_count 9 = .ok (.invokestatic 32, 3) := by decide +kernel
theorem dX6_count_12 : decode cX6_count 12 = .ok (.ifCond .eq 11, 3) := by decide +kernel
theorem dX6_count_15 : decode cX6_count 15 = .ok (.aload_n 0, 1) := by decide +kernel
theorem dX6_count_16 : decode cX6_count 16 = .ok (.iload_n 1, 1) := by decide +kernel
theorem dX6_count_17 : decode cX6_count 17 = .ok (.invokevirtual 178, 3) := by decide +kernel
theorem dX6_count_20 : decode cX6_count 20 = .ok (.goto 8, 3) := by decide +kernel
theorem dX6_count_23 : decode cX6_count 23 = .ok (.aload_n 0, 1) := by decide +kernel
theorem dX6_count_24 : decode cX6_count 24 = .ok (.iconst 1, 1) := by decide +kernel
theorem dX6_count_25 : decode cX6_count 25 = .ok (.invokevirtual 39, 3) := by decide +kernel
theorem dX6_count_28 : decode cX6_count 28 = .ok (.ireturn, 1) := by decide +kernel
theorem dX6_setting_0 : decode cX6_setting 0 = .ok (.aload_n 0, 1) := by decide +kernel
theorem dX6_setting_1 : decode cX6_setting 1 = .ok (.iconst 0, 1) := by decide +kernel
theorem dX6_setting_2 : decode cX6_setting 2 = .ok (.putfield 28, 3) := by decide +kernel
theorem dX6_setting_5 : decode cX6_setting 5 = .ok (.iload_n 1, 1) := by decide +kernel
theorem dX6_setting_6 : decode cX6_setting 6 = .ok (.iconst 0, 1) := by decide +kernel
theorem dX6_setting_7 : decode cX6_setting 7 = .ok (.iconst 3, 1) := by decide +kernel
theorem dX6_setting_8 : decode cX6_setting 8 = .ok (.invokestatic 32, 3) := by decide +kernel
theorem dX6_setting_11 : decode cX6_setting 11 = .ok (.ifCond .eq 12, 3) := by decide +kernel
theorem dX6_setting_14 : decode cX6_setting 14 = .ok (.aload_n 0, 1) := by decide +kernel
theorem dX6_setting_15 : decode cX6_setting 15 = .ok (.getfield 7, 3) := by decide +kernel
theorem dX6_setting_18 : decode cX6_setting 18 = .ok (.iload_n 1, 1) := by decide +kernel
theorem dX6_setting_19 : decode cX6_setting 19 = .ok (.iaload, 1) := by decide +kernel
theorem dX6_setting_20 : decode cX6_setting 20 = .ok (.goto 8, 3) := by decide +kernel
theorem dX6_setting_23 : decode cX6_setting 23 = .ok (.aload_n 0, 1) := by decide +kernel
theorem dX6_setting_24 : decode cX6_setting 24 = .ok (.iconst 1, 1) := by decide +kernel
theorem dX6_setting_25 : decode cX6_setting 25 = .ok (.invokevirtual 39, 3) := by decide +kernel
theorem dX6_setting_28 : decode cX6_setting 28 = .ok (.ireturn, 1) := by decide +kernel
theorem dX6_byHours_0 : decode cX6_byHours 0 = .ok (.aload_n 0, 1) := by decide +kernel
theorem dX6_byHours_1 : decode cX6_byHours 1 = .ok (.invokevirtual 181, 3) := by decide +kernel
theorem dX6_byHours_4 : decode cX6_byHours 4 = .ok (.aload_n 0, 1) := by decide +kernel
theorem dX6_byHours_5 : decode cX6_byHours 5 = .ok (.aload_n 0, 1) := by decide +kernel
theorem dX6_byHours_6 : decode cX6_byHours 6 = .ok (.getfield 13, 3) := by decide +kernel
theorem dX6_byHours_9 : decode cX6_byHours 9 = .ok (.iload_n 1, 1) := by decide +kernel
theorem dX6_byHours_10 : decode cX6_byHours 10 = .ok (.invokevirtual 121, 3) := by decide +kernel
theorem dX6_byHours_13 : decode cX6_byHours 13 = .ok (.iload_n 2, 1) := by decide +kernel
theorem dX6_byHours_14 : decode cX6_byHours 14 = .ok (.iconst 3, 1) := by decide +kernel
theorem dX6_byHours_15 : decode cX6_byHours 15 = .ok (.if_icmp .ne 11, 3) := by decide +kernel
theorem dX6_byHours_18 : decode cX6_byHours 18 = .ok (.aload_n 0, 1) := by decide +kernel
theorem dX6_byHours_19 : decode cX6_byHours 19 = .ok (.getfield 13, 3) := by decide +kernel
theorem dX6_byHours_22 : decode cX6_byHours 22 = .ok (.invokestatic 170, 3) := by decide +kernel
theorem dX6_byHours_25 : decode cX6_byHours 25 = .ok (.ireturn, 1) := by decide +kernel
theorem dX6_byHours_26 : decode cX6_byHours 26 = .ok (.iload_n 2, 1) := by decide +kernel
theorem dX6_byHours_27 : decode cX6_byHours 27 = .ok (.ifCond .ne 8, 3) := by decide +kernel
theorem dX6_byHours_30 : decode cX6_byHours 30 = .ok (.bipush 7, 2) := by decide +kernel
theorem dX6_byHours_32 : decode cX6_byHours 32 = .ok (.goto 25, 3) := by decide +kernel
theorem dX6_byHours_35 : decode cX6_byHours 35 = .ok (.iload_n 2, 1) := by decide +kernel
theorem dX6_byHours_36 : decode cX6_byHours 36 = .ok (.iconst 1, 1) := by decide +kernel
theorem dX6_byHours_37 : decode cX6_byHours 37 = .ok (.if_icmp .ne 8, 3) := by decide +kernel
theorem dX6_byHours_40 : decode cX6_byHours 40 = .ok (.bipush 9, 2) := by decide +kernel
theorem dX6_byHours_42 : decode cX6_byHours 42 = .ok (.goto 15, 3) := by decide +kernel
theorem dX6_byHours_45 : decode cX6_byHours 45 = .ok (.iload_n 2, 1) := by decide +kernel
theorem dX6_byHours_46 : decode cX6_byHours 46 = .ok (.iconst 2, 1) := by decide +kernel
theorem dX6_byHours_47 : decode cX6_byHours 47 = .ok (.if_icmp .ne 8, 3) := by decide +kernel
theorem dX6_byHours_50 : decode cX6_byHours 50 = .ok (.bipush 11, 2) := by decide +kernel
theorem dX6_byHours_52 : decode cX6_byHours 52 = .ok (.goto 5, 3) := by decide +kernel
theorem dX6_byHours_55 : decode cX6_byHours 55 = .ok (.bipush 8, 2) := by decide +kernel
theorem dX6_byHours_57 : decode cX6_byHours 57 = .ok (.istore_n 3, 1) := by decide +kernel
theorem dX6_byHours_58 : decode cX6_byHours 58 = .ok (.aload_n 0, 1) := by decide +kernel
theorem dX6_byHours_59 : decode cX6_byHours 59 = .ok (.getfield 13, 3) := by decide +kernel
theorem dX6_byHours_62 : decode cX6_byHours 62 = .ok (.iload_n 3, 1) := by decide +kernel
theorem dX6_byHours_63 : decode cX6_byHours 63 = .ok (.iaload, 1) := by decide +kernel
theorem dX6_byHours_64 : decode cX6_byHours 64 = .ok (.aload_n 0, 1) := by decide +kernel
theorem dX6_byHours_65 : decode cX6_byHours 65 = .ok (.getfield 7, 3) := by decide +kernel
theorem dX6_byHours_68 : decode cX6_byHours 68 = .ok (.iload_n 3, 1) := by decide +kernel
theorem dX6_byHours_69 : decode cX6_byHours 69 = .ok (.iaload, 1) := by decide +kernel
theorem dX6_byHours_70 : decode cX6_byHours 70 = .ok (.isub, 1) := by decide +kernel
theorem dX6_byHours_71 : decode cX6_byHours 71 = .ok (.ireturn, 1) := by decide +kernel
theorem dX6_ifPassed_0 : decode cX6_ifPassed 0 = .ok (.aload_n 0, 1) := by decide +kernel
theorem dX6_ifPassed_1 : decode cX6_ifPassed 1 = .ok (.iconst 0, 1) := by decide +kernel
theorem dX6_ifPassed_2 : decode cX6_ifPassed 2 = .ok (.putfield 28, 3) := by decide +kernel
theorem dX6_ifPassed_5 : decode cX6_ifPassed 5 = .ok (.iload_n 1, 1) := by decide +kernel
theorem dX6_ifPassed_6 : decode cX6_ifPassed 6 = .ok (.iconst 1, 1) := by decide +kernel
theorem dX6_ifPassed_7 : decode cX6_ifPassed 7 = .ok (.sipush 200, 3) := by decide +kernel
theorem dX6_ifPassed_10 : decode cX6_ifPassed 10 = .ok (.invokestatic 32, 3) := by decide +kernel
theorem dX6_ifPassed_13 : decode cX6_ifPassed 13 = .ok (.ifCond .eq 21, 3) := by decide +kernel
theorem dX6_ifPassed_16 : decode cX6_ifPassed 16 = .ok (.iload_n 2, 1) := by decide +kernel
theorem dX6_ifPassed_17 : decode cX6_ifPassed 17 = .ok (.iconst 0, 1) := by decide +kernel
theorem dX6_ifPassed_18 : decode cX6_ifPassed 18 = .ok (.iconst 4, 1) := by decide +kernel
theorem dX6_ifPassed_19 : decode cX6_ifPassed 19 = .ok (.invokestatic 32, 3) := by decide +kernel
theorem dX6_ifPassed_22 : decode cX6_ifPassed 22 = .ok (.ifCond .eq 12, 3) := by decide +kernel
theorem dX6_ifPassed_25 : decode cX6_ifPassed 25 = .ok (.aload_n 0, 1) := by decide +kernel
theorem dX6_ifPassed_26 : decode cX6_ifPassed 26 = .ok (.iload_n 1, 1) := by decide +kernel
theorem dX6_ifPassed_27 : decode cX6_ifPassed 27 = .ok (.iload_n 2, 1) := by decide +kernel
theorem dX6_ifPassed_28 : decode cX6_ifPassed 28 = .ok (.invokevirtual 184, 3) := by decide +kernel
theorem dX6_ifPassed_31 : decode cX6_ifPassed 31 = .ok (.goto 8, 3) := by decide +kernel
theorem dX6_ifPassed_34 : decode cX6_ifPassed 34 = .ok (.aload_n 0, 1) := by decide +kernel
theorem dX6_ifPassed_35 : decode cX6_ifPassed 35 = .ok (.iconst 1, 1) := by decide +kernel
theorem dX6_ifPassed_36 : decode cX6_ifPassed 36 = .ok (.invokevirtual 39, 3) := by decide +kernel
theorem dX6_ifPassed_39 : decode cX6_ifPassed 39 = .ok (.ireturn, 1) := by decide +kernel
theorem dX6_behind_0 : decode cX6_behind 0 = .ok (.aload_n 0, 1) := by decide +kernel
theorem dX6_behind_1 : decode cX6_behind 1 = .ok (.invokevirtual 181, 3) := by decide +kernel
theorem dX6_behind_4 : decode cX6_behind 4 = .ok (.iconst 1, 1) := by decide +kernel
theorem dX6_behind_5 : decode cX6_behind 5 = .ok (.istore_n 2, 1) := by decide +kernel
theorem dX6_behind_6 : decode cX6_behind 6 = .ok (.iload_n 2, 1) := by decide +kernel
theorem dX6_behind_7 : decode cX6_behind 7 = .ok (.sipush 200, 3) := by decide +kernel
theorem dX6_behind_10 : decode cX6_behind 10 = .ok (.if_icmp .gt 31, 3) := by decide +kernel
theorem dX6_behind_13 : decode cX6_behind 13 = .ok (.aload_n 0, 1) := by decide +kernel
theorem dX6_behind_14 : decode cX6_behind 14 = .ok (.aload_n 0, 1) := by decide +kernel
theorem dX6_behind_15 : decode cX6_behind 15 = .ok (.getfield 13, 3) := by decide +kernel
theorem dX6_behind_18 : decode cX6_behind 18 = .ok (.invokevirtual 99, 3) := by decide +kernel
theorem dX6_behind_21 : decode cX6_behind 21 = .ok (.aload_n 0, 1) := by decide +kernel
theorem dX6_behind_22 : decode cX6_behind 22 = .ok (.getfield 13, 3) := by decide +kernel
theorem dX6_behind_25 : decode cX6_behind 25 = .ok (.iload_n 1, 1) := by decide +kernel
theorem dX6_behind_26 : decode cX6_behind 26 = .ok (.invokestatic 118, 3) := by decide +kernel
theorem dX6_behind_29 : decode cX6_behind 29 = .ok (.iconst (-1), 1) := by decide +kernel
theorem dX6_behind_30 : decode cX6_behind 30 = .ok (.if_icmp .ne 5, 3) := by decide +kernel
theorem dX6_behind_33 : decode cX6_behind 33 = .ok (.iload_n 2, 1) := by decide +kernel
theorem dX6_behind_34 : decode cX6_behind 34 = .ok (.ireturn, 1) := by decide +kernel
theorem dX6_behind_35 : decode cX6_behind 35 = .ok (.iinc 2 1, 3) := by decide +kernel
theorem dX6_behind_38 : decode cX6_behind 38 = .ok (.goto (-32), 3) := by decide +kernel
theorem dX6_behind_41 : decode cX6_behind 41 = .ok (.iconst (-1), 1) := by decide +kernel
theorem dX6_behind_42 : decode cX6_behind 42 = .ok (.ireturn, 1) := by decide +kernel
theorem dX6_doneIn_0 : decode cX6_doneIn 0 = .ok (.aload_n 0, 1) := by decide +kernel
theorem dX6_doneIn_1 : decode cX6_doneIn 1 = .ok (.iconst 0, 1) := by decide +kernel
theorem dX6_doneIn_2 : decode cX6_doneIn 2 = .ok (.putfield 28, 3) := by decide +kernel
theorem dX6_doneIn_5 : decode cX6_doneIn 5 = .ok (.aload_n 0, 1) := by decide +kernel
theorem dX6_doneIn_6 : decode cX6_doneIn 6 = .ok (.getfield 7, 3) := by decide +kernel
theorem dX6_doneIn_9 : decode cX6_doneIn 9 = .ok (.iload_n 1, 1) := by decide +kernel
theorem dX6_doneIn_10 : decode cX6_doneIn 10 = .ok (.invokestatic 118, 3) := by decide +kernel
theorem dX6_doneIn_13 : decode cX6_doneIn 13 = .ok (.iconst (-1), 1) := by decide +kernel
theorem dX6_doneIn_14 : decode cX6_doneIn 14 = .ok (.if_icmp .eq 11, 3) := by decide +kernel
theorem dX6_doneIn_17 : decode cX6_doneIn 17 = .ok (.aload_n 0, 1) := by decide +kernel
theorem dX6_doneIn_18 : decode cX6_doneIn 18 = .ok (.iload_n 1, 1) := by decide +kernel
theorem dX6_doneIn_19 : decode cX6_doneIn 19 = .ok (.invokevirtual 187, 3) := by decide +kernel
theorem dX6_doneIn_22 : decode cX6_doneIn 22 = .ok (.goto 8, 3) := by decide +kernel
theorem dX6_doneIn_25 : decode cX6_doneIn 25 = .ok (.aload_n 0, 1) := by decide +kernel
theorem dX6_doneIn_26 : decode cX6_doneIn 26 = .ok (.iconst 1, 1) := by decide +kernel
theorem dX6_doneIn_27 : decode cX6_doneIn 27 = .ok (.invokevirtual 39, 3) := by decide +kernel
theorem dX6_doneIn_30 : decode cX6_doneIn 30 = .ok (.ireturn, 1) := by decide +kernel
theorem dX6_best_0 : decode cX6_best 0 = .ok (.iconst (-1), 1) := by decide +kernel
theorem dX6_best_1 : decode cX6_best 1 = .ok (.istore_n 2, 1) := by decide +kernel
theorem dX6_best_2 : decode cX6_best 2 = .ok (.iconst 0, 1) := by decide +kernel
theorem dX6_best_3 : decode cX6_best 3 = .ok (.istore_n 3, 1) := by decide +kernel
theorem dX6_best_4 : decode cX6_best 4 = .ok (.iconst 0, 1) := by decide +kernel
theorem dX6_best_5 : decode cX6_best 5 = .ok (.istore 4, 2) := by decide +kernel
theorem dX6_best_7 : decode cX6_best 7 = .ok (.iconst 0, 1) := by decide +kernel
theorem dX6_best_8 : decode cX6_best 8 = .ok (.istore 5, 2) := by decide +kernel
theorem dX6_best_10 : decode cX6_best 10 = .ok (.iload 5, 2) := by decide +kernel
theorem dX6_best_12 : decode cX6_best 12 = .ok (.iconst 3, 1) := by decide +kernel
theorem dX6_best_13 : decode cX6_best 13 = .ok (.if_icmp .ge 124, 3) := by decide +kernel
theorem dX6_best_16 : decode cX6_best 16 = .ok (.aload_n 0, 1) := by decide +kernel
theorem dX6_best_17 : decode cX6_best 17 = .ok (.invokevirtual 181, 3) := by decide +kernel
theorem dX6_best_20 : decode cX6_best 20 = .ok (.aload_n 0, 1) := by decide +kernel
theorem dX6_best_21 : decode cX6_best 21 = .ok (.getfield 13, 3) := by decide +kernel
theorem dX6_best_24 : decode cX6_best 24 = .ok (.iconst 0, 1) := by decide +kernel
theorem dX6_best_25 : decode cX6_best 25 = .ok (.iload 5, 2) := by decide +kernel
theorem dX6_best_27 : decode cX6_best 27 = .ok (.iastore, 1) := by decide +kernel
theorem dX6_best_28 : decode cX6_best 28 = .ok (.aload_n 0, 1) := by decide +kernel
theorem dX6_best_29 : decode cX6_best 29 = .ok (.aload_n 0, 1) := by decide +kernel
theorem dX6_best_30 : decode cX6_best 30 = .ok (.getfield 13, 3) := by decide +kernel
theorem dX6_best_33 : decode cX6_best 33 = .ok (.iload_n 1, 1) := by decide +kernel
theorem dX6_best_34 : decode cX6_best 34 = .ok (.invokevirtual 121, 3) := by decide +kernel
theorem dX6_best_37 : decode cX6_best 37 = .ok (.iload_n 2, 1) := by decide +kernel
theorem dX6_best_38 : decode cX6_best 38 = .ok (.iconst (-1), 1) := by decide +kernel
theorem dX6_best_39 : decode cX6_best 39 = .ok (.if_icmp .eq 37, 3) := by decide +kernel
theorem dX6_best_42 : decode cX6_best 42 = .ok (.aload_n 0, 1) := by decide +kernel
theorem dX6_best_43 : decode cX6_best 43 = .ok (.getfield 13, 3) := by decide +kernel
theorem dX6_best_46 : decode cX6_best 46 = .ok (.bipush 9, 2) := by decide +kernel
theorem dX6_best_48 : decode cX6_best 48 = .ok (.iaload, 1) := by decide +kernel
theorem dX6_best_49 : decode cX6_best 49 = .ok (.iload_n 3, 1) := by decide +kernel
theorem dX6_best_50 : decode cX6_best 50 = .ok (.if_icmp .gt 26, 3) := by decide +kernel
theorem dX6_best_53 : decode cX6_best 53 = .ok (.aload_n 0, 1) := by decide +kernel
theorem dX6_best_54 : decode cX6_best 54 = .ok (.getfield 13, 3) := by decide +kernel
theorem dX6_best_57 : decode cX6_best 57 = .ok (.bipush 9, 2) := by decide +kernel
theorem dX6_best_59 : decode cX6_best 59 = .ok (.iaload, 1) := by decide +kernel
theorem dX6_best_60 : decode cX6_best 60 = .ok (.iload_n 3, 1) := by decide +kernel
theorem dX6_best_61 : decode cX6_best 61 = .ok (.if_icmp .ne 19, 3) := by decide +kernel
theorem dX6_best_64 : decode cX6_best 64 = .ok (.aload_n 0, 1) := by decide +kernel
theorem dX6_best_65 : decode cX6_best 65 = .ok (.getfield 13, 3) := by decide +kernel
theorem dX6_best_68 : decode cX6_best 68 = .ok (.bipush 8, 2) := by decide +kernel
theorem dX6_best_70 : decode cX6_best 70 = .ok (.iaload, 1) := by decide +kernel
theorem dX6_best_71 : decode cX6_best 71 = .ok (.iload 4, 2) := by decide +kernel
theorem dX6_best_73 : decode cX6_best 73 = .ok (.if_icmp .ge 7, 3) := by decide +kernel
theorem dX6_best_76 : decode cX6_best 76 = .ok (.iconst 1, 1) := by decide +kernel
theorem dX6_best_77 : decode cX6_best 77 = .ok (.goto 4, 3) := by decide +kernel
theorem dX6_best_80 : decode cX6_best 80 = .ok (.iconst 0, 1) := by decide +kernel
theorem dX6_best_81 : decode cX6_best 81 = .ok (.istore 6, 2) := by decide +kernel
theorem dX6_best_83 : decode cX6_best 83 = .ok (.iload 6, 2) := by decide +kernel
theorem dX6_best_85 : decode cX6_best 85 = .ok (.ifCond .eq 8, 3) := by decide +kernel
theorem dX6_best_88 : decode cX6_best 88 = .ok (.iload 5, 2) := by decide +kernel
theorem dX6_best_90 : decode cX6_best 90 = .ok (.goto 4, 3) := by decide +kernel
theorem dX6_best_93 : decode cX6_best 93 = .ok (.iload_n 2, 1) := by decide +kernel
theorem dX6_best_94 : decode cX6_best 94 = .ok (.istore_n 2, 1) := by decide +kernel
theorem dX6_best_95 : decode cX6_best 95 = .ok (.iload 6, 2) := by decide +kernel
theorem dX6_best_97 : decode cX6_best 97 = .ok (.ifCond .eq 13, 3) := by decide +kernel
theorem dX6_best_100 : decode cX6_best 100 = .ok (.aload_n 0, 1) := by decide +kernel
theorem dX6_best_101 : decode cX6_best 101 = .ok (.getfield 13, 3) := by decide +kernel
theorem dX6_best_104 : decode cX6_best 104 = .ok (.bipush 9, 2) := by decide +kernel
theorem dX6_best_106 : decode cX6_best 106 = .ok (.iaload, 1) := by decide +kernel
theorem dX6_best_107 : decode cX6_best 107 = .ok (.goto 4, 3) := by decide +kernel
theorem dX6_best_110 : decode cX6_best 110 = .ok (.iload_n 3, 1) := by decide +kernel
theorem dX6_best_111 : decode cX6_best 111 = .ok (.istore_n 3, 1) := by decide +kernel
theorem dX6_best_112 : decode cX6_best 112 = .ok (.iload 6, 2) := by decide +kernel
theorem dX6_best_114 : decode cX6_best 114 = .ok (.ifCond .eq 13, 3) := by decide +kernel
theorem dX6_best_117 : decode cX6_best 117 = .ok (.aload_n 0, 1) := by decide +kernel
theorem dX6_best_118 : decode cX6_best 118 = .ok (.getfield 13, 3) := by decide +kernel
theorem dX6_best_121 : decode cX6_best 121 = .ok (.bipush 8, 2) := by decide +kernel
theorem dX6_best_123 : decode cX6_best 123 = .ok (.iaload, 1) := by decide +kernel
theorem dX6_best_124 : decode cX6_best 124 = .ok (.goto 5, 3) := by decide +kernel
theorem dX6_best_127 : decode cX6_best 127 = .ok (.iload 4, 2) := by decide +kernel
theorem dX6_best_129 : decode cX6_best 129 = .ok (.istore 4, 2) := by decide +kernel
theorem dX6_best_131 : decode cX6_best 131 = .ok (.iinc 5 1, 3) := by decide +kernel
theorem dX6_best_134 : decode cX6_best 134 = .ok (.goto (-124), 3) := by decide +kernel
theorem dX6_best_137 : decode cX6_best 137 = .ok (.iload_n 2, 1) := by decide +kernel
theorem dX6_best_138 : decode cX6_best 138 = .ok (.ireturn, 1) := by decide +kernel
theorem dX6_bestRule_0 : decode cX6_bestRule 0 = .ok (.aload_n 0, 1) := by decide +kernel
theorem dX6_bestRule_1 : decode cX6_bestRule 1 = .ok (.iconst 0, 1) := by decide +kernel
theorem dX6_bestRule_2 : decode cX6_bestRule 2 = .ok (.putfield 28, 3) := by decide +kernel
theorem dX6_bestRule_5 : decode cX6_bestRule 5 = .ok (.iload_n 1, 1) := by decide +kernel
theorem dX6_bestRule_6 : decode cX6_bestRule 6 = .ok (.iconst 1, 1) := by decide +kernel
theorem dX6_bestRule_7 : decode cX6_bestRule 7 = .ok (.bipush 99, 2) := by decide +kernel
theorem dX6_bestRule_9 : decode cX6_bestRule 9 = .ok (.invokestatic 32, 3) := by decide +kernel
theorem dX6_bestRule_12 : decode cX6_bestRule 12 = .ok (.ifCond .eq 11, 3) := by decide +kernel
theorem dX6_bestRule_15 : decode cX6_bestRule 15 = .ok (.aload_n 0, 1) := by decide +kernel
theorem dX6_bestRule_16 : decode cX6_bestRule 16 = .ok (.iload_n 1, 1) := by decide +kernel
theorem dX6_bestRule_17 : decode cX6_bestRule 17 = .ok (.invokevirtual 190, 3) := by decide +kernel
theorem dX6_bestRule_20 : decode cX6_bestRule 20 = .ok (.goto 8, 3) := by decide +kernel
theorem dX6_bestRule_23 : decode cX6_bestRule 23 = .ok (.aload_n 0, 1) := by decide +kernel
theorem dX6_bestRule_24 : decode cX6_bestRule 24 = .ok (.iconst 1, 1) := by decide +kernel
theorem dX6_bestRule_25 : decode cX6_bestRule 25 = .ok (.invokevirtual 39, 3) := by decide +kernel
theorem dX6_bestRule_28 : decode cX6_bestRule 28 = .ok (.ireturn, 1) := by decide +kernel
theorem dX6_due_0 : decode cX6_due 0 = .ok (.aload_n 0, 1) := by decide +kernel
theorem dX6_due_1 : decode cX6_due 1 = .ok (.getfield 7, 3) := by decide +kernel
theorem dX6_due_4 : decode cX6_due 4 = .ok (.iload_n 1, 1) := by decide +kernel
theorem dX6_due_5 : decode cX6_due 5 = .ok (.invokestatic 90, 3) := by decide +kernel
theorem dX6_due_8 : decode cX6_due 8 = .ok (.istore_n 3, 1) := by decide +kernel
theorem dX6_due_9 : decode cX6_due 9 = .ok (.aload_n 0, 1) := by decide +kernel
theorem dX6_due_10 : decode cX6_due 10 = .ok (.aload_n 0, 1) := by decide +kernel
theorem dX6_due_11 : decode cX6_due 11 = .ok (.getfield 7, 3) := by decide +kernel
theorem dX6_due_14 : decode cX6_due 14 = .ok (.iload_n 1, 1) := by decide +kernel
theorem dX6_due_15 : decode cX6_due 15 = .ok (.aload_n 0, 1) := by decide +kernel
theorem dX6_due_16 : decode cX6_due 16 = .ok (.getfield 7, 3) := by decide +kernel
theorem dX6_due_19 : decode cX6_due 19 = .ok (.iload_n 1, 1) := by decide +kernel
theorem dX6_due_20 : decode cX6_due 20 = .ok (.iload_n 3, 1) := by decide +kernel
theorem dX6_due_21 : decode cX6_due 21 = .ok (.invokestatic 59, 3) := by decide +kernel
theorem dX6_due_24 : decode cX6_due 24 = .ok (.iload_n 3, 1) := by decide +kernel
theorem dX6_due_25 : decode cX6_due 25 = .ok (.invokevirtual 62, 3) := by decide +kernel
theorem dX6_due_28 : decode cX6_due 28 = .ok (.aload_n 0, 1) := by decide +kernel
theorem dX6_due_29 : decode cX6_due 29 = .ok (.getfield 25, 3) := by decide +kernel
theorem dX6_due_32 : decode cX6_due 32 = .ok (.iload_n 2, 1) := by decide +kernel
theorem dX6_due_33 : decode cX6_due 33 = .ok (.iaload, 1) := by decide +kernel
theorem dX6_due_34 : decode cX6_due 34 = .ok (.ireturn, 1) := by decide +kernel
theorem dX6_dueNow_0 : decode cX6_dueNow 0 = .ok (.aload_n 0, 1) := by decide +kernel
theorem dX6_dueNow_1 : decode cX6_dueNow 1 = .ok (.iconst 0, 1) := by decide +kernel
theorem dX6_dueNow_2 : decode cX6_dueNow 2 = .ok (.putfield 28, 3) := by decide +kernel
theorem dX6_dueNow_5 : decode cX6_dueNow 5 = .ok (.aload_n 0, 1) := by decide +kernel
theorem dX6_dueNow_6 : decode cX6_dueNow 6 = .ok (.getfield 7, 3) := by decide +kernel
theorem dX6_dueNow_9 : decode cX6_dueNow 9 = .ok (.iload_n 1, 1) := by decide +kernel
theorem dX6_dueNow_10 : decode cX6_dueNow 10 = .ok (.invokestatic 118, 3) := by decide +kernel
theorem dX6_dueNow_13 : decode cX6_dueNow 13 = .ok (.istore_n 3, 1) := by decide +kernel
theorem dX6_dueNow_14 : decode cX6_dueNow 14 = .ok (.iload_n 3, 1) := by decide +kernel
theorem dX6_dueNow_15 : decode cX6_dueNow 15 = .ok (.iconst (-1), 1) := by decide +kernel
theorem dX6_dueNow_16 : decode cX6_dueNow 16 = .ok (.if_icmp .eq 19, 3) := by decide +kernel
theorem dX6_dueNow_19 : decode cX6_dueNow 19 = .ok (.iload_n 2, 1) := by decide +kernel
theorem dX6_dueNow_20 : decode cX6_dueNow 20 = .ok (.invokestatic 103, 3) := by decide +kernel
theorem dX6_dueNow_23 : decode cX6_dueNow 23 = .ok (.ifCond .eq 12, 3) := by decide +kernel
theorem dX6_dueNow_26 : decode cX6_dueNow 26 = .ok (.aload_n 0, 1) := by decide +kernel
theorem dX6_dueNow_27 : decode cX6_dueNow 27 = .ok (.iload_n 3, 1) := by decide +kernel
theorem dX6_dueNow_28 : decode cX6_dueNow 28 = .ok (.iload_n 2, 1) := by decide +kernel
theorem dX6_dueNow_29 : decode cX6_dueNow 29 = .ok (.invokevirtual 193, 3) := by decide +kernel
theorem dX6_dueNow_32 : decode cX6_dueNow 32 = .ok (.goto 8, 3) := by decide +kernel
theorem dX6_dueNow_35 : decode cX6_dueNow 35 = .ok (.aload_n 0, 1) := by decide +kernel
theorem dX6_dueNow_36 : decode cX6_dueNow 36 = .ok (.iconst 1, 1) := by decide +kernel
theorem dX6_dueNow_37 : decode cX6_dueNow 37 = .ok (.invokevirtual 39, 3) := by decide +kernel
theorem dX6_dueNow_40 : decode cX6_dueNow 40 = .ok (.ireturn, 1) := by decide +kernel
theorem dX6_even_0 : decode cX6_even 0 = .ok (.iconst (-1), 1) := by decide +kernel
theorem dX6_even_1 : decode cX6_even 1 = .ok (.istore_n 1, 1) := by decide +kernel
theorem dX6_even_2 : decode cX6_even 2 = .ok (.iconst 0, 1) := by decide +kernel
theorem dX6_even_3 : decode cX6_even 3 = .ok (.istore_n 2, 1) := by decide +kernel
theorem dX6_even_4 : decode cX6_even 4 = .ok (.iconst 0, 1) := by decide +kernel
theorem dX6_even_5 : decode cX6_even 5 = .ok (.istore_n 3, 1) := by decide +kernel
theorem dX6_even_6 : decode cX6_even 6 = .ok (.iload_n 3, 1) := by decide +kernel
theorem dX6_even_7 : decode cX6_even 7 = .ok (.bipush 6, 2) := by decide +kernel
theorem dX6_even_9 : decode cX6_even 9 = .ok (.if_icmp .ge 63, 3) := by decide +kernel
theorem dX6_even_12 : decode cX6_even 12 = .ok (.aload_n 0, 1) := by decide +kernel
theorem dX6_even_13 : decode cX6_even 13 = .ok (.getfield 7, 3) := by decide +kernel
theorem dX6_even_16 : decode cX6_even 16 = .ok (.iload_n 3, 1) := by decide +kernel
theorem dX6_even_17 : decode cX6_even 17 = .ok (.iconst 0, 1) := by decide +kernel
theorem dX6_even_18 : decode cX6_even 18 = .ok (.invokestatic 47, 3) := by decide +kernel
theorem dX6_even_21 : decode cX6_even 21 = .ok (.ifCond .le 45, 3) := by decide +kernel
theorem dX6_even_24 : decode cX6_even 24 = .ok (.aload_n 0, 1) := by decide +kernel
theorem dX6_even_25 : decode cX6_even 25 = .ok (.getfield 7, 3) := by decide +kernel
theorem dX6_even_28 : decode cX6_even 28 = .ok (.iload_n 3, 1) := by decide +kernel
theorem dX6_even_29 : decode cX6_even 29 = .ok (.iconst 4, 1) := by decide +kernel
theorem dX6_even_30 : decode cX6_even 30 = .ok (.invokestatic 47, 3) := by decide +kernel
theorem dX6_even_33 : decode cX6_even 33 = .ok (.istore 4, 2) := by decide +kernel
theorem dX6_even_35 : decode cX6_even 35 = .ok (.iload_n 1, 1) := by decide +kernel
theorem dX6_even_36 : decode cX6_even 36 = .ok (.iconst (-1), 1) := by decide +kernel
theorem dX6_even_37 : decode cX6_even 37 = .ok (.if_icmp .eq 9, 3) := by decide +kernel
theorem dX6_even_40 : decode cX6_even 40 = .ok (.iload 4, 2) := by decide +kernel
theorem dX6_even_42 : decode cX6_even 42 = .ok (.iload_n 1, 1) := by decide +kernel
theorem dX6_even_43 : decode cX6_even 43 = .ok (.if_icmp .ge 8, 3) := by decide +kernel
theorem dX6_even_46 : decode cX6_even 46 = .ok (.iload 4, 2) := by decide +kernel
theorem dX6_even_48 : decode cX6_even 48 = .ok (.goto 4, 3) := by decide +kernel
theorem dX6_even_51 : decode cX6_even 51 = .ok (.iload_n 1, 1) := by decide +kernel
theorem dX6_even_52 : decode cX6_even 52 = .ok (.istore_n 1, 1) := by decide +kernel
theorem dX6_even_53 : decode cX6_even 53 = .ok (.iload 4, 2) := by decide +kernel
theorem dX6_even_55 : decode cX6_even 55 = .ok (.iload_n 2, 1) := by decide +kernel
theorem dX6_even_56 : decode cX6_even 56 = .ok (.if_icmp .le 8, 3) := by decide +kernel
theorem dX6_even_59 : decode cX6_even 59 = .ok (.iload 4, 2) := by decide +kernel
theorem dX6_even_61 : decode cX6_even 61 = .ok (.goto 4, 3) := by decide +kernel
theorem dX6_even_64 : decode cX6_even 64 = .ok (.iload_n 2, 1) := by decide +kernel
theorem dX6_even_65 : decode cX6_even 65 = .ok (.istore_n 2, 1) := by decide +kernel
theorem dX6_even_66 : decode cX6_even 66 = .ok (.iinc 3 1, 3) := by decide +kernel
theorem dX6_even_69 : decode cX6_even 69 = .ok (.goto (-63), 3) := by decide +kernel
theorem dX6_even_72 : decode cX6_even 72 = .ok (.iload_n 2, 1) := by decide +kernel
theorem dX6_even_73 : decode cX6_even 73 = .ok (.ifCond .ne 7, 3) := by decide +kernel
theorem dX6_even_76 : decode cX6_even 76 = .ok (.dconst 1, 1) := by decide +kernel
theorem dX6_even_77 : decode cX6_even 77 = .ok (.goto 8, 3) := by decide +kernel
theorem dX6_even_80 : decode cX6_even 80 = .ok (.iload_n 1, 1) := by decide +kernel
theorem dX6_even_81 : decode cX6_even 81 = .ok (.i2d, 1) := by decide +kernel
theorem dX6_even_82 : decode cX6_even 82 = .ok (.iload_n 2, 1) := by decide +kernel
theorem dX6_even_83 : decode cX6_even 83 = .ok (.i2d, 1) := by decide +kernel
theorem dX6_even_84 : decode cX6_even 84 = .ok (.ddiv, 1) := by decide +kernel
theorem dX6_even_85 : decode cX6_even 85 = .ok (.dreturn, 1) := by decide +kernel
theorem dX6_evenness_0 : decode cX6_evenness 0 = .ok (.aload_n 0, 1) := by decide +kernel
theorem dX6_evenness_1 : decode cX6_evenness 1 = .ok (.iconst 0, 1) := by decide +kernel
theorem dX6_evenness_2 : decode cX6_evenness 2 = .ok (.putfield 28, 3) := by decide +kernel
theorem dX6_evenness_5 : decode cX6_evenness 5 = .ok (.aload_n 0, 1) := by decide +kernel
theorem dX6_evenness_6 : decode cX6_evenness 6 = .ok (.invokevirtual 196, 3) := by decide +kernel
theorem dX6_evenness_9 : decode cX6_evenness 9 = .ok (.dreturn, 1) := by decide +kernel
theorem dX6_digest_0 : decode cX6_digest 0 = .ok (.aload_n 0, 1) := by decide +kernel
theorem dX6_digest_1 : decode cX6_digest 1 = .ok (.iconst 0, 1) := by decide +kernel
theorem dX6_digest_2 : decode cX6_digest 2 = .ok (.putfield 28, 3) := by decide +kernel
theorem dX6_digest_5 : decode cX6_digest 5 = .ok (.ldc2_w 200, 3) := by decide +kernel
theorem dX6_digest_8 : decode cX6_digest 8 = .ok (.lstore_n 1, 1) := by decide +kernel
theorem dX6_digest_9 : decode cX6_digest 9 = .ok (.iconst 0, 1) := by decide +kernel
theorem dX6_digest_10 : decode cX6_digest 10 = .ok (.istore_n 3, 1) := by decide +kernel
theorem dX6_digest_11 : decode cX6_digest 11 = .ok (.iload_n 3, 1) := by decide +kernel
theorem dX6_digest_12 : decode cX6_digest 12 = .ok (.bipush 12, 2) := by decide +kernel
theorem dX6_digest_14 : decode cX6_digest 14 = .ok (.if_icmp .ge 22, 3) := by decide +kernel
theorem dX6_digest_17 : decode cX6_digest 17 = .ok (.ldc2_w 202, 3) := by decide +kernel
theorem dX6_digest_20 : decode cX6_digest 20 = .ok (.lload_n 1, 1) := by decide +kernel
theorem dX6_digest_21 : decode cX6_digest 21 = .ok (.lmul, 1) := by decide +kernel
theorem dX6_digest_22 : decode cX6_digest 22 = .ok (.aload_n 0, 1) := by decide +kernel
theorem dX6_digest_23 : decode cX6_digest 23 = .ok (.iload_n 3, 1) := by decide +kernel
theorem dX6_digest_24 : decode cX6_digest 24 = .ok (.invokevirtual 178, 3) := by decide +kernel
theorem dX6_digest_27 : decode cX6_digest 27 = .ok (.i2l, 1) := by decide +kernel
theorem dX6_digest_28 : decode cX6_digest 28 = .ok (.ladd, 1) := by decide +kernel
theorem dX6_digest_29 : decode cX6_digest 29 = .ok (.lstore_n 1, 1) := by decide +kernel
theorem dX6_digest_30 : decode cX6_digest 30 = .ok (.iinc 3 1, 3) := by decide +kernel
theorem dX6_digest_33 : decode cX6_digest 33 = .ok (.goto (-22), 3) := by decide +kernel
theorem dX6_digest_36 : decode cX6_digest 36 = .ok (.iconst 0, 1) := by decide +kernel
theorem dX6_digest_37 : decode cX6_digest 37 = .ok (.istore_n 3, 1) := by decide +kernel
theorem dX6_digest_38 : decode cX6_digest 38 = .ok (.iload_n 3, 1) := by decide +kernel
theorem dX6_digest_39 : decode cX6_digest 39 = .ok (.iconst 4, 1) := by decide +kernel
theorem dX6_digest_40 : decode cX6_digest 40 = .ok (.if_icmp .ge 23, 3) := by decide +kernel
theorem dX6_digest_43 : decode cX6_digest 43 = .ok (.ldc2_w 202, 3) := by decide +kernel
theorem dX6_digest_46 : decode cX6_digest 46 = .ok (.lload_n 1, 1) := by decide +kernel
theorem dX6_digest_47 : decode cX6_digest 47 = .ok (.lmul, 1) := by decide +kernel
theorem dX6_digest_48 : decode cX6_digest 48 = .ok (.aload_n 0, 1) := by decide +kernel
theorem dX6_digest_49 : decode cX6_digest 49 = .ok (.getfield 7, 3) := by decide +kernel
theorem dX6_digest_52 : decode cX6_digest 52 = .ok (.iload_n 3, 1) := by decide +kernel
theorem dX6_digest_53 : decode cX6_digest 53 = .ok (.iaload, 1) := by decide +kernel
theorem dX6_digest_54 : decode cX6_digest 54 = .ok (.i2l, 1) := by decide +kernel
theorem dX6_digest_55 : decode cX6_digest 55 = .ok (.ladd, 1) := by decide +kernel
theorem dX6_digest_56 : decode cX6_digest 56 = .ok (.lstore_n 1, 1) := by decide +kernel
theorem dX6_digest_57 : decode cX6_digest 57 = .ok (.iinc 3 1, 3) := by decide +kernel
theorem dX6_digest_60 : decode cX6_digest 60 = .ok (.goto (-22), 3) := by decide +kernel
theorem dX6_digest_63 : decode cX6_digest 63 = .ok (.iconst 0, 1) := by decide +kernel
theorem dX6_digest_64 : decode cX6_digest 64 = .ok (.istore_n 3, 1) := by decide +kernel
theorem dX6_digest_65 : decode cX6_digest 65 = .ok (.iload_n 3, 1) := by decide +kernel
theorem dX6_digest_66 : decode cX6_digest 66 = .ok (.bipush 6, 2) := by decide +kernel
theorem dX6_digest_68 : decode cX6_digest 68 = .ok (.if_icmp .ge 69, 3) := by decide +kernel
theorem dX6_digest_71 : decode cX6_digest 71 = .ok (.iconst 0, 1) := by decide +kernel
theorem dX6_digest_72 : decode cX6_digest 72 = .ok (.istore 4, 2) := by decide +kernel
theorem dX6_digest_74 : decode cX6_digest 74 = .ok (.iload 4, 2) := by decide +kernel
theorem dX6_digest_76 : decode cX6_digest 76 = .ok (.bipush 12, 2) := by decide +kernel
theorem dX6_digest_78 : decode cX6_digest 78 = .ok (.if_icmp .ge 27, 3) := by decide +kernel
theorem dX6_digest_81 : decode cX6_digest 81 = .ok (.ldc2_w 202, 3) := by decide +kernel
theorem dX6_digest_84 : decode cX6_digest 84 = .ok (.lload_n 1, 1) := by decide +kernel
theorem dX6_digest_85 : decode cX6_digest 85 = .ok (.lmul, 1) := by decide +kernel
theorem dX6_digest_86 : decode cX6_digest 86 = .ok (.aload_n 0, 1) := by decide +kernel
theorem dX6_digest_87 : decode cX6_digest 87 = .ok (.getfield 7, 3) := by decide +kernel
theorem dX6_digest_90 : decode cX6_digest 90 = .ok (.iload_n 3, 1) := by decide +kernel
theorem dX6_digest_91 : decode cX6_digest 91 = .ok (.iload 4, 2) := by decide +kernel
theorem dX6_digest_93 : decode cX6_digest 93 = .ok (.invokestatic 47, 3) := by decide +kernel
theorem dX6_digest_96 : decode cX6_digest 96 = .ok (.i2l, 1) := by decide +kernel
theorem dX6_digest_97 : decode cX6_digest 97 = .ok (.ladd, 1) := by decide +kernel
theorem dX6_digest_98 : decode cX6_digest 98 = .ok (.lstore_n 1, 1) := by decide +kernel
theorem dX6_digest_99 : decode cX6_digest 99 = .ok (.iinc 4 1, 3) := by decide +kernel
theorem dX6_digest_102 : decode cX6_digest 102 = .ok (.goto (-28), 3) := by decide +kernel
theorem dX6_digest_105 : decode cX6_digest 105 = .ok (.ldc2_w 202, 3) := by decide +kernel
theorem dX6_digest_108 : decode cX6_digest 108 = .ok (.ldc2_w 202, 3) := by decide +kernel
theorem dX6_digest_111 : decode cX6_digest 111 = .ok (.lload_n 1, 1) := by decide +kernel
theorem dX6_digest_112 : decode cX6_digest 112 = .ok (.lmul, 1) := by decide +kernel
theorem dX6_digest_113 : decode cX6_digest 113 = .ok (.aload_n 0, 1) := by decide +kernel
theorem dX6_digest_114 : decode cX6_digest 114 = .ok (.iload_n 3, 1) := by decide +kernel
theorem dX6_digest_115 : decode cX6_digest 115 = .ok (.iconst 0, 1) := by decide +kernel
theorem dX6_digest_116 : decode cX6_digest 116 = .ok (.invokevirtual 167, 3) := by decide +kernel
theorem dX6_digest_119 : decode cX6_digest 119 = .ok (.i2l, 1) := by decide +kernel
theorem dX6_digest_120 : decode cX6_digest 120 = .ok (.ladd, 1) := by decide +kernel
theorem dX6_digest_121 : decode cX6_digest 121 = .ok (.lmul, 1) := by decide +kernel
theorem dX6_digest_122 : decode cX6_digest 122 = .ok (.aload_n 0, 1) := by decide +kernel
theorem dX6_digest_123 : decode cX6_digest 123 = .ok (.iload_n 3, 1) := by decide +kernel
theorem dX6_digest_124 : decode cX6_digest 124 = .ok (.iconst 1, 1) := by decide +kernel
theorem dX6_digest_125 : decode cX6_digest 125 = .ok (.invokevirtual 167, 3) := by decide +kernel
theorem dX6_digest_128 : decode cX6_digest 128 = .ok (.i2l, 1) := by decide +kernel
theorem dX6_digest_129 : decode cX6_digest 129 = .ok (.ladd, 1) := by decide +kernel
theorem dX6_digest_130 : decode cX6_digest 130 = .ok (.lstore_n 1, 1) := by decide +kernel
theorem dX6_digest_131 : decode cX6_digest 131 = .ok (.iinc 3 1, 3) := by decide +kernel
theorem dX6_digest_134 : decode cX6_digest 134 = .ok (.goto (-69), 3) := by decide +kernel
theorem dX6_digest_137 : decode cX6_digest 137 = .ok (.iconst 0, 1) := by decide +kernel
theorem dX6_digest_138 : decode cX6_digest 138 = .ok (.istore_n 3, 1) := by decide +kernel
theorem dX6_digest_139 : decode cX6_digest 139 = .ok (.iload_n 3, 1) := by decide +kernel
theorem dX6_digest_140 : decode cX6_digest 140 = .ok (.iconst 4, 1) := by decide +kernel
theorem dX6_digest_141 : decode cX6_digest 141 = .ok (.if_icmp .ge 26, 3) := by decide +kernel
theorem dX6_digest_144 : decode cX6_digest 144 = .ok (.ldc2_w 202, 3) := by decide +kernel
theorem dX6_digest_147 : decode cX6_digest 147 = .ok (.lload_n 1, 1) := by decide +kernel
theorem dX6_digest_148 : decode cX6_digest 148 = .ok (.lmul, 1) := by decide +kernel
theorem dX6_digest_149 : decode cX6_digest 149 = .ok (.aload_n 0, 1) := by decide +kernel
theorem dX6_digest_150 : decode cX6_digest 150 = .ok (.getfield 7, 3) := by decide +kernel
theorem dX6_digest_153 : decode cX6_digest 153 = .ok (.bipush 14, 2) := by decide +kernel
theorem dX6_digest_155 : decode cX6_digest 155 = .ok (.iload_n 3, 1) := by decide +kernel
theorem dX6_digest_156 : decode cX6_digest 156 = .ok (.iadd, 1) := by decide +kernel
theorem dX6_digest_157 : decode cX6_digest 157 = .ok (.iaload, 1) := by decide +kernel
theorem dX6_digest_158 : decode cX6_digest 158 = .ok (.i2l, 1) := by decide +kernel
theorem dX6_digest_159 : decode cX6_digest 159 = .ok (.ladd, 1) := by decide +kernel
theorem dX6_digest_160 : decode cX6_digest 160 = .ok (.lstore_n 1, 1) := by decide +kernel
theorem dX6_digest_161 : decode cX6_digest 161 = .ok (.iinc 3 1, 3) := by decide +kernel
theorem dX6_digest_164 : decode cX6_digest 164 = .ok (.goto (-25), 3) := by decide +kernel
theorem dX6_digest_167 : decode cX6_digest 167 = .ok (.iconst 0, 1) := by decide +kernel
theorem dX6_digest_168 : decode cX6_digest 168 = .ok (.istore_n 3, 1) := by decide +kernel
theorem dX6_digest_169 : decode cX6_digest 169 = .ok (.iload_n 3, 1) := by decide +kernel
theorem dX6_digest_170 : decode cX6_digest 170 = .ok (.aload_n 0, 1) := by decide +kernel
theorem dX6_digest_171 : decode cX6_digest 171 = .ok (.getfield 7, 3) := by decide +kernel
theorem dX6_digest_174 : decode cX6_digest 174 = .ok (.iconst 5, 1) := by decide +kernel
theorem dX6_digest_175 : decode cX6_digest 175 = .ok (.iaload, 1) := by decide +kernel
theorem dX6_digest_176 : decode cX6_digest 176 = .ok (.if_icmp .ge 110, 3) := by decide +kernel
theorem dX6_digest_179 : decode cX6_digest 179 = .ok (.iconst 0, 1) := by decide +kernel
theorem dX6_digest_180 : decode cX6_digest 180 = .ok (.istore 4, 2) := by decide +kernel
theorem dX6_digest_182 : decode cX6_digest 182 = .ok (.iload 4, 2) := by decide +kernel
theorem dX6_digest_184 : decode cX6_digest 184 = .ok (.bipush 9, 2) := by decide +kernel
theorem dX6_digest_186 : decode cX6_digest 186 = .ok (.if_icmp .ge 24, 3) := by decide +kernel
theorem dX6_digest_189 : decode cX6_digest 189 = .ok (.ldc2_w 202, 3) := by decide +kernel
theorem dX6_digest_192 : decode cX6_digest 192 = .ok (.lload_n 1, 1) := by decide +kernel
theorem dX6_digest_193 : decode cX6_digest 193 = .ok (.lmul, 1) := by decide +kernel
theorem dX6_digest_194 : decode cX6_digest 194 = .ok (.aload_n 0, 1) := by decide +kernel
theorem dX6_digest_195 : decode cX6_digest 195 = .ok (.iload_n 3, 1) := by decide +kernel
theorem dX6_digest_196 : decode cX6_digest 196 = .ok (.iload 4, 2) := by decide +kernel
theorem dX6_digest_198 : decode cX6_digest 198 = .ok (.invokevirtual 163, 3) := by decide +kernel
theorem dX6_digest_201 : decode cX6_digest 201 = .ok (.i2l, 1) := by decide +kernel
theorem dX6_digest_202 : decode cX6_digest 202 = .ok (.ladd, 1) := by decide +kernel
theorem dX6_digest_203 : decode cX6_digest 203 = .ok (.lstore_n 1, 1) := by decide +kernel
theorem dX6_digest_204 : decode cX6_digest 204 = .ok (.iinc 4 1, 3) := by decide +kernel
theorem dX6_digest_207 : decode cX6_digest 207 = .ok (.goto (-25), 3) := by decide +kernel
theorem dX6_digest_210 : decode cX6_digest 210 = .ok (.iconst 0, 1) := by decide +kernel
theorem dX6_digest_211 : decode cX6_digest 211 = .ok (.istore 4, 2) := by decide +kernel
theorem dX6_digest_213 : decode cX6_digest 213 = .ok (.iload 4, 2) := by decide +kernel
theorem dX6_digest_215 : decode cX6_digest 215 = .ok (.bipush 6, 2) := by decide +kernel
theorem dX6_digest_217 : decode cX6_digest 217 = .ok (.if_icmp .ge 30, 3) := by decide +kernel
theorem dX6_digest_220 : decode cX6_digest 220 = .ok (.ldc2_w 202, 3) := by decide +kernel
theorem dX6_digest_223 : decode cX6_digest 223 = .ok (.lload_n 1, 1) := by decide +kernel
theorem dX6_digest_224 : decode cX6_digest 224 = .ok (.lmul, 1) := by decide +kernel
theorem dX6_digest_225 : decode cX6_digest 225 = .ok (.aload_n 0, 1) := by decide +kernel
theorem dX6_digest_226 : decode cX6_digest 226 = .ok (.getfield 7, 3) := by decide +kernel
theorem dX6_digest_229 : decode cX6_digest 229 = .ok (.iload_n 3, 1) := by decide +kernel
theorem dX6_digest_230 : decode cX6_digest 230 = .ok (.bipush 6, 2) := by decide +kernel
theorem dX6_digest_232 : decode cX6_digest 232 = .ok (.iload 4, 2) := by decide +kernel
theorem dX6_digest_234 : decode cX6_digest 234 = .ok (.iadd, 1) := by decide +kernel
theorem dX6_digest_235 : decode cX6_digest 235 = .ok (.invokestatic 43, 3) := by decide +kernel
theorem dX6_digest_238 : decode cX6_digest 238 = .ok (.i2l, 1) := by decide +kernel
theorem dX6_digest_239 : decode cX6_digest 239 = .ok (.ladd, 1) := by decide +kernel
theorem dX6_digest_240 : decode cX6_digest 240 = .ok (.lstore_n 1, 1) := by decide +kernel
theorem dX6_digest_241 : decode cX6_digest 241 = .ok (.iinc 4 1, 3) := by decide +kernel
theorem dX6_digest_244 : decode cX6_digest 244 = .ok (.goto (-31), 3) := by decide +kernel
theorem dX6_digest_247 : decode cX6_digest 247 = .ok (.ldc2_w 202, 3) := by decide +kernel
theorem dX6_digest_250 : decode cX6_digest 250 = .ok (.ldc2_w 202, 3) := by decide +kernel
theorem dX6_digest_253 : decode cX6_digest 253 = .ok (.lload_n 1, 1) := by decide +kernel
theorem dX6_digest_254 : decode cX6_digest 254 = .ok (.lmul, 1) := by decide +kernel
theorem dX6_digest_255 : decode cX6_digest 255 = .ok (.aload_n 0, 1) := by decide +kernel
theorem dX6_digest_256 : decode cX6_digest 256 = .ok (.aload_n 0, 1) := by decide +kernel
theorem dX6_digest_257 : decode cX6_digest 257 = .ok (.getfield 7, 3) := by decide +kernel
theorem dX6_digest_260 : decode cX6_digest 260 = .ok (.iload_n 3, 1) := by decide +kernel
theorem dX6_digest_261 : decode cX6_digest 261 = .ok (.iconst 0, 1) := by decide +kernel
theorem dX6_digest_262 : decode cX6_digest 262 = .ok (.invokestatic 43, 3) := by decide +kernel
theorem dX6_digest_265 : decode cX6_digest 265 = .ok (.invokevirtual 187, 3) := by decide +kernel
theorem dX6_digest_268 : decode cX6_digest 268 = .ok (.i2l, 1) := by decide +kernel
theorem dX6_digest_269 : decode cX6_digest 269 = .ok (.ladd, 1) := by decide +kernel
theorem dX6_digest_270 : decode cX6_digest 270 = .ok (.lmul, 1) := by decide +kernel
theorem dX6_digest_271 : decode cX6_digest 271 = .ok (.aload_n 0, 1) := by decide +kernel
theorem dX6_digest_272 : decode cX6_digest 272 = .ok (.iload_n 3, 1) := by decide +kernel
theorem dX6_digest_273 : decode cX6_digest 273 = .ok (.iconst 0, 1) := by decide +kernel
theorem dX6_digest_274 : decode cX6_digest 274 = .ok (.invokevirtual 193, 3) := by decide +kernel
theorem dX6_digest_277 : decode cX6_digest 277 = .ok (.i2l, 1) := by decide +kernel
theorem dX6_digest_278 : decode cX6_digest 278 = .ok (.ladd, 1) := by decide +kernel
theorem dX6_digest_279 : decode cX6_digest 279 = .ok (.lstore_n 1, 1) := by decide +kernel
theorem dX6_digest_280 : decode cX6_digest 280 = .ok (.iinc 3 1, 3) := by decide +kernel
theorem dX6_digest_283 : decode cX6_digest 283 = .ok (.goto (-114), 3) := by decide +kernel
theorem dX6_digest_286 : decode cX6_digest 286 = .ok (.iconst 0, 1) := by decide +kernel
theorem dX6_digest_287 : decode cX6_digest 287 = .ok (.istore_n 3, 1) := by decide +kernel
theorem dX6_digest_288 : decode cX6_digest 288 = .ok (.iload_n 3, 1) := by decide +kernel
theorem dX6_digest_289 : decode cX6_digest 289 = .ok (.iconst 5, 1) := by decide +kernel
theorem dX6_digest_290 : decode cX6_digest 290 = .ok (.if_icmp .ge 24, 3) := by decide +kernel
theorem dX6_digest_293 : decode cX6_digest 293 = .ok (.ldc2_w 202, 3) := by decide +kernel
theorem dX6_digest_296 : decode cX6_digest 296 = .ok (.lload_n 1, 1) := by decide +kernel
theorem dX6_digest_297 : decode cX6_digest 297 = .ok (.lmul, 1) := by decide +kernel
theorem dX6_digest_298 : decode cX6_digest 298 = .ok (.aload_n 0, 1) := by decide +kernel
theorem dX6_digest_299 : decode cX6_digest 299 = .ok (.bipush 20, 2) := by decide +kernel
theorem dX6_digest_301 : decode cX6_digest 301 = .ok (.iload_n 3, 1) := by decide +kernel
theorem dX6_digest_302 : decode cX6_digest 302 = .ok (.invokevirtual 184, 3) := by decide +kernel
theorem dX6_digest_305 : decode cX6_digest 305 = .ok (.i2l, 1) := by decide +kernel
theorem dX6_digest_306 : decode cX6_digest 306 = .ok (.ladd, 1) := by decide +kernel
theorem dX6_digest_307 : decode cX6_digest 307 = .ok (.lstore_n 1, 1) := by decide +kernel
theorem dX6_digest_308 : decode cX6_digest 308 = .ok (.iinc 3 1, 3) := by decide +kernel
theorem dX6_digest_311 : decode cX6_digest 311 = .ok (.goto (-23), 3) := by decide +kernel
theorem dX6_digest_314 : decode cX6_digest 314 = .ok (.ldc2_w 202, 3) := by decide +kernel
theorem dX6_digest_317 : decode cX6_digest 317 = .ok (.lload_n 1, 1) := by decide +kernel
theorem dX6_digest_318 : decode cX6_digest 318 = .ok (.lmul, 1) := by decide +kernel
theorem dX6_digest_319 : decode cX6_digest 319 = .ok (.aload_n 0, 1) := by decide +kernel
theorem dX6_digest_320 : decode cX6_digest 320 = .ok (.bipush 12, 2) := by decide +kernel
theorem dX6_digest_322 : decode cX6_digest 322 = .ok (.invokevirtual 190, 3) := by decide +kernel
theorem dX6_digest_325 : decode cX6_digest 325 = .ok (.i2l, 1) := by decide +kernel
theorem dX6_digest_326 : decode cX6_digest 326 = .ok (.ladd, 1) := by decide +kernel
theorem dX6_digest_327 : decode cX6_digest 327 = .ok (.lstore_n 1, 1) := by decide +kernel
theorem dX6_digest_328 : decode cX6_digest 328 = .ok (.ldc2_w 202, 3) := by decide +kernel
theorem dX6_digest_331 : decode cX6_digest 331 = .ok (.ldc2_w 202, 3) := by decide +kernel
theorem dX6_digest_334 : decode cX6_digest 334 = .ok (.lload_n 1, 1) := by decide +kernel
theorem dX6_digest_335 : decode cX6_digest 335 = .ok (.lmul, 1) := by decide +kernel
theorem dX6_digest_336 : decode cX6_digest 336 = .ok (.aload_n 0, 1) := by decide +kernel
theorem dX6_digest_337 : decode cX6_digest 337 = .ok (.invokevirtual 196, 3) := by decide +kernel
theorem dX6_digest_340 : decode cX6_digest 340 = .ok (.invokestatic 204, 3) := by decide +kernel
theorem dX6_digest_343 : decode cX6_digest 343 = .ok (.ladd, 1) := by decide +kernel
theorem dX6_digest_344 : decode cX6_digest 344 = .ok (.lmul, 1) := by decide +kernel
theorem dX6_digest_345 : decode cX6_digest 345 = .ok (.aload_n 0, 1) := by decide +kernel
theorem dX6_digest_346 : decode cX6_digest 346 = .ok (.getfield 124, 3) := by decide +kernel
theorem dX6_digest_349 : decode cX6_digest 349 = .ok (.i2l, 1) := by decide +kernel
theorem dX6_digest_350 : decode cX6_digest 350 = .ok (.ladd, 1) := by decide +kernel
theorem dX6_digest_351 : decode cX6_digest 351 = .ok (.lstore_n 1, 1) := by decide +kernel
theorem dX6_digest_352 : decode cX6_digest 352 = .ok (.iconst 0, 1) := by decide +kernel
theorem dX6_digest_353 : decode cX6_digest 353 = .ok (.istore_n 3, 1) := by decide +kernel
theorem dX6_digest_354 : decode cX6_digest 354 = .ok (.iload_n 3, 1) := by decide +kernel
theorem dX6_digest_355 : decode cX6_digest 355 = .ok (.aload_n 0, 1) := by decide +kernel
theorem dX6_digest_356 : decode cX6_digest 356 = .ok (.getfield 124, 3) := by decide +kernel
theorem dX6_digest_359 : decode cX6_digest 359 = .ok (.if_icmp .ge 23, 3) := by decide +kernel
theorem dX6_digest_362 : decode cX6_digest 362 = .ok (.ldc2_w 202, 3) := by decide +kernel
theorem dX6_digest_365 : decode cX6_digest 365 = .ok (.lload_n 1, 1) := by decide +kernel
theorem dX6_digest_366 : decode cX6_digest 366 = .ok (.lmul, 1) := by decide +kernel
theorem dX6_digest_367 : decode cX6_digest 367 = .ok (.aload_n 0, 1) := by decide +kernel
theorem dX6_digest_368 : decode cX6_digest 368 = .ok (.getfield 19, 3) := by decide +kernel
theorem dX6_digest_371 : decode cX6_digest 371 = .ok (.iload_n 3, 1) := by decide +kernel
theorem dX6_digest_372 : decode cX6_digest 372 = .ok (.iaload, 1) := by decide +kernel
theorem dX6_digest_373 : decode cX6_digest 373 = .ok (.i2l, 1) := by decide +kernel
theorem dX6_digest_374 : decode cX6_digest 374 = .ok (.ladd, 1) := by decide +kernel
theorem dX6_digest_375 : decode cX6_digest 375 = .ok (.lstore_n 1, 1) := by decide +kernel
theorem dX6_digest_376 : decode cX6_digest 376 = .ok (.iinc 3 1, 3) := by decide +kernel
theorem dX6_digest_379 : decode cX6_digest 379 = .ok (.goto (-25), 3) := by decide +kernel
theorem dX6_digest_382 : decode cX6_digest 382 = .ok (.lload_n 1, 1) := by decide +kernel
theorem dX6_digest_383 : decode cX6_digest 383 = .ok (.lreturn, 1) := by decide +kernel
theorem dJxe99ae_isNaN_b9ae7_0 : decode cJxe99ae_isNaN_b9ae7 0 = .ok (.dload_n 0, 1) := by decide +kernel
theorem dJxe99ae_isNaN_b9ae7_1 : decode cJxe99ae_isNaN_b9ae7 1 = .ok (.dload_n 0, 1) := by decide +kernel
theorem dJxe99ae_isNaN_b9ae7_2 : decode cJxe99ae_isNaN_b9ae7 2 = .ok (.dcmp .l, 1) := by decide +kernel
theorem dJxe99ae_isNaN_b9ae7_3 : decode cJxe99ae_isNaN_b9ae7 3 = .ok (.ifCond .eq 7, 3) := by decide +kernel
theorem dJxe99ae_isNaN_b9ae7_6 : decode cJxe99ae_isNaN_b9ae7 6 = .ok (.iconst 1, 1) := by decide +kernel
theorem dJxe99ae_isNaN_b9ae7_7 : decode cJxe99ae_isNaN_b9ae7 7 = .ok (.goto 4, 3) := by decide +kernel
theorem dJxe99ae_isNaN_b9ae7_10 : decode cJxe99ae_isNaN_b9ae7 10 = .ok (.iconst 0, 1) := by decide +kernel
theorem dJxe99ae_isNaN_b9ae7_11 : decode cJxe99ae_isNaN_b9ae7 11 = .ok (.ireturn, 1) := by decide +kernel
theorem dJxe99ae_doubleToLongBits_ccdee_0 : decode cJxe99ae_doubleToLongBits_ccdee 0 = .ok (.dload_n 0, 1) := by decide +kernel
theorem dJxe99ae_doubleToLongBits_ccdee_1 : decode cJxe99ae_doubleToLongBits_ccdee 1 = .ok (.invokestatic 122, 3) := by decide +kernel
theorem dJxe99ae_doubleToLongBits_ccdee_4 : decode cJxe99ae_doubleToLongBits_ccdee 4 = .ok (.ifCond .ne 8, 3) := by decide +kernel
theorem dJxe99ae_doubleToLongBits_ccdee_7 : decode cJxe99ae_doubleToLongBits_ccdee 7 = .ok (.dload_n 0, 1) := by decide +kernel
theorem dJxe99ae_doubleToLongBits_ccdee_8 : decode cJxe99ae_doubleToLongBits_ccdee 8 = .ok (.invokestatic 134, 3) := by decide +kernel
theorem dJxe99ae_doubleToLongBits_ccdee_11 : decode cJxe99ae_doubleToLongBits_ccdee 11 = .ok (.lreturn, 1) := by decide +kernel
theorem dJxe99ae_doubleToLongBits_ccdee_12 : decode cJxe99ae_doubleToLongBits_ccdee 12 = .ok (.ldc2_w 137, 3) := by decide +kernel
theorem dJxe99ae_doubleToLongBits_ccdee_15 : decode cJxe99ae_doubleToLongBits_ccdee 15 = .ok (.lreturn, 1) := by decide +kernel
theorem dJ9_max_7cf53_0 : decode cJ9_max_7cf53 0 = .ok (.iload_n 0, 1) := by decide +kernel
theorem dJ9_max_7cf53_1 : decode cJ9_max_7cf53 1 = .ok (.iload_n 1, 1) := by decide +kernel
theorem dJ9_max_7cf53_2 : decode cJ9_max_7cf53 2 = .ok (.if_icmp .lt 7, 3) := by decide +kernel
theorem dJ9_max_7cf53_5 : decode cJ9_max_7cf53 5 = .ok (.iload_n 0, 1) := by decide +kernel
theorem dJ9_max_7cf53_6 : decode cJ9_max_7cf53 6 = .ok (.goto 4, 3) := by decide +kernel
theorem dJ9_max_7cf53_9 : decode cJ9_max_7cf53 9 = .ok (.iload_n 1, 1) := by decide +kernel
theorem dJ9_max_7cf53_10 : decode cJ9_max_7cf53 10 = .ok (.ireturn, 1) := by decide +kernel
theorem dJ9_min_7cf53_0 : decode cJ9_min_7cf53 0 = .ok (.iload_n 0, 1) := by decide +kernel
theorem dJ9_min_7cf53_1 : decode cJ9_min_7cf53 1 = .ok (.iload_n 1, 1) := by decide +kernel
theorem dJ9_min_7cf53_2 : decode cJ9_min_7cf53 2 = .ok (.if_icmp .gt 7, 3) := by decide +kernel
theorem dJ9_min_7cf53_5 : decode cJ9_min_7cf53 5 = .ok (.iload_n 0, 1) := by decide +kernel
theorem dJ9_min_7cf53_6 : decode cJ9_min_7cf53 6 = .ok (.goto 4, 3) := by decide +kernel
theorem dJ9_min_7cf53_9 : decode cJ9_min_7cf53 9 = .ok (.iload_n 1, 1) := by decide +kernel
theorem dJ9_min_7cf53_10 : decode cJ9_min_7cf53 10 = .ok (.ireturn, 1) := by decide +kernel
theorem dL_loom_0 : decode cL_loom 0 = .ok (.aload 5, 2) := by decide +kernel
theorem dL_loom_2 : decode cL_loom 2 = .ok (.iconst 0, 1) := by decide +kernel
theorem dL_loom_3 : decode cL_loom 3 = .ok (.aload_n 0, 1) := by decide +kernel
theorem dL_loom_4 : decode cL_loom 4 = .ok (.iload_n 1, 1) := by decide +kernel
theorem dL_loom_5 : decode cL_loom 5 = .ok (.iload_n 2, 1) := by decide +kernel
theorem dL_loom_6 : decode cL_loom 6 = .ok (.iload_n 3, 1) := by decide +kernel
theorem dL_loom_7 : decode cL_loom 7 = .ok (.iload 4, 2) := by decide +kernel
theorem dL_loom_9 : decode cL_loom 9 = .ok (.invokevirtual 7, 3) := by decide +kernel
theorem dL_loom_12 : decode cL_loom 12 = .ok (.i2l, 1) := by decide +kernel
theorem dL_loom_13 : decode cL_loom 13 = .ok (.lastore, 1) := by decide +kernel
theorem dL_loom_14 : decode cL_loom 14 = .ok (.goto 11, 3) := by decide +kernel
theorem dL_loom_17 : decode cL_loom 17 = .ok (.astore 6, 2) := by decide +kernel
theorem dL_loom_19 : decode cL_loom 19 = .ok (.iconst 1, 1) := by decide +kernel
theorem dL_loom_20 : decode cL_loom 20 = .ok (.ireturn, 1) := by decide +kernel
theorem dL_loom_21 : decode cL_loom 21 = .ok (.astore 6, 2) := by decide +kernel
theorem dL_loom_23 : decode cL_loom 23 = .ok (.iconst 2, 1) := by decide +kernel
theorem dL_loom_24 : decode cL_loom 24 = .ok (.ireturn, 1) := by decide +kernel
theorem dL_loom_25 : decode cL_loom 25 = .ok (.iconst 0, 1) := by decide +kernel
theorem dL_loom_26 : decode cL_loom 26 = .ok (.ireturn, 1) := by decide +kernel
theorem dL_yarn_0 : decode cL_yarn 0 = .ok (.aload 4, 2) := by decide +kernel
theorem dL_yarn_2 : decode cL_yarn 2 = .ok (.iconst 0, 1) := by decide +kernel
theorem dL_yarn_3 : decode cL_yarn 3 = .ok (.aload_n 0, 1) := by decide +kernel
theorem dL_yarn_4 : decode cL_yarn 4 = .ok (.iload_n 1, 1) := by decide +kernel
theorem dL_yarn_5 : decode cL_yarn 5 = .ok (.iload_n 2, 1) := by decide +kernel
theorem dL_yarn_6 : decode cL_yarn 6 = .ok (.iload_n 3, 1) := by decide +kernel
theorem dL_yarn_7 : decode cL_yarn 7 = .ok (.invokevirtual 17, 3) := by decide +kernel
theorem dL_yarn_10 : decode cL_yarn 10 = .ok (.i2l, 1) := by decide +kernel
theorem dL_yarn_11 : decode cL_yarn 11 = .ok (.lastore, 1) := by decide +kernel
theorem dL_yarn_12 : decode cL_yarn 12 = .ok (.goto 15, 3) := by decide +kernel
theorem dL_yarn_15 : decode cL_yarn 15 = .ok (.astore 5, 2) := by decide +kernel
theorem dL_yarn_17 : decode cL_yarn 17 = .ok (.iconst 1, 1) := by decide +kernel
theorem dL_yarn_18 : decode cL_yarn 18 = .ok (.ireturn, 1) := by decide +kernel
theorem dL_yarn_19 : decode cL_yarn 19 = .ok (.astore 5, 2) := by decide +kernel
theorem dL_yarn_21 : decode cL_yarn 21 = .ok (.iconst 2, 1) := by decide +kernel
theorem dL_yarn_22 : decode cL_yarn 22 = .ok (.ireturn, 1) := by decide +kernel
theorem dL_yarn_23 : decode cL_yarn 23 = .ok (.astore 5, 2) := by decide +kernel
theorem dL_yarn_25 : decode cL_yarn 25 = .ok (.iconst 3, 1) := by decide +kernel
theorem dL_yarn_26 : decode cL_yarn 26 = .ok (.ireturn, 1) := by decide +kernel
theorem dL_yarn_27 : decode cL_yarn 27 = .ok (.iconst 0, 1) := by decide +kernel
theorem dL_yarn_28 : decode cL_yarn 28 = .ok (.ireturn, 1) := by decide +kernel
theorem dL_store_0 : decode cL_store 0 = .ok (.aload_n 3, 1) := by decide +kernel
theorem dL_store_1 : decode cL_store 1 = .ok (.iconst 0, 1) := by decide +kernel
theorem dL_store_2 : decode cL_store 2 = .ok (.aload_n 0, 1) := by decide +kernel
theorem dL_store_3 : decode cL_store 3 = .ok (.iload_n 1, 1) := by decide +kernel
theorem dL_store_4 : decode cL_store 4 = .ok (.iload_n 2, 1) := by decide +kernel
theorem dL_store_5 : decode cL_store 5 = .ok (.invokevirtual 23, 3) := by decide +kernel
theorem dL_store_8 : decode cL_store 8 = .ok (.i2l, 1) := by decide +kernel
theorem dL_store_9 : decode cL_store 9 = .ok (.lastore, 1) := by decide +kernel
theorem dL_store_10 : decode cL_store 10 = .ok (.goto 15, 3) := by decide +kernel
theorem dL_store_13 : decode cL_store 13 = .ok (.astore 4, 2) := by decide +kernel
theorem dL_store_15 : decode cL_store 15 = .ok (.iconst 1, 1) := by decide +kernel
theorem dL_store_16 : decode cL_store 16 = .ok (.ireturn, 1) := by decide +kernel
theorem dL_store_17 : decode cL_store 17 = .ok (.astore 4, 2) := by decide +kernel
theorem dL_store_19 : decode cL_store 19 = .ok (.iconst 2, 1) := by decide +kernel
theorem dL_store_20 : decode cL_store 20 = .ok (.ireturn, 1) := by decide +kernel
theorem dL_store_21 : decode cL_store 21 = .ok (.astore 4, 2) := by decide +kernel
theorem dL_store_23 : decode cL_store 23 = .ok (.iconst 3, 1) := by decide +kernel
theorem dL_store_24 : decode cL_store 24 = .ok (.ireturn, 1) := by decide +kernel
theorem dL_store_25 : decode cL_store 25 = .ok (.iconst 0, 1) := by decide +kernel
theorem dL_store_26 : decode cL_store 26 = .ok (.ireturn, 1) := by decide +kernel
theorem dL_give_0 : decode cL_give 0 = .ok (.aload 5, 2) := by decide +kernel
theorem dL_give_2 : decode cL_give 2 = .ok (.iconst 0, 1) := by decide +kernel
theorem dL_give_3 : decode cL_give 3 = .ok (.aload_n 0, 1) := by decide +kernel
theorem dL_give_4 : decode cL_give 4 = .ok (.iload_n 1, 1) := by decide +kernel
theorem dL_give_5 : decode cL_give 5 = .ok (.iload_n 2, 1) := by decide +kernel
theorem dL_give_6 : decode cL_give 6 = .ok (.iload_n 3, 1) := by decide +kernel
theorem dL_give_7 : decode cL_give 7 = .ok (.iload 4, 2) := by decide +kernel
theorem dL_give_9 : decode cL_give 9 = .ok (.invokevirtual 27, 3) := by decide +kernel
theorem dL_give_12 : decode cL_give 12 = .ok (.i2l, 1) := by decide +kernel
theorem dL_give_13 : decode cL_give 13 = .ok (.lastore, 1) := by decide +kernel
theorem dL_give_14 : decode cL_give 14 = .ok (.goto 15, 3) := by decide +kernel
theorem dL_give_17 : decode cL_give 17 = .ok (.astore 6, 2) := by decide +kernel
theorem dL_give_19 : decode cL_give 19 = .ok (.iconst 1, 1) := by decide +kernel
theorem dL_give_20 : decode cL_give 20 = .ok (.ireturn, 1) := by decide +kernel
theorem dL_give_21 : decode cL_give 21 = .ok (.astore 6, 2) := by decide +kernel
theorem dL_give_23 : decode cL_give 23 = .ok (.iconst 2, 1) := by decide +kernel
theorem dL_give_24 : decode cL_give 24 = .ok (.ireturn, 1) := by decide +kernel
theorem dL_give_25 : decode cL_give 25 = .ok (.astore 6, 2) := by decide +kernel
theorem dL_give_27 : decode cL_give 27 = .ok (.iconst 3, 1) := by decide +kernel
theorem dL_give_28 : decode cL_give 28 = .ok (.ireturn, 1) := by decide +kernel
theorem dL_give_29 : decode cL_give 29 = .ok (.iconst 0, 1) := by decide +kernel
theorem dL_give_30 : decode cL_give 30 = .ok (.ireturn, 1) := by decide +kernel
theorem dL_order_0 : decode cL_order 0 = .ok (.aload 6, 2) := by decide +kernel
theorem dL_order_2 : decode cL_order 2 = .ok (.iconst 0, 1) := by decide +kernel
theorem dL_order_3 : decode cL_order 3 = .ok (.aload_n 0, 1) := by decide +kernel
theorem dL_order_4 : decode cL_order 4 = .ok (.iload_n 1, 1) := by decide +kernel
theorem dL_order_5 : decode cL_order 5 = .ok (.iload_n 2, 1) := by decide +kernel
theorem dL_order_6 : decode cL_order 6 = .ok (.iload_n 3, 1) := by decide +kernel
theorem dL_order_7 : decode cL_order 7 = .ok (.iload 4, 2) := by decide +kernel
theorem dL_order_9 : decode cL_order 9 = .ok (.iload 5, 2) := by decide +kernel
theorem dL_order_11 : decode cL_order 11 = .ok (.invokevirtual 30, 3) := by decide +kernel
theorem dL_order_14 : decode cL_order 14 = .ok (.i2l, 1) := by decide +kernel
theorem dL_order_15 : decode cL_order 15 = .ok (.lastore, 1) := by decide +kernel
theorem dL_order_16 : decode cL_order 16 = .ok (.goto 15, 3) := by decide +kernel
theorem dL_order_19 : decode cL_order 19 = .ok (.astore 7, 2) := by decide +kernel
theorem dL_order_21 : decode cL_order 21 = .ok (.iconst 1, 1) := by decide +kernel
theorem dL_order_22 : decode cL_order 22 = .ok (.ireturn, 1) := by decide +kernel
theorem dL_order_23 : decode cL_order 23 = .ok (.astore 7, 2) := by decide +kernel
theorem dL_order_25 : decode cL_order 25 = .ok (.iconst 2, 1) := by decide +kernel
theorem dL_order_26 : decode cL_order 26 = .ok (.ireturn, 1) := by decide +kernel
theorem dL_order_27 : decode cL_order 27 = .ok (.astore 7, 2) := by decide +kernel
theorem dL_order_29 : decode cL_order 29 = .ok (.iconst 3, 1) := by decide +kernel
theorem dL_order_30 : decode cL_order 30 = .ok (.ireturn, 1) := by decide +kernel
theorem dL_order_31 : decode cL_order 31 = .ok (.iconst 0, 1) := by decide +kernel
theorem dL_order_32 : decode cL_order 32 = .ok (.ireturn, 1) := by decide +kernel
theorem dL_cancel_0 : decode cL_cancel 0 = .ok (.aload_n 2, 1) := by decide +kernel
theorem dL_cancel_1 : decode cL_cancel 1 = .ok (.iconst 0, 1) := by decide +kernel
theorem dL_cancel_2 : decode cL_cancel 2 = .ok (.aload_n 0, 1) := by decide +kernel
theorem dL_cancel_3 : decode cL_cancel 3 = .ok (.iload_n 1, 1) := by decide +kernel
theorem dL_cancel_4 : decode cL_cancel 4 = .ok (.invokevirtual 34, 3) := by decide +kernel
theorem dL_cancel_7 : decode cL_cancel 7 = .ok (.i2l, 1) := by decide +kernel
theorem dL_cancel_8 : decode cL_cancel 8 = .ok (.lastore, 1) := by decide +kernel
theorem dL_cancel_9 : decode cL_cancel 9 = .ok (.goto 6, 3) := by decide +kernel
theorem dL_cancel_12 : decode cL_cancel 12 = .ok (.astore_n 3, 1) := by decide +kernel
theorem dL_cancel_13 : decode cL_cancel 13 = .ok (.iconst 1, 1) := by decide +kernel
theorem dL_cancel_14 : decode cL_cancel 14 = .ok (.ireturn, 1) := by decide +kernel
theorem dL_cancel_15 : decode cL_cancel 15 = .ok (.iconst 0, 1) := by decide +kernel
theorem dL_cancel_16 : decode cL_cancel 16 = .ok (.ireturn, 1) := by decide +kernel
theorem dL_set_0 : decode cL_set 0 = .ok (.aload_n 3, 1) := by decide +kernel
theorem dL_set_1 : decode cL_set 1 = .ok (.iconst 0, 1) := by decide +kernel
theorem dL_set_2 : decode cL_set 2 = .ok (.aload_n 0, 1) := by decide +kernel
theorem dL_set_3 : decode cL_set 3 = .ok (.iload_n 1, 1) := by decide +kernel
theorem dL_set_4 : decode cL_set 4 = .ok (.iload_n 2, 1) := by decide +kernel
theorem dL_set_5 : decode cL_set 5 = .ok (.invokevirtual 38, 3) := by decide +kernel
theorem dL_set_8 : decode cL_set 8 = .ok (.i2l, 1) := by decide +kernel
theorem dL_set_9 : decode cL_set 9 = .ok (.lastore, 1) := by decide +kernel
theorem dL_set_10 : decode cL_set 10 = .ok (.goto 11, 3) := by decide +kernel
theorem dL_set_13 : decode cL_set 13 = .ok (.astore 4, 2) := by decide +kernel
theorem dL_set_15 : decode cL_set 15 = .ok (.iconst 1, 1) := by decide +kernel
theorem dL_set_16 : decode cL_set 16 = .ok (.ireturn, 1) := by decide +kernel
theorem dL_set_17 : decode cL_set 17 = .ok (.astore 4, 2) := by decide +kernel
theorem dL_set_19 : decode cL_set 19 = .ok (.iconst 2, 1) := by decide +kernel
theorem dL_set_20 : decode cL_set 20 = .ok (.ireturn, 1) := by decide +kernel
theorem dL_set_21 : decode cL_set 21 = .ok (.iconst 0, 1) := by decide +kernel
theorem dL_set_22 : decode cL_set 22 = .ok (.ireturn, 1) := by decide +kernel
theorem dL_pass_0 : decode cL_pass 0 = .ok (.aload_n 2, 1) := by decide +kernel
theorem dL_pass_1 : decode cL_pass 1 = .ok (.iconst 0, 1) := by decide +kernel
theorem dL_pass_2 : decode cL_pass 2 = .ok (.aload_n 0, 1) := by decide +kernel
theorem dL_pass_3 : decode cL_pass 3 = .ok (.iload_n 1, 1) := by decide +kernel
theorem dL_pass_4 : decode cL_pass 4 = .ok (.invokevirtual 41, 3) := by decide +kernel
theorem dL_pass_7 : decode cL_pass 7 = .ok (.i2l, 1) := by decide +kernel
theorem dL_pass_8 : decode cL_pass 8 = .ok (.lastore, 1) := by decide +kernel
theorem dL_pass_9 : decode cL_pass 9 = .ok (.goto 9, 3) := by decide +kernel
theorem dL_pass_12 : decode cL_pass 12 = .ok (.astore_n 3, 1) := by decide +kernel
theorem dL_pass_13 : decode cL_pass 13 = .ok (.iconst 1, 1) := by decide +kernel
theorem dL_pass_14 : decode cL_pass 14 = .ok (.ireturn, 1) := by decide +kernel
theorem dL_pass_15 : decode cL_pass 15 = .ok (.astore_n 3, 1) := by decide +kernel
theorem dL_pass_16 : decode cL_pass 16 = .ok (.iconst 2, 1) := by decide +kernel
theorem dL_pass_17 : decode cL_pass 17 = .ok (.ireturn, 1) := by decide +kernel
theorem dL_pass_18 : decode cL_pass 18 = .ok (.iconst 0, 1) := by decide +kernel
theorem dL_pass_19 : decode cL_pass 19 = .ok (.ireturn, 1) := by decide +kernel
theorem dL_append_0 : decode cL_append 0 = .ok (.aload_n 2, 1) := by decide +kernel
theorem dL_append_1 : decode cL_append 1 = .ok (.iconst 0, 1) := by decide +kernel
theorem dL_append_2 : decode cL_append 2 = .ok (.aload_n 0, 1) := by decide +kernel
theorem dL_append_3 : decode cL_append 3 = .ok (.iload_n 1, 1) := by decide +kernel
theorem dL_append_4 : decode cL_append 4 = .ok (.invokevirtual 44, 3) := by decide +kernel
theorem dL_append_7 : decode cL_append 7 = .ok (.i2l, 1) := by decide +kernel
theorem dL_append_8 : decode cL_append 8 = .ok (.lastore, 1) := by decide +kernel
theorem dL_append_9 : decode cL_append 9 = .ok (.goto 9, 3) := by decide +kernel
theorem dL_append_12 : decode cL_append 12 = .ok (.astore_n 3, 1) := by decide +kernel
theorem dL_append_13 : decode cL_append 13 = .ok (.iconst 1, 1) := by decide +kernel
theorem dL_append_14 : decode cL_append 14 = .ok (.ireturn, 1) := by decide +kernel
theorem dL_append_15 : decode cL_append 15 = .ok (.astore_n 3, 1) := by decide +kernel
theorem dL_append_16 : decode cL_append 16 = .ok (.iconst 2, 1) := by decide +kernel
theorem dL_append_17 : decode cL_append 17 = .ok (.ireturn, 1) := by decide +kernel
theorem dL_append_18 : decode cL_append 18 = .ok (.iconst 0, 1) := by decide +kernel
theorem dL_append_19 : decode cL_append 19 = .ok (.ireturn, 1) := by decide +kernel
theorem dL_takeAll_0 : decode cL_takeAll 0 = .ok (.aload_n 1, 1) := by decide +kernel
theorem dL_takeAll_1 : decode cL_takeAll 1 = .ok (.iconst 0, 1) := by decide +kernel
theorem dL_takeAll_2 : decode cL_takeAll 2 = .ok (.aload_n 0, 1) := by decide +kernel
theorem dL_takeAll_3 : decode cL_takeAll 3 = .ok (.invokevirtual 47, 3) := by decide +kernel
theorem dL_takeAll_6 : decode cL_takeAll 6 = .ok (.i2l, 1) := by decide +kernel
theorem dL_takeAll_7 : decode cL_takeAll 7 = .ok (.lastore, 1) := by decide +kernel
theorem dL_takeAll_8 : decode cL_takeAll 8 = .ok (.goto 9, 3) := by decide +kernel
theorem dL_takeAll_11 : decode cL_takeAll 11 = .ok (.astore_n 2, 1) := by decide +kernel
theorem dL_takeAll_12 : decode cL_takeAll 12 = .ok (.iconst 1, 1) := by decide +kernel
theorem dL_takeAll_13 : decode cL_takeAll 13 = .ok (.ireturn, 1) := by decide +kernel
theorem dL_takeAll_14 : decode cL_takeAll 14 = .ok (.astore_n 2, 1) := by decide +kernel
theorem dL_takeAll_15 : decode cL_takeAll 15 = .ok (.iconst 2, 1) := by decide +kernel
theorem dL_takeAll_16 : decode cL_takeAll 16 = .ok (.ireturn, 1) := by decide +kernel
theorem dL_takeAll_17 : decode cL_takeAll 17 = .ok (.iconst 0, 1) := by decide +kernel
theorem dL_takeAll_18 : decode cL_takeAll 18 = .ok (.ireturn, 1) := by decide +kernel
theorem dL_undo_0 : decode cL_undo 0 = .ok (.aload_n 1, 1) := by decide +kernel
theorem dL_undo_1 : decode cL_undo 1 = .ok (.iconst 0, 1) := by decide +kernel
theorem dL_undo_2 : decode cL_undo 2 = .ok (.aload_n 0, 1) := by decide +kernel
theorem dL_undo_3 : decode cL_undo 3 = .ok (.invokevirtual 51, 3) := by decide +kernel
theorem dL_undo_6 : decode cL_undo 6 = .ok (.i2l, 1) := by decide +kernel
theorem dL_undo_7 : decode cL_undo 7 = .ok (.lastore, 1) := by decide +kernel
theorem dL_undo_8 : decode cL_undo 8 = .ok (.goto 6, 3) := by decide +kernel
theorem dL_undo_11 : decode cL_undo 11 = .ok (.astore_n 2, 1) := by decide +kernel
theorem dL_undo_12 : decode cL_undo 12 = .ok (.iconst 1, 1) := by decide +kernel
theorem dL_undo_13 : decode cL_undo 13 = .ok (.ireturn, 1) := by decide +kernel
theorem dL_undo_14 : decode cL_undo 14 = .ok (.iconst 0, 1) := by decide +kernel
theorem dL_undo_15 : decode cL_undo 15 = .ok (.ireturn, 1) := by decide +kernel
theorem dL_weaver_0 : decode cL_weaver 0 = .ok (.aload_n 3, 1) := by decide +kernel
theorem dL_weaver_1 : decode cL_weaver 1 = .ok (.iconst 0, 1) := by decide +kernel
theorem dL_weaver_2 : decode cL_weaver 2 = .ok (.aload_n 0, 1) := by decide +kernel
theorem dL_weaver_3 : decode cL_weaver 3 = .ok (.iload_n 1, 1) := by decide +kernel
theorem dL_weaver_4 : decode cL_weaver 4 = .ok (.iload_n 2, 1) := by decide +kernel
theorem dL_weaver_5 : decode cL_weaver 5 = .ok (.invokevirtual 54, 3) := by decide +kernel
theorem dL_weaver_8 : decode cL_weaver 8 = .ok (.i2l, 1) := by decide +kernel
theorem dL_weaver_9 : decode cL_weaver 9 = .ok (.lastore, 1) := by decide +kernel
theorem dL_weaver_10 : decode cL_weaver 10 = .ok (.goto 11, 3) := by decide +kernel
theorem dL_weaver_13 : decode cL_weaver 13 = .ok (.astore 4, 2) := by decide +kernel
theorem dL_weaver_15 : decode cL_weaver 15 = .ok (.iconst 1, 1) := by decide +kernel
theorem dL_weaver_16 : decode cL_weaver 16 = .ok (.ireturn, 1) := by decide +kernel
theorem dL_weaver_17 : decode cL_weaver 17 = .ok (.astore 4, 2) := by decide +kernel
theorem dL_weaver_19 : decode cL_weaver 19 = .ok (.iconst 2, 1) := by decide +kernel
theorem dL_weaver_20 : decode cL_weaver 20 = .ok (.ireturn, 1) := by decide +kernel
theorem dL_weaver_21 : decode cL_weaver 21 = .ok (.iconst 0, 1) := by decide +kernel
theorem dL_weaver_22 : decode cL_weaver 22 = .ok (.ireturn, 1) := by decide +kernel
theorem dL_share_0 : decode cL_share 0 = .ok (.aload_n 3, 1) := by decide +kernel
theorem dL_share_1 : decode cL_share 1 = .ok (.iconst 0, 1) := by decide +kernel
theorem dL_share_2 : decode cL_share 2 = .ok (.aload_n 0, 1) := by decide +kernel
theorem dL_share_3 : decode cL_share 3 = .ok (.iload_n 1, 1) := by decide +kernel
theorem dL_share_4 : decode cL_share 4 = .ok (.iload_n 2, 1) := by decide +kernel
theorem dL_share_5 : decode cL_share 5 = .ok (.invokevirtual 57, 3) := by decide +kernel
theorem dL_share_8 : decode cL_share 8 = .ok (.i2l, 1) := by decide +kernel
theorem dL_share_9 : decode cL_share 9 = .ok (.lastore, 1) := by decide +kernel
theorem dL_share_10 : decode cL_share 10 = .ok (.goto 7, 3) := by decide +kernel
theorem dL_share_13 : decode cL_share 13 = .ok (.astore 4, 2) := by decide +kernel
theorem dL_share_15 : decode cL_share 15 = .ok (.iconst 1, 1) := by decide +kernel
theorem dL_share_16 : decode cL_share 16 = .ok (.ireturn, 1) := by decide +kernel
theorem dL_share_17 : decode cL_share 17 = .ok (.iconst 0, 1) := by decide +kernel
theorem dL_share_18 : decode cL_share 18 = .ok (.ireturn, 1) := by decide +kernel
theorem dL_orderOf_0 : decode cL_orderOf 0 = .ok (.aload_n 3, 1) := by decide +kernel
theorem dL_orderOf_1 : decode cL_orderOf 1 = .ok (.iconst 0, 1) := by decide +kernel
theorem dL_orderOf_2 : decode cL_orderOf 2 = .ok (.aload_n 0, 1) := by decide +kernel
theorem dL_orderOf_3 : decode cL_orderOf 3 = .ok (.iload_n 1, 1) := by decide +kernel
theorem dL_orderOf_4 : decode cL_orderOf 4 = .ok (.iload_n 2, 1) := by decide +kernel
theorem dL_orderOf_5 : decode cL_orderOf 5 = .ok (.invokevirtual 60, 3) := by decide +kernel
theorem dL_orderOf_8 : decode cL_orderOf 8 = .ok (.i2l, 1) := by decide +kernel
theorem dL_orderOf_9 : decode cL_orderOf 9 = .ok (.lastore, 1) := by decide +kernel
theorem dL_orderOf_10 : decode cL_orderOf 10 = .ok (.goto 7, 3) := by decide +kernel
theorem dL_orderOf_13 : decode cL_orderOf 13 = .ok (.astore 4, 2) := by decide +kernel
theorem dL_orderOf_15 : decode cL_orderOf 15 = .ok (.iconst 1, 1) := by decide +kernel
theorem dL_orderOf_16 : decode cL_orderOf 16 = .ok (.ireturn, 1) := by decide +kernel
theorem dL_orderOf_17 : decode cL_orderOf 17 = .ok (.iconst 0, 1) := by decide +kernel
theorem dL_orderOf_18 : decode cL_orderOf 18 = .ok (.ireturn, 1) := by decide +kernel
theorem dL_wovenBy_0 : decode cL_wovenBy 0 = .ok (.aload_n 3, 1) := by decide +kernel
theorem dL_wovenBy_1 : decode cL_wovenBy 1 = .ok (.iconst 0, 1) := by decide +kernel
theorem dL_wovenBy_2 : decode cL_wovenBy 2 = .ok (.aload_n 0, 1) := by decide +kernel
theorem dL_wovenBy_3 : decode cL_wovenBy 3 = .ok (.iload_n 1, 1) := by decide +kernel
theorem dL_wovenBy_4 : decode cL_wovenBy 4 = .ok (.iload_n 2, 1) := by decide +kernel
theorem dL_wovenBy_5 : decode cL_wovenBy 5 = .ok (.invokevirtual 63, 3) := by decide +kernel
theorem dL_wovenBy_8 : decode cL_wovenBy 8 = .ok (.i2l, 1) := by decide +kernel
theorem dL_wovenBy_9 : decode cL_wovenBy 9 = .ok (.lastore, 1) := by decide +kernel
theorem dL_wovenBy_10 : decode cL_wovenBy 10 = .ok (.goto 11, 3) := by decide +kernel
theorem dL_wovenBy_13 : decode cL_wovenBy 13 = .ok (.astore 4, 2) := by decide +kernel
theorem dL_wovenBy_15 : decode cL_wovenBy 15 = .ok (.iconst 1, 1) := by decide +kernel
theorem dL_wovenBy_16 : decode cL_wovenBy 16 = .ok (.ireturn, 1) := by decide +kernel
theorem dL_wovenBy_17 : decode cL_wovenBy 17 = .ok (.astore 4, 2) := by decide +kernel
theorem dL_wovenBy_19 : decode cL_wovenBy 19 = .ok (.iconst 2, 1) := by decide +kernel
theorem dL_wovenBy_20 : decode cL_wovenBy 20 = .ok (.ireturn, 1) := by decide +kernel
theorem dL_wovenBy_21 : decode cL_wovenBy 21 = .ok (.iconst 0, 1) := by decide +kernel
theorem dL_wovenBy_22 : decode cL_wovenBy 22 = .ok (.ireturn, 1) := by decide +kernel
theorem dL_next_0 : decode cL_next 0 = .ok (.aload_n 3, 1) := by decide +kernel
theorem dL_next_1 : decode cL_next 1 = .ok (.iconst 0, 1) := by decide +kernel
theorem dL_next_2 : decode cL_next 2 = .ok (.aload_n 0, 1) := by decide +kernel
theorem dL_next_3 : decode cL_next 3 = .ok (.iload_n 1, 1) := by decide +kernel
theorem dL_next_4 : decode cL_next 4 = .ok (.iload_n 2, 1) := by decide +kernel
theorem dL_next_5 : decode cL_next 5 = .ok (.invokevirtual 66, 3) := by decide +kernel
theorem dL_next_8 : decode cL_next 8 = .ok (.i2l, 1) := by decide +kernel
theorem dL_next_9 : decode cL_next 9 = .ok (.lastore, 1) := by decide +kernel
theorem dL_next_10 : decode cL_next 10 = .ok (.goto 11, 3) := by decide +kernel
theorem dL_next_13 : decode cL_next 13 = .ok (.astore 4, 2) := by decide +kernel
theorem dL_next_15 : decode cL_next 15 = .ok (.iconst 1, 1) := by decide +kernel
theorem dL_next_16 : decode cL_next 16 = .ok (.ireturn, 1) := by decide +kernel
theorem dL_next_17 : decode cL_next 17 = .ok (.astore 4, 2) := by decide +kernel
theorem dL_next_19 : decode cL_next 19 = .ok (.iconst 2, 1) := by decide +kernel
theorem dL_next_20 : decode cL_next 20 = .ok (.ireturn, 1) := by decide +kernel
theorem dL_next_21 : decode cL_next 21 = .ok (.iconst 0, 1) := by decide +kernel
theorem dL_next_22 : decode cL_next 22 = .ok (.ireturn, 1) := by decide +kernel
theorem dL_count_0 : decode cL_count 0 = .ok (.aload_n 2, 1) := by decide +kernel
theorem dL_count_1 : decode cL_count 1 = .ok (.iconst 0, 1) := by decide +kernel
theorem dL_count_2 : decode cL_count 2 = .ok (.aload_n 0, 1) := by decide +kernel
theorem dL_count_3 : decode cL_count 3 = .ok (.iload_n 1, 1) := by decide +kernel
theorem dL_count_4 : decode cL_count 4 = .ok (.invokevirtual 69, 3) := by decide +kernel
theorem dL_count_7 : decode cL_count 7 = .ok (.i2l, 1) := by decide +kernel
theorem dL_count_8 : decode cL_count 8 = .ok (.lastore, 1) := by decide +kernel
theorem dL_count_9 : decode cL_count 9 = .ok (.goto 6, 3) := by decide +kernel
theorem dL_count_12 : decode cL_count 12 = .ok (.astore_n 3, 1) := by decide +kernel
theorem dL_count_13 : decode cL_count 13 = .ok (.iconst 1, 1) := by decide +kernel
theorem dL_count_14 : decode cL_count 14 = .ok (.ireturn, 1) := by decide +kernel
theorem dL_count_15 : decode cL_count 15 = .ok (.iconst 0, 1) := by decide +kernel
theorem dL_count_16 : decode cL_count 16 = .ok (.ireturn, 1) := by decide +kernel
theorem dL_setting_0 : decode cL_setting 0 = .ok (.aload_n 2, 1) := by decide +kernel
theorem dL_setting_1 : decode cL_setting 1 = .ok (.iconst 0, 1) := by decide +kernel
theorem dL_setting_2 : decode cL_setting 2 = .ok (.aload_n 0, 1) := by decide +kernel
theorem dL_setting_3 : decode cL_setting 3 = .ok (.iload_n 1, 1) := by decide +kernel
theorem dL_setting_4 : decode cL_setting 4 = .ok (.invokevirtual 72, 3) := by decide +kernel
theorem dL_setting_7 : decode cL_setting 7 = .ok (.i2l, 1) := by decide +kernel
theorem dL_setting_8 : decode cL_setting 8 = .ok (.lastore, 1) := by decide +kernel
theorem dL_setting_9 : decode cL_setting 9 = .ok (.goto 6, 3) := by decide +kernel
theorem dL_setting_12 : decode cL_setting 12 = .ok (.astore_n 3, 1) := by decide +kernel
theorem dL_setting_13 : decode cL_setting 13 = .ok (.iconst 1, 1) := by decide +kernel
theorem dL_setting_14 : decode cL_setting 14 = .ok (.ireturn, 1) := by decide +kernel
theorem dL_setting_15 : decode cL_setting 15 = .ok (.iconst 0, 1) := by decide +kernel
theorem dL_setting_16 : decode cL_setting 16 = .ok (.ireturn, 1) := by decide +kernel
theorem dL_ifPassed_0 : decode cL_ifPassed 0 = .ok (.aload_n 3, 1) := by decide +kernel
theorem dL_ifPassed_1 : decode cL_ifPassed 1 = .ok (.iconst 0, 1) := by decide +kernel
theorem dL_ifPassed_2 : decode cL_ifPassed 2 = .ok (.aload_n 0, 1) := by decide +kernel
theorem dL_ifPassed_3 : decode cL_ifPassed 3 = .ok (.iload_n 1, 1) := by decide +kernel
theorem dL_ifPassed_4 : decode cL_ifPassed 4 = .ok (.iload_n 2, 1) := by decide +kernel
theorem dL_ifPassed_5 : decode cL_ifPassed 5 = .ok (.invokevirtual 75, 3) := by decide +kernel
theorem dL_ifPassed_8 : decode cL_ifPassed 8 = .ok (.i2l, 1) := by decide +kernel
theorem dL_ifPassed_9 : decode cL_ifPassed 9 = .ok (.lastore, 1) := by decide +kernel
theorem dL_ifPassed_10 : decode cL_ifPassed 10 = .ok (.goto 7, 3) := by decide +kernel
theorem dL_ifPassed_13 : decode cL_ifPassed 13 = .ok (.astore 4, 2) := by decide +kernel
theorem dL_ifPassed_15 : decode cL_ifPassed 15 = .ok (.iconst 1, 1) := by decide +kernel
theorem dL_ifPassed_16 : decode cL_ifPassed 16 = .ok (.ireturn, 1) := by decide +kernel
theorem dL_ifPassed_17 : decode cL_ifPassed 17 = .ok (.iconst 0, 1) := by decide +kernel
theorem dL_ifPassed_18 : decode cL_ifPassed 18 = .ok (.ireturn, 1) := by decide +kernel
theorem dL_doneIn_0 : decode cL_doneIn 0 = .ok (.aload_n 2, 1) := by decide +kernel
theorem dL_doneIn_1 : decode cL_doneIn 1 = .ok (.iconst 0, 1) := by decide +kernel
theorem dL_doneIn_2 : decode cL_doneIn 2 = .ok (.aload_n 0, 1) := by decide +kernel
theorem dL_doneIn_3 : decode cL_doneIn 3 = .ok (.iload_n 1, 1) := by decide +kernel
theorem dL_doneIn_4 : decode cL_doneIn 4 = .ok (.invokevirtual 78, 3) := by decide +kernel
theorem dL_doneIn_7 : decode cL_doneIn 7 = .ok (.i2l, 1) := by decide +kernel
theorem dL_doneIn_8 : decode cL_doneIn 8 = .ok (.lastore, 1) := by decide +kernel
theorem dL_doneIn_9 : decode cL_doneIn 9 = .ok (.goto 6, 3) := by decide +kernel
theorem dL_doneIn_12 : decode cL_doneIn 12 = .ok (.astore_n 3, 1) := by decide +kernel
theorem dL_doneIn_13 : decode cL_doneIn 13 = .ok (.iconst 1, 1) := by decide +kernel
theorem dL_doneIn_14 : decode cL_doneIn 14 = .ok (.ireturn, 1) := by decide +kernel
theorem dL_doneIn_15 : decode cL_doneIn 15 = .ok (.iconst 0, 1) := by decide +kernel
theorem dL_doneIn_16 : decode cL_doneIn 16 = .ok (.ireturn, 1) := by decide +kernel
theorem dL_bestRule_0 : decode cL_bestRule 0 = .ok (.aload_n 2, 1) := by decide +kernel
theorem dL_bestRule_1 : decode cL_bestRule 1 = .ok (.iconst 0, 1) := by decide +kernel
theorem dL_bestRule_2 : decode cL_bestRule 2 = .ok (.aload_n 0, 1) := by decide +kernel
theorem dL_bestRule_3 : decode cL_bestRule 3 = .ok (.iload_n 1, 1) := by decide +kernel
theorem dL_bestRule_4 : decode cL_bestRule 4 = .ok (.invokevirtual 81, 3) := by decide +kernel
theorem dL_bestRule_7 : decode cL_bestRule 7 = .ok (.i2l, 1) := by decide +kernel
theorem dL_bestRule_8 : decode cL_bestRule 8 = .ok (.lastore, 1) := by decide +kernel
theorem dL_bestRule_9 : decode cL_bestRule 9 = .ok (.goto 6, 3) := by decide +kernel
theorem dL_bestRule_12 : decode cL_bestRule 12 = .ok (.astore_n 3, 1) := by decide +kernel
theorem dL_bestRule_13 : decode cL_bestRule 13 = .ok (.iconst 1, 1) := by decide +kernel
theorem dL_bestRule_14 : decode cL_bestRule 14 = .ok (.ireturn, 1) := by decide +kernel
theorem dL_bestRule_15 : decode cL_bestRule 15 = .ok (.iconst 0, 1) := by decide +kernel
theorem dL_bestRule_16 : decode cL_bestRule 16 = .ok (.ireturn, 1) := by decide +kernel
theorem dL_dueNow_0 : decode cL_dueNow 0 = .ok (.aload_n 3, 1) := by decide +kernel
theorem dL_dueNow_1 : decode cL_dueNow 1 = .ok (.iconst 0, 1) := by decide +kernel
theorem dL_dueNow_2 : decode cL_dueNow 2 = .ok (.aload_n 0, 1) := by decide +kernel
theorem dL_dueNow_3 : decode cL_dueNow 3 = .ok (.iload_n 1, 1) := by decide +kernel
theorem dL_dueNow_4 : decode cL_dueNow 4 = .ok (.iload_n 2, 1) := by decide +kernel
theorem dL_dueNow_5 : decode cL_dueNow 5 = .ok (.invokevirtual 84, 3) := by decide +kernel
theorem dL_dueNow_8 : decode cL_dueNow 8 = .ok (.i2l, 1) := by decide +kernel
theorem dL_dueNow_9 : decode cL_dueNow 9 = .ok (.lastore, 1) := by decide +kernel
theorem dL_dueNow_10 : decode cL_dueNow 10 = .ok (.goto 7, 3) := by decide +kernel
theorem dL_dueNow_13 : decode cL_dueNow 13 = .ok (.astore 4, 2) := by decide +kernel
theorem dL_dueNow_15 : decode cL_dueNow 15 = .ok (.iconst 1, 1) := by decide +kernel
theorem dL_dueNow_16 : decode cL_dueNow 16 = .ok (.ireturn, 1) := by decide +kernel
theorem dL_dueNow_17 : decode cL_dueNow 17 = .ok (.iconst 0, 1) := by decide +kernel
theorem dL_dueNow_18 : decode cL_dueNow 18 = .ok (.ireturn, 1) := by decide +kernel
theorem dL_law_0 : decode cL_law 0 = .ok (.new 8, 3) := by decide +kernel
theorem dL_law_3 : decode cL_law 3 = .ok (.dup, 1) := by decide +kernel
theorem dL_law_4 : decode cL_law 4 = .ok (.invokespecial 87, 3) := by decide +kernel
theorem dL_law_7 : decode cL_law 7 = .ok (.astore_n 1, 1) := by decide +kernel
theorem dL_law_8 : decode cL_law 8 = .ok (.new 88, 3) := by decide +kernel
theorem dL_law_11 : decode cL_law 11 = .ok (.dup, 1) := by decide +kernel
theorem dL_law_12 : decode cL_law 12 = .ok (.invokespecial 90, 3) := by decide +kernel
theorem dL_law_15 : decode cL_law 15 = .ok (.astore_n 2, 1) := by decide +kernel
theorem dL_law_16 : decode cL_law 16 = .ok (.iconst 1, 1) := by decide +kernel
theorem dL_law_17 : decode cL_law 17 = .ok (.newarray .long, 2) := by decide +kernel
theorem dL_law_19 : decode cL_law 19 = .ok (.astore_n 3, 1) := by decide +kernel
theorem dL_law_20 : decode cL_law 20 = .ok (.iconst 0, 1) := by decide +kernel
theorem dL_law_21 : decode cL_law 21 = .ok (.istore 4, 2) := by decide +kernel
theorem dL_law_23 : decode cL_law 23 = .ok (.iload 4, 2) := by decide +kernel
theorem dL_law_25 : decode cL_law 25 = .ok (.aload_n 0, 1) := by decide +kernel
theorem dL_law_26 : decode cL_law 26 = .ok (.arraylength, 1) := by decide +kernel
theorem dL_law_27 : decode cL_law 27 = .ok (.bipush 6, 2) := by decide +kernel
theorem dL_law_29 : decode cL_law 29 = .ok (.isub, 1) := by decide +kernel
theorem dL_law_30 : decode cL_law 30 = .ok (.if_icmp .gt 1677, 3) := by decide +kernel
theorem dL_law_33 : decode cL_law 33 = .ok (.aload_n 0, 1) := by decide +kernel
theorem dL_law_34 : decode cL_law 34 = .ok (.iload 4, 2) := by decide +kernel
theorem dL_law_36 : decode cL_law 36 = .ok (.iaload, 1) := by decide +kernel
theorem dL_law_37 : decode cL_law 37 = .ok (.bipush 31, 2) := by decide +kernel
theorem dL_law_39 : decode cL_law 39 = .ok (.iand, 1) := by decide +kernel
theorem dL_law_40 : decode cL_law 40 = .ok (.tableswitch 1661 0 25 #[120, 212, 292, 360, 452, 556, 612, 680, 736, 792, 805, 818, 862, 906, 974, 1042, 1110, 1178, 1246, 1302, 1358, 1426, 1482, 1538, 1606, 1647], 120) := by decide +kernel
theorem dL_law_160 : decode cL_law 160 = .ok (.aload_n 1, 1) := by decide +kernel
theorem dL_law_161 : decode cL_law 161 = .ok (.aload_n 0, 1) := by decide +kernel
theorem dL_law_162 : decode cL_law 162 = .ok (.iload 4, 2) := by decide +kernel
theorem dL_law_164 : decode cL_law 164 = .ok (.iconst 1, 1) := by decide +kernel
theorem dL_law_165 : decode cL_law 165 = .ok (.iadd, 1) := by decide +kernel
theorem dL_law_166 : decode cL_law 166 = .ok (.iaload, 1) := by decide +kernel
theorem dL_law_167 : decode cL_law 167 = .ok (.aload_n 0, 1) := by decide +kernel
theorem dL_law_168 : decode cL_law 168 = .ok (.iload 4, 2) := by decide +kernel
theorem dL_law_170 : decode cL_law 170 = .ok (.iconst 2, 1) := by decide +kernel
theorem dL_law_171 : decode cL_law 171 = .ok (.iadd, 1) := by decide +kernel
theorem dL_law_172 : decode cL_law 172 = .ok (.iaload, 1) := by decide +kernel
theorem dL_law_173 : decode cL_law 173 = .ok (.aload_n 0, 1) := by decide +kernel
theorem dL_law_174 : decode cL_law 174 = .ok (.iload 4, 2) := by decide +kernel
theorem dL_law_176 : decode cL_law 176 = .ok (.iconst 3, 1) := by decide +kernel
theorem dL_law_177 : decode cL_law 177 = .ok (.iadd, 1) := by decide +kernel
theorem dL_law_178 : decode cL_law 178 = .ok (.iaload, 1) := by decide +kernel
theorem dL_law_179 : decode cL_law 179 = .ok (.aload_n 0, 1) := by decide +kernel
theorem dL_law_180 : decode cL_law 180 = .ok (.iload 4, 2) := by decide +kernel
theorem dL_law_182 : decode cL_law 182 = .ok (.iconst 4, 1) := by decide +kernel
theorem dL_law_183 : decode cL_law 183 = .ok (.iadd, 1) := by decide +kernel
theorem dL_law_184 : decode cL_law 184 = .ok (.iaload, 1) := by decide +kernel
theorem dL_law_185 : decode cL_law 185 = .ok (.aload_n 3, 1) := by decide +kernel
theorem dL_law_186 : decode cL_law 186 = .ok (.invokestatic 91, 3) := by decide +kernel
theorem dL_law_189 : decode cL_law 189 = .ok (.istore 5, 2) := by decide +kernel
theorem dL_law_191 : decode cL_law 191 = .ok (.aload_n 2, 1) := by decide +kernel
theorem dL_law_192 : decode cL_law 192 = .ok (.aload_n 0, 1) := by decide +kernel
theorem dL_law_193 : decode cL_law 193 = .ok (.iload 4, 2) := by decide +kernel
theorem dL_law_195 : decode cL_law 195 = .ok (.iconst 1, 1) := by decide +kernel
theorem dL_law_196 : decode cL_law 196 = .ok (.iadd, 1) := by decide +kernel
theorem dL_law_197 : decode cL_law 197 = .ok (.iaload, 1) := by decide +kernel
theorem dL_law_198 : decode cL_law 198 = .ok (.aload_n 0, 1) := by decide +kernel
theorem dL_law_199 : decode cL_law 199 = .ok (.iload 4, 2) := by decide +kernel
theorem dL_law_201 : decode cL_law 201 = .ok (.iconst 2, 1) := by decide +kernel
theorem dL_law_202 : decode cL_law 202 = .ok (.iadd, 1) := by decide +kernel
theorem dL_law_203 : decode cL_law 203 = .ok (.iaload, 1) := by decide +kernel
theorem dL_law_204 : decode cL_law 204 = .ok (.aload_n 0, 1) := by decide +kernel
theorem dL_law_205 : decode cL_law 205 = .ok (.iload 4, 2) := by decide +kernel
theorem dL_law_207 : decode cL_law 207 = .ok (.iconst 3, 1) := by decide +kernel
theorem dL_law_208 : decode cL_law 208 = .ok (.iadd, 1) := by decide +kernel
theorem dL_law_209 : decode cL_law 209 = .ok (.iaload, 1) := by decide +kernel
theorem dL_law_210 : decode cL_law 210 = .ok (.aload_n 0, 1) := by decide +kernel
theorem dL_law_211 : decode cL_law 211 = .ok (.iload 4, 2) := by decide +kernel
theorem dL_law_213 : decode cL_law 213 = .ok (.iconst 4, 1) := by decide +kernel
theorem dL_law_214 : decode cL_law 214 = .ok (.iadd, 1) := by decide +kernel
theorem dL_law_215 : decode cL_law 215 = .ok (.iaload, 1) := by decide +kernel
theorem dL_law_216 : decode cL_law 216 = .ok (.invokevirtual 96, 3) := by decide +kernel
theorem dL_law_219 : decode cL_law 219 = .ok (.istore 6, 2) := by decide +kernel
theorem dL_law_221 : decode cL_law 221 = .ok (.aload_n 2, 1) := by decide +kernel
theorem dL_law_222 : decode cL_law 222 = .ok (.invokevirtual 97, 3) := by decide +kernel
theorem dL_law_225 : decode cL_law 225 = .ok (.iload 5, 2) := by decide +kernel
theorem dL_law_227 : decode cL_law 227 = .ok (.if_icmp .eq 5, 3) := by decide +kernel
theorem dL_law_230 : decode cL_law 230 = .ok (.iconst 0, 1) := by decide +kernel
theorem dL_law_231 : decode cL_law 231 = .ok (.ireturn, 1) := by decide +kernel
theorem dL_law_232 : decode cL_law 232 = .ok (.iload 5, 2) := by decide +kernel
theorem dL_law_234 : decode cL_law 234 = .ok (.ifCond .ne 15, 3) := by decide +kernel
theorem dL_law_237 : decode cL_law 237 = .ok (.aload_n 3, 1) := by decide +kernel
theorem dL_law_238 : decode cL_law 238 = .ok (.iconst 0, 1) := by decide +kernel
theorem dL_law_239 : decode cL_law 239 = .ok (.laload, 1) := by decide +kernel
theorem dL_law_240 : decode cL_law 240 = .ok (.iload 6, 2) := by decide +kernel
theorem dL_law_242 : decode cL_law 242 = .ok (.i2l, 1) := by decide +kernel
theorem dL_law_243 : decode cL_law 243 = .ok (.lcmp, 1) := by decide +kernel
theorem dL_law_244 : decode cL_law 244 = .ok (.ifCond .eq 5, 3) := by decide +kernel
theorem dL_law_247 : decode cL_law 247 = .ok (.iconst 0, 1) := by decide +kernel
theorem dL_law_248 : decode cL_law 248 = .ok (.ireturn, 1) := by decide +kernel
theorem dL_law_249 : decode cL_law 249 = .ok (.goto 1452, 3) := by decide +kernel
theorem dL_law_252 : decode cL_law 252 = .ok (.aload_n 1, 1) := by decide +kernel
theorem dL_law_253 : decode cL_law 253 = .ok (.aload_n 0, 1) := by decide +kernel
theorem dL_law_254 : decode cL_law 254 = .ok (.iload 4, 2) := by decide +kernel
theorem dL_law_256 : decode cL_law 256 = .ok (.iconst 1, 1) := by decide +kernel
theorem dL_law_257 : decode cL_law 257 = .ok (.iadd, 1) := by decide +kernel
theorem dL_law_258 : decode cL_law 258 = .ok (.iaload, 1) := by decide +kernel
theorem dL_law_259 : decode cL_law 259 = .ok (.aload_n 0, 1) := by decide +kernel
theorem dL_law_260 : decode cL_law 260 = .ok (.iload 4, 2) := by decide +kernel
theorem dL_law_262 : decode cL_law 262 = .ok (.iconst 2, 1) := by decide +kernel
theorem dL_law_263 : decode cL_law 263 = .ok (.iadd, 1) := by decide +kernel
theorem dL_law_264 : decode cL_law 264 = .ok (.iaload, 1) := by decide +kernel
theorem dL_law_265 : decode cL_law 265 = .ok (.aload_n 0, 1) := by decide +kernel
theorem dL_law_266 : decode cL_law 266 = .ok (.iload 4, 2) := by decide +kernel
theorem dL_law_268 : decode cL_law 268 = .ok (.iconst 3, 1) := by decide +kernel
theorem dL_law_269 : decode cL_law 269 = .ok (.iadd, 1) := by decide +kernel
theorem dL_law_270 : decode cL_law 270 = .ok (.iaload, 1) := by decide +kernel
theorem dL_law_271 : decode cL_law 271 = .ok (.aload_n 3, 1) := by decide +kernel
theorem dL_law_272 : decode cL_law 272 = .ok (.invokestatic 100, 3) := by decide +kernel
theorem dL_law_275 : decode cL_law 275 = .ok (.istore 5, 2) := by decide +kernel
theorem dL_law_277 : decode cL_law 277 = .ok (.aload_n 2, 1) := by decide +kernel
theorem dL_law_278 : decode cL_law 278 = .ok (.aload_n 0, 1) := by decide +kernel
theorem dL_law_279 : decode cL_law 279 = .ok (.iload 4, 2) := by decide +kernel
theorem dL_law_281 : decode cL_law 281 = .ok (.iconst 1, 1) := by decide +kernel
theorem dL_law_282 : decode cL_law 282 = .ok (.iadd, 1) := by decide +kernel
theorem dL_law_283 : decode cL_law 283 = .ok (.iaload, 1) := by decide +kernel
theorem dL_law_284 : decode cL_law 284 = .ok (.aload_n 0, 1) := by decide +kernel
theorem dL_law_285 : decode cL_law 285 = .ok (.iload 4, 2) := by decide +kernel
theorem dL_law_287 : decode cL_law 287 = .ok (.iconst 2, 1) := by decide +kernel
theorem dL_law_288 : decode cL_law 288 = .ok (.iadd, 1) := by decide +kernel
theorem dL_law_289 : decode cL_law 289 = .ok (.iaload, 1) := by decide +kernel
theorem dL_law_290 : decode cL_law 290 = .ok (.aload_n 0, 1) := by decide +kernel
theorem dL_law_291 : decode cL_law 291 = .ok (.iload 4, 2) := by decide +kernel
theorem dL_law_293 : decode cL_law 293 = .ok (.iconst 3, 1) := by decide +kernel
theorem dL_law_294 : decode cL_law 294 = .ok (.iadd, 1) := by decide +kernel
theorem dL_law_295 : decode cL_law 295 = .ok (.iaload, 1) := by decide +kernel
theorem dL_law_296 : decode cL_law 296 = .ok (.invokevirtual 103, 3) := by decide +kernel
theorem dL_law_299 : decode cL_law 299 = .ok (.istore 6, 2) := by decide +kernel
theorem dL_law_301 : decode cL_law 301 = .ok (.aload_n 2, 1) := by decide +kernel
theorem dL_law_302 : decode cL_law 302 = .ok (.invokevirtual 97, 3) := by decide +kernel
theorem dL_law_305 : decode cL_law 305 = .ok (.iload 5, 2) := by decide +kernel
theorem dL_law_307 : decode cL_law 307 = .ok (.if_icmp .eq 5, 3) := by decide +kernel
theorem dL_law_310 : decode cL_law 310 = .ok (.iconst 0, 1) := by decide +kernel
theorem dL_law_311 : decode cL_law 311 = .ok (.ireturn, 1) := by decide +kernel
theorem dL_law_312 : decode cL_law 312 = .ok (.iload 5, 2) := by decide +kernel
theorem dL_law_314 : decode cL_law 314 = .ok (.ifCond .ne 15, 3) := by decide +kernel
theorem dL_law_317 : decode cL_law 317 = .ok (.aload_n 3, 1) := by decide +kernel
theorem dL_law_318 : decode cL_law 318 = .ok (.iconst 0, 1) := by decide +kernel
theorem dL_law_319 : decode cL_law 319 = .ok (.laload, 1) := by decide +kernel
theorem dL_law_320 : decode cL_law 320 = .ok (.iload 6, 2) := by decide +kernel
theorem dL_law_322 : decode cL_law 322 = .ok (.i2l, 1) := by decide +kernel
theorem dL_law_323 : decode cL_law 323 = .ok (.lcmp, 1) := by decide +kernel
theorem dL_law_324 : decode cL_law 324 = .ok (.ifCond .eq 5, 3) := by decide +kernel
theorem dL_law_327 : decode cL_law 327 = .ok (.iconst 0, 1) := by decide +kernel
theorem dL_law_328 : decode cL_law 328 = .ok (.ireturn, 1) := by decide +kernel
theorem dL_law_329 : decode cL_law 329 = .ok (.goto 1372, 3) := by decide +kernel
theorem dL_law_332 : decode cL_law 332 = .ok (.aload_n 1, 1) := by decide +kernel
theorem dL_law_333 : decode cL_law 333 = .ok (.aload_n 0, 1) := by decide +kernel
theorem dL_law_334 : decode cL_law 334 = .ok (.iload 4, 2) := by decide +kernel
theorem dL_law_336 : decode cL_law 336 = .ok (.iconst 1, 1) := by decide +kernel
theorem dL_law_337 : decode cL_law 337 = .ok (.iadd, 1) := by decide +kernel
theorem dL_law_338 : decode cL_law 338 = .ok (.iaload, 1) := by decide +kernel
theorem dL_law_339 : decode cL_law 339 = .ok (.aload_n 0, 1) := by decide +kernel
theorem dL_law_340 : decode cL_law 340 = .ok (.iload 4, 2) := by decide +kernel
theorem dL_law_342 : decode cL_law 342 = .ok (.iconst 2, 1) := by decide +kernel
theorem dL_law_343 : decode cL_law 343 = .ok (.iadd, 1) := by decide +kernel
theorem dL_law_344 : decode cL_law 344 = .ok (.iaload, 1) := by decide +kernel
theorem dL_law_345 : decode cL_law 345 = .ok (.aload_n 3, 1) := by decide +kernel
theorem dL_law_346 : decode cL_law 346 = .ok (.invokestatic 104, 3) := by decide +kernel
theorem dL_law_349 : decode cL_law 349 = .ok (.istore 5, 2) := by decide +kernel
theorem dL_law_351 : decode cL_law 351 = .ok (.aload_n 2, 1) := by decide +kernel
theorem dL_law_352 : decode cL_law 352 = .ok (.aload_n 0, 1) := by decide +kernel
theorem dL_law_353 : decode cL_law 353 = .ok (.iload 4, 2) := by decide +kernel
theorem dL_law_355 : decode cL_law 355 = .ok (.iconst 1, 1) := by decide +kernel
theorem dL_law_356 : decode cL_law 356 = .ok (.iadd, 1) := by decide +kernel
theorem dL_law_357 : decode cL_law 357 = .ok (.iaload, 1) := by decide +kernel
theorem dL_law_358 : decode cL_law 358 = .ok (.aload_n 0, 1) := by decide +kernel
theorem dL_law_359 : decode cL_law 359 = .ok (.iload 4, 2) := by decide +kernel
theorem dL_law_361 : decode cL_law 361 = .ok (.iconst 2, 1) := by decide +kernel
theorem dL_law_362 : decode cL_law 362 = .ok (.iadd, 1) := by decide +kernel
theorem dL_law_363 : decode cL_law 363 = .ok (.iaload, 1) := by decide +kernel
theorem dL_law_364 : decode cL_law 364 = .ok (.invokevirtual 107, 3) := by decide +kernel
theorem dL_law_367 : decode cL_law 367 = .ok (.istore 6, 2) := by decide +kernel
theorem dL_law_369 : decode cL_law 369 = .ok (.aload_n 2, 1) := by decide +kernel
theorem dL_law_370 : decode cL_law 370 = .ok (.invokevirtual 97, 3) := by decide +kernel
theorem dL_law_373 : decode cL_law 373 = .ok (.iload 5, 2) := by decide +kernel
theorem dL_law_375 : decode cL_law 375 = .ok (.if_icmp .eq 5, 3) := by decide +kernel
theorem dL_law_378 : decode cL_law 378 = .ok (.iconst 0, 1) := by decide +kernel
theorem dL_law_379 : decode cL_law 379 = .ok (.ireturn, 1) := by decide +kernel
theorem dL_law_380 : decode cL_law 380 = .ok (.iload 5, 2) := by decide +kernel
theorem dL_law_382 : decode cL_law 382 = .ok (.ifCond .ne 15, 3) := by decide +kernel
theorem dL_law_385 : decode cL_law 385 = .ok (.aload_n 3, 1) := by decide +kernel
theorem dL_law_386 : decode cL_law 386 = .ok (.iconst 0, 1) := by decide +kernel
theorem dL_law_387 : decode cL_law 387 = .ok (.laload, 1) := by decide +kernel
theorem dL_law_388 : decode cL_law 388 = .ok (.iload 6, 2) := by decide +kernel
theorem dL_law_390 : decode cL_law 390 = .ok (.i2l, 1) := by decide +kernel
theorem dL_law_391 : decode cL_law 391 = .ok (.lcmp, 1) := by decide +kernel
theorem dL_law_392 : decode cL_law 392 = .ok (.ifCond .eq 5, 3) := by decide +kernel
theorem dL_law_395 : decode cL_law 395 = .ok (.iconst 0, 1) := by decide +kernel
theorem dL_law_396 : decode cL_law 396 = .ok (.ireturn, 1) := by decide +kernel
theorem dL_law_397 : decode cL_law 397 = .ok (.goto 1304, 3) := by decide +kernel
theorem dL_law_400 : decode cL_law 400 = .ok (.aload_n 1, 1) := by decide +kernel
theorem dL_law_401 : decode cL_law 401 = .ok (.aload_n 0, 1) := by decide +kernel
theorem dL_law_402 : decode cL_law 402 = .ok (.iload 4, 2) := by decide +kernel
theorem dL_law_404 : decode cL_law 404 = .ok (.iconst 1, 1) := by decide +kernel
theorem dL_law_405 : decode cL_law 405 = .ok (.iadd, 1) := by decide +kernel
theorem dL_law_406 : decode cL_law 406 = .ok (.iaload, 1) := by decide +kernel
theorem dL_law_407 : decode cL_law 407 = .ok (.aload_n 0, 1) := by decide +kernel
theorem dL_law_408 : decode cL_law 408 = .ok (.iload 4, 2) := by decide +kernel
theorem dL_law_410 : decode cL_law 410 = .ok (.iconst 2, 1) := by decide +kernel
theorem dL_law_411 : decode cL_law 411 = .ok (.iadd, 1) := by decide +kernel
theorem dL_law_412 : decode cL_law 412 = .ok (.iaload, 1) := by decide +kernel
theorem dL_law_413 : decode cL_law 413 = .ok (.aload_n 0, 1) := by decide +kernel
theorem dL_law_414 : decode cL_law 414 = .ok (.iload 4, 2) := by decide +kernel
theorem dL_law_416 : decode cL_law 416 = .ok (.iconst 3, 1) := by decide +kernel
theorem dL_law_417 : decode cL_law 417 = .ok (.iadd, 1) := by decide +kernel
theorem dL_law_418 : decode cL_law 418 = .ok (.iaload, 1) := by decide +kernel
theorem dL_law_419 : decode cL_law 419 = .ok (.aload_n 0, 1) := by decide +kernel
theorem dL_law_420 : decode cL_law 420 = .ok (.iload 4, 2) := by decide +kernel
theorem dL_law_422 : decode cL_law 422 = .ok (.iconst 4, 1) := by decide +kernel
theorem dL_law_423 : decode cL_law 423 = .ok (.iadd, 1) := by decide +kernel
theorem dL_law_424 : decode cL_law 424 = .ok (.iaload, 1) := by decide +kernel
theorem dL_law_425 : decode cL_law 425 = .ok (.aload_n 3, 1) := by decide +kernel
theorem dL_law_426 : decode cL_law 426 = .ok (.invokestatic 108, 3) := by decide +kernel
theorem dL_law_429 : decode cL_law 429 = .ok (.istore 5, 2) := by decide +kernel
theorem dL_law_431 : decode cL_law 431 = .ok (.aload_n 2, 1) := by decide +kernel
theorem dL_law_432 : decode cL_law 432 = .ok (.aload_n 0, 1) := by decide +kernel
theorem dL_law_433 : decode cL_law 433 = .ok (.iload 4, 2) := by decide +kernel
theorem dL_law_435 : decode cL_law 435 = .ok (.iconst 1, 1) := by decide +kernel
theorem dL_law_436 : decode cL_law 436 = .ok (.iadd, 1) := by decide +kernel
theorem dL_law_437 : decode cL_law 437 = .ok (.iaload, 1) := by decide +kernel
theorem dL_law_438 : decode cL_law 438 = .ok (.aload_n 0, 1) := by decide +kernel
theorem dL_law_439 : decode cL_law 439 = .ok (.iload 4, 2) := by decide +kernel
theorem dL_law_441 : decode cL_law 441 = .ok (.iconst 2, 1) := by decide +kernel
theorem dL_law_442 : decode cL_law 442 = .ok (.iadd, 1) := by decide +kernel
theorem dL_law_443 : decode cL_law 443 = .ok (.iaload, 1) := by decide +kernel
theorem dL_law_444 : decode cL_law 444 = .ok (.aload_n 0, 1) := by decide +kernel
theorem dL_law_445 : decode cL_law 445 = .ok (.iload 4, 2) := by decide +kernel
theorem dL_law_447 : decode cL_law 447 = .ok (.iconst 3, 1) := by decide +kernel
theorem dL_law_448 : decode cL_law 448 = .ok (.iadd, 1) := by decide +kernel
theorem dL_law_449 : decode cL_law 449 = .ok (.iaload, 1) := by decide +kernel
theorem dL_law_450 : decode cL_law 450 = .ok (.aload_n 0, 1) := by decide +kernel
theorem dL_law_451 : decode cL_law 451 = .ok (.iload 4, 2) := by decide +kernel
theorem dL_law_453 : decode cL_law 453 = .ok (.iconst 4, 1) := by decide +kernel
theorem dL_law_454 : decode cL_law 454 = .ok (.iadd, 1) := by decide +kernel
theorem dL_law_455 : decode cL_law 455 = .ok (.iaload, 1) := by decide +kernel
theorem dL_law_456 : decode cL_law 456 = .ok (.invokevirtual 110, 3) := by decide +kernel
theorem dL_law_459 : decode cL_law 459 = .ok (.istore 6, 2) := by decide +kernel
theorem dL_law_461 : decode cL_law 461 = .ok (.aload_n 2, 1) := by decide +kernel
theorem dL_law_462 : decode cL_law 462 = .ok (.invokevirtual 97, 3) := by decide +kernel
theorem dL_law_465 : decode cL_law 465 = .ok (.iload 5, 2) := by decide +kernel
theorem dL_law_467 : decode cL_law 467 = .ok (.if_icmp .eq 5, 3) := by decide +kernel
theorem dL_law_470 : decode cL_law 470 = .ok (.iconst 0, 1) := by decide +kernel
theorem dL_law_471 : decode cL_law 471 = .ok (.ireturn, 1) := by decide +kernel
theorem dL_law_472 : decode cL_law 472 = .ok (.iload 5, 2) := by decide +kernel
theorem dL_law_474 : decode cL_law 474 = .ok (.ifCond .ne 15, 3) := by decide +kernel
theorem dL_law_477 : decode cL_law 477 = .ok (.aload_n 3, 1) := by decide +kernel
theorem dL_law_478 : decode cL_law 478 = .ok (.iconst 0, 1) := by decide +kernel
theorem dL_law_479 : decode cL_law 479 = .ok (.laload, 1) := by decide +kernel
theorem dL_law_480 : decode cL_law 480 = .ok (.iload 6, 2) := by decide +kernel
theorem dL_law_482 : decode cL_law 482 = .ok (.i2l, 1) := by decide +kernel
theorem dL_law_483 : decode cL_law 483 = .ok (.lcmp, 1) := by decide +kernel
theorem dL_law_484 : decode cL_law 484 = .ok (.ifCond .eq 5, 3) := by decide +kernel
theorem dL_law_487 : decode cL_law 487 = .ok (.iconst 0, 1) := by decide +kernel
theorem dL_law_488 : decode cL_law 488 = .ok (.ireturn, 1) := by decide +kernel
theorem dL_law_489 : decode cL_law 489 = .ok (.goto 1212, 3) := by decide +kernel
theorem dL_law_492 : decode cL_law 492 = .ok (.aload_n 1, 1) := by decide +kernel
theorem dL_law_493 : decode cL_law 493 = .ok (.aload_n 0, 1) := by decide +kernel
theorem dL_law_494 : decode cL_law 494 = .ok (.iload 4, 2) := by decide +kernel
theorem dL_law_496 : decode cL_law 496 = .ok (.iconst 1, 1) := by decide +kernel
theorem dL_law_497 : decode cL_law 497 = .ok (.iadd, 1) := by decide +kernel
theorem dL_law_498 : decode cL_law 498 = .ok (.iaload, 1) := by decide +kernel
theorem dL_law_499 : decode cL_law 499 = .ok (.aload_n 0, 1) := by decide +kernel
theorem dL_law_500 : decode cL_law 500 = .ok (.iload 4, 2) := by decide +kernel
theorem dL_law_502 : decode cL_law 502 = .ok (.iconst 2, 1) := by decide +kernel
theorem dL_law_503 : decode cL_law 503 = .ok (.iadd, 1) := by decide +kernel
theorem dL_law_504 : decode cL_law 504 = .ok (.iaload, 1) := by decide +kernel
theorem dL_law_505 : decode cL_law 505 = .ok (.aload_n 0, 1) := by decide +kernel
theorem dL_law_506 : decode cL_law 506 = .ok (.iload 4, 2) := by decide +kernel
theorem dL_law_508 : decode cL_law 508 = .ok (.iconst 3, 1) := by decide +kernel
theorem dL_law_509 : decode cL_law 509 = .ok (.iadd, 1) := by decide +kernel
theorem dL_law_510 : decode cL_law 510 = .ok (.iaload, 1) := by decide +kernel
theorem dL_law_511 : decode cL_law 511 = .ok (.aload_n 0, 1) := by decide +kernel
theorem dL_law_512 : decode cL_law 512 = .ok (.iload 4, 2) := by decide +kernel
theorem dL_law_514 : decode cL_law 514 = .ok (.iconst 4, 1) := by decide +kernel
theorem dL_law_515 : decode cL_law 515 = .ok (.iadd, 1) := by decide +kernel
theorem dL_law_516 : decode cL_law 516 = .ok (.iaload, 1) := by decide +kernel
theorem dL_law_517 : decode cL_law 517 = .ok (.aload_n 0, 1) := by decide +kernel
theorem dL_law_518 : decode cL_law 518 = .ok (.iload 4, 2) := by decide +kernel
theorem dL_law_520 : decode cL_law 520 = .ok (.iconst 5, 1) := by decide +kernel
theorem dL_law_521 : decode cL_law 521 = .ok (.iadd, 1) := by decide +kernel
theorem dL_law_522 : decode cL_law 522 = .ok (.iaload, 1) := by decide +kernel
theorem dL_law_523 : decode cL_law 523 = .ok (.aload_n 3, 1) := by decide +kernel
theorem dL_law_524 : decode cL_law 524 = .ok (.invokestatic 111, 3) := by decide +kernel
theorem dL_law_527 : decode cL_law 527 = .ok (.istore 5, 2) := by decide +kernel
theorem dL_law_529 : decode cL_law 529 = .ok (.aload_n 2, 1) := by decide +kernel
theorem dL_law_530 : decode cL_law 530 = .ok (.aload_n 0, 1) := by decide +kernel
theorem dL_law_531 : decode cL_law 531 = .ok (.iload 4, 2) := by decide +kernel
theorem dL_law_533 : decode cL_law 533 = .ok (.iconst 1, 1) := by decide +kernel
theorem dL_law_534 : decode cL_law 534 = .ok (.iadd, 1) := by decide +kernel
theorem dL_law_535 : decode cL_law 535 = .ok (.iaload, 1) := by decide +kernel
theorem dL_law_536 : decode cL_law 536 = .ok (.aload_n 0, 1) := by decide +kernel
theorem dL_law_537 : decode cL_law 537 = .ok (.iload 4, 2) := by decide +kernel
theorem dL_law_539 : decode cL_law 539 = .ok (.iconst 2, 1) := by decide +kernel
theorem dL_law_540 : decode cL_law 540 = .ok (.iadd, 1) := by decide +kernel
theorem dL_law_541 : decode cL_law 541 = .ok (.iaload, 1) := by decide +kernel
theorem dL_law_542 : decode cL_law 542 = .ok (.aload_n 0, 1) := by decide +kernel
theorem dL_law_543 : decode cL_law 543 = .ok (.iload 4, 2) := by decide +kernel
theorem dL_law_545 : decode cL_law 545 = .ok (.iconst 3, 1) := by decide +kernel
theorem dL_law_546 : decode cL_law 546 = .ok (.iadd, 1) := by decide +kernel
theorem dL_law_547 : decode cL_law 547 = .ok (.iaload, 1) := by decide +kernel
theorem dL_law_548 : decode cL_law 548 = .ok (.aload_n 0, 1) := by decide +kernel
theorem dL_law_549 : decode cL_law 549 = .ok (.iload 4, 2) := by decide +kernel
theorem dL_law_551 : decode cL_law 551 = .ok (.iconst 4, 1) := by decide +kernel
theorem dL_law_552 : decode cL_law 552 = .ok (.iadd, 1) := by decide +kernel
theorem dL_law_553 : decode cL_law 553 = .ok (.iaload, 1) := by decide +kernel
theorem dL_law_554 : decode cL_law 554 = .ok (.aload_n 0, 1) := by decide +kernel
theorem dL_law_555 : decode cL_law 555 = .ok (.iload 4, 2) := by decide +kernel
theorem dL_law_557 : decode cL_law 557 = .ok (.iconst 5, 1) := by decide +kernel
theorem dL_law_558 : decode cL_law 558 = .ok (.iadd, 1) := by decide +kernel
theorem dL_law_559 : decode cL_law 559 = .ok (.iaload, 1) := by decide +kernel
theorem dL_law_560 : decode cL_law 560 = .ok (.invokevirtual 114, 3) := by decide +kernel
theorem dL_law_563 : decode cL_law 563 = .ok (.istore 6, 2) := by decide +kernel
theorem dL_law_565 : decode cL_law 565 = .ok (.aload_n 2, 1) := by decide +kernel
theorem dL_law_566 : decode cL_law 566 = .ok (.invokevirtual 97, 3) := by decide +kernel
theorem dL_law_569 : decode cL_law 569 = .ok (.iload 5, 2) := by decide +kernel
theorem dL_law_571 : decode cL_law 571 = .ok (.if_icmp .eq 5, 3) := by decide +kernel
theorem dL_law_574 : decode cL_law 574 = .ok (.iconst 0, 1) := by decide +kernel
theorem dL_law_575 : decode cL_law 575 = .ok (.ireturn, 1) := by decide +kernel
theorem dL_law_576 : decode cL_law 576 = .ok (.iload 5, 2) := by decide +kernel
theorem dL_law_578 : decode cL_law 578 = .ok (.ifCond .ne 15, 3) := by decide +kernel
theorem dL_law_581 : decode cL_law 581 = .ok (.aload_n 3, 1) := by decide +kernel
theorem dL_law_582 : decode cL_law 582 = .ok (.iconst 0, 1) := by decide +kernel
theorem dL_law_583 : decode cL_law 583 = .ok (.laload, 1) := by decide +kernel
theorem dL_law_584 : decode cL_law 584 = .ok (.iload 6, 2) := by decide +kernel
theorem dL_law_586 : decode cL_law 586 = .ok (.i2l, 1) := by decide +kernel
theorem dL_law_587 : decode cL_law 587 = .ok (.lcmp, 1) := by decide +kernel
theorem dL_law_588 : decode cL_law 588 = .ok (.ifCond .eq 5, 3) := by decide +kernel
theorem dL_law_591 : decode cL_law 591 = .ok (.iconst 0, 1) := by decide +kernel
theorem dL_law_592 : decode cL_law 592 = .ok (.ireturn, 1) := by decide +kernel
theorem dL_law_593 : decode cL_law 593 = .ok (.goto 1108, 3) := by decide +kernel
theorem dL_law_596 : decode cL_law 596 = .ok (.aload_n 1, 1) := by decide +kernel
theorem dL_law_597 : decode cL_law 597 = .ok (.aload_n 0, 1) := by decide +kernel
theorem dL_law_598 : decode cL_law 598 = .ok (.iload 4, 2) := by decide +kernel
theorem dL_law_600 : decode cL_law 600 = .ok (.iconst 1, 1) := by decide +kernel
theorem dL_law_601 : decode cL_law 601 = .ok (.iadd, 1) := by decide +kernel
theorem dL_law_602 : decode cL_law 602 = .ok (.iaload, 1) := by decide +kernel
theorem dL_law_603 : decode cL_law 603 = .ok (.aload_n 3, 1) := by decide +kernel
theorem dL_law_604 : decode cL_law 604 = .ok (.invokestatic 115, 3) := by decide +kernel
theorem dL_law_607 : decode cL_law 607 = .ok (.istore 5, 2) := by decide +kernel
theorem dL_law_609 : decode cL_law 609 = .ok (.aload_n 2, 1) := by decide +kernel
theorem dL_law_610 : decode cL_law 610 = .ok (.aload_n 0, 1) := by decide +kernel
theorem dL_law_611 : decode cL_law 611 = .ok (.iload 4, 2) := by decide +kernel
theorem dL_law_613 : decode cL_law 613 = .ok (.iconst 1, 1) := by decide +kernel
theorem dL_law_614 : decode cL_law 614 = .ok (.iadd, 1) := by decide +kernel
theorem dL_law_615 : decode cL_law 615 = .ok (.iaload, 1) := by decide +kernel
theorem dL_law_616 : decode cL_law 616 = .ok (.invokevirtual 118, 3) := by decide +kernel
theorem dL_law_619 : decode cL_law 619 = .ok (.istore 6, 2) := by decide +kernel
theorem dL_law_621 : decode cL_law 621 = .ok (.aload_n 2, 1) := by decide +kernel
theorem dL_law_622 : decode cL_law 622 = .ok (.invokevirtual 97, 3) := by decide +kernel
theorem dL_law_625 : decode cL_law 625 = .ok (.iload 5, 2) := by decide +kernel
theorem dL_law_627 : decode cL_law 627 = .ok (.if_icmp .eq 5, 3) := by decide +kernel
theorem dL_law_630 : decode cL_law 630 = .ok (.iconst 0, 1) := by decide +kernel
theorem dL_law_631 : decode cL_law 631 = .ok (.ireturn, 1) := by decide +kernel
theorem dL_law_632 : decode cL_law 632 = .ok (.iload 5, 2) := by decide +kernel
theorem dL_law_634 : decode cL_law 634 = .ok (.ifCond .ne 15, 3) := by decide +kernel
theorem dL_law_637 : decode cL_law 637 = .ok (.aload_n 3, 1) := by decide +kernel
theorem dL_law_638 : decode cL_law 638 = .ok (.iconst 0, 1) := by decide +kernel
theorem dL_law_639 : decode cL_law 639 = .ok (.laload, 1) := by decide +kernel
theorem dL_law_640 : decode cL_law 640 = .ok (.iload 6, 2) := by decide +kernel
theorem dL_law_642 : decode cL_law 642 = .ok (.i2l, 1) := by decide +kernel
theorem dL_law_643 : decode cL_law 643 = .ok (.lcmp, 1) := by decide +kernel
theorem dL_law_644 : decode cL_law 644 = .ok (.ifCond .eq 5, 3) := by decide +kernel
theorem dL_law_647 : decode cL_law 647 = .ok (.iconst 0, 1) := by decide +kernel
theorem dL_law_648 : decode cL_law 648 = .ok (.ireturn, 1) := by decide +kernel
theorem dL_law_649 : decode cL_law 649 = .ok (.goto 1052, 3) := by decide +kernel
theorem dL_law_652 : decode cL_law 652 = .ok (.aload_n 1, 1) := by decide +kernel
theorem dL_law_653 : decode cL_law 653 = .ok (.aload_n 0, 1) := by decide +kernel
theorem dL_law_654 : decode cL_law 654 = .ok (.iload 4, 2) := by decide +kernel
theorem dL_law_656 : decode cL_law 656 = .ok (.iconst 1, 1) := by decide +kernel
theorem dL_law_657 : decode cL_law 657 = .ok (.iadd, 1) := by decide +kernel
theorem dL_law_658 : decode cL_law 658 = .ok (.iaload, 1) := by decide +kernel
theorem dL_law_659 : decode cL_law 659 = .ok (.aload_n 0, 1) := by decide +kernel
theorem dL_law_660 : decode cL_law 660 = .ok (.iload 4, 2) := by decide +kernel
theorem dL_law_662 : decode cL_law 662 = .ok (.iconst 2, 1) := by decide +kernel
theorem dL_law_663 : decode cL_law 663 = .ok (.iadd, 1) := by decide +kernel
theorem dL_law_664 : decode cL_law 664 = .ok (.iaload, 1) := by decide +kernel
theorem dL_law_665 : decode cL_law 665 = .ok (.aload_n 3, 1) := by decide +kernel
theorem dL_law_666 : decode cL_law 666 = .ok (.invokestatic 119, 3) := by decide +kernel
theorem dL_law_669 : decode cL_law 669 = .ok (.istore 5, 2) := by decide +kernel
theorem dL_law_671 : decode cL_law 671 = .ok (.aload_n 2, 1) := by decide +kernel
theorem dL_law_672 : decode cL_law 672 = .ok (.aload_n 0, 1) := by decide +kernel
theorem dL_law_673 : decode cL_law 673 = .ok (.iload 4, 2) := by decide +kernel
theorem dL_law_675 : decode cL_law 675 = .ok (.iconst 1, 1) := by decide +kernel
theorem dL_law_676 : decode cL_law 676 = .ok (.iadd, 1) := by decide +kernel
theorem dL_law_677 : decode cL_law 677 = .ok (.iaload, 1) := by decide +kernel
theorem dL_law_678 : decode cL_law 678 = .ok (.aload_n 0, 1) := by decide +kernel
theorem dL_law_679 : decode cL_law 679 = .ok (.iload 4, 2) := by decide +kernel
theorem dL_law_681 : decode cL_law 681 = .ok (.iconst 2, 1) := by decide +kernel
theorem dL_law_682 : decode cL_law 682 = .ok (.iadd, 1) := by decide +kernel
theorem dL_law_683 : decode cL_law 683 = .ok (.iaload, 1) := by decide +kernel
theorem dL_law_684 : decode cL_law 684 = .ok (.invokevirtual 121, 3) := by decide +kernel
theorem dL_law_687 : decode cL_law 687 = .ok (.istore 6, 2) := by decide +kernel
theorem dL_law_689 : decode cL_law 689 = .ok (.aload_n 2, 1) := by decide +kernel
theorem dL_law_690 : decode cL_law 690 = .ok (.invokevirtual 97, 3) := by decide +kernel
theorem dL_law_693 : decode cL_law 693 = .ok (.iload 5, 2) := by decide +kernel
theorem dL_law_695 : decode cL_law 695 = .ok (.if_icmp .eq 5, 3) := by decide +kernel
theorem dL_law_698 : decode cL_law 698 = .ok (.iconst 0, 1) := by decide +kernel
theorem dL_law_699 : decode cL_law 699 = .ok (.ireturn, 1) := by decide +kernel
theorem dL_law_700 : decode cL_law 700 = .ok (.iload 5, 2) := by decide +kernel
theorem dL_law_702 : decode cL_law 702 = .ok (.ifCond .ne 15, 3) := by decide +kernel
theorem dL_law_705 : decode cL_law 705 = .ok (.aload_n 3, 1) := by decide +kernel
theorem dL_law_706 : decode cL_law 706 = .ok (.iconst 0, 1) := by decide +kernel
theorem dL_law_707 : decode cL_law 707 = .ok (.laload, 1) := by decide +kernel
theorem dL_law_708 : decode cL_law 708 = .ok (.iload 6, 2) := by decide +kernel
theorem dL_law_710 : decode cL_law 710 = .ok (.i2l, 1) := by decide +kernel
theorem dL_law_711 : decode cL_law 711 = .ok (.lcmp, 1) := by decide +kernel
theorem dL_law_712 : decode cL_law 712 = .ok (.ifCond .eq 5, 3) := by decide +kernel
theorem dL_law_715 : decode cL_law 715 = .ok (.iconst 0, 1) := by decide +kernel
theorem dL_law_716 : decode cL_law 716 = .ok (.ireturn, 1) := by decide +kernel
theorem dL_law_717 : decode cL_law 717 = .ok (.goto 984, 3) := by decide +kernel
theorem dL_law_720 : decode cL_law 720 = .ok (.aload_n 1, 1) := by decide +kernel
theorem dL_law_721 : decode cL_law 721 = .ok (.aload_n 0, 1) := by decide +kernel
theorem dL_law_722 : decode cL_law 722 = .ok (.iload 4, 2) := by decide +kernel
theorem dL_law_724 : decode cL_law 724 = .ok (.iconst 1, 1) := by decide +kernel
theorem dL_law_725 : decode cL_law 725 = .ok (.iadd, 1) := by decide +kernel
theorem dL_law_726 : decode cL_law 726 = .ok (.iaload, 1) := by decide +kernel
theorem dL_law_727 : decode cL_law 727 = .ok (.aload_n 3, 1) := by decide +kernel
theorem dL_law_728 : decode cL_law 728 = .ok (.invokestatic 122, 3) := by decide +kernel
theorem dL_law_731 : decode cL_law 731 = .ok (.istore 5, 2) := by decide +kernel
theorem dL_law_733 : decode cL_law 733 = .ok (.aload_n 2, 1) := by decide +kernel
theorem dL_law_734 : decode cL_law 734 = .ok (.aload_n 0, 1) := by decide +kernel
theorem dL_law_735 : decode cL_law 735 = .ok (.iload 4, 2) := by decide +kernel
theorem dL_law_737 : decode cL_law 737 = .ok (.iconst 1, 1) := by decide +kernel
theorem dL_law_738 : decode cL_law 738 = .ok (.iadd, 1) := by decide +kernel
theorem dL_law_739 : decode cL_law 739 = .ok (.iaload, 1) := by decide +kernel
theorem dL_law_740 : decode cL_law 740 = .ok (.invokevirtual 124, 3) := by decide +kernel
theorem dL_law_743 : decode cL_law 743 = .ok (.istore 6, 2) := by decide +kernel
theorem dL_law_745 : decode cL_law 745 = .ok (.aload_n 2, 1) := by decide +kernel
theorem dL_law_746 : decode cL_law 746 = .ok (.invokevirtual 97, 3) := by decide +kernel
theorem dL_law_749 : decode cL_law 749 = .ok (.iload 5, 2) := by decide +kernel
theorem dL_law_751 : decode cL_law 751 = .ok (.if_icmp .eq 5, 3) := by decide +kernel
theorem dL_law_754 : decode cL_law 754 = .ok (.iconst 0, 1) := by decide +kernel
theorem dL_law_755 : decode cL_law 755 = .ok (.ireturn, 1) := by decide +kernel
theorem dL_law_756 : decode cL_law 756 = .ok (.iload 5, 2) := by decide +kernel
theorem dL_law_758 : decode cL_law 758 = .ok (.ifCond .ne 15, 3) := by decide +kernel
theorem dL_law_761 : decode cL_law 761 = .ok (.aload_n 3, 1) := by decide +kernel
theorem dL_law_762 : decode cL_law 762 = .ok (.iconst 0, 1) := by decide +kernel
theorem dL_law_763 : decode cL_law 763 = .ok (.laload, 1) := by decide +kernel
theorem dL_law_764 : decode cL_law 764 = .ok (.iload 6, 2) := by decide +kernel
theorem dL_law_766 : decode cL_law 766 = .ok (.i2l, 1) := by decide +kernel
theorem dL_law_767 : decode cL_law 767 = .ok (.lcmp, 1) := by decide +kernel
theorem dL_law_768 : decode cL_law 768 = .ok (.ifCond .eq 5, 3) := by decide +kernel
theorem dL_law_771 : decode cL_law 771 = .ok (.iconst 0, 1) := by decide +kernel
theorem dL_law_772 : decode cL_law 772 = .ok (.ireturn, 1) := by decide +kernel
theorem dL_law_773 : decode cL_law 773 = .ok (.goto 928, 3) := by decide +kernel
theorem dL_law_776 : decode cL_law 776 = .ok (.aload_n 1, 1) := by decide +kernel
theorem dL_law_777 : decode cL_law 777 = .ok (.aload_n 0, 1) := by decide +kernel
theorem dL_law_778 : decode cL_law 778 = .ok (.iload 4, 2) := by decide +kernel
theorem dL_law_780 : decode cL_law 780 = .ok (.iconst 1, 1) := by decide +kernel
theorem dL_law_781 : decode cL_law 781 = .ok (.iadd, 1) := by decide +kernel
theorem dL_law_782 : decode cL_law 782 = .ok (.iaload, 1) := by decide +kernel
theorem dL_law_783 : decode cL_law 783 = .ok (.aload_n 3, 1) := by decide +kernel
theorem dL_law_784 : decode cL_law 784 = .ok (.invokestatic 125, 3) := by decide +kernel
theorem dL_law_787 : decode cL_law 787 = .ok (.istore 5, 2) := by decide +kernel
theorem dL_law_789 : decode cL_law 789 = .ok (.aload_n 2, 1) := by decide +kernel
theorem dL_law_790 : decode cL_law 790 = .ok (.aload_n 0, 1) := by decide +kernel
theorem dL_law_791 : decode cL_law 791 = .ok (.iload 4, 2) := by decide +kernel
theorem dL_law_793 : decode cL_law 793 = .ok (.iconst 1, 1) := by decide +kernel
theorem dL_law_794 : decode cL_law 794 = .ok (.iadd, 1) := by decide +kernel
theorem dL_law_795 : decode cL_law 795 = .ok (.iaload, 1) := by decide +kernel
theorem dL_law_796 : decode cL_law 796 = .ok (.invokevirtual 127, 3) := by decide +kernel
theorem dL_law_799 : decode cL_law 799 = .ok (.istore 6, 2) := by decide +kernel
theorem dL_law_801 : decode cL_law 801 = .ok (.aload_n 2, 1) := by decide +kernel
theorem dL_law_802 : decode cL_law 802 = .ok (.invokevirtual 97, 3) := by decide +kernel
theorem dL_law_805 : decode cL_law 805 = .ok (.iload 5, 2) := by decide +kernel
theorem dL_law_807 : decode cL_law 807 = .ok (.if_icmp .eq 5, 3) := by decide +kernel
theorem dL_law_810 : decode cL_law 810 = .ok (.iconst 0, 1) := by decide +kernel
theorem dL_law_811 : decode cL_law 811 = .ok (.ireturn, 1) := by decide +kernel
theorem dL_law_812 : decode cL_law 812 = .ok (.iload 5, 2) := by decide +kernel
theorem dL_law_814 : decode cL_law 814 = .ok (.ifCond .ne 15, 3) := by decide +kernel
theorem dL_law_817 : decode cL_law 817 = .ok (.aload_n 3, 1) := by decide +kernel
theorem dL_law_818 : decode cL_law 818 = .ok (.iconst 0, 1) := by decide +kernel
theorem dL_law_819 : decode cL_law 819 = .ok (.laload, 1) := by decide +kernel
theorem dL_law_820 : decode cL_law 820 = .ok (.iload 6, 2) := by decide +kernel
theorem dL_law_822 : decode cL_law 822 = .ok (.i2l, 1) := by decide +kernel
theorem dL_law_823 : decode cL_law 823 = .ok (.lcmp, 1) := by decide +kernel
theorem dL_law_824 : decode cL_law 824 = .ok (.ifCond .eq 5, 3) := by decide +kernel
theorem dL_law_827 : decode cL_law 827 = .ok (.iconst 0, 1) := by decide +kernel
theorem dL_law_828 : decode cL_law 828 = .ok (.ireturn, 1) := by decide +kernel
theorem dL_law_829 : decode cL_law 829 = .ok (.goto 872, 3) := by decide +kernel
theorem dL_law_832 : decode cL_law 832 = .ok (.aload_n 1, 1) := by decide +kernel
theorem dL_law_833 : decode cL_law 833 = .ok (.invokevirtual 128, 3) := by decide +kernel
theorem dL_law_836 : decode cL_law 836 = .ok (.aload_n 2, 1) := by decide +kernel
theorem dL_law_837 : decode cL_law 837 = .ok (.invokevirtual 131, 3) := by decide +kernel
theorem dL_law_840 : decode cL_law 840 = .ok (.if_icmp .eq 861, 3) := by decide +kernel
theorem dL_law_843 : decode cL_law 843 = .ok (.iconst 0, 1) := by decide +kernel
theorem dL_law_844 : decode cL_law 844 = .ok (.ireturn, 1) := by decide +kernel
theorem dL_law_845 : decode cL_law 845 = .ok (.aload_n 1, 1) := by decide +kernel
theorem dL_law_846 : decode cL_law 846 = .ok (.invokevirtual 132, 3) := by decide +kernel
theorem dL_law_849 : decode cL_law 849 = .ok (.aload_n 2, 1) := by decide +kernel
theorem dL_law_850 : decode cL_law 850 = .ok (.invokevirtual 135, 3) := by decide +kernel
theorem dL_law_853 : decode cL_law 853 = .ok (.if_icmp .eq 848, 3) := by decide +kernel
theorem dL_law_856 : decode cL_law 856 = .ok (.iconst 0, 1) := by decide +kernel
theorem dL_law_857 : decode cL_law 857 = .ok (.ireturn, 1) := by decide +kernel
theorem dL_law_858 : decode cL_law 858 = .ok (.aload_n 1, 1) := by decide +kernel
theorem dL_law_859 : decode cL_law 859 = .ok (.aload_n 3, 1) := by decide +kernel
theorem dL_law_860 : decode cL_law 860 = .ok (.invokestatic 136, 3) := by decide +kernel
theorem dL_law_863 : decode cL_law 863 = .ok (.istore 5, 2) := by decide +kernel
theorem dL_law_865 : decode cL_law 865 = .ok (.aload_n 2, 1) := by decide +kernel
theorem dL_law_866 : decode cL_law 866 = .ok (.invokevirtual 139, 3) := by decide +kernel
theorem dL_law_869 : decode cL_law 869 = .ok (.istore 6, 2) := by decide +kernel
theorem dL_law_871 : decode cL_law 871 = .ok (.aload_n 2, 1) := by decide +kernel
theorem dL_law_872 : decode cL_law 872 = .ok (.invokevirtual 97, 3) := by decide +kernel
theorem dL_law_875 : decode cL_law 875 = .ok (.iload 5, 2) := by decide +kernel
theorem dL_law_877 : decode cL_law 877 = .ok (.if_icmp .eq 5, 3) := by decide +kernel
theorem dL_law_880 : decode cL_law 880 = .ok (.iconst 0, 1) := by decide +kernel
theorem dL_law_881 : decode cL_law 881 = .ok (.ireturn, 1) := by decide +kernel
theorem dL_law_882 : decode cL_law 882 = .ok (.iload 5, 2) := by decide +kernel
theorem dL_law_884 : decode cL_law 884 = .ok (.ifCond .ne 15, 3) := by decide +kernel
theorem dL_law_887 : decode cL_law 887 = .ok (.aload_n 3, 1) := by decide +kernel
theorem dL_law_888 : decode cL_law 888 = .ok (.iconst 0, 1) := by decide +kernel
theorem dL_law_889 : decode cL_law 889 = .ok (.laload, 1) := by decide +kernel
theorem dL_law_890 : decode cL_law 890 = .ok (.iload 6, 2) := by decide +kernel
theorem dL_law_892 : decode cL_law 892 = .ok (.i2l, 1) := by decide +kernel
theorem dL_law_893 : decode cL_law 893 = .ok (.lcmp, 1) := by decide +kernel
theorem dL_law_894 : decode cL_law 894 = .ok (.ifCond .eq 5, 3) := by decide +kernel
theorem dL_law_897 : decode cL_law 897 = .ok (.iconst 0, 1) := by decide +kernel
theorem dL_law_898 : decode cL_law 898 = .ok (.ireturn, 1) := by decide +kernel
theorem dL_law_899 : decode cL_law 899 = .ok (.goto 802, 3) := by decide +kernel
theorem dL_law_902 : decode cL_law 902 = .ok (.aload_n 1, 1) := by decide +kernel
theorem dL_law_903 : decode cL_law 903 = .ok (.aload_n 3, 1) := by decide +kernel
theorem dL_law_904 : decode cL_law 904 = .ok (.invokestatic 140, 3) := by decide +kernel
theorem dL_law_907 : decode cL_law 907 = .ok (.istore 5, 2) := by decide +kernel
theorem dL_law_909 : decode cL_law 909 = .ok (.aload_n 2, 1) := by decide +kernel
theorem dL_law_910 : decode cL_law 910 = .ok (.invokevirtual 142, 3) := by decide +kernel
theorem dL_law_913 : decode cL_law 913 = .ok (.istore 6, 2) := by decide +kernel
theorem dL_law_915 : decode cL_law 915 = .ok (.aload_n 2, 1) := by decide +kernel
theorem dL_law_916 : decode cL_law 916 = .ok (.invokevirtual 97, 3) := by decide +kernel
theorem dL_law_919 : decode cL_law 919 = .ok (.iload 5, 2) := by decide +kernel
theorem dL_law_921 : decode cL_law 921 = .ok (.if_icmp .eq 5, 3) := by decide +kernel
theorem dL_law_924 : decode cL_law 924 = .ok (.iconst 0, 1) := by decide +kernel
theorem dL_law_925 : decode cL_law 925 = .ok (.ireturn, 1) := by decide +kernel
theorem dL_law_926 : decode cL_law 926 = .ok (.iload 5, 2) := by decide +kernel
theorem dL_law_928 : decode cL_law 928 = .ok (.ifCond .ne 15, 3) := by decide +kernel
theorem dL_law_931 : decode cL_law 931 = .ok (.aload_n 3, 1) := by decide +kernel
theorem dL_law_932 : decode cL_law 932 = .ok (.iconst 0, 1) := by decide +kernel
theorem dL_law_933 : decode cL_law 933 = .ok (.laload, 1) := by decide +kernel
theorem dL_law_934 : decode cL_law 934 = .ok (.iload 6, 2) := by decide +kernel
theorem dL_law_936 : decode cL_law 936 = .ok (.i2l, 1) := by decide +kernel
theorem dL_law_937 : decode cL_law 937 = .ok (.lcmp, 1) := by decide +kernel
theorem dL_law_938 : decode cL_law 938 = .ok (.ifCond .eq 5, 3) := by decide +kernel
theorem dL_law_941 : decode cL_law 941 = .ok (.iconst 0, 1) := by decide +kernel
theorem dL_law_942 : decode cL_law 942 = .ok (.ireturn, 1) := by decide +kernel
theorem dL_law_943 : decode cL_law 943 = .ok (.goto 758, 3) := by decide +kernel
theorem dL_law_946 : decode cL_law 946 = .ok (.aload_n 1, 1) := by decide +kernel
theorem dL_law_947 : decode cL_law 947 = .ok (.aload_n 0, 1) := by decide +kernel
theorem dL_law_948 : decode cL_law 948 = .ok (.iload 4, 2) := by decide +kernel
theorem dL_law_950 : decode cL_law 950 = .ok (.iconst 1, 1) := by decide +kernel
theorem dL_law_951 : decode cL_law 951 = .ok (.iadd, 1) := by decide +kernel
theorem dL_law_952 : decode cL_law 952 = .ok (.iaload, 1) := by decide +kernel
theorem dL_law_953 : decode cL_law 953 = .ok (.aload_n 0, 1) := by decide +kernel
theorem dL_law_954 : decode cL_law 954 = .ok (.iload 4, 2) := by decide +kernel
theorem dL_law_956 : decode cL_law 956 = .ok (.iconst 2, 1) := by decide +kernel
theorem dL_law_957 : decode cL_law 957 = .ok (.iadd, 1) := by decide +kernel
theorem dL_law_958 : decode cL_law 958 = .ok (.iaload, 1) := by decide +kernel
theorem dL_law_959 : decode cL_law 959 = .ok (.aload_n 3, 1) := by decide +kernel
theorem dL_law_960 : decode cL_law 960 = .ok (.invokestatic 143, 3) := by decide +kernel
theorem dL_law_963 : decode cL_law 963 = .ok (.istore 5, 2) := by decide +kernel
theorem dL_law_965 : decode cL_law 965 = .ok (.aload_n 2, 1) := by decide +kernel
theorem dL_law_966 : decode cL_law 966 = .ok (.aload_n 0, 1) := by decide +kernel
theorem dL_law_967 : decode cL_law 967 = .ok (.iload 4, 2) := by decide +kernel
theorem dL_law_969 : decode cL_law 969 = .ok (.iconst 1, 1) := by decide +kernel
theorem dL_law_970 : decode cL_law 970 = .ok (.iadd, 1) := by decide +kernel
theorem dL_law_971 : decode cL_law 971 = .ok (.iaload, 1) := by decide +kernel
theorem dL_law_972 : decode cL_law 972 = .ok (.aload_n 0, 1) := by decide +kernel
theorem dL_law_973 : decode cL_law 973 = .ok (.iload 4, 2) := by decide +kernel
theorem dL_law_975 : decode cL_law 975 = .ok (.iconst 2, 1) := by decide +kernel
theorem dL_law_976 : decode cL_law 976 = .ok (.iadd, 1) := by decide +kernel
theorem dL_law_977 : decode cL_law 977 = .ok (.iaload, 1) := by decide +kernel
theorem dL_law_978 : decode cL_law 978 = .ok (.invokevirtual 145, 3) := by decide +kernel
theorem dL_law_981 : decode cL_law 981 = .ok (.istore 6, 2) := by decide +kernel
theorem dL_law_983 : decode cL_law 983 = .ok (.aload_n 2, 1) := by decide +kernel
theorem dL_law_984 : decode cL_law 984 = .ok (.invokevirtual 97, 3) := by decide +kernel
theorem dL_law_987 : decode cL_law 987 = .ok (.iload 5, 2) := by decide +kernel
theorem dL_law_989 : decode cL_law 989 = .ok (.if_icmp .eq 5, 3) := by decide +kernel
theorem dL_law_992 : decode cL_law 992 = .ok (.iconst 0, 1) := by decide +kernel
theorem dL_law_993 : decode cL_law 993 = .ok (.ireturn, 1) := by decide +kernel
theorem dL_law_994 : decode cL_law 994 = .ok (.iload 5, 2) := by decide +kernel
theorem dL_law_996 : decode cL_law 996 = .ok (.ifCond .ne 15, 3) := by decide +kernel
theorem dL_law_999 : decode cL_law 999 = .ok (.aload_n 3, 1) := by decide +kernel
theorem dL_law_1000 : decode cL_law 1000 = .ok (.iconst 0, 1) := by decide +kernel
theorem dL_law_1001 : decode cL_law 1001 = .ok (.laload, 1) := by decide +kernel
theorem dL_law_1002 : decode cL_law 1002 = .ok (.iload 6, 2) := by decide +kernel
theorem dL_law_1004 : decode cL_law 1004 = .ok (.i2l, 1) := by decide +kernel
theorem dL_law_1005 : decode cL_law 1005 = .ok (.lcmp, 1) := by decide +kernel
theorem dL_law_1006 : decode cL_law 1006 = .ok (.ifCond .eq 5, 3) := by decide +kernel
theorem dL_law_1009 : decode cL_law 1009 = .ok (.iconst 0, 1) := by decide +kernel
theorem dL_law_1010 : decode cL_law 1010 = .ok (.ireturn, 1) := by decide +kernel
theorem dL_law_1011 : decode cL_law 1011 = .ok (.goto 690, 3) := by decide +kernel
theorem dL_law_1014 : decode cL_law 1014 = .ok (.aload_n 1, 1) := by decide +kernel
theorem dL_law_1015 : decode cL_law 1015 = .ok (.aload_n 0, 1) := by decide +kernel
theorem dL_law_1016 : decode cL_law 1016 = .ok (.iload 4, 2) := by decide +kernel
theorem dL_law_1018 : decode cL_law 1018 = .ok (.iconst 1, 1) := by decide +kernel
theorem dL_law_1019 : decode cL_law 1019 = .ok (.iadd, 1) := by decide +kernel
theorem dL_law_1020 : decode cL_law 1020 = .ok (.iaload, 1) := by decide +kernel
theorem dL_law_1021 : decode cL_law 1021 = .ok (.aload_n 0, 1) := by decide +kernel
theorem dL_law_1022 : decode cL_law 1022 = .ok (.iload 4, 2) := by decide +kernel
theorem dL_law_1024 : decode cL_law 1024 = .ok (.iconst 2, 1) := by decide +kernel
theorem dL_law_1025 : decode cL_law 1025 = .ok (.iadd, 1) := by decide +kernel
theorem dL_law_1026 : decode cL_law 1026 = .ok (.iaload, 1) := by decide +kernel
theorem dL_law_1027 : decode cL_law 1027 = .ok (.aload_n 3, 1) := by decide +kernel
theorem dL_law_1028 : decode cL_law 1028 = .ok (.invokestatic 146, 3) := by decide +kernel
theorem dL_law_1031 : decode cL_law 1031 = .ok (.istore 5, 2) := by decide +kernel
theorem dL_law_1033 : decode cL_law 1033 = .ok (.aload_n 2, 1) := by decide +kernel
theorem dL_law_1034 : decode cL_law 1034 = .ok (.aload_n 0, 1) := by decide +kernel
theorem dL_law_1035 : decode cL_law 1035 = .ok (.iload 4, 2) := by decide +kernel
theorem dL_law_1037 : decode cL_law 1037 = .ok (.iconst 1, 1) := by decide +kernel
theorem dL_law_1038 : decode cL_law 1038 = .ok (.iadd, 1) := by decide +kernel
theorem dL_law_1039 : decode cL_law 1039 = .ok (.iaload, 1) := by decide +kernel
theorem dL_law_1040 : decode cL_law 1040 = .ok (.aload_n 0, 1) := by decide +kernel
theorem dL_law_1041 : decode cL_law 1041 = .ok (.iload 4, 2) := by decide +kernel
theorem dL_law_1043 : decode cL_law 1043 = .ok (.iconst 2, 1) := by decide +kernel
theorem dL_law_1044 : decode cL_law 1044 = .ok (.iadd, 1) := by decide +kernel
theorem dL_law_1045 : decode cL_law 1045 = .ok (.iaload, 1) := by decide +kernel
theorem dL_law_1046 : decode cL_law 1046 = .ok (.invokevirtual 148, 3) := by decide +kernel
theorem dL_law_1049 : decode cL_law 1049 = .ok (.istore 6, 2) := by decide +kernel
theorem dL_law_1051 : decode cL_law 1051 = .ok (.aload_n 2, 1) := by decide +kernel
theorem dL_law_1052 : decode cL_law 1052 = .ok (.invokevirtual 97, 3) := by decide +kernel
theorem dL_law_1055 : decode cL_law 1055 = .ok (.iload 5, 2) := by decide +kernel
theorem dL_law_1057 : decode cL_law 1057 = .ok (.if_icmp .eq 5, 3) := by decide +kernel
theorem dL_law_1060 : decode cL_law 1060 = .ok (.iconst 0, 1) := by decide +kernel
theorem dL_law_1061 : decode cL_law 1061 = .ok (.ireturn, 1) := by decide +kernel
theorem dL_law_1062 : decode cL_law 1062 = .ok (.iload 5, 2) := by decide +kernel
theorem dL_law_1064 : decode cL_law 1064 = .ok (.ifCond .ne 15, 3) := by decide +kernel
theorem dL_law_1067 : decode cL_law 1067 = .ok (.aload_n 3, 1) := by decide +kernel
theorem dL_law_1068 : decode cL_law 1068 = .ok (.iconst 0, 1) := by decide +kernel
theorem dL_law_1069 : decode cL_law 1069 = .ok (.laload, 1) := by decide +kernel
theorem dL_law_1070 : decode cL_law 1070 = .ok (.iload 6, 2) := by decide +kernel
theorem dL_law_1072 : decode cL_law 1072 = .ok (.i2l, 1) := by decide +kernel
theorem dL_law_1073 : decode cL_law 1073 = .ok (.lcmp, 1) := by decide +kernel
theorem dL_law_1074 : decode cL_law 1074 = .ok (.ifCond .eq 5, 3) := by decide +kernel
theorem dL_law_1077 : decode cL_law 1077 = .ok (.iconst 0, 1) := by decide +kernel
theorem dL_law_1078 : decode cL_law 1078 = .ok (.ireturn, 1) := by decide +kernel
theorem dL_law_1079 : decode cL_law 1079 = .ok (.goto 622, 3) := by decide +kernel
theorem dL_law_1082 : decode cL_law 1082 = .ok (.aload_n 1, 1) := by decide +kernel
theorem dL_law_1083 : decode cL_law 1083 = .ok (.aload_n 0, 1) := by decide +kernel
theorem dL_law_1084 : decode cL_law 1084 = .ok (.iload 4, 2) := by decide +kernel
theorem dL_law_1086 : decode cL_law 1086 = .ok (.iconst 1, 1) := by decide +kernel
theorem dL_law_1087 : decode cL_law 1087 = .ok (.iadd, 1) := by decide +kernel
theorem dL_law_1088 : decode cL_law 1088 = .ok (.iaload, 1) := by decide +kernel
theorem dL_law_1089 : decode cL_law 1089 = .ok (.aload_n 0, 1) := by decide +kernel
theorem dL_law_1090 : decode cL_law 1090 = .ok (.iload 4, 2) := by decide +kernel
theorem dL_law_1092 : decode cL_law 1092 = .ok (.iconst 2, 1) := by decide +kernel
theorem dL_law_1093 : decode cL_law 1093 = .ok (.iadd, 1) := by decide +kernel
theorem dL_law_1094 : decode cL_law 1094 = .ok (.iaload, 1) := by decide +kernel
theorem dL_law_1095 : decode cL_law 1095 = .ok (.aload_n 3, 1) := by decide +kernel
theorem dL_law_1096 : decode cL_law 1096 = .ok (.invokestatic 149, 3) := by decide +kernel
theorem dL_law_1099 : decode cL_law 1099 = .ok (.istore 5, 2) := by decide +kernel
theorem dL_law_1101 : decode cL_law 1101 = .ok (.aload_n 2, 1) := by decide +kernel
theorem dL_law_1102 : decode cL_law 1102 = .ok (.aload_n 0, 1) := by decide +kernel
theorem dL_law_1103 : decode cL_law 1103 = .ok (.iload 4, 2) := by decide +kernel
theorem dL_law_1105 : decode cL_law 1105 = .ok (.iconst 1, 1) := by decide +kernel
theorem dL_law_1106 : decode cL_law 1106 = .ok (.iadd, 1) := by decide +kernel
theorem dL_law_1107 : decode cL_law 1107 = .ok (.iaload, 1) := by decide +kernel
theorem dL_law_1108 : decode cL_law 1108 = .ok (.aload_n 0, 1) := by decide +kernel
theorem dL_law_1109 : decode cL_law 1109 = .ok (.iload 4, 2) := by decide +kernel
theorem dL_law_1111 : decode cL_law 1111 = .ok (.iconst 2, 1) := by decide +kernel
theorem dL_law_1112 : decode cL_law 1112 = .ok (.iadd, 1) := by decide +kernel
theorem dL_law_1113 : decode cL_law 1113 = .ok (.iaload, 1) := by decide +kernel
theorem dL_law_1114 : decode cL_law 1114 = .ok (.invokevirtual 151, 3) := by decide +kernel
theorem dL_law_1117 : decode cL_law 1117 = .ok (.istore 6, 2) := by decide +kernel
theorem dL_law_1119 : decode cL_law 1119 = .ok (.aload_n 2, 1) := by decide +kernel
theorem dL_law_1120 : decode cL_law 1120 = .ok (.invokevirtual 97, 3) := by decide +kernel
theorem dL_law_1123 : decode cL_law 1123 = .ok (.iload 5, 2) := by decide +kernel
theorem dL_law_1125 : decode cL_law 1125 = .ok (.if_icmp .eq 5, 3) := by decide +kernel
theorem dL_law_1128 : decode cL_law 1128 = .ok (.iconst 0, 1) := by decide +kernel
theorem dL_law_1129 : decode cL_law 1129 = .ok (.ireturn, 1) := by decide +kernel
theorem dL_law_1130 : decode cL_law 1130 = .ok (.iload 5, 2) := by decide +kernel
theorem dL_law_1132 : decode cL_law 1132 = .ok (.ifCond .ne 15, 3) := by decide +kernel
theorem dL_law_1135 : decode cL_law 1135 = .ok (.aload_n 3, 1) := by decide +kernel
theorem dL_law_1136 : decode cL_law 1136 = .ok (.iconst 0, 1) := by decide +kernel
theorem dL_law_1137 : decode cL_law 1137 = .ok (.laload, 1) := by decide +kernel
theorem dL_law_1138 : decode cL_law 1138 = .ok (.iload 6, 2) := by decide +kernel
theorem dL_law_1140 : decode cL_law 1140 = .ok (.i2l, 1) := by decide +kernel
theorem dL_law_1141 : decode cL_law 1141 = .ok (.lcmp, 1) := by decide +kernel
theorem dL_law_1142 : decode cL_law 1142 = .ok (.ifCond .eq 5, 3) := by decide +kernel
theorem dL_law_1145 : decode cL_law 1145 = .ok (.iconst 0, 1) := by decide +kernel
theorem dL_law_1146 : decode cL_law 1146 = .ok (.ireturn, 1) := by decide +kernel
theorem dL_law_1147 : decode cL_law 1147 = .ok (.goto 554, 3) := by decide +kernel
theorem dL_law_1150 : decode cL_law 1150 = .ok (.aload_n 1, 1) := by decide +kernel
theorem dL_law_1151 : decode cL_law 1151 = .ok (.aload_n 0, 1) := by decide +kernel
theorem dL_law_1152 : decode cL_law 1152 = .ok (.iload 4, 2) := by decide +kernel
theorem dL_law_1154 : decode cL_law 1154 = .ok (.iconst 1, 1) := by decide +kernel
theorem dL_law_1155 : decode cL_law 1155 = .ok (.iadd, 1) := by decide +kernel
theorem dL_law_1156 : decode cL_law 1156 = .ok (.iaload, 1) := by decide +kernel
theorem dL_law_1157 : decode cL_law 1157 = .ok (.aload_n 0, 1) := by decide +kernel
theorem dL_law_1158 : decode cL_law 1158 = .ok (.iload 4, 2) := by decide +kernel
theorem dL_law_1160 : decode cL_law 1160 = .ok (.iconst 2, 1) := by decide +kernel
theorem dL_law_1161 : decode cL_law 1161 = .ok (.iadd, 1) := by decide +kernel
theorem dL_law_1162 : decode cL_law 1162 = .ok (.iaload, 1) := by decide +kernel
theorem dL_law_1163 : decode cL_law 1163 = .ok (.aload_n 3, 1) := by decide +kernel
theorem dL_law_1164 : decode cL_law 1164 = .ok (.invokestatic 152, 3) := by decide +kernel
theorem dL_law_1167 : decode cL_law 1167 = .ok (.istore 5, 2) := by decide +kernel
theorem dL_law_1169 : decode cL_law 1169 = .ok (.aload_n 2, 1) := by decide +kernel
theorem dL_law_1170 : decode cL_law 1170 = .ok (.aload_n 0, 1) := by decide +kernel
theorem dL_law_1171 : decode cL_law 1171 = .ok (.iload 4, 2) := by decide +kernel
theorem dL_law_1173 : decode cL_law 1173 = .ok (.iconst 1, 1) := by decide +kernel
theorem dL_law_1174 : decode cL_law 1174 = .ok (.iadd, 1) := by decide +kernel
theorem dL_law_1175 : decode cL_law 1175 = .ok (.iaload, 1) := by decide +kernel
theorem dL_law_1176 : decode cL_law 1176 = .ok (.aload_n 0, 1) := by decide +kernel
theorem dL_law_1177 : decode cL_law 1177 = .ok (.iload 4, 2) := by decide +kernel
theorem dL_law_1179 : decode cL_law 1179 = .ok (.iconst 2, 1) := by decide +kernel
theorem dL_law_1180 : decode cL_law 1180 = .ok (.iadd, 1) := by decide +kernel
theorem dL_law_1181 : decode cL_law 1181 = .ok (.iaload, 1) := by decide +kernel
theorem dL_law_1182 : decode cL_law 1182 = .ok (.invokevirtual 154, 3) := by decide +kernel
theorem dL_law_1185 : decode cL_law 1185 = .ok (.istore 6, 2) := by decide +kernel
theorem dL_law_1187 : decode cL_law 1187 = .ok (.aload_n 2, 1) := by decide +kernel
theorem dL_law_1188 : decode cL_law 1188 = .ok (.invokevirtual 97, 3) := by decide +kernel
theorem dL_law_1191 : decode cL_law 1191 = .ok (.iload 5, 2) := by decide +kernel
theorem dL_law_1193 : decode cL_law 1193 = .ok (.if_icmp .eq 5, 3) := by decide +kernel
theorem dL_law_1196 : decode cL_law 1196 = .ok (.iconst 0, 1) := by decide +kernel
theorem dL_law_1197 : decode cL_law 1197 = .ok (.ireturn, 1) := by decide +kernel
theorem dL_law_1198 : decode cL_law 1198 = .ok (.iload 5, 2) := by decide +kernel
theorem dL_law_1200 : decode cL_law 1200 = .ok (.ifCond .ne 15, 3) := by decide +kernel
theorem dL_law_1203 : decode cL_law 1203 = .ok (.aload_n 3, 1) := by decide +kernel
theorem dL_law_1204 : decode cL_law 1204 = .ok (.iconst 0, 1) := by decide +kernel
theorem dL_law_1205 : decode cL_law 1205 = .ok (.laload, 1) := by decide +kernel
theorem dL_law_1206 : decode cL_law 1206 = .ok (.iload 6, 2) := by decide +kernel
theorem dL_law_1208 : decode cL_law 1208 = .ok (.i2l, 1) := by decide +kernel
theorem dL_law_1209 : decode cL_law 1209 = .ok (.lcmp, 1) := by decide +kernel
theorem dL_law_1210 : decode cL_law 1210 = .ok (.ifCond .eq 5, 3) := by decide +kernel
theorem dL_law_1213 : decode cL_law 1213 = .ok (.iconst 0, 1) := by decide +kernel
theorem dL_law_1214 : decode cL_law 1214 = .ok (.ireturn, 1) := by decide +kernel
theorem dL_law_1215 : decode cL_law 1215 = .ok (.goto 486, 3) := by decide +kernel
theorem dL_law_1218 : decode cL_law 1218 = .ok (.aload_n 1, 1) := by decide +kernel
theorem dL_law_1219 : decode cL_law 1219 = .ok (.aload_n 0, 1) := by decide +kernel
theorem dL_law_1220 : decode cL_law 1220 = .ok (.iload 4, 2) := by decide +kernel
theorem dL_law_1222 : decode cL_law 1222 = .ok (.iconst 1, 1) := by decide +kernel
theorem dL_law_1223 : decode cL_law 1223 = .ok (.iadd, 1) := by decide +kernel
theorem dL_law_1224 : decode cL_law 1224 = .ok (.iaload, 1) := by decide +kernel
theorem dL_law_1225 : decode cL_law 1225 = .ok (.aload_n 0, 1) := by decide +kernel
theorem dL_law_1226 : decode cL_law 1226 = .ok (.iload 4, 2) := by decide +kernel
theorem dL_law_1228 : decode cL_law 1228 = .ok (.iconst 2, 1) := by decide +kernel
theorem dL_law_1229 : decode cL_law 1229 = .ok (.iadd, 1) := by decide +kernel
theorem dL_law_1230 : decode cL_law 1230 = .ok (.iaload, 1) := by decide +kernel
theorem dL_law_1231 : decode cL_law 1231 = .ok (.aload_n 3, 1) := by decide +kernel
theorem dL_law_1232 : decode cL_law 1232 = .ok (.invokestatic 155, 3) := by decide +kernel
theorem dL_law_1235 : decode cL_law 1235 = .ok (.istore 5, 2) := by decide +kernel
theorem dL_law_1237 : decode cL_law 1237 = .ok (.aload_n 2, 1) := by decide +kernel
theorem dL_law_1238 : decode cL_law 1238 = .ok (.aload_n 0, 1) := by decide +kernel
theorem dL_law_1239 : decode cL_law 1239 = .ok (.iload 4, 2) := by decide +kernel
theorem dL_law_1241 : decode cL_law 1241 = .ok (.iconst 1, 1) := by decide +kernel
theorem dL_law_1242 : decode cL_law 1242 = .ok (.iadd, 1) := by decide +kernel
theorem dL_law_1243 : decode cL_law 1243 = .ok (.iaload, 1) := by decide +kernel
theorem dL_law_1244 : decode cL_law 1244 = .ok (.aload_n 0, 1) := by decide +kernel
theorem dL_law_1245 : decode cL_law 1245 = .ok (.iload 4, 2) := by decide +kernel
theorem dL_law_1247 : decode cL_law 1247 = .ok (.iconst 2, 1) := by decide +kernel
theorem dL_law_1248 : decode cL_law 1248 = .ok (.iadd, 1) := by decide +kernel
theorem dL_law_1249 : decode cL_law 1249 = .ok (.iaload, 1) := by decide +kernel
theorem dL_law_1250 : decode cL_law 1250 = .ok (.invokevirtual 157, 3) := by decide +kernel
theorem dL_law_1253 : decode cL_law 1253 = .ok (.istore 6, 2) := by decide +kernel
theorem dL_law_1255 : decode cL_law 1255 = .ok (.aload_n 2, 1) := by decide +kernel
theorem dL_law_1256 : decode cL_law 1256 = .ok (.invokevirtual 97, 3) := by decide +kernel
theorem dL_law_1259 : decode cL_law 1259 = .ok (.iload 5, 2) := by decide +kernel
theorem dL_law_1261 : decode cL_law 1261 = .ok (.if_icmp .eq 5, 3) := by decide +kernel
theorem dL_law_1264 : decode cL_law 1264 = .ok (.iconst 0, 1) := by decide +kernel
theorem dL_law_1265 : decode cL_law 1265 = .ok (.ireturn, 1) := by decide +kernel
theorem dL_law_1266 : decode cL_law 1266 = .ok (.iload 5, 2) := by decide +kernel
theorem dL_law_1268 : decode cL_law 1268 = .ok (.ifCond .ne 15, 3) := by decide +kernel
theorem dL_law_1271 : decode cL_law 1271 = .ok (.aload_n 3, 1) := by decide +kernel
theorem dL_law_1272 : decode cL_law 1272 = .ok (.iconst 0, 1) := by decide +kernel
theorem dL_law_1273 : decode cL_law 1273 = .ok (.laload, 1) := by decide +kernel
theorem dL_law_1274 : decode cL_law 1274 = .ok (.iload 6, 2) := by decide +kernel
theorem dL_law_1276 : decode cL_law 1276 = .ok (.i2l, 1) := by decide +kernel
theorem dL_law_1277 : decode cL_law 1277 = .ok (.lcmp, 1) := by decide +kernel
theorem dL_law_1278 : decode cL_law 1278 = .ok (.ifCond .eq 5, 3) := by decide +kernel
theorem dL_law_1281 : decode cL_law 1281 = .ok (.iconst 0, 1) := by decide +kernel
theorem dL_law_1282 : decode cL_law 1282 = .ok (.ireturn, 1) := by decide +kernel
theorem dL_law_1283 : decode cL_law 1283 = .ok (.goto 418, 3) := by decide +kernel
theorem dL_law_1286 : decode cL_law 1286 = .ok (.aload_n 1, 1) := by decide +kernel
theorem dL_law_1287 : decode cL_law 1287 = .ok (.aload_n 0, 1) := by decide +kernel
theorem dL_law_1288 : decode cL_law 1288 = .ok (.iload 4, 2) := by decide +kernel
theorem dL_law_1290 : decode cL_law 1290 = .ok (.iconst 1, 1) := by decide +kernel
theorem dL_law_1291 : decode cL_law 1291 = .ok (.iadd, 1) := by decide +kernel
theorem dL_law_1292 : decode cL_law 1292 = .ok (.iaload, 1) := by decide +kernel
theorem dL_law_1293 : decode cL_law 1293 = .ok (.aload_n 3, 1) := by decide +kernel
theorem dL_law_1294 : decode cL_law 1294 = .ok (.invokestatic 158, 3) := by decide +kernel
theorem dL_law_1297 : decode cL_law 1297 = .ok (.istore 5, 2) := by decide +kernel
theorem dL_law_1299 : decode cL_law 1299 = .ok (.aload_n 2, 1) := by decide +kernel
theorem dL_law_1300 : decode cL_law 1300 = .ok (.aload_n 0, 1) := by decide +kernel
theorem dL_law_1301 : decode cL_law 1301 = .ok (.iload 4, 2) := by decide +kernel
theorem dL_law_1303 : decode cL_law 1303 = .ok (.iconst 1, 1) := by decide +kernel
theorem dL_law_1304 : decode cL_law 1304 = .ok (.iadd, 1) := by decide +kernel
theorem dL_law_1305 : decode cL_law 1305 = .ok (.iaload, 1) := by decide +kernel
theorem dL_law_1306 : decode cL_law 1306 = .ok (.invokevirtual 160, 3) := by decide +kernel
theorem dL_law_1309 : decode cL_law 1309 = .ok (.istore 6, 2) := by decide +kernel
theorem dL_law_1311 : decode cL_law 1311 = .ok (.aload_n 2, 1) := by decide +kernel
theorem dL_law_1312 : decode cL_law 1312 = .ok (.invokevirtual 97, 3) := by decide +kernel
theorem dL_law_1315 : decode cL_law 1315 = .ok (.iload 5, 2) := by decide +kernel
theorem dL_law_1317 : decode cL_law 1317 = .ok (.if_icmp .eq 5, 3) := by decide +kernel
theorem dL_law_1320 : decode cL_law 1320 = .ok (.iconst 0, 1) := by decide +kernel
theorem dL_law_1321 : decode cL_law 1321 = .ok (.ireturn, 1) := by decide +kernel
theorem dL_law_1322 : decode cL_law 1322 = .ok (.iload 5, 2) := by decide +kernel
theorem dL_law_1324 : decode cL_law 1324 = .ok (.ifCond .ne 15, 3) := by decide +kernel
theorem dL_law_1327 : decode cL_law 1327 = .ok (.aload_n 3, 1) := by decide +kernel
theorem dL_law_1328 : decode cL_law 1328 = .ok (.iconst 0, 1) := by decide +kernel
theorem dL_law_1329 : decode cL_law 1329 = .ok (.laload, 1) := by decide +kernel
theorem dL_law_1330 : decode cL_law 1330 = .ok (.iload 6, 2) := by decide +kernel
theorem dL_law_1332 : decode cL_law 1332 = .ok (.i2l, 1) := by decide +kernel
theorem dL_law_1333 : decode cL_law 1333 = .ok (.lcmp, 1) := by decide +kernel
theorem dL_law_1334 : decode cL_law 1334 = .ok (.ifCond .eq 5, 3) := by decide +kernel
theorem dL_law_1337 : decode cL_law 1337 = .ok (.iconst 0, 1) := by decide +kernel
theorem dL_law_1338 : decode cL_law 1338 = .ok (.ireturn, 1) := by decide +kernel
theorem dL_law_1339 : decode cL_law 1339 = .ok (.goto 362, 3) := by decide +kernel
theorem dL_law_1342 : decode cL_law 1342 = .ok (.aload_n 1, 1) := by decide +kernel
theorem dL_law_1343 : decode cL_law 1343 = .ok (.aload_n 0, 1) := by decide +kernel
theorem dL_law_1344 : decode cL_law 1344 = .ok (.iload 4, 2) := by decide +kernel
theorem dL_law_1346 : decode cL_law 1346 = .ok (.iconst 1, 1) := by decide +kernel
theorem dL_law_1347 : decode cL_law 1347 = .ok (.iadd, 1) := by decide +kernel
theorem dL_law_1348 : decode cL_law 1348 = .ok (.iaload, 1) := by decide +kernel
theorem dL_law_1349 : decode cL_law 1349 = .ok (.aload_n 3, 1) := by decide +kernel
theorem dL_law_1350 : decode cL_law 1350 = .ok (.invokestatic 161, 3) := by decide +kernel
theorem dL_law_1353 : decode cL_law 1353 = .ok (.istore 5, 2) := by decide +kernel
theorem dL_law_1355 : decode cL_law 1355 = .ok (.aload_n 2, 1) := by decide +kernel
theorem dL_law_1356 : decode cL_law 1356 = .ok (.aload_n 0, 1) := by decide +kernel
theorem dL_law_1357 : decode cL_law 1357 = .ok (.iload 4, 2) := by decide +kernel
theorem dL_law_1359 : decode cL_law 1359 = .ok (.iconst 1, 1) := by decide +kernel
theorem dL_law_1360 : decode cL_law 1360 = .ok (.iadd, 1) := by decide +kernel
theorem dL_law_1361 : decode cL_law 1361 = .ok (.iaload, 1) := by decide +kernel
theorem dL_law_1362 : decode cL_law 1362 = .ok (.invokevirtual 163, 3) := by decide +kernel
theorem dL_law_1365 : decode cL_law 1365 = .ok (.istore 6, 2) := by decide +kernel
theorem dL_law_1367 : decode cL_law 1367 = .ok (.aload_n 2, 1) := by decide +kernel
theorem dL_law_1368 : decode cL_law 1368 = .ok (.invokevirtual 97, 3) := by decide +kernel
theorem dL_law_1371 : decode cL_law 1371 = .ok (.iload 5, 2) := by decide +kernel
theorem dL_law_1373 : decode cL_law 1373 = .ok (.if_icmp .eq 5, 3) := by decide +kernel
theorem dL_law_1376 : decode cL_law 1376 = .ok (.iconst 0, 1) := by decide +kernel
theorem dL_law_1377 : decode cL_law 1377 = .ok (.ireturn, 1) := by decide +kernel
theorem dL_law_1378 : decode cL_law 1378 = .ok (.iload 5, 2) := by decide +kernel
theorem dL_law_1380 : decode cL_law 1380 = .ok (.ifCond .ne 15, 3) := by decide +kernel
theorem dL_law_1383 : decode cL_law 1383 = .ok (.aload_n 3, 1) := by decide +kernel
theorem dL_law_1384 : decode cL_law 1384 = .ok (.iconst 0, 1) := by decide +kernel
theorem dL_law_1385 : decode cL_law 1385 = .ok (.laload, 1) := by decide +kernel
theorem dL_law_1386 : decode cL_law 1386 = .ok (.iload 6, 2) := by decide +kernel
theorem dL_law_1388 : decode cL_law 1388 = .ok (.i2l, 1) := by decide +kernel
theorem dL_law_1389 : decode cL_law 1389 = .ok (.lcmp, 1) := by decide +kernel
theorem dL_law_1390 : decode cL_law 1390 = .ok (.ifCond .eq 5, 3) := by decide +kernel
theorem dL_law_1393 : decode cL_law 1393 = .ok (.iconst 0, 1) := by decide +kernel
theorem dL_law_1394 : decode cL_law 1394 = .ok (.ireturn, 1) := by decide +kernel
theorem dL_law_1395 : decode cL_law 1395 = .ok (.goto 306, 3) := by decide +kernel
theorem dL_law_1398 : decode cL_law 1398 = .ok (.aload_n 1, 1) := by decide +kernel
theorem dL_law_1399 : decode cL_law 1399 = .ok (.aload_n 0, 1) := by decide +kernel
theorem dL_law_1400 : decode cL_law 1400 = .ok (.iload 4, 2) := by decide +kernel
theorem dL_law_1402 : decode cL_law 1402 = .ok (.iconst 1, 1) := by decide +kernel
theorem dL_law_1403 : decode cL_law 1403 = .ok (.iadd, 1) := by decide +kernel
theorem dL_law_1404 : decode cL_law 1404 = .ok (.iaload, 1) := by decide +kernel
theorem dL_law_1405 : decode cL_law 1405 = .ok (.aload_n 0, 1) := by decide +kernel
theorem dL_law_1406 : decode cL_law 1406 = .ok (.iload 4, 2) := by decide +kernel
theorem dL_law_1408 : decode cL_law 1408 = .ok (.iconst 2, 1) := by decide +kernel
theorem dL_law_1409 : decode cL_law 1409 = .ok (.iadd, 1) := by decide +kernel
theorem dL_law_1410 : decode cL_law 1410 = .ok (.iaload, 1) := by decide +kernel
theorem dL_law_1411 : decode cL_law 1411 = .ok (.aload_n 3, 1) := by decide +kernel
theorem dL_law_1412 : decode cL_law 1412 = .ok (.invokestatic 164, 3) := by decide +kernel
theorem dL_law_1415 : decode cL_law 1415 = .ok (.istore 5, 2) := by decide +kernel
theorem dL_law_1417 : decode cL_law 1417 = .ok (.aload_n 2, 1) := by decide +kernel
theorem dL_law_1418 : decode cL_law 1418 = .ok (.aload_n 0, 1) := by decide +kernel
theorem dL_law_1419 : decode cL_law 1419 = .ok (.iload 4, 2) := by decide +kernel
theorem dL_law_1421 : decode cL_law 1421 = .ok (.iconst 1, 1) := by decide +kernel
theorem dL_law_1422 : decode cL_law 1422 = .ok (.iadd, 1) := by decide +kernel
theorem dL_law_1423 : decode cL_law 1423 = .ok (.iaload, 1) := by decide +kernel
theorem dL_law_1424 : decode cL_law 1424 = .ok (.aload_n 0, 1) := by decide +kernel
theorem dL_law_1425 : decode cL_law 1425 = .ok (.iload 4, 2) := by decide +kernel
theorem dL_law_1427 : decode cL_law 1427 = .ok (.iconst 2, 1) := by decide +kernel
theorem dL_law_1428 : decode cL_law 1428 = .ok (.iadd, 1) := by decide +kernel
theorem dL_law_1429 : decode cL_law 1429 = .ok (.iaload, 1) := by decide +kernel
theorem dL_law_1430 : decode cL_law 1430 = .ok (.invokevirtual 166, 3) := by decide +kernel
theorem dL_law_1433 : decode cL_law 1433 = .ok (.istore 6, 2) := by decide +kernel
theorem dL_law_1435 : decode cL_law 1435 = .ok (.aload_n 2, 1) := by decide +kernel
theorem dL_law_1436 : decode cL_law 1436 = .ok (.invokevirtual 97, 3) := by decide +kernel
theorem dL_law_1439 : decode cL_law 1439 = .ok (.iload 5, 2) := by decide +kernel
theorem dL_law_1441 : decode cL_law 1441 = .ok (.if_icmp .eq 5, 3) := by decide +kernel
theorem dL_law_1444 : decode cL_law 1444 = .ok (.iconst 0, 1) := by decide +kernel
theorem dL_law_1445 : decode cL_law 1445 = .ok (.ireturn, 1) := by decide +kernel
theorem dL_law_1446 : decode cL_law 1446 = .ok (.iload 5, 2) := by decide +kernel
theorem dL_law_1448 : decode cL_law 1448 = .ok (.ifCond .ne 15, 3) := by decide +kernel
theorem dL_law_1451 : decode cL_law 1451 = .ok (.aload_n 3, 1) := by decide +kernel
theorem dL_law_1452 : decode cL_law 1452 = .ok (.iconst 0, 1) := by decide +kernel
theorem dL_law_1453 : decode cL_law 1453 = .ok (.laload, 1) := by decide +kernel
theorem dL_law_1454 : decode cL_law 1454 = .ok (.iload 6, 2) := by decide +kernel
theorem dL_law_1456 : decode cL_law 1456 = .ok (.i2l, 1) := by decide +kernel
theorem dL_law_1457 : decode cL_law 1457 = .ok (.lcmp, 1) := by decide +kernel
theorem dL_law_1458 : decode cL_law 1458 = .ok (.ifCond .eq 5, 3) := by decide +kernel
theorem dL_law_1461 : decode cL_law 1461 = .ok (.iconst 0, 1) := by decide +kernel
theorem dL_law_1462 : decode cL_law 1462 = .ok (.ireturn, 1) := by decide +kernel
theorem dL_law_1463 : decode cL_law 1463 = .ok (.goto 238, 3) := by decide +kernel
theorem dL_law_1466 : decode cL_law 1466 = .ok (.aload_n 1, 1) := by decide +kernel
theorem dL_law_1467 : decode cL_law 1467 = .ok (.aload_n 0, 1) := by decide +kernel
theorem dL_law_1468 : decode cL_law 1468 = .ok (.iload 4, 2) := by decide +kernel
theorem dL_law_1470 : decode cL_law 1470 = .ok (.iconst 1, 1) := by decide +kernel
theorem dL_law_1471 : decode cL_law 1471 = .ok (.iadd, 1) := by decide +kernel
theorem dL_law_1472 : decode cL_law 1472 = .ok (.iaload, 1) := by decide +kernel
theorem dL_law_1473 : decode cL_law 1473 = .ok (.aload_n 3, 1) := by decide +kernel
theorem dL_law_1474 : decode cL_law 1474 = .ok (.invokestatic 167, 3) := by decide +kernel
theorem dL_law_1477 : decode cL_law 1477 = .ok (.istore 5, 2) := by decide +kernel
theorem dL_law_1479 : decode cL_law 1479 = .ok (.aload_n 2, 1) := by decide +kernel
theorem dL_law_1480 : decode cL_law 1480 = .ok (.aload_n 0, 1) := by decide +kernel
theorem dL_law_1481 : decode cL_law 1481 = .ok (.iload 4, 2) := by decide +kernel
theorem dL_law_1483 : decode cL_law 1483 = .ok (.iconst 1, 1) := by decide +kernel
theorem dL_law_1484 : decode cL_law 1484 = .ok (.iadd, 1) := by decide +kernel
theorem dL_law_1485 : decode cL_law 1485 = .ok (.iaload, 1) := by decide +kernel
theorem dL_law_1486 : decode cL_law 1486 = .ok (.invokevirtual 169, 3) := by decide +kernel
theorem dL_law_1489 : decode cL_law 1489 = .ok (.istore 6, 2) := by decide +kernel
theorem dL_law_1491 : decode cL_law 1491 = .ok (.aload_n 2, 1) := by decide +kernel
theorem dL_law_1492 : decode cL_law 1492 = .ok (.invokevirtual 97, 3) := by decide +kernel
theorem dL_law_1495 : decode cL_law 1495 = .ok (.iload 5, 2) := by decide +kernel
theorem dL_law_1497 : decode cL_law 1497 = .ok (.if_icmp .eq 5, 3) := by decide +kernel
theorem dL_law_1500 : decode cL_law 1500 = .ok (.iconst 0, 1) := by decide +kernel
theorem dL_law_1501 : decode cL_law 1501 = .ok (.ireturn, 1) := by decide +kernel
theorem dL_law_1502 : decode cL_law 1502 = .ok (.iload 5, 2) := by decide +kernel
theorem dL_law_1504 : decode cL_law 1504 = .ok (.ifCond .ne 15, 3) := by decide +kernel
theorem dL_law_1507 : decode cL_law 1507 = .ok (.aload_n 3, 1) := by decide +kernel
theorem dL_law_1508 : decode cL_law 1508 = .ok (.iconst 0, 1) := by decide +kernel
theorem dL_law_1509 : decode cL_law 1509 = .ok (.laload, 1) := by decide +kernel
theorem dL_law_1510 : decode cL_law 1510 = .ok (.iload 6, 2) := by decide +kernel
theorem dL_law_1512 : decode cL_law 1512 = .ok (.i2l, 1) := by decide +kernel
theorem dL_law_1513 : decode cL_law 1513 = .ok (.lcmp, 1) := by decide +kernel
theorem dL_law_1514 : decode cL_law 1514 = .ok (.ifCond .eq 5, 3) := by decide +kernel
theorem dL_law_1517 : decode cL_law 1517 = .ok (.iconst 0, 1) := by decide +kernel
theorem dL_law_1518 : decode cL_law 1518 = .ok (.ireturn, 1) := by decide +kernel
theorem dL_law_1519 : decode cL_law 1519 = .ok (.goto 182, 3) := by decide +kernel
theorem dL_law_1522 : decode cL_law 1522 = .ok (.aload_n 1, 1) := by decide +kernel
theorem dL_law_1523 : decode cL_law 1523 = .ok (.aload_n 0, 1) := by decide +kernel
theorem dL_law_1524 : decode cL_law 1524 = .ok (.iload 4, 2) := by decide +kernel
theorem dL_law_1526 : decode cL_law 1526 = .ok (.iconst 1, 1) := by decide +kernel
theorem dL_law_1527 : decode cL_law 1527 = .ok (.iadd, 1) := by decide +kernel
theorem dL_law_1528 : decode cL_law 1528 = .ok (.iaload, 1) := by decide +kernel
theorem dL_law_1529 : decode cL_law 1529 = .ok (.aload_n 3, 1) := by decide +kernel
theorem dL_law_1530 : decode cL_law 1530 = .ok (.invokestatic 170, 3) := by decide +kernel
theorem dL_law_1533 : decode cL_law 1533 = .ok (.istore 5, 2) := by decide +kernel
theorem dL_law_1535 : decode cL_law 1535 = .ok (.aload_n 2, 1) := by decide +kernel
theorem dL_law_1536 : decode cL_law 1536 = .ok (.aload_n 0, 1) := by decide +kernel
theorem dL_law_1537 : decode cL_law 1537 = .ok (.iload 4, 2) := by decide +kernel
theorem dL_law_1539 : decode cL_law 1539 = .ok (.iconst 1, 1) := by decide +kernel
theorem dL_law_1540 : decode cL_law 1540 = .ok (.iadd, 1) := by decide +kernel
theorem dL_law_1541 : decode cL_law 1541 = .ok (.iaload, 1) := by decide +kernel
theorem dL_law_1542 : decode cL_law 1542 = .ok (.invokevirtual 172, 3) := by decide +kernel
theorem dL_law_1545 : decode cL_law 1545 = .ok (.istore 6, 2) := by decide +kernel
theorem dL_law_1547 : decode cL_law 1547 = .ok (.aload_n 2, 1) := by decide +kernel
theorem dL_law_1548 : decode cL_law 1548 = .ok (.invokevirtual 97, 3) := by decide +kernel
theorem dL_law_1551 : decode cL_law 1551 = .ok (.iload 5, 2) := by decide +kernel
theorem dL_law_1553 : decode cL_law 1553 = .ok (.if_icmp .eq 5, 3) := by decide +kernel
theorem dL_law_1556 : decode cL_law 1556 = .ok (.iconst 0, 1) := by decide +kernel
theorem dL_law_1557 : decode cL_law 1557 = .ok (.ireturn, 1) := by decide +kernel
theorem dL_law_1558 : decode cL_law 1558 = .ok (.iload 5, 2) := by decide +kernel
theorem dL_law_1560 : decode cL_law 1560 = .ok (.ifCond .ne 15, 3) := by decide +kernel
theorem dL_law_1563 : decode cL_law 1563 = .ok (.aload_n 3, 1) := by decide +kernel
theorem dL_law_1564 : decode cL_law 1564 = .ok (.iconst 0, 1) := by decide +kernel
theorem dL_law_1565 : decode cL_law 1565 = .ok (.laload, 1) := by decide +kernel
theorem dL_law_1566 : decode cL_law 1566 = .ok (.iload 6, 2) := by decide +kernel
theorem dL_law_1568 : decode cL_law 1568 = .ok (.i2l, 1) := by decide +kernel
theorem dL_law_1569 : decode cL_law 1569 = .ok (.lcmp, 1) := by decide +kernel
theorem dL_law_1570 : decode cL_law 1570 = .ok (.ifCond .eq 5, 3) := by decide +kernel
theorem dL_law_1573 : decode cL_law 1573 = .ok (.iconst 0, 1) := by decide +kernel
theorem dL_law_1574 : decode cL_law 1574 = .ok (.ireturn, 1) := by decide +kernel
theorem dL_law_1575 : decode cL_law 1575 = .ok (.goto 126, 3) := by decide +kernel
theorem dL_law_1578 : decode cL_law 1578 = .ok (.aload_n 1, 1) := by decide +kernel
theorem dL_law_1579 : decode cL_law 1579 = .ok (.aload_n 0, 1) := by decide +kernel
theorem dL_law_1580 : decode cL_law 1580 = .ok (.iload 4, 2) := by decide +kernel
theorem dL_law_1582 : decode cL_law 1582 = .ok (.iconst 1, 1) := by decide +kernel
theorem dL_law_1583 : decode cL_law 1583 = .ok (.iadd, 1) := by decide +kernel
theorem dL_law_1584 : decode cL_law 1584 = .ok (.iaload, 1) := by decide +kernel
theorem dL_law_1585 : decode cL_law 1585 = .ok (.aload_n 0, 1) := by decide +kernel
theorem dL_law_1586 : decode cL_law 1586 = .ok (.iload 4, 2) := by decide +kernel
theorem dL_law_1588 : decode cL_law 1588 = .ok (.iconst 2, 1) := by decide +kernel
theorem dL_law_1589 : decode cL_law 1589 = .ok (.iadd, 1) := by decide +kernel
theorem dL_law_1590 : decode cL_law 1590 = .ok (.iaload, 1) := by decide +kernel
theorem dL_law_1591 : decode cL_law 1591 = .ok (.aload_n 3, 1) := by decide +kernel
theorem dL_law_1592 : decode cL_law 1592 = .ok (.invokestatic 173, 3) := by decide +kernel
theorem dL_law_1595 : decode cL_law 1595 = .ok (.istore 5, 2) := by decide +kernel
theorem dL_law_1597 : decode cL_law 1597 = .ok (.aload_n 2, 1) := by decide +kernel
theorem dL_law_1598 : decode cL_law 1598 = .ok (.aload_n 0, 1) := by decide +kernel
theorem dL_law_1599 : decode cL_law 1599 = .ok (.iload 4, 2) := by decide +kernel
theorem dL_law_1601 : decode cL_law 1601 = .ok (.iconst 1, 1) := by decide +kernel
theorem dL_law_1602 : decode cL_law 1602 = .ok (.iadd, 1) := by decide +kernel
theorem dL_law_1603 : decode cL_law 1603 = .ok (.iaload, 1) := by decide +kernel
theorem dL_law_1604 : decode cL_law 1604 = .ok (.aload_n 0, 1) := by decide +kernel
theorem dL_law_1605 : decode cL_law 1605 = .ok (.iload 4, 2) := by decide +kernel
theorem dL_law_1607 : decode cL_law 1607 = .ok (.iconst 2, 1) := by decide +kernel
theorem dL_law_1608 : decode cL_law 1608 = .ok (.iadd, 1) := by decide +kernel
theorem dL_law_1609 : decode cL_law 1609 = .ok (.iaload, 1) := by decide +kernel
theorem dL_law_1610 : decode cL_law 1610 = .ok (.invokevirtual 175, 3) := by decide +kernel
theorem dL_law_1613 : decode cL_law 1613 = .ok (.istore 6, 2) := by decide +kernel
theorem dL_law_1615 : decode cL_law 1615 = .ok (.aload_n 2, 1) := by decide +kernel
theorem dL_law_1616 : decode cL_law 1616 = .ok (.invokevirtual 97, 3) := by decide +kernel
theorem dL_law_1619 : decode cL_law 1619 = .ok (.iload 5, 2) := by decide +kernel
theorem dL_law_1621 : decode cL_law 1621 = .ok (.if_icmp .eq 5, 3) := by decide +kernel
theorem dL_law_1624 : decode cL_law 1624 = .ok (.iconst 0, 1) := by decide +kernel
theorem dL_law_1625 : decode cL_law 1625 = .ok (.ireturn, 1) := by decide +kernel
theorem dL_law_1626 : decode cL_law 1626 = .ok (.iload 5, 2) := by decide +kernel
theorem dL_law_1628 : decode cL_law 1628 = .ok (.ifCond .ne 15, 3) := by decide +kernel
theorem dL_law_1631 : decode cL_law 1631 = .ok (.aload_n 3, 1) := by decide +kernel
theorem dL_law_1632 : decode cL_law 1632 = .ok (.iconst 0, 1) := by decide +kernel
theorem dL_law_1633 : decode cL_law 1633 = .ok (.laload, 1) := by decide +kernel
theorem dL_law_1634 : decode cL_law 1634 = .ok (.iload 6, 2) := by decide +kernel
theorem dL_law_1636 : decode cL_law 1636 = .ok (.i2l, 1) := by decide +kernel
theorem dL_law_1637 : decode cL_law 1637 = .ok (.lcmp, 1) := by decide +kernel
theorem dL_law_1638 : decode cL_law 1638 = .ok (.ifCond .eq 5, 3) := by decide +kernel
theorem dL_law_1641 : decode cL_law 1641 = .ok (.iconst 0, 1) := by decide +kernel
theorem dL_law_1642 : decode cL_law 1642 = .ok (.ireturn, 1) := by decide +kernel
theorem dL_law_1643 : decode cL_law 1643 = .ok (.goto 58, 3) := by decide +kernel
theorem dL_law_1646 : decode cL_law 1646 = .ok (.aload_n 1, 1) := by decide +kernel
theorem dL_law_1647 : decode cL_law 1647 = .ok (.invokevirtual 176, 3) := by decide +kernel
theorem dL_law_1650 : decode cL_law 1650 = .ok (.dstore 5, 2) := by decide +kernel
theorem dL_law_1652 : decode cL_law 1652 = .ok (.aload_n 2, 1) := by decide +kernel
theorem dL_law_1653 : decode cL_law 1653 = .ok (.invokevirtual 180, 3) := by decide +kernel
theorem dL_law_1656 : decode cL_law 1656 = .ok (.dstore 7, 2) := by decide +kernel
theorem dL_law_1658 : decode cL_law 1658 = .ok (.dload 5, 2) := by decide +kernel
theorem dL_law_1660 : decode cL_law 1660 = .ok (.dload 7, 2) := by decide +kernel
theorem dL_law_1662 : decode cL_law 1662 = .ok (.dcmp .l, 1) := by decide +kernel
theorem dL_law_1663 : decode cL_law 1663 = .ok (.ifCond .eq 21, 3) := by decide +kernel
theorem dL_law_1666 : decode cL_law 1666 = .ok (.dload 5, 2) := by decide +kernel
theorem dL_law_1668 : decode cL_law 1668 = .ok (.dload 5, 2) := by decide +kernel
theorem dL_law_1670 : decode cL_law 1670 = .ok (.dcmp .l, 1) := by decide +kernel
theorem dL_law_1671 : decode cL_law 1671 = .ok (.ifCond .eq 11, 3) := by decide +kernel
theorem dL_law_1674 : decode cL_law 1674 = .ok (.dload 7, 2) := by decide +kernel
theorem dL_law_1676 : decode cL_law 1676 = .ok (.dload 7, 2) := by decide +kernel
theorem dL_law_1678 : decode cL_law 1678 = .ok (.dcmp .l, 1) := by decide +kernel
theorem dL_law_1679 : decode cL_law 1679 = .ok (.ifCond .ne 5, 3) := by decide +kernel
theorem dL_law_1682 : decode cL_law 1682 = .ok (.iconst 0, 1) := by decide +kernel
theorem dL_law_1683 : decode cL_law 1683 = .ok (.ireturn, 1) := by decide +kernel
theorem dL_law_1684 : decode cL_law 1684 = .ok (.goto 17, 3) := by decide +kernel
theorem dL_law_1687 : decode cL_law 1687 = .ok (.aload_n 1, 1) := by decide +kernel
theorem dL_law_1688 : decode cL_law 1688 = .ok (.invokevirtual 181, 3) := by decide +kernel
theorem dL_law_1691 : decode cL_law 1691 = .ok (.aload_n 2, 1) := by decide +kernel
theorem dL_law_1692 : decode cL_law 1692 = .ok (.invokevirtual 185, 3) := by decide +kernel
theorem dL_law_1695 : decode cL_law 1695 = .ok (.lcmp, 1) := by decide +kernel
theorem dL_law_1696 : decode cL_law 1696 = .ok (.ifCond .eq 5, 3) := by decide +kernel
theorem dL_law_1699 : decode cL_law 1699 = .ok (.iconst 0, 1) := by decide +kernel
theorem dL_law_1700 : decode cL_law 1700 = .ok (.ireturn, 1) := by decide +kernel
theorem dL_law_1701 : decode cL_law 1701 = .ok (.iinc 4 6, 3) := by decide +kernel
theorem dL_law_1704 : decode cL_law 1704 = .ok (.goto (-1681), 3) := by decide +kernel
theorem dL_law_1707 : decode cL_law 1707 = .ok (.iconst 1, 1) := by decide +kernel
theorem dL_law_1708 : decode cL_law 1708 = .ok (.ireturn, 1) := by decide +kernel
