theorem dX0_init_0 : decode cX0_init 0 = .ok (.aload_n 0, 1) := by decide +kernel
theorem dX0_init_1 : decode cX0_init 1 = .ok (.invokespecial 3, 3) := by decide +kernel
theorem dX0_init_4 : decode cX0_init 4 = .ok (.aload_n 0, 1) := by decide +kernel
theorem dX0_init_5 : decode cX0_init 5 = .ok (.bipush 6, 2) := by decide +kernel
theorem dX0_init_7 : decode cX0_init 7 = .ok (.anewarray 9, 3) := by decide +kernel
theorem dX0_init_10 : decode cX0_init 10 = .ok (.putfield 11, 3) := by decide +kernel
theorem dX0_init_13 : decode cX0_init 13 = .ok (.aload_n 0, 1) := by decide +kernel
theorem dX0_init_14 : decode cX0_init 14 = .ok (.bipush 10, 2) := by decide +kernel
theorem dX0_init_16 : decode cX0_init 16 = .ok (.anewarray 17, 3) := by decide +kernel
theorem dX0_init_19 : decode cX0_init 19 = .ok (.putfield 19, 3) := by decide +kernel
theorem dX0_init_22 : decode cX0_init 22 = .ok (.aload_n 0, 1) := by decide +kernel
theorem dX0_init_23 : decode cX0_init 23 = .ok (.new 23, 3) := by decide +kernel
theorem dX0_init_26 : decode cX0_init 26 = .ok (.dup, 1) := by decide +kernel
theorem dX0_init_27 : decode cX0_init 27 = .ok (.invokespecial 25, 3) := by decide +kernel
theorem dX0_init_30 : decode cX0_init 30 = .ok (.putfield 26, 3) := by decide +kernel
theorem dX0_init_33 : decode cX0_init 33 = .ok (.aload_n 0, 1) := by decide +kernel
theorem dX0_init_34 : decode cX0_init 34 = .ok (.iconst 4, 1) := by decide +kernel
theorem dX0_init_35 : decode cX0_init 35 = .ok (.newarray .int, 2) := by decide +kernel
theorem dX0_init_37 : decode cX0_init 37 = .ok (.dup, 1) := by decide +kernel
theorem dX0_init_38 : decode cX0_init 38 = .ok (.iconst 0, 1) := by decide +kernel
theorem dX0_init_39 : decode cX0_init 39 = .ok (.iconst 0, 1) := by decide +kernel
theorem dX0_init_40 : decode cX0_init 40 = .ok (.iastore, 1) := by decide +kernel
theorem dX0_init_41 : decode cX0_init 41 = .ok (.dup, 1) := by decide +kernel
theorem dX0_init_42 : decode cX0_init 42 = .ok (.iconst 1, 1) := by decide +kernel
theorem dX0_init_43 : decode cX0_init 43 = .ok (.iconst 1, 1) := by decide +kernel
theorem dX0_init_44 : decode cX0_init 44 = .ok (.iastore, 1) := by decide +kernel
theorem dX0_init_45 : decode cX0_init 45 = .ok (.dup, 1) := by decide +kernel
theorem dX0_init_46 : decode cX0_init 46 = .ok (.iconst 2, 1) := by decide +kernel
theorem dX0_init_47 : decode cX0_init 47 = .ok (.iconst 5, 1) := by decide +kernel
theorem dX0_init_48 : decode cX0_init 48 = .ok (.iastore, 1) := by decide +kernel
theorem dX0_init_49 : decode cX0_init 49 = .ok (.dup, 1) := by decide +kernel
theorem dX0_init_50 : decode cX0_init 50 = .ok (.iconst 3, 1) := by decide +kernel
theorem dX0_init_51 : decode cX0_init 51 = .ok (.iconst 1, 1) := by decide +kernel
theorem dX0_init_52 : decode cX0_init 52 = .ok (.iastore, 1) := by decide +kernel
theorem dX0_init_53 : decode cX0_init 53 = .ok (.putfield 30, 3) := by decide +kernel
theorem dX0_init_56 : decode cX0_init 56 = .ok (.aload_n 0, 1) := by decide +kernel
theorem dX0_init_57 : decode cX0_init 57 = .ok (.bipush 6, 2) := by decide +kernel
theorem dX0_init_59 : decode cX0_init 59 = .ok (.newarray .int, 2) := by decide +kernel
theorem dX0_init_61 : decode cX0_init 61 = .ok (.putfield 34, 3) := by decide +kernel
theorem dX0_init_64 : decode cX0_init 64 = .ok (.iconst 0, 1) := by decide +kernel
theorem dX0_init_65 : decode cX0_init 65 = .ok (.istore_n 1, 1) := by decide +kernel
theorem dX0_init_66 : decode cX0_init 66 = .ok (.iload_n 1, 1) := by decide +kernel
theorem dX0_init_67 : decode cX0_init 67 = .ok (.aload_n 0, 1) := by decide +kernel
theorem dX0_init_68 : decode cX0_init 68 = .ok (.getfield 11, 3) := by decide +kernel
theorem dX0_init_71 : decode cX0_init 71 = .ok (.arraylength, 1) := by decide +kernel
theorem dX0_init_72 : decode cX0_init 72 = .ok (.if_icmp .ge 22, 3) := by decide +kernel
theorem dX0_init_75 : decode cX0_init 75 = .ok (.aload_n 0, 1) := by decide +kernel
theorem dX0_init_76 : decode cX0_init 76 = .ok (.getfield 11, 3) := by decide +kernel
theorem dX0_init_79 : decode cX0_init 79 = .ok (.iload_n 1, 1) := by decide +kernel
theorem dX0_init_80 : decode cX0_init 80 = .ok (.new 9, 3) := by decide +kernel
theorem dX0_init_83 : decode cX0_init 83 = .ok (.dup, 1) := by decide +kernel
theorem dX0_init_84 : decode cX0_init 84 = .ok (.invokespecial 37, 3) := by decide +kernel
theorem dX0_init_87 : decode cX0_init 87 = .ok (.aastore, 1) := by decide +kernel
theorem dX0_init_88 : decode cX0_init 88 = .ok (.iinc 1 1, 3) := by decide +kernel
theorem dX0_init_91 : decode cX0_init 91 = .ok (.goto (-25), 3) := by decide +kernel
theorem dX0_init_94 : decode cX0_init 94 = .ok (.iconst 0, 1) := by decide +kernel
theorem dX0_init_95 : decode cX0_init 95 = .ok (.istore_n 1, 1) := by decide +kernel
theorem dX0_init_96 : decode cX0_init 96 = .ok (.iload_n 1, 1) := by decide +kernel
theorem dX0_init_97 : decode cX0_init 97 = .ok (.aload_n 0, 1) := by decide +kernel
theorem dX0_init_98 : decode cX0_init 98 = .ok (.getfield 19, 3) := by decide +kernel
theorem dX0_init_101 : decode cX0_init 101 = .ok (.arraylength, 1) := by decide +kernel
theorem dX0_init_102 : decode cX0_init 102 = .ok (.if_icmp .ge 22, 3) := by decide +kernel
theorem dX0_init_105 : decode cX0_init 105 = .ok (.aload_n 0, 1) := by decide +kernel
theorem dX0_init_106 : decode cX0_init 106 = .ok (.getfield 19, 3) := by decide +kernel
theorem dX0_init_109 : decode cX0_init 109 = .ok (.iload_n 1, 1) := by decide +kernel
theorem dX0_init_110 : decode cX0_init 110 = .ok (.new 17, 3) := by decide +kernel
theorem dX0_init_113 : decode cX0_init 113 = .ok (.dup, 1) := by decide +kernel
theorem dX0_init_114 : decode cX0_init 114 = .ok (.invokespecial 38, 3) := by decide +kernel
theorem dX0_init_117 : decode cX0_init 117 = .ok (.aastore, 1) := by decide +kernel
theorem dX0_init_118 : decode cX0_init 118 = .ok (.iinc 1 1, 3) := by decide +kernel
theorem dX0_init_121 : decode cX0_init 121 = .ok (.goto (-25), 3) := by decide +kernel
theorem dX0_init_124 : decode cX0_init 124 = .ok (.return_, 1) := by decide +kernel
theorem dX0_copyFrom_0 : decode cX0_copyFrom 0 = .ok (.iconst 0, 1) := by decide +kernel
theorem dX0_copyFrom_1 : decode cX0_copyFrom 1 = .ok (.istore_n 2, 1) := by decide +kernel
theorem dX0_copyFrom_2 : decode cX0_copyFrom 2 = .ok (.iload_n 2, 1) := by decide +kernel
theorem dX0_copyFrom_3 : decode cX0_copyFrom 3 = .ok (.aload_n 0, 1) := by decide +kernel
theorem dX0_copyFrom_4 : decode cX0_copyFrom 4 = .ok (.getfield 11, 3) := by decide +kernel
theorem dX0_copyFrom_7 : decode cX0_copyFrom 7 = .ok (.arraylength, 1) := by decide +kernel
theorem dX0_copyFrom_8 : decode cX0_copyFrom 8 = .ok (.if_icmp .ge 33, 3) := by decide +kernel
theorem dX0_copyFrom_11 : decode cX0_copyFrom 11 = .ok (.iload_n 2, 1) := by decide +kernel
theorem dX0_copyFrom_12 : decode cX0_copyFrom 12 = .ok (.aload_n 1, 1) := by decide +kernel
theorem dX0_copyFrom_13 : decode cX0_copyFrom 13 = .ok (.getfield 11, 3) := by decide +kernel
theorem dX0_copyFrom_16 : decode cX0_copyFrom 16 = .ok (.arraylength, 1) := by decide +kernel
theorem dX0_copyFrom_17 : decode cX0_copyFrom 17 = .ok (.if_icmp .ge 24, 3) := by decide +kernel
theorem dX0_copyFrom_20 : decode cX0_copyFrom 20 = .ok (.aload_n 0, 1) := by decide +kernel
theorem dX0_copyFrom_21 : decode cX0_copyFrom 21 = .ok (.getfield 11, 3) := by decide +kernel
theorem dX0_copyFrom_24 : decode cX0_copyFrom 24 = .ok (.iload_n 2, 1) := by decide +kernel
theorem dX0_copyFrom_25 : decode cX0_copyFrom 25 = .ok (.aaload, 1) := by decide +kernel
theorem dX0_copyFrom_26 : decode cX0_copyFrom 26 = .ok (.aload_n 1, 1) := by decide +kernel
theorem dX0_copyFrom_27 : decode cX0_copyFrom 27 = .ok (.getfield 11, 3) := by decide +kernel
theorem dX0_copyFrom_30 : decode cX0_copyFrom 30 = .ok (.iload_n 2, 1) := by decide +kernel
theorem dX0_copyFrom_31 : decode cX0_copyFrom 31 = .ok (.aaload, 1) := by decide +kernel
theorem dX0_copyFrom_32 : decode cX0_copyFrom 32 = .ok (.invokevirtual 39, 3) := by decide +kernel
theorem dX0_copyFrom_35 : decode cX0_copyFrom 35 = .ok (.iinc 2 1, 3) := by decide +kernel
theorem dX0_copyFrom_38 : decode cX0_copyFrom 38 = .ok (.goto (-36), 3) := by decide +kernel
theorem dX0_copyFrom_41 : decode cX0_copyFrom 41 = .ok (.iconst 0, 1) := by decide +kernel
theorem dX0_copyFrom_42 : decode cX0_copyFrom 42 = .ok (.istore_n 2, 1) := by decide +kernel
theorem dX0_copyFrom_43 : decode cX0_copyFrom 43 = .ok (.iload_n 2, 1) := by decide +kernel
theorem dX0_copyFrom_44 : decode cX0_copyFrom 44 = .ok (.aload_n 0, 1) := by decide +kernel
theorem dX0_copyFrom_45 : decode cX0_copyFrom 45 = .ok (.getfield 19, 3) := by decide +kernel
theorem dX0_copyFrom_48 : decode cX0_copyFrom 48 = .ok (.arraylength, 1) := by decide +kernel
theorem dX0_copyFrom_49 : decode cX0_copyFrom 49 = .ok (.if_icmp .ge 33, 3) := by decide +kernel
theorem dX0_copyFrom_52 : decode cX0_copyFrom 52 = .ok (.iload_n 2, 1) := by decide +kernel
theorem dX0_copyFrom_53 : decode cX0_copyFrom 53 = .ok (.aload_n 1, 1) := by decide +kernel
theorem dX0_copyFrom_54 : decode cX0_copyFrom 54 = .ok (.getfield 19, 3) := by decide +kernel
theorem dX0_copyFrom_57 : decode cX0_copyFrom 57 = .ok (.arraylength, 1) := by decide +kernel
theorem dX0_copyFrom_58 : decode cX0_copyFrom 58 = .ok (.if_icmp .ge 24, 3) := by decide +kernel
theorem dX0_copyFrom_61 : decode cX0_copyFrom 61 = .ok (.aload_n 0, 1) := by decide +kernel
theorem dX0_copyFrom_62 : decode cX0_copyFrom 62 = .ok (.getfield 19, 3) := by decide +kernel
theorem dX0_copyFrom_65 : decode cX0_copyFrom 65 = .ok (.iload_n 2, 1) := by decide +kernel
theorem dX0_copyFrom_66 : decode cX0_copyFrom 66 = .ok (.aaload, 1) := by decide +kernel
theorem dX0_copyFrom_67 : decode cX0_copyFrom 67 = .ok (.aload_n 1, 1) := by decide +kernel
theorem dX0_copyFrom_68 : decode cX0_copyFrom 68 = .ok (.getfield 19, 3) := by decide +kernel
theorem dX0_copyFrom_71 : decode cX0_copyFrom 71 = .ok (.iload_n 2, 1) := by decide +kernel
theorem dX0_copyFrom_72 : decode cX0_copyFrom 72 = .ok (.aaload, 1) := by decide +kernel
theorem dX0_copyFrom_73 : decode cX0_copyFrom 73 = .ok (.invokevirtual 43, 3) := by decide +kernel
theorem dX0_copyFrom_76 : decode cX0_copyFrom 76 = .ok (.iinc 2 1, 3) := by decide +kernel
theorem dX0_copyFrom_79 : decode cX0_copyFrom 79 = .ok (.goto (-36), 3) := by decide +kernel
theorem dX0_copyFrom_82 : decode cX0_copyFrom 82 = .ok (.aload_n 0, 1) := by decide +kernel
theorem dX0_copyFrom_83 : decode cX0_copyFrom 83 = .ok (.getfield 26, 3) := by decide +kernel
theorem dX0_copyFrom_86 : decode cX0_copyFrom 86 = .ok (.aload_n 1, 1) := by decide +kernel
theorem dX0_copyFrom_87 : decode cX0_copyFrom 87 = .ok (.getfield 26, 3) := by decide +kernel
theorem dX0_copyFrom_90 : decode cX0_copyFrom 90 = .ok (.invokevirtual 46, 3) := by decide +kernel
theorem dX0_copyFrom_93 : decode cX0_copyFrom 93 = .ok (.iconst 0, 1) := by decide +kernel
theorem dX0_copyFrom_94 : decode cX0_copyFrom 94 = .ok (.istore_n 2, 1) := by decide +kernel
theorem dX0_copyFrom_95 : decode cX0_copyFrom 95 = .ok (.iload_n 2, 1) := by decide +kernel
theorem dX0_copyFrom_96 : decode cX0_copyFrom 96 = .ok (.aload_n 0, 1) := by decide +kernel
theorem dX0_copyFrom_97 : decode cX0_copyFrom 97 = .ok (.getfield 30, 3) := by decide +kernel
theorem dX0_copyFrom_100 : decode cX0_copyFrom 100 = .ok (.arraylength, 1) := by decide +kernel
theorem dX0_copyFrom_101 : decode cX0_copyFrom 101 = .ok (.if_icmp .ge 30, 3) := by decide +kernel
theorem dX0_copyFrom_104 : decode cX0_copyFrom 104 = .ok (.iload_n 2, 1) := by decide +kernel
theorem dX0_copyFrom_105 : decode cX0_copyFrom 105 = .ok (.aload_n 1, 1) := by decide +kernel
theorem dX0_copyFrom_106 : decode cX0_copyFrom 106 = .ok (.getfield 30, 3) := by decide +kernel
theorem dX0_copyFrom_109 : decode cX0_copyFrom 109 = .ok (.arraylength, 1) := by decide +kernel
theorem dX0_copyFrom_110 : decode cX0_copyFrom 110 = .ok (.if_icmp .ge 21, 3) := by decide +kernel
theorem dX0_copyFrom_113 : decode cX0_copyFrom 113 = .ok (.aload_n 0, 1) := by decide +kernel
theorem dX0_copyFrom_114 : decode cX0_copyFrom 114 = .ok (.getfield 30, 3) := by decide +kernel
theorem dX0_copyFrom_117 : decode cX0_copyFrom 117 = .ok (.iload_n 2, 1) := by decide +kernel
theorem dX0_copyFrom_118 : decode cX0_copyFrom 118 = .ok (.aload_n 1, 1) := by decide +kernel
theorem dX0_copyFrom_119 : decode cX0_copyFrom 119 = .ok (.getfield 30, 3) := by decide +kernel
theorem dX0_copyFrom_122 : decode cX0_copyFrom 122 = .ok (.iload_n 2, 1) := by decide +kernel
theorem dX0_copyFrom_123 : decode cX0_copyFrom 123 = .ok (.iaload, 1) := by decide +kernel
theorem dX0_copyFrom_124 : decode cX0_copyFrom 124 = .ok (.iastore, 1) := by decide +kernel
theorem dX0_copyFrom_125 : decode cX0_copyFrom 125 = .ok (.iinc 2 1, 3) := by decide +kernel
theorem dX0_copyFrom_128 : decode cX0_copyFrom 128 = .ok (.goto (-33), 3) := by decide +kernel
theorem dX0_copyFrom_131 : decode cX0_copyFrom 131 = .ok (.aload_n 0, 1) := by decide +kernel
theorem dX0_copyFrom_132 : decode cX0_copyFrom 132 = .ok (.aload_n 1, 1) := by decide +kernel
theorem dX0_copyFrom_133 : decode cX0_copyFrom 133 = .ok (.getfield 49, 3) := by decide +kernel
theorem dX0_copyFrom_136 : decode cX0_copyFrom 136 = .ok (.putfield 49, 3) := by decide +kernel
theorem dX0_copyFrom_139 : decode cX0_copyFrom 139 = .ok (.aload_n 0, 1) := by decide +kernel
theorem dX0_copyFrom_140 : decode cX0_copyFrom 140 = .ok (.aload_n 1, 1) := by decide +kernel
theorem dX0_copyFrom_141 : decode cX0_copyFrom 141 = .ok (.getfield 53, 3) := by decide +kernel
theorem dX0_copyFrom_144 : decode cX0_copyFrom 144 = .ok (.putfield 53, 3) := by decide +kernel
theorem dX0_copyFrom_147 : decode cX0_copyFrom 147 = .ok (.aload_n 0, 1) := by decide +kernel
theorem dX0_copyFrom_148 : decode cX0_copyFrom 148 = .ok (.aload_n 1, 1) := by decide +kernel
theorem dX0_copyFrom_149 : decode cX0_copyFrom 149 = .ok (.getfield 56, 3) := by decide +kernel
theorem dX0_copyFrom_152 : decode cX0_copyFrom 152 = .ok (.putfield 56, 3) := by decide +kernel
theorem dX0_copyFrom_155 : decode cX0_copyFrom 155 = .ok (.aload_n 0, 1) := by decide +kernel
theorem dX0_copyFrom_156 : decode cX0_copyFrom 156 = .ok (.aload_n 1, 1) := by decide +kernel
theorem dX0_copyFrom_157 : decode cX0_copyFrom 157 = .ok (.getfield 59, 3) := by decide +kernel
theorem dX0_copyFrom_160 : decode cX0_copyFrom 160 = .ok (.putfield 59, 3) := by decide +kernel
theorem dX0_copyFrom_163 : decode cX0_copyFrom 163 = .ok (.aload_n 0, 1) := by decide +kernel
theorem dX0_copyFrom_164 : decode cX0_copyFrom 164 = .ok (.aload_n 1, 1) := by decide +kernel
theorem dX0_copyFrom_165 : decode cX0_copyFrom 165 = .ok (.getfield 62, 3) := by decide +kernel
theorem dX0_copyFrom_168 : decode cX0_copyFrom 168 = .ok (.putfield 62, 3) := by decide +kernel
theorem dX0_copyFrom_171 : decode cX0_copyFrom 171 = .ok (.aload_n 0, 1) := by decide +kernel
theorem dX0_copyFrom_172 : decode cX0_copyFrom 172 = .ok (.aload_n 1, 1) := by decide +kernel
theorem dX0_copyFrom_173 : decode cX0_copyFrom 173 = .ok (.getfield 65, 3) := by decide +kernel
theorem dX0_copyFrom_176 : decode cX0_copyFrom 176 = .ok (.putfield 65, 3) := by decide +kernel
theorem dX0_copyFrom_179 : decode cX0_copyFrom 179 = .ok (.aload_n 0, 1) := by decide +kernel
theorem dX0_copyFrom_180 : decode cX0_copyFrom 180 = .ok (.aload_n 1, 1) := by decide +kernel
theorem dX0_copyFrom_181 : decode cX0_copyFrom 181 = .ok (.getfield 68, 3) := by decide +kernel
theorem dX0_copyFrom_184 : decode cX0_copyFrom 184 = .ok (.putfield 68, 3) := by decide +kernel
theorem dX0_copyFrom_187 : decode cX0_copyFrom 187 = .ok (.aload_n 0, 1) := by decide +kernel
theorem dX0_copyFrom_188 : decode cX0_copyFrom 188 = .ok (.aload_n 1, 1) := by decide +kernel
theorem dX0_copyFrom_189 : decode cX0_copyFrom 189 = .ok (.getfield 71, 3) := by decide +kernel
theorem dX0_copyFrom_192 : decode cX0_copyFrom 192 = .ok (.putfield 71, 3) := by decide +kernel
theorem dX0_copyFrom_195 : decode cX0_copyFrom 195 = .ok (.return_, 1) := by decide +kernel
theorem dX0_orderAt_0 : decode cX0_orderAt 0 = .ok (.iload_n 1, 1) := by decide +kernel
theorem dX0_orderAt_1 : decode cX0_orderAt 1 = .ok (.ifCond .lt 24, 3) := by decide +kernel
theorem dX0_orderAt_4 : decode cX0_orderAt 4 = .ok (.iload_n 1, 1) := by decide +kernel
theorem dX0_orderAt_5 : decode cX0_orderAt 5 = .ok (.aload_n 0, 1) := by decide +kernel
theorem dX0_orderAt_6 : decode cX0_orderAt 6 = .ok (.getfield 49, 3) := by decide +kernel
theorem dX0_orderAt_9 : decode cX0_orderAt 9 = .ok (.if_icmp .ge 16, 3) := by decide +kernel
theorem dX0_orderAt_12 : decode cX0_orderAt 12 = .ok (.iload_n 1, 1) := by decide +kernel
theorem dX0_orderAt_13 : decode cX0_orderAt 13 = .ok (.aload_n 0, 1) := by decide +kernel
theorem dX0_orderAt_14 : decode cX0_orderAt 14 = .ok (.getfield 19, 3) := by decide +kernel
theorem dX0_orderAt_17 : decode cX0_orderAt 17 = .ok (.arraylength, 1) := by decide +kernel
theorem dX0_orderAt_18 : decode cX0_orderAt 18 = .ok (.if_icmp .ge 7, 3) := by decide +kernel
theorem dX0_orderAt_21 : decode cX0_orderAt 21 = .ok (.iconst 1, 1) := by decide +kernel
theorem dX0_orderAt_22 : decode cX0_orderAt 22 = .ok (.goto 4, 3) := by decide +kernel
theorem dX0_orderAt_25 : decode cX0_orderAt 25 = .ok (.iconst 0, 1) := by decide +kernel
theorem dX0_orderAt_26 : decode cX0_orderAt 26 = .ok (.istore_n 2, 1) := by decide +kernel
theorem dX0_orderAt_27 : decode cX0_orderAt 27 = .ok (.iload_n 2, 1) := by decide +kernel
theorem dX0_orderAt_28 : decode cX0_orderAt 28 = .ok (.ifCond .eq 12, 3) := by decide +kernel
theorem dX0_orderAt_31 : decode cX0_orderAt 31 = .ok (.aload_n 0, 1) := by decide +kernel
theorem dX0_orderAt_32 : decode cX0_orderAt 32 = .ok (.getfield 19, 3) := by decide +kernel
theorem dX0_orderAt_35 : decode cX0_orderAt 35 = .ok (.iload_n 1, 1) := by decide +kernel
theorem dX0_orderAt_36 : decode cX0_orderAt 36 = .ok (.aaload, 1) := by decide +kernel
theorem dX0_orderAt_37 : decode cX0_orderAt 37 = .ok (.goto 4, 3) := by decide +kernel
theorem dX0_orderAt_40 : decode cX0_orderAt 40 = .ok (.aconst_null, 1) := by decide +kernel
theorem dX0_orderAt_41 : decode cX0_orderAt 41 = .ok (.areturn, 1) := by decide +kernel
theorem dX0_placeOf_0 : decode cX0_placeOf 0 = .ok (.iconst 0, 1) := by decide +kernel
theorem dX0_placeOf_1 : decode cX0_placeOf 1 = .ok (.istore_n 2, 1) := by decide +kernel
theorem dX0_placeOf_2 : decode cX0_placeOf 2 = .ok (.iload_n 2, 1) := by decide +kernel
theorem dX0_placeOf_3 : decode cX0_placeOf 3 = .ok (.aload_n 0, 1) := by decide +kernel
theorem dX0_placeOf_4 : decode cX0_placeOf 4 = .ok (.getfield 49, 3) := by decide +kernel
theorem dX0_placeOf_7 : decode cX0_placeOf 7 = .ok (.if_icmp .ge 33, 3) := by decide +kernel
theorem dX0_placeOf_10 : decode cX0_placeOf 10 = .ok (.iload_n 2, 1) := by decide +kernel
theorem dX0_placeOf_11 : decode cX0_placeOf 11 = .ok (.aload_n 0, 1) := by decide +kernel
theorem dX0_placeOf_12 : decode cX0_placeOf 12 = .ok (.getfield 19, 3) := by decide +kernel
theorem dX0_placeOf_15 : decode cX0_placeOf 15 = .ok (.arraylength, 1) := by decide +kernel
theorem dX0_placeOf_16 : decode cX0_placeOf 16 = .ok (.if_icmp .ge 24, 3) := by decide +kernel
theorem dX0_placeOf_19 : decode cX0_placeOf 19 = .ok (.aload_n 0, 1) := by decide +kernel
theorem dX0_placeOf_20 : decode cX0_placeOf 20 = .ok (.getfield 19, 3) := by decide +kernel
theorem dX0_placeOf_23 : decode cX0_placeOf 23 = .ok (.iload_n 2, 1) := by decide +kernel
theorem dX0_placeOf_24 : decode cX0_placeOf 24 = .ok (.aaload, 1) := by decide +kernel
theorem dX0_placeOf_25 : decode cX0_placeOf 25 = .ok (.getfield 74, 3) := by decide +kernel
theorem dX0_placeOf_28 : decode cX0_placeOf 28 = .ok (.iload_n 1, 1) := by decide +kernel
theorem dX0_placeOf_29 : decode cX0_placeOf 29 = .ok (.if_icmp .ne 5, 3) := by decide +kernel
theorem dX0_placeOf_32 : decode cX0_placeOf 32 = .ok (.iload_n 2, 1) := by decide +kernel
theorem dX0_placeOf_33 : decode cX0_placeOf 33 = .ok (.ireturn, 1) := by decide +kernel
theorem dX0_placeOf_34 : decode cX0_placeOf 34 = .ok (.iinc 2 1, 3) := by decide +kernel
theorem dX0_placeOf_37 : decode cX0_placeOf 37 = .ok (.goto (-35), 3) := by decide +kernel
theorem dX0_placeOf_40 : decode cX0_placeOf 40 = .ok (.iconst (-1), 1) := by decide +kernel
theorem dX0_placeOf_41 : decode cX0_placeOf 41 = .ok (.ireturn, 1) := by decide +kernel
theorem dX0_find_0 : decode cX0_find 0 = .ok (.aload_n 0, 1) := by decide +kernel
theorem dX0_find_1 : decode cX0_find 1 = .ok (.aload_n 0, 1) := by decide +kernel
theorem dX0_find_2 : decode cX0_find 2 = .ok (.iload_n 1, 1) := by decide +kernel
theorem dX0_find_3 : decode cX0_find 3 = .ok (.invokevirtual 77, 3) := by decide +kernel
theorem dX0_find_6 : decode cX0_find 6 = .ok (.invokevirtual 81, 3) := by decide +kernel
theorem dX0_find_9 : decode cX0_find 9 = .ok (.areturn, 1) := by decide +kernel
theorem dX0_take_0 : decode cX0_take 0 = .ok (.aload_n 0, 1) := by decide +kernel
theorem dX0_take_1 : decode cX0_take 1 = .ok (.getfield 49, 3) := by decide +kernel
theorem dX0_take_4 : decode cX0_take 4 = .ok (.ifCond .lt 15, 3) := by decide +kernel
theorem dX0_take_7 : decode cX0_take 7 = .ok (.aload_n 0, 1) := by decide +kernel
theorem dX0_take_8 : decode cX0_take 8 = .ok (.getfield 49, 3) := by decide +kernel
theorem dX0_take_11 : decode cX0_take 11 = .ok (.aload_n 0, 1) := by decide +kernel
theorem dX0_take_12 : decode cX0_take 12 = .ok (.getfield 19, 3) := by decide +kernel
theorem dX0_take_15 : decode cX0_take 15 = .ok (.arraylength, 1) := by decide +kernel
theorem dX0_take_16 : decode cX0_take 16 = .ok (.if_icmp .lt 5, 3) := by decide +kernel
theorem dX0_take_19 : decode cX0_take 19 = .ok (.iconst (-1), 1) := by decide +kernel
theorem dX0_take_20 : decode cX0_take 20 = .ok (.ireturn, 1) := by decide +kernel
theorem dX0_take_21 : decode cX0_take 21 = .ok (.aload_n 0, 1) := by decide +kernel
theorem dX0_take_22 : decode cX0_take 22 = .ok (.getfield 19, 3) := by decide +kernel
theorem dX0_take_25 : decode cX0_take 25 = .ok (.aload_n 0, 1) := by decide +kernel
theorem dX0_take_26 : decode cX0_take 26 = .ok (.getfield 49, 3) := by decide +kernel
theorem dX0_take_29 : decode cX0_take 29 = .ok (.aaload, 1) := by decide +kernel
theorem dX0_take_30 : decode cX0_take 30 = .ok (.astore 6, 2) := by decide +kernel
theorem dX0_take_32 : decode cX0_take 32 = .ok (.aload 6, 2) := by decide +kernel
theorem dX0_take_34 : decode cX0_take 34 = .ok (.aload_n 0, 1) := by decide +kernel
theorem dX0_take_35 : decode cX0_take 35 = .ok (.getfield 53, 3) := by decide +kernel
theorem dX0_take_38 : decode cX0_take 38 = .ok (.iload_n 1, 1) := by decide +kernel
theorem dX0_take_39 : decode cX0_take 39 = .ok (.iload_n 2, 1) := by decide +kernel
theorem dX0_take_40 : decode cX0_take 40 = .ok (.iload_n 3, 1) := by decide +kernel
theorem dX0_take_41 : decode cX0_take 41 = .ok (.iload 4, 2) := by decide +kernel
theorem dX0_take_43 : decode cX0_take 43 = .ok (.iload 5, 2) := by decide +kernel
theorem dX0_take_45 : decode cX0_take 45 = .ok (.invokevirtual 85, 3) := by decide +kernel
theorem dX0_take_48 : decode cX0_take 48 = .ok (.aload_n 0, 1) := by decide +kernel
theorem dX0_take_49 : decode cX0_take 49 = .ok (.getfield 49, 3) := by decide +kernel
theorem dX0_take_52 : decode cX0_take 52 = .ok (.istore 7, 2) := by decide +kernel
theorem dX0_take_54 : decode cX0_take 54 = .ok (.iload 7, 2) := by decide +kernel
theorem dX0_take_56 : decode cX0_take 56 = .ok (.ifCond .le 53, 3) := by decide +kernel
theorem dX0_take_59 : decode cX0_take 59 = .ok (.aload_n 0, 1) := by decide +kernel
theorem dX0_take_60 : decode cX0_take 60 = .ok (.getfield 19, 3) := by decide +kernel
theorem dX0_take_63 : decode cX0_take 63 = .ok (.iload 7, 2) := by decide +kernel
theorem dX0_take_65 : decode cX0_take 65 = .ok (.iconst 1, 1) := by decide +kernel
theorem dX0_take_66 : decode cX0_take 66 = .ok (.isub, 1) := by decide +kernel
theorem dX0_take_67 : decode cX0_take 67 = .ok (.aaload, 1) := by decide +kernel
theorem dX0_take_68 : decode cX0_take 68 = .ok (.getfield 89, 3) := by decide +kernel
theorem dX0_take_71 : decode cX0_take 71 = .ok (.iload 5, 2) := by decide +kernel
theorem dX0_take_73 : decode cX0_take 73 = .ok (.if_icmp .le 36, 3) := by decide +kernel
theorem dX0_take_76 : decode cX0_take 76 = .ok (.aload_n 0, 1) := by decide +kernel
theorem dX0_take_77 : decode cX0_take 77 = .ok (.getfield 19, 3) := by decide +kernel
theorem dX0_take_80 : decode cX0_take 80 = .ok (.iload 7, 2) := by decide +kernel
theorem dX0_take_82 : decode cX0_take 82 = .ok (.aload_n 0, 1) := by decide +kernel
theorem dX0_take_83 : decode cX0_take 83 = .ok (.getfield 19, 3) := by decide +kernel
theorem dX0_take_86 : decode cX0_take 86 = .ok (.iload 7, 2) := by decide +kernel
theorem dX0_take_88 : decode cX0_take 88 = .ok (.iconst 1, 1) := by decide +kernel
theorem dX0_take_89 : decode cX0_take 89 = .ok (.isub, 1) := by decide +kernel
theorem dX0_take_90 : decode cX0_take 90 = .ok (.aaload, 1) := by decide +kernel
theorem dX0_take_91 : decode cX0_take 91 = .ok (.aastore, 1) := by decide +kernel
theorem dX0_take_92 : decode cX0_take 92 = .ok (.aload_n 0, 1) := by decide +kernel
theorem dX0_take_93 : decode cX0_take 93 = .ok (.getfield 19, 3) := by decide +kernel
theorem dX0_take_96 : decode cX0_take 96 = .ok (.iload 7, 2) := by decide +kernel
theorem dX0_take_98 : decode cX0_take 98 = .ok (.iconst 1, 1) := by decide +kernel
theorem dX0_take_99 : decode cX0_take 99 = .ok (.isub, 1) := by decide +kernel
theorem dX0_take_100 : decode cX0_take 100 = .ok (.aload 6, 2) := by decide +kernel
theorem dX0_take_102 : decode cX0_take 102 = .ok (.aastore, 1) := by decide +kernel
theorem dX0_take_103 : decode cX0_take 103 = .ok (.iinc 7 (-1), 3) := by decide +kernel
theorem dX0_take_106 : decode cX0_take 106 = .ok (.goto (-52), 3) := by decide +kernel
theorem dX0_take_109 : decode cX0_take 109 = .ok (.aload_n 0, 1) := by decide +kernel
theorem dX0_take_110 : decode cX0_take 110 = .ok (.dup, 1) := by decide +kernel
theorem dX0_take_111 : decode cX0_take 111 = .ok (.getfield 49, 3) := by decide +kernel
theorem dX0_take_114 : decode cX0_take 114 = .ok (.iconst 1, 1) := by decide +kernel
theorem dX0_take_115 : decode cX0_take 115 = .ok (.iadd, 1) := by decide +kernel
theorem dX0_take_116 : decode cX0_take 116 = .ok (.putfield 49, 3) := by decide +kernel
theorem dX0_take_119 : decode cX0_take 119 = .ok (.aload_n 0, 1) := by decide +kernel
theorem dX0_take_120 : decode cX0_take 120 = .ok (.dup, 1) := by decide +kernel
theorem dX0_take_121 : decode cX0_take 121 = .ok (.getfield 53, 3) := by decide +kernel
theorem dX0_take_124 : decode cX0_take 124 = .ok (.iconst 1, 1) := by decide +kernel
theorem dX0_take_125 : decode cX0_take 125 = .ok (.iadd, 1) := by decide +kernel
theorem dX0_take_126 : decode cX0_take 126 = .ok (.putfield 53, 3) := by decide +kernel
theorem dX0_take_129 : decode cX0_take 129 = .ok (.aload 6, 2) := by decide +kernel
theorem dX0_take_131 : decode cX0_take 131 = .ok (.getfield 74, 3) := by decide +kernel
theorem dX0_take_134 : decode cX0_take 134 = .ok (.ireturn, 1) := by decide +kernel
theorem dX0_dismiss_0 : decode cX0_dismiss 0 = .ok (.iconst 0, 1) := by decide +kernel
theorem dX0_dismiss_1 : decode cX0_dismiss 1 = .ok (.istore_n 2, 1) := by decide +kernel
theorem dX0_dismiss_2 : decode cX0_dismiss 2 = .ok (.iload_n 2, 1) := by decide +kernel
theorem dX0_dismiss_3 : decode cX0_dismiss 3 = .ok (.iconst 1, 1) := by decide +kernel
theorem dX0_dismiss_4 : decode cX0_dismiss 4 = .ok (.iadd, 1) := by decide +kernel
theorem dX0_dismiss_5 : decode cX0_dismiss 5 = .ok (.aload_n 0, 1) := by decide +kernel
theorem dX0_dismiss_6 : decode cX0_dismiss 6 = .ok (.getfield 19, 3) := by decide +kernel
theorem dX0_dismiss_9 : decode cX0_dismiss 9 = .ok (.arraylength, 1) := by decide +kernel
theorem dX0_dismiss_10 : decode cX0_dismiss 10 = .ok (.if_icmp .ge 42, 3) := by decide +kernel
theorem dX0_dismiss_13 : decode cX0_dismiss 13 = .ok (.aload_n 0, 1) := by decide +kernel
theorem dX0_dismiss_14 : decode cX0_dismiss 14 = .ok (.getfield 19, 3) := by decide +kernel
theorem dX0_dismiss_17 : decode cX0_dismiss 17 = .ok (.iload_n 2, 1) := by decide +kernel
theorem dX0_dismiss_18 : decode cX0_dismiss 18 = .ok (.aaload, 1) := by decide +kernel
theorem dX0_dismiss_19 : decode cX0_dismiss 19 = .ok (.aload_n 1, 1) := by decide +kernel
theorem dX0_dismiss_20 : decode cX0_dismiss 20 = .ok (.if_acmp .ne 26, 3) := by decide +kernel
theorem dX0_dismiss_23 : decode cX0_dismiss 23 = .ok (.aload_n 0, 1) := by decide +kernel
theorem dX0_dismiss_24 : decode cX0_dismiss 24 = .ok (.getfield 19, 3) := by decide +kernel
theorem dX0_dismiss_27 : decode cX0_dismiss 27 = .ok (.iload_n 2, 1) := by decide +kernel
theorem dX0_dismiss_28 : decode cX0_dismiss 28 = .ok (.aload_n 0, 1) := by decide +kernel
theorem dX0_dismiss_29 : decode cX0_dismiss 29 = .ok (.getfield 19, 3) := by decide +kernel
theorem dX0_dismiss_32 : decode cX0_dismiss 32 = .ok (.iload_n 2, 1) := by decide +kernel
theorem dX0_dismiss_33 : decode cX0_dismiss 33 = .ok (.iconst 1, 1) := by decide +kernel
theorem dX0_dismiss_34 : decode cX0_dismiss 34 = .ok (.iadd, 1) := by decide +kernel
theorem dX0_dismiss_35 : decode cX0_dismiss 35 = .ok (.aaload, 1) := by decide +kernel
theorem dX0_dismiss_36 : decode cX0_dismiss 36 = .ok (.aastore, 1) := by decide +kernel
theorem dX0_dismiss_37 : decode cX0_dismiss 37 = .ok (.aload_n 0, 1) := by decide +kernel
theorem dX0_dismiss_38 : decode cX0_dismiss 38 = .ok (.getfield 19, 3) := by decide +kernel
theorem dX0_dismiss_41 : decode cX0_dismiss 41 = .ok (.iload_n 2, 1) := by decide +kernel
theorem dX0_dismiss_42 : decode cX0_dismiss 42 = .ok (.iconst 1, 1) := by decide +kernel
theorem dX0_dismiss_43 : decode cX0_dismiss 43 = .ok (.iadd, 1) := by decide +kernel
theorem dX0_dismiss_44 : decode cX0_dismiss 44 = .ok (.aload_n 1, 1) := by decide +kernel
theorem dX0_dismiss_45 : decode cX0_dismiss 45 = .ok (.aastore, 1) := by decide +kernel
theorem dX0_dismiss_46 : decode cX0_dismiss 46 = .ok (.iinc 2 1, 3) := by decide +kernel
theorem dX0_dismiss_49 : decode cX0_dismiss 49 = .ok (.goto (-47), 3) := by decide +kernel
theorem dX0_dismiss_52 : decode cX0_dismiss 52 = .ok (.aload_n 0, 1) := by decide +kernel
theorem dX0_dismiss_53 : decode cX0_dismiss 53 = .ok (.dup, 1) := by decide +kernel
theorem dX0_dismiss_54 : decode cX0_dismiss 54 = .ok (.getfield 49, 3) := by decide +kernel
theorem dX0_dismiss_57 : decode cX0_dismiss 57 = .ok (.iconst 1, 1) := by decide +kernel
theorem dX0_dismiss_58 : decode cX0_dismiss 58 = .ok (.isub, 1) := by decide +kernel
theorem dX0_dismiss_59 : decode cX0_dismiss 59 = .ok (.putfield 49, 3) := by decide +kernel
theorem dX0_dismiss_62 : decode cX0_dismiss 62 = .ok (.return_, 1) := by decide +kernel
theorem dX0_merit_0 : decode cX0_merit 0 = .ok (.aload_n 0, 1) := by decide +kernel
theorem dX0_merit_1 : decode cX0_merit 1 = .ok (.getfield 30, 3) := by decide +kernel
theorem dX0_merit_4 : decode cX0_merit 4 = .ok (.iconst 0, 1) := by decide +kernel
theorem dX0_merit_5 : decode cX0_merit 5 = .ok (.iaload, 1) := by decide +kernel
theorem dX0_merit_6 : decode cX0_merit 6 = .ok (.lookupswitch 36 #[(1, 26), (2, 31)], 26) := by decide +kernel
theorem dX0_merit_32 : decode cX0_merit 32 = .ok (.aload_n 1, 1) := by decide +kernel
theorem dX0_merit_33 : decode cX0_merit 33 = .ok (.getfield 92, 3) := by decide +kernel
theorem dX0_merit_36 : decode cX0_merit 36 = .ok (.ireturn, 1) := by decide +kernel
theorem dX0_merit_37 : decode cX0_merit 37 = .ok (.aload_n 1, 1) := by decide +kernel
theorem dX0_merit_38 : decode cX0_merit 38 = .ok (.getfield 95, 3) := by decide +kernel
theorem dX0_merit_41 : decode cX0_merit 41 = .ok (.ireturn, 1) := by decide +kernel
theorem dX0_merit_42 : decode cX0_merit 42 = .ok (.iconst 0, 1) := by decide +kernel
theorem dX0_merit_43 : decode cX0_merit 43 = .ok (.ireturn, 1) := by decide +kernel
theorem dX0_choiceOf_0 : decode cX0_choiceOf 0 = .ok (.aconst_null, 1) := by decide +kernel
theorem dX0_choiceOf_1 : decode cX0_choiceOf 1 = .ok (.astore_n 2, 1) := by decide +kernel
theorem dX0_choiceOf_2 : decode cX0_choiceOf 2 = .ok (.iconst 0, 1) := by decide +kernel
theorem dX0_choiceOf_3 : decode cX0_choiceOf 3 = .ok (.istore_n 3, 1) := by decide +kernel
theorem dX0_choiceOf_4 : decode cX0_choiceOf 4 = .ok (.iload_n 3, 1) := by decide +kernel
theorem dX0_choiceOf_5 : decode cX0_choiceOf 5 = .ok (.aload_n 0, 1) := by decide +kernel
theorem dX0_choiceOf_6 : decode cX0_choiceOf 6 = .ok (.getfield 49, 3) := by decide +kernel
theorem dX0_choiceOf_9 : decode cX0_choiceOf 9 = .ok (.if_icmp .ge 59, 3) := by decide +kernel
theorem dX0_choiceOf_12 : decode cX0_choiceOf 12 = .ok (.iload_n 3, 1) := by decide +kernel
theorem dX0_choiceOf_13 : decode cX0_choiceOf 13 = .ok (.aload_n 0, 1) := by decide +kernel
theorem dX0_choiceOf_14 : decode cX0_choiceOf 14 = .ok (.getfield 19, 3) := by decide +kernel
theorem dX0_choiceOf_17 : decode cX0_choiceOf 17 = .ok (.arraylength, 1) := by decide +kernel
theorem dX0_choiceOf_18 : decode cX0_choiceOf 18 = .ok (.if_icmp .ge 50, 3) := by decide +kernel
theorem dX0_choiceOf_21 : decode cX0_choiceOf 21 = .ok (.aload_n 0, 1) := by decide +kernel
theorem dX0_choiceOf_22 : decode cX0_choiceOf 22 = .ok (.getfield 19, 3) := by decide +kernel
theorem dX0_choiceOf_25 : decode cX0_choiceOf 25 = .ok (.iload_n 3, 1) := by decide +kernel
theorem dX0_choiceOf_26 : decode cX0_choiceOf 26 = .ok (.aaload, 1) := by decide +kernel
theorem dX0_choiceOf_27 : decode cX0_choiceOf 27 = .ok (.astore 4, 2) := by decide +kernel
theorem dX0_choiceOf_29 : decode cX0_choiceOf 29 = .ok (.aload 4, 2) := by decide +kernel
theorem dX0_choiceOf_31 : decode cX0_choiceOf 31 = .ok (.getfield 92, 3) := by decide +kernel
theorem dX0_choiceOf_34 : decode cX0_choiceOf 34 = .ok (.aload_n 1, 1) := by decide +kernel
theorem dX0_choiceOf_35 : decode cX0_choiceOf 35 = .ok (.getfield 98, 3) := by decide +kernel
theorem dX0_choiceOf_38 : decode cX0_choiceOf 38 = .ok (.if_icmp .gt 24, 3) := by decide +kernel
theorem dX0_choiceOf_41 : decode cX0_choiceOf 41 = .ok (.aload_n 2, 1) := by decide +kernel
theorem dX0_choiceOf_42 : decode cX0_choiceOf 42 = .ok (.ifnull 17, 3) := by decide +kernel
theorem dX0_choiceOf_45 : decode cX0_choiceOf 45 = .ok (.aload_n 0, 1) := by decide +kernel
theorem dX0_choiceOf_46 : decode cX0_choiceOf 46 = .ok (.aload 4, 2) := by decide +kernel
theorem dX0_choiceOf_48 : decode cX0_choiceOf 48 = .ok (.invokevirtual 99, 3) := by decide +kernel
theorem dX0_choiceOf_51 : decode cX0_choiceOf 51 = .ok (.aload_n 0, 1) := by decide +kernel
theorem dX0_choiceOf_52 : decode cX0_choiceOf 52 = .ok (.aload_n 2, 1) := by decide +kernel
theorem dX0_choiceOf_53 : decode cX0_choiceOf 53 = .ok (.invokevirtual 99, 3) := by decide +kernel
theorem dX0_choiceOf_56 : decode cX0_choiceOf 56 = .ok (.if_icmp .le 6, 3) := by decide +kernel
theorem dX0_choiceOf_59 : decode cX0_choiceOf 59 = .ok (.aload 4, 2) := by decide +kernel
theorem dX0_choiceOf_61 : decode cX0_choiceOf 61 = .ok (.astore_n 2, 1) := by decide +kernel
theorem dX0_choiceOf_62 : decode cX0_choiceOf 62 = .ok (.iinc 3 1, 3) := by decide +kernel
theorem dX0_choiceOf_65 : decode cX0_choiceOf 65 = .ok (.goto (-61), 3) := by decide +kernel
theorem dX0_choiceOf_68 : decode cX0_choiceOf 68 = .ok (.aload_n 2, 1) := by decide +kernel
theorem dX0_choiceOf_69 : decode cX0_choiceOf 69 = .ok (.areturn, 1) := by decide +kernel
theorem dX0_chosenNumber_0 : decode cX0_chosenNumber 0 = .ok (.aload_n 0, 1) := by decide +kernel
theorem dX0_chosenNumber_1 : decode cX0_chosenNumber 1 = .ok (.aload_n 1, 1) := by decide +kernel
theorem dX0_chosenNumber_2 : decode cX0_chosenNumber 2 = .ok (.invokevirtual 103, 3) := by decide +kernel
theorem dX0_chosenNumber_5 : decode cX0_chosenNumber 5 = .ok (.astore_n 2, 1) := by decide +kernel
theorem dX0_chosenNumber_6 : decode cX0_chosenNumber 6 = .ok (.aload_n 2, 1) := by decide +kernel
theorem dX0_chosenNumber_7 : decode cX0_chosenNumber 7 = .ok (.ifnonnull 7, 3) := by decide +kernel
theorem dX0_chosenNumber_10 : decode cX0_chosenNumber 10 = .ok (.iconst (-1), 1) := by decide +kernel
theorem dX0_chosenNumber_11 : decode cX0_chosenNumber 11 = .ok (.goto 7, 3) := by decide +kernel
theorem dX0_chosenNumber_14 : decode cX0_chosenNumber 14 = .ok (.aload_n 2, 1) := by decide +kernel
theorem dX0_chosenNumber_15 : decode cX0_chosenNumber 15 = .ok (.getfield 74, 3) := by decide +kernel
theorem dX0_chosenNumber_18 : decode cX0_chosenNumber 18 = .ok (.ireturn, 1) := by decide +kernel
theorem dX0_hindrance_0 : decode cX0_hindrance 0 = .ok (.aload_n 1, 1) := by decide +kernel
theorem dX0_hindrance_1 : decode cX0_hindrance 1 = .ok (.invokevirtual 107, 3) := by decide +kernel
theorem dX0_hindrance_4 : decode cX0_hindrance 4 = .ok (.ifCond .ne 5, 3) := by decide +kernel
theorem dX0_hindrance_7 : decode cX0_hindrance 7 = .ok (.iconst 1, 1) := by decide +kernel
theorem dX0_hindrance_8 : decode cX0_hindrance 8 = .ok (.ireturn, 1) := by decide +kernel
theorem dX0_hindrance_9 : decode cX0_hindrance 9 = .ok (.aload_n 0, 1) := by decide +kernel
theorem dX0_hindrance_10 : decode cX0_hindrance 10 = .ok (.aload_n 1, 1) := by decide +kernel
theorem dX0_hindrance_11 : decode cX0_hindrance 11 = .ok (.invokevirtual 103, 3) := by decide +kernel
theorem dX0_hindrance_14 : decode cX0_hindrance 14 = .ok (.astore_n 2, 1) := by decide +kernel
theorem dX0_hindrance_15 : decode cX0_hindrance 15 = .ok (.aload_n 2, 1) := by decide +kernel
theorem dX0_hindrance_16 : decode cX0_hindrance 16 = .ok (.ifnonnull 5, 3) := by decide +kernel
theorem dX0_hindrance_19 : decode cX0_hindrance 19 = .ok (.iconst 2, 1) := by decide +kernel
theorem dX0_hindrance_20 : decode cX0_hindrance 20 = .ok (.ireturn, 1) := by decide +kernel
theorem dX0_hindrance_21 : decode cX0_hindrance 21 = .ok (.aload_n 0, 1) := by decide +kernel
theorem dX0_hindrance_22 : decode cX0_hindrance 22 = .ok (.aload_n 1, 1) := by decide +kernel
theorem dX0_hindrance_23 : decode cX0_hindrance 23 = .ok (.aload_n 2, 1) := by decide +kernel
theorem dX0_hindrance_24 : decode cX0_hindrance 24 = .ok (.invokevirtual 111, 3) := by decide +kernel
theorem dX0_hindrance_27 : decode cX0_hindrance 27 = .ok (.ifnonnull 7, 3) := by decide +kernel
theorem dX0_hindrance_30 : decode cX0_hindrance 30 = .ok (.iconst 3, 1) := by decide +kernel
theorem dX0_hindrance_31 : decode cX0_hindrance 31 = .ok (.goto 4, 3) := by decide +kernel
theorem dX0_hindrance_34 : decode cX0_hindrance 34 = .ok (.iconst 0, 1) := by decide +kernel
theorem dX0_hindrance_35 : decode cX0_hindrance 35 = .ok (.ireturn, 1) := by decide +kernel
theorem dX0_sourceOf_0 : decode cX0_sourceOf 0 = .ok (.aload_n 2, 1) := by decide +kernel
theorem dX0_sourceOf_1 : decode cX0_sourceOf 1 = .ok (.invokevirtual 115, 3) := by decide +kernel
theorem dX0_sourceOf_4 : decode cX0_sourceOf 4 = .ok (.istore_n 3, 1) := by decide +kernel
theorem dX0_sourceOf_5 : decode cX0_sourceOf 5 = .ok (.aload_n 1, 1) := by decide +kernel
theorem dX0_sourceOf_6 : decode cX0_sourceOf 6 = .ok (.getfield 119, 3) := by decide +kernel
theorem dX0_sourceOf_9 : decode cX0_sourceOf 9 = .ok (.aload_n 2, 1) := by decide +kernel
theorem dX0_sourceOf_10 : decode cX0_sourceOf 10 = .ok (.getfield 122, 3) := by decide +kernel
theorem dX0_sourceOf_13 : decode cX0_sourceOf 13 = .ok (.invokevirtual 125, 3) := by decide +kernel
theorem dX0_sourceOf_16 : decode cX0_sourceOf 16 = .ok (.iload_n 3, 1) := by decide +kernel
theorem dX0_sourceOf_17 : decode cX0_sourceOf 17 = .ok (.if_icmp .lt 8, 3) := by decide +kernel
theorem dX0_sourceOf_20 : decode cX0_sourceOf 20 = .ok (.aload_n 1, 1) := by decide +kernel
theorem dX0_sourceOf_21 : decode cX0_sourceOf 21 = .ok (.getfield 119, 3) := by decide +kernel
theorem dX0_sourceOf_24 : decode cX0_sourceOf 24 = .ok (.areturn, 1) := by decide +kernel
theorem dX0_sourceOf_25 : decode cX0_sourceOf 25 = .ok (.aload_n 0, 1) := by decide +kernel
theorem dX0_sourceOf_26 : decode cX0_sourceOf 26 = .ok (.getfield 30, 3) := by decide +kernel
theorem dX0_sourceOf_29 : decode cX0_sourceOf 29 = .ok (.iconst 1, 1) := by decide +kernel
theorem dX0_sourceOf_30 : decode cX0_sourceOf 30 = .ok (.iaload, 1) := by decide +kernel
theorem dX0_sourceOf_31 : decode cX0_sourceOf 31 = .ok (.iconst 1, 1) := by decide +kernel
theorem dX0_sourceOf_32 : decode cX0_sourceOf 32 = .ok (.if_icmp .ne 25, 3) := by decide +kernel
theorem dX0_sourceOf_35 : decode cX0_sourceOf 35 = .ok (.aload_n 0, 1) := by decide +kernel
theorem dX0_sourceOf_36 : decode cX0_sourceOf 36 = .ok (.getfield 26, 3) := by decide +kernel
theorem dX0_sourceOf_39 : decode cX0_sourceOf 39 = .ok (.aload_n 2, 1) := by decide +kernel
theorem dX0_sourceOf_40 : decode cX0_sourceOf 40 = .ok (.getfield 122, 3) := by decide +kernel
theorem dX0_sourceOf_43 : decode cX0_sourceOf 43 = .ok (.invokevirtual 125, 3) := by decide +kernel
theorem dX0_sourceOf_46 : decode cX0_sourceOf 46 = .ok (.iload_n 3, 1) := by decide +kernel
theorem dX0_sourceOf_47 : decode cX0_sourceOf 47 = .ok (.if_icmp .lt 10, 3) := by decide +kernel
theorem dX0_sourceOf_50 : decode cX0_sourceOf 50 = .ok (.aload_n 0, 1) := by decide +kernel
theorem dX0_sourceOf_51 : decode cX0_sourceOf 51 = .ok (.getfield 26, 3) := by decide +kernel
theorem dX0_sourceOf_54 : decode cX0_sourceOf 54 = .ok (.goto 4, 3) := by decide +kernel
theorem dX0_sourceOf_57 : decode cX0_sourceOf 57 = .ok (.aconst_null, 1) := by decide +kernel
theorem dX0_sourceOf_58 : decode cX0_sourceOf 58 = .ok (.areturn, 1) := by decide +kernel
theorem dX0_takeYarn_0 : decode cX0_takeYarn 0 = .ok (.aload_n 3, 1) := by decide +kernel
theorem dX0_takeYarn_1 : decode cX0_takeYarn 1 = .ok (.invokevirtual 115, 3) := by decide +kernel
theorem dX0_takeYarn_4 : decode cX0_takeYarn 4 = .ok (.istore 4, 2) := by decide +kernel
theorem dX0_takeYarn_6 : decode cX0_takeYarn 6 = .ok (.aload_n 1, 1) := by decide +kernel
theorem dX0_takeYarn_7 : decode cX0_takeYarn 7 = .ok (.aload_n 3, 1) := by decide +kernel
theorem dX0_takeYarn_8 : decode cX0_takeYarn 8 = .ok (.getfield 122, 3) := by decide +kernel
theorem dX0_takeYarn_11 : decode cX0_takeYarn 11 = .ok (.iload 4, 2) := by decide +kernel
theorem dX0_takeYarn_13 : decode cX0_takeYarn 13 = .ok (.ineg, 1) := by decide +kernel
theorem dX0_takeYarn_14 : decode cX0_takeYarn 14 = .ok (.invokevirtual 128, 3) := by decide +kernel
theorem dX0_takeYarn_17 : decode cX0_takeYarn 17 = .ok (.pop, 1) := by decide +kernel
theorem dX0_takeYarn_18 : decode cX0_takeYarn 18 = .ok (.aload_n 1, 1) := by decide +kernel
theorem dX0_takeYarn_19 : decode cX0_takeYarn 19 = .ok (.aload_n 0, 1) := by decide +kernel
theorem dX0_takeYarn_20 : decode cX0_takeYarn 20 = .ok (.getfield 26, 3) := by decide +kernel
theorem dX0_takeYarn_23 : decode cX0_takeYarn 23 = .ok (.if_acmp .ne 9, 3) := by decide +kernel
theorem dX0_takeYarn_26 : decode cX0_takeYarn 26 = .ok (.aload_n 2, 1) := by decide +kernel
theorem dX0_takeYarn_27 : decode cX0_takeYarn 27 = .ok (.iload 4, 2) := by decide +kernel
theorem dX0_takeYarn_29 : decode cX0_takeYarn 29 = .ok (.invokevirtual 132, 3) := by decide +kernel
theorem dX0_takeYarn_32 : decode cX0_takeYarn 32 = .ok (.aload_n 0, 1) := by decide +kernel
theorem dX0_takeYarn_33 : decode cX0_takeYarn 33 = .ok (.dup, 1) := by decide +kernel
theorem dX0_takeYarn_34 : decode cX0_takeYarn 34 = .ok (.getfield 68, 3) := by decide +kernel
theorem dX0_takeYarn_37 : decode cX0_takeYarn 37 = .ok (.iload 4, 2) := by decide +kernel
theorem dX0_takeYarn_39 : decode cX0_takeYarn 39 = .ok (.iadd, 1) := by decide +kernel
theorem dX0_takeYarn_40 : decode cX0_takeYarn 40 = .ok (.putfield 68, 3) := by decide +kernel
theorem dX0_takeYarn_43 : decode cX0_takeYarn 43 = .ok (.return_, 1) := by decide +kernel
theorem dX0_passHour_0 : decode cX0_passHour 0 = .ok (.iconst 0, 1) := by decide +kernel
theorem dX0_passHour_1 : decode cX0_passHour 1 = .ok (.istore_n 1, 1) := by decide +kernel
theorem dX0_passHour_2 : decode cX0_passHour 2 = .ok (.iconst 0, 1) := by decide +kernel
theorem dX0_passHour_3 : decode cX0_passHour 3 = .ok (.istore_n 2, 1) := by decide +kernel
theorem dX0_passHour_4 : decode cX0_passHour 4 = .ok (.iload_n 2, 1) := by decide +kernel
theorem dX0_passHour_5 : decode cX0_passHour 5 = .ok (.aload_n 0, 1) := by decide +kernel
theorem dX0_passHour_6 : decode cX0_passHour 6 = .ok (.getfield 11, 3) := by decide +kernel
theorem dX0_passHour_9 : decode cX0_passHour 9 = .ok (.arraylength, 1) := by decide +kernel
theorem dX0_passHour_10 : decode cX0_passHour 10 = .ok (.if_icmp .ge 55, 3) := by decide +kernel
theorem dX0_passHour_13 : decode cX0_passHour 13 = .ok (.aload_n 0, 1) := by decide +kernel
theorem dX0_passHour_14 : decode cX0_passHour 14 = .ok (.getfield 11, 3) := by decide +kernel
theorem dX0_passHour_17 : decode cX0_passHour 17 = .ok (.iload_n 2, 1) := by decide +kernel
theorem dX0_passHour_18 : decode cX0_passHour 18 = .ok (.aaload, 1) := by decide +kernel
theorem dX0_passHour_19 : decode cX0_passHour 19 = .ok (.invokevirtual 107, 3) := by decide +kernel
theorem dX0_passHour_22 : decode cX0_passHour 22 = .ok (.ifCond .eq 37, 3) := by decide +kernel
theorem dX0_passHour_25 : decode cX0_passHour 25 = .ok (.aload_n 0, 1) := by decide +kernel
theorem dX0_passHour_26 : decode cX0_passHour 26 = .ok (.aload_n 0, 1) := by decide +kernel
theorem dX0_passHour_27 : decode cX0_passHour 27 = .ok (.getfield 11, 3) := by decide +kernel
theorem dX0_passHour_30 : decode cX0_passHour 30 = .ok (.iload_n 2, 1) := by decide +kernel
theorem dX0_passHour_31 : decode cX0_passHour 31 = .ok (.aaload, 1) := by decide +kernel
theorem dX0_passHour_32 : decode cX0_passHour 32 = .ok (.iload_n 2, 1) := by decide +kernel
theorem dX0_passHour_33 : decode cX0_passHour 33 = .ok (.invokevirtual 136, 3) := by decide +kernel
theorem dX0_passHour_36 : decode cX0_passHour 36 = .ok (.istore_n 3, 1) := by decide +kernel
theorem dX0_passHour_37 : decode cX0_passHour 37 = .ok (.iload_n 1, 1) := by decide +kernel
theorem dX0_passHour_38 : decode cX0_passHour 38 = .ok (.iload_n 3, 1) := by decide +kernel
theorem dX0_passHour_39 : decode cX0_passHour 39 = .ok (.iadd, 1) := by decide +kernel
theorem dX0_passHour_40 : decode cX0_passHour 40 = .ok (.istore_n 1, 1) := by decide +kernel
theorem dX0_passHour_41 : decode cX0_passHour 41 = .ok (.aload_n 0, 1) := by decide +kernel
theorem dX0_passHour_42 : decode cX0_passHour 42 = .ok (.dup, 1) := by decide +kernel
theorem dX0_passHour_43 : decode cX0_passHour 43 = .ok (.getfield 71, 3) := by decide +kernel
theorem dX0_passHour_46 : decode cX0_passHour 46 = .ok (.iload_n 3, 1) := by decide +kernel
theorem dX0_passHour_47 : decode cX0_passHour 47 = .ok (.ifCond .ne 7, 3) := by decide +kernel
theorem dX0_passHour_50 : decode cX0_passHour 50 = .ok (.iconst 1, 1) := by decide +kernel
theorem dX0_passHour_51 : decode cX0_passHour 51 = .ok (.goto 4, 3) := by decide +kernel
theorem dX0_passHour_54 : decode cX0_passHour 54 = .ok (.iconst 0, 1) := by decide +kernel
theorem dX0_passHour_55 : decode cX0_passHour 55 = .ok (.iadd, 1) := by decide +kernel
theorem dX0_passHour_56 : decode cX0_passHour 56 = .ok (.putfield 71, 3) := by decide +kernel
theorem dX0_passHour_59 : decode cX0_passHour 59 = .ok (.iinc 2 1, 3) := by decide +kernel
theorem dX0_passHour_62 : decode cX0_passHour 62 = .ok (.goto (-58), 3) := by decide +kernel
theorem dX0_passHour_65 : decode cX0_passHour 65 = .ok (.aload_n 0, 1) := by decide +kernel
theorem dX0_passHour_66 : decode cX0_passHour 66 = .ok (.dup, 1) := by decide +kernel
theorem dX0_passHour_67 : decode cX0_passHour 67 = .ok (.getfield 56, 3) := by decide +kernel
theorem dX0_passHour_70 : decode cX0_passHour 70 = .ok (.iconst 1, 1) := by decide +kernel
theorem dX0_passHour_71 : decode cX0_passHour 71 = .ok (.iadd, 1) := by decide +kernel
theorem dX0_passHour_72 : decode cX0_passHour 72 = .ok (.putfield 56, 3) := by decide +kernel
theorem dX0_passHour_75 : decode cX0_passHour 75 = .ok (.iload_n 1, 1) := by decide +kernel
theorem dX0_passHour_76 : decode cX0_passHour 76 = .ok (.ireturn, 1) := by decide +kernel
theorem dX0_workLoom_0 : decode cX0_workLoom 0 = .ok (.aload_n 0, 1) := by decide +kernel
theorem dX0_workLoom_1 : decode cX0_workLoom 1 = .ok (.aload_n 1, 1) := by decide +kernel
theorem dX0_workLoom_2 : decode cX0_workLoom 2 = .ok (.invokevirtual 103, 3) := by decide +kernel
theorem dX0_workLoom_5 : decode cX0_workLoom 5 = .ok (.astore_n 3, 1) := by decide +kernel
theorem dX0_workLoom_6 : decode cX0_workLoom 6 = .ok (.aload_n 3, 1) := by decide +kernel
theorem dX0_workLoom_7 : decode cX0_workLoom 7 = .ok (.ifnonnull 5, 3) := by decide +kernel
theorem dX0_workLoom_10 : decode cX0_workLoom 10 = .ok (.iconst 0, 1) := by decide +kernel
theorem dX0_workLoom_11 : decode cX0_workLoom 11 = .ok (.ireturn, 1) := by decide +kernel
theorem dX0_workLoom_12 : decode cX0_workLoom 12 = .ok (.iconst 0, 1) := by decide +kernel
theorem dX0_workLoom_13 : decode cX0_workLoom 13 = .ok (.istore 4, 2) := by decide +kernel
theorem dX0_workLoom_15 : decode cX0_workLoom 15 = .ok (.iconst 0, 1) := by decide +kernel
theorem dX0_workLoom_16 : decode cX0_workLoom 16 = .ok (.istore 5, 2) := by decide +kernel
theorem dX0_workLoom_18 : decode cX0_workLoom 18 = .ok (.iload 5, 2) := by decide +kernel
theorem dX0_workLoom_20 : decode cX0_workLoom 20 = .ok (.aload_n 1, 1) := by decide +kernel
theorem dX0_workLoom_21 : decode cX0_workLoom 21 = .ok (.getfield 140, 3) := by decide +kernel
theorem dX0_workLoom_24 : decode cX0_workLoom 24 = .ok (.if_icmp .ge 55, 3) := by decide +kernel
theorem dX0_workLoom_27 : decode cX0_workLoom 27 = .ok (.aload_n 3, 1) := by decide +kernel
theorem dX0_workLoom_28 : decode cX0_workLoom 28 = .ok (.invokevirtual 143, 3) := by decide +kernel
theorem dX0_workLoom_31 : decode cX0_workLoom 31 = .ok (.ifCond .ne 48, 3) := by decide +kernel
theorem dX0_workLoom_34 : decode cX0_workLoom 34 = .ok (.aload_n 0, 1) := by decide +kernel
theorem dX0_workLoom_35 : decode cX0_workLoom 35 = .ok (.aload_n 1, 1) := by decide +kernel
theorem dX0_workLoom_36 : decode cX0_workLoom 36 = .ok (.aload_n 3, 1) := by decide +kernel
theorem dX0_workLoom_37 : decode cX0_workLoom 37 = .ok (.invokevirtual 111, 3) := by decide +kernel
theorem dX0_workLoom_40 : decode cX0_workLoom 40 = .ok (.astore 6, 2) := by decide +kernel
theorem dX0_workLoom_42 : decode cX0_workLoom 42 = .ok (.aload 6, 2) := by decide +kernel
theorem dX0_workLoom_44 : decode cX0_workLoom 44 = .ok (.ifnonnull 6, 3) := by decide +kernel
theorem dX0_workLoom_47 : decode cX0_workLoom 47 = .ok (.goto 32, 3) := by decide +kernel
theorem dX0_workLoom_50 : decode cX0_workLoom 50 = .ok (.aload_n 0, 1) := by decide +kernel
theorem dX0_workLoom_51 : decode cX0_workLoom 51 = .ok (.aload 6, 2) := by decide +kernel
theorem dX0_workLoom_53 : decode cX0_workLoom 53 = .ok (.aload_n 1, 1) := by decide +kernel
theorem dX0_workLoom_54 : decode cX0_workLoom 54 = .ok (.aload_n 3, 1) := by decide +kernel
theorem dX0_workLoom_55 : decode cX0_workLoom 55 = .ok (.invokevirtual 146, 3) := by decide +kernel
theorem dX0_workLoom_58 : decode cX0_workLoom 58 = .ok (.iinc 4 1, 3) := by decide +kernel
theorem dX0_workLoom_61 : decode cX0_workLoom 61 = .ok (.aload_n 1, 1) := by decide +kernel
theorem dX0_workLoom_62 : decode cX0_workLoom 62 = .ok (.invokevirtual 150, 3) := by decide +kernel
theorem dX0_workLoom_65 : decode cX0_workLoom 65 = .ok (.ifCond .eq 8, 3) := by decide +kernel
theorem dX0_workLoom_68 : decode cX0_workLoom 68 = .ok (.aload_n 3, 1) := by decide +kernel
theorem dX0_workLoom_69 : decode cX0_workLoom 69 = .ok (.iload_n 2, 1) := by decide +kernel
theorem dX0_workLoom_70 : decode cX0_workLoom 70 = .ok (.invokevirtual 153, 3) := by decide +kernel
theorem dX0_workLoom_73 : decode cX0_workLoom 73 = .ok (.iinc 5 1, 3) := by decide +kernel
theorem dX0_workLoom_76 : decode cX0_workLoom 76 = .ok (.goto (-58), 3) := by decide +kernel
theorem dX0_workLoom_79 : decode cX0_workLoom 79 = .ok (.aload_n 3, 1) := by decide +kernel
theorem dX0_workLoom_80 : decode cX0_workLoom 80 = .ok (.invokevirtual 143, 3) := by decide +kernel
theorem dX0_workLoom_83 : decode cX0_workLoom 83 = .ok (.ifCond .eq 8, 3) := by decide +kernel
theorem dX0_workLoom_86 : decode cX0_workLoom 86 = .ok (.aload_n 0, 1) := by decide +kernel
theorem dX0_workLoom_87 : decode cX0_workLoom 87 = .ok (.aload_n 3, 1) := by decide +kernel
theorem dX0_workLoom_88 : decode cX0_workLoom 88 = .ok (.invokevirtual 156, 3) := by decide +kernel
theorem dX0_workLoom_91 : decode cX0_workLoom 91 = .ok (.iload 4, 2) := by decide +kernel
theorem dX0_workLoom_93 : decode cX0_workLoom 93 = .ok (.ireturn, 1) := by decide +kernel
theorem dX0_finish_0 : decode cX0_finish 0 = .ok (.aload_n 1, 1) := by decide +kernel
theorem dX0_finish_1 : decode cX0_finish 1 = .ok (.aload_n 0, 1) := by decide +kernel
theorem dX0_finish_2 : decode cX0_finish 2 = .ok (.getfield 56, 3) := by decide +kernel
theorem dX0_finish_5 : decode cX0_finish 5 = .ok (.invokevirtual 159, 3) := by decide +kernel
theorem dX0_finish_8 : decode cX0_finish 8 = .ok (.istore_n 2, 1) := by decide +kernel
theorem dX0_finish_9 : decode cX0_finish 9 = .ok (.aload_n 1, 1) := by decide +kernel
theorem dX0_finish_10 : decode cX0_finish 10 = .ok (.iload_n 2, 1) := by decide +kernel
theorem dX0_finish_11 : decode cX0_finish 11 = .ok (.aload_n 0, 1) := by decide +kernel
theorem dX0_finish_12 : decode cX0_finish 12 = .ok (.getfield 30, 3) := by decide +kernel
theorem dX0_finish_15 : decode cX0_finish 15 = .ok (.iconst 2, 1) := by decide +kernel
theorem dX0_finish_16 : decode cX0_finish 16 = .ok (.iaload, 1) := by decide +kernel
theorem dX0_finish_17 : decode cX0_finish 17 = .ok (.invokevirtual 162, 3) := by decide +kernel
theorem dX0_finish_20 : decode cX0_finish 20 = .ok (.istore_n 3, 1) := by decide +kernel
theorem dX0_finish_21 : decode cX0_finish 21 = .ok (.aload_n 1, 1) := by decide +kernel
theorem dX0_finish_22 : decode cX0_finish 22 = .ok (.iload_n 3, 1) := by decide +kernel
theorem dX0_finish_23 : decode cX0_finish 23 = .ok (.aload_n 0, 1) := by decide +kernel
theorem dX0_finish_24 : decode cX0_finish 24 = .ok (.getfield 34, 3) := by decide +kernel
theorem dX0_finish_27 : decode cX0_finish 27 = .ok (.invokevirtual 165, 3) := by decide +kernel
theorem dX0_finish_30 : decode cX0_finish 30 = .ok (.iconst 0, 1) := by decide +kernel
theorem dX0_finish_31 : decode cX0_finish 31 = .ok (.istore 4, 2) := by decide +kernel
theorem dX0_finish_33 : decode cX0_finish 33 = .ok (.iload 4, 2) := by decide +kernel
theorem dX0_finish_35 : decode cX0_finish 35 = .ok (.aload_n 0, 1) := by decide +kernel
theorem dX0_finish_36 : decode cX0_finish 36 = .ok (.getfield 11, 3) := by decide +kernel
theorem dX0_finish_39 : decode cX0_finish 39 = .ok (.arraylength, 1) := by decide +kernel
theorem dX0_finish_40 : decode cX0_finish 40 = .ok (.if_icmp .ge 42, 3) := by decide +kernel
theorem dX0_finish_43 : decode cX0_finish 43 = .ok (.iload 4, 2) := by decide +kernel
theorem dX0_finish_45 : decode cX0_finish 45 = .ok (.aload_n 0, 1) := by decide +kernel
theorem dX0_finish_46 : decode cX0_finish 46 = .ok (.getfield 34, 3) := by decide +kernel
theorem dX0_finish_49 : decode cX0_finish 49 = .ok (.arraylength, 1) := by decide +kernel
theorem dX0_finish_50 : decode cX0_finish 50 = .ok (.if_icmp .ge 32, 3) := by decide +kernel
theorem dX0_finish_53 : decode cX0_finish 53 = .ok (.aload_n 0, 1) := by decide +kernel
theorem dX0_finish_54 : decode cX0_finish 54 = .ok (.getfield 11, 3) := by decide +kernel
theorem dX0_finish_57 : decode cX0_finish 57 = .ok (.iload 4, 2) := by decide +kernel
theorem dX0_finish_59 : decode cX0_finish 59 = .ok (.aaload, 1) := by decide +kernel
theorem dX0_finish_60 : decode cX0_finish 60 = .ok (.aload_n 0, 1) := by decide +kernel
theorem dX0_finish_61 : decode cX0_finish 61 = .ok (.getfield 34, 3) := by decide +kernel
theorem dX0_finish_64 : decode cX0_finish 64 = .ok (.iload 4, 2) := by decide +kernel
theorem dX0_finish_66 : decode cX0_finish 66 = .ok (.iaload, 1) := by decide +kernel
theorem dX0_finish_67 : decode cX0_finish 67 = .ok (.aload_n 0, 1) := by decide +kernel
theorem dX0_finish_68 : decode cX0_finish 68 = .ok (.getfield 30, 3) := by decide +kernel
theorem dX0_finish_71 : decode cX0_finish 71 = .ok (.iconst 3, 1) := by decide +kernel
theorem dX0_finish_72 : decode cX0_finish 72 = .ok (.iaload, 1) := by decide +kernel
theorem dX0_finish_73 : decode cX0_finish 73 = .ok (.invokevirtual 169, 3) := by decide +kernel
theorem dX0_finish_76 : decode cX0_finish 76 = .ok (.iinc 4 1, 3) := by decide +kernel
theorem dX0_finish_79 : decode cX0_finish 79 = .ok (.goto (-46), 3) := by decide +kernel
theorem dX0_finish_82 : decode cX0_finish 82 = .ok (.aload_n 0, 1) := by decide +kernel
theorem dX0_finish_83 : decode cX0_finish 83 = .ok (.dup, 1) := by decide +kernel
theorem dX0_finish_84 : decode cX0_finish 84 = .ok (.getfield 65, 3) := by decide +kernel
theorem dX0_finish_87 : decode cX0_finish 87 = .ok (.iload_n 3, 1) := by decide +kernel
theorem dX0_finish_88 : decode cX0_finish 88 = .ok (.iadd, 1) := by decide +kernel
theorem dX0_finish_89 : decode cX0_finish 89 = .ok (.putfield 65, 3) := by decide +kernel
theorem dX0_finish_92 : decode cX0_finish 92 = .ok (.aload_n 0, 1) := by decide +kernel
theorem dX0_finish_93 : decode cX0_finish 93 = .ok (.dup, 1) := by decide +kernel
theorem dX0_finish_94 : decode cX0_finish 94 = .ok (.getfield 59, 3) := by decide +kernel
theorem dX0_finish_97 : decode cX0_finish 97 = .ok (.iconst 1, 1) := by decide +kernel
theorem dX0_finish_98 : decode cX0_finish 98 = .ok (.iadd, 1) := by decide +kernel
theorem dX0_finish_99 : decode cX0_finish 99 = .ok (.putfield 59, 3) := by decide +kernel
theorem dX0_finish_102 : decode cX0_finish 102 = .ok (.aload_n 0, 1) := by decide +kernel
theorem dX0_finish_103 : decode cX0_finish 103 = .ok (.dup, 1) := by decide +kernel
theorem dX0_finish_104 : decode cX0_finish 104 = .ok (.getfield 62, 3) := by decide +kernel
theorem dX0_finish_107 : decode cX0_finish 107 = .ok (.iload_n 2, 1) := by decide +kernel
theorem dX0_finish_108 : decode cX0_finish 108 = .ok (.ifCond .le 7, 3) := by decide +kernel
theorem dX0_finish_111 : decode cX0_finish 111 = .ok (.iconst 1, 1) := by decide +kernel
theorem dX0_finish_112 : decode cX0_finish 112 = .ok (.goto 4, 3) := by decide +kernel
theorem dX0_finish_115 : decode cX0_finish 115 = .ok (.iconst 0, 1) := by decide +kernel
theorem dX0_finish_116 : decode cX0_finish 116 = .ok (.iadd, 1) := by decide +kernel
theorem dX0_finish_117 : decode cX0_finish 117 = .ok (.putfield 62, 3) := by decide +kernel
theorem dX0_finish_120 : decode cX0_finish 120 = .ok (.aload_n 0, 1) := by decide +kernel
theorem dX0_finish_121 : decode cX0_finish 121 = .ok (.aload_n 1, 1) := by decide +kernel
theorem dX0_finish_122 : decode cX0_finish 122 = .ok (.invokevirtual 173, 3) := by decide +kernel
theorem dX0_finish_125 : decode cX0_finish 125 = .ok (.return_, 1) := by decide +kernel
theorem dX0_dueOf_0 : decode cX0_dueOf 0 = .ok (.aload_n 1, 1) := by decide +kernel
theorem dX0_dueOf_1 : decode cX0_dueOf 1 = .ok (.aload_n 1, 1) := by decide +kernel
theorem dX0_dueOf_2 : decode cX0_dueOf 2 = .ok (.aload_n 0, 1) := by decide +kernel
theorem dX0_dueOf_3 : decode cX0_dueOf 3 = .ok (.getfield 56, 3) := by decide +kernel
theorem dX0_dueOf_6 : decode cX0_dueOf 6 = .ok (.invokevirtual 159, 3) := by decide +kernel
theorem dX0_dueOf_9 : decode cX0_dueOf 9 = .ok (.aload_n 0, 1) := by decide +kernel
theorem dX0_dueOf_10 : decode cX0_dueOf 10 = .ok (.getfield 30, 3) := by decide +kernel
theorem dX0_dueOf_13 : decode cX0_dueOf 13 = .ok (.iconst 2, 1) := by decide +kernel
theorem dX0_dueOf_14 : decode cX0_dueOf 14 = .ok (.iaload, 1) := by decide +kernel
theorem dX0_dueOf_15 : decode cX0_dueOf 15 = .ok (.invokevirtual 162, 3) := by decide +kernel
theorem dX0_dueOf_18 : decode cX0_dueOf 18 = .ok (.istore_n 3, 1) := by decide +kernel
theorem dX0_dueOf_19 : decode cX0_dueOf 19 = .ok (.aload_n 1, 1) := by decide +kernel
theorem dX0_dueOf_20 : decode cX0_dueOf 20 = .ok (.iload_n 3, 1) := by decide +kernel
theorem dX0_dueOf_21 : decode cX0_dueOf 21 = .ok (.aload_n 0, 1) := by decide +kernel
theorem dX0_dueOf_22 : decode cX0_dueOf 22 = .ok (.getfield 34, 3) := by decide +kernel
theorem dX0_dueOf_25 : decode cX0_dueOf 25 = .ok (.invokevirtual 165, 3) := by decide +kernel
theorem dX0_dueOf_28 : decode cX0_dueOf 28 = .ok (.iload_n 2, 1) := by decide +kernel
theorem dX0_dueOf_29 : decode cX0_dueOf 29 = .ok (.ifCond .lt 21, 3) := by decide +kernel
theorem dX0_dueOf_32 : decode cX0_dueOf 32 = .ok (.iload_n 2, 1) := by decide +kernel
theorem dX0_dueOf_33 : decode cX0_dueOf 33 = .ok (.aload_n 0, 1) := by decide +kernel
theorem dX0_dueOf_34 : decode cX0_dueOf 34 = .ok (.getfield 34, 3) := by decide +kernel
theorem dX0_dueOf_37 : decode cX0_dueOf 37 = .ok (.arraylength, 1) := by decide +kernel
theorem dX0_dueOf_38 : decode cX0_dueOf 38 = .ok (.if_icmp .ge 12, 3) := by decide +kernel
theorem dX0_dueOf_41 : decode cX0_dueOf 41 = .ok (.aload_n 0, 1) := by decide +kernel
theorem dX0_dueOf_42 : decode cX0_dueOf 42 = .ok (.getfield 34, 3) := by decide +kernel
theorem dX0_dueOf_45 : decode cX0_dueOf 45 = .ok (.iload_n 2, 1) := by decide +kernel
theorem dX0_dueOf_46 : decode cX0_dueOf 46 = .ok (.iaload, 1) := by decide +kernel
theorem dX0_dueOf_47 : decode cX0_dueOf 47 = .ok (.goto 4, 3) := by decide +kernel
theorem dX0_dueOf_50 : decode cX0_dueOf 50 = .ok (.iconst 0, 1) := by decide +kernel
theorem dX0_dueOf_51 : decode cX0_dueOf 51 = .ok (.ireturn, 1) := by decide +kernel
theorem dX0_sumOf_0 : decode cX0_sumOf 0 = .ok (.iconst 0, 1) := by decide +kernel
theorem dX0_sumOf_1 : decode cX0_sumOf 1 = .ok (.istore_n 2, 1) := by decide +kernel
theorem dX0_sumOf_2 : decode cX0_sumOf 2 = .ok (.iconst 0, 1) := by decide +kernel
theorem dX0_sumOf_3 : decode cX0_sumOf 3 = .ok (.istore_n 3, 1) := by decide +kernel
theorem dX0_sumOf_4 : decode cX0_sumOf 4 = .ok (.iload_n 3, 1) := by decide +kernel
theorem dX0_sumOf_5 : decode cX0_sumOf 5 = .ok (.aload_n 0, 1) := by decide +kernel
theorem dX0_sumOf_6 : decode cX0_sumOf 6 = .ok (.getfield 11, 3) := by decide +kernel
theorem dX0_sumOf_9 : decode cX0_sumOf 9 = .ok (.arraylength, 1) := by decide +kernel
theorem dX0_sumOf_10 : decode cX0_sumOf 10 = .ok (.if_icmp .ge 22, 3) := by decide +kernel
theorem dX0_sumOf_13 : decode cX0_sumOf 13 = .ok (.iload_n 2, 1) := by decide +kernel
theorem dX0_sumOf_14 : decode cX0_sumOf 14 = .ok (.aload_n 0, 1) := by decide +kernel
theorem dX0_sumOf_15 : decode cX0_sumOf 15 = .ok (.getfield 11, 3) := by decide +kernel
theorem dX0_sumOf_18 : decode cX0_sumOf 18 = .ok (.iload_n 3, 1) := by decide +kernel
theorem dX0_sumOf_19 : decode cX0_sumOf 19 = .ok (.aaload, 1) := by decide +kernel
theorem dX0_sumOf_20 : decode cX0_sumOf 20 = .ok (.iload_n 1, 1) := by decide +kernel
theorem dX0_sumOf_21 : decode cX0_sumOf 21 = .ok (.invokevirtual 179, 3) := by decide +kernel
theorem dX0_sumOf_24 : decode cX0_sumOf 24 = .ok (.iadd, 1) := by decide +kernel
theorem dX0_sumOf_25 : decode cX0_sumOf 25 = .ok (.istore_n 2, 1) := by decide +kernel
theorem dX0_sumOf_26 : decode cX0_sumOf 26 = .ok (.iinc 3 1, 3) := by decide +kernel
theorem dX0_sumOf_29 : decode cX0_sumOf 29 = .ok (.goto (-25), 3) := by decide +kernel
theorem dX0_sumOf_32 : decode cX0_sumOf 32 = .ok (.iload_n 2, 1) := by decide +kernel
theorem dX0_sumOf_33 : decode cX0_sumOf 33 = .ok (.ireturn, 1) := by decide +kernel
theorem dX0_loomsAsWideAs_0 : decode cX0_loomsAsWideAs 0 = .ok (.iconst 0, 1) := by decide +kernel
theorem dX0_loomsAsWideAs_1 : decode cX0_loomsAsWideAs 1 = .ok (.istore_n 2, 1) := by decide +kernel
theorem dX0_loomsAsWideAs_2 : decode cX0_loomsAsWideAs 2 = .ok (.iconst 0, 1) := by decide +kernel
theorem dX0_loomsAsWideAs_3 : decode cX0_loomsAsWideAs 3 = .ok (.istore_n 3, 1) := by decide +kernel
theorem dX0_loomsAsWideAs_4 : decode cX0_loomsAsWideAs 4 = .ok (.iload_n 3, 1) := by decide +kernel
theorem dX0_loomsAsWideAs_5 : decode cX0_loomsAsWideAs 5 = .ok (.aload_n 0, 1) := by decide +kernel
theorem dX0_loomsAsWideAs_6 : decode cX0_loomsAsWideAs 6 = .ok (.getfield 11, 3) := by decide +kernel
theorem dX0_loomsAsWideAs_9 : decode cX0_loomsAsWideAs 9 = .ok (.arraylength, 1) := by decide +kernel
theorem dX0_loomsAsWideAs_10 : decode cX0_loomsAsWideAs 10 = .ok (.if_icmp .ge 30, 3) := by decide +kernel
theorem dX0_loomsAsWideAs_13 : decode cX0_loomsAsWideAs 13 = .ok (.iload_n 2, 1) := by decide +kernel
theorem dX0_loomsAsWideAs_14 : decode cX0_loomsAsWideAs 14 = .ok (.aload_n 0, 1) := by decide +kernel
theorem dX0_loomsAsWideAs_15 : decode cX0_loomsAsWideAs 15 = .ok (.getfield 11, 3) := by decide +kernel
theorem dX0_loomsAsWideAs_18 : decode cX0_loomsAsWideAs 18 = .ok (.iload_n 3, 1) := by decide +kernel
theorem dX0_loomsAsWideAs_19 : decode cX0_loomsAsWideAs 19 = .ok (.aaload, 1) := by decide +kernel
theorem dX0_loomsAsWideAs_20 : decode cX0_loomsAsWideAs 20 = .ok (.getfield 98, 3) := by decide +kernel
theorem dX0_loomsAsWideAs_23 : decode cX0_loomsAsWideAs 23 = .ok (.iload_n 1, 1) := by decide +kernel
theorem dX0_loomsAsWideAs_24 : decode cX0_loomsAsWideAs 24 = .ok (.if_icmp .lt 7, 3) := by decide +kernel
theorem dX0_loomsAsWideAs_27 : decode cX0_loomsAsWideAs 27 = .ok (.iconst 1, 1) := by decide +kernel
theorem dX0_loomsAsWideAs_28 : decode cX0_loomsAsWideAs 28 = .ok (.goto 4, 3) := by decide +kernel
theorem dX0_loomsAsWideAs_31 : decode cX0_loomsAsWideAs 31 = .ok (.iconst 0, 1) := by decide +kernel
theorem dX0_loomsAsWideAs_32 : decode cX0_loomsAsWideAs 32 = .ok (.iadd, 1) := by decide +kernel
theorem dX0_loomsAsWideAs_33 : decode cX0_loomsAsWideAs 33 = .ok (.istore_n 2, 1) := by decide +kernel
theorem dX0_loomsAsWideAs_34 : decode cX0_loomsAsWideAs 34 = .ok (.iinc 3 1, 3) := by decide +kernel
theorem dX0_loomsAsWideAs_37 : decode cX0_loomsAsWideAs 37 = .ok (.goto (-33), 3) := by decide +kernel
theorem dX0_loomsAsWideAs_40 : decode cX0_loomsAsWideAs 40 = .ok (.iload_n 2, 1) := by decide +kernel
theorem dX0_loomsAsWideAs_41 : decode cX0_loomsAsWideAs 41 = .ok (.ireturn, 1) := by decide +kernel
theorem dX0_number_0 : decode cX0_number 0 = .ok (.iload_n 1, 1) := by decide +kernel
theorem dX0_number_1 : decode cX0_number 1 = .ok (.tableswitch 111 0 9 #[55, 60, 65, 70, 75, 80, 86, 93, 98, 104], 55) := by decide +kernel
theorem dX0_number_56 : decode cX0_number 56 = .ok (.aload_n 0, 1) := by decide +kernel
theorem dX0_number_57 : decode cX0_number 57 = .ok (.getfield 56, 3) := by decide +kernel
theorem dX0_number_60 : decode cX0_number 60 = .ok (.ireturn, 1) := by decide +kernel
theorem dX0_number_61 : decode cX0_number 61 = .ok (.aload_n 0, 1) := by decide +kernel
theorem dX0_number_62 : decode cX0_number 62 = .ok (.getfield 49, 3) := by decide +kernel
theorem dX0_number_65 : decode cX0_number 65 = .ok (.ireturn, 1) := by decide +kernel
theorem dX0_number_66 : decode cX0_number 66 = .ok (.aload_n 0, 1) := by decide +kernel
theorem dX0_number_67 : decode cX0_number 67 = .ok (.getfield 59, 3) := by decide +kernel
theorem dX0_number_70 : decode cX0_number 70 = .ok (.ireturn, 1) := by decide +kernel
theorem dX0_number_71 : decode cX0_number 71 = .ok (.aload_n 0, 1) := by decide +kernel
theorem dX0_number_72 : decode cX0_number 72 = .ok (.getfield 62, 3) := by decide +kernel
theorem dX0_number_75 : decode cX0_number 75 = .ok (.ireturn, 1) := by decide +kernel
theorem dX0_number_76 : decode cX0_number 76 = .ok (.aload_n 0, 1) := by decide +kernel
theorem dX0_number_77 : decode cX0_number 77 = .ok (.getfield 65, 3) := by decide +kernel
theorem dX0_number_80 : decode cX0_number 80 = .ok (.ireturn, 1) := by decide +kernel
theorem dX0_number_81 : decode cX0_number 81 = .ok (.aload_n 0, 1) := by decide +kernel
theorem dX0_number_82 : decode cX0_number 82 = .ok (.iconst 5, 1) := by decide +kernel
theorem dX0_number_83 : decode cX0_number 83 = .ok (.invokevirtual 182, 3) := by decide +kernel
theorem dX0_number_86 : decode cX0_number 86 = .ok (.ireturn, 1) := by decide +kernel
theorem dX0_number_87 : decode cX0_number 87 = .ok (.aload_n 0, 1) := by decide +kernel
theorem dX0_number_88 : decode cX0_number 88 = .ok (.bipush 6, 2) := by decide +kernel
theorem dX0_number_90 : decode cX0_number 90 = .ok (.invokevirtual 182, 3) := by decide +kernel
theorem dX0_number_93 : decode cX0_number 93 = .ok (.ireturn, 1) := by decide +kernel
theorem dX0_number_94 : decode cX0_number 94 = .ok (.aload_n 0, 1) := by decide +kernel
theorem dX0_number_95 : decode cX0_number 95 = .ok (.getfield 68, 3) := by decide +kernel
theorem dX0_number_98 : decode cX0_number 98 = .ok (.ireturn, 1) := by decide +kernel
theorem dX0_number_99 : decode cX0_number 99 = .ok (.aload_n 0, 1) := by decide +kernel
theorem dX0_number_100 : decode cX0_number 100 = .ok (.iconst 3, 1) := by decide +kernel
theorem dX0_number_101 : decode cX0_number 101 = .ok (.invokevirtual 182, 3) := by decide +kernel
theorem dX0_number_104 : decode cX0_number 104 = .ok (.ireturn, 1) := by decide +kernel
theorem dX0_number_105 : decode cX0_number 105 = .ok (.aload_n 0, 1) := by decide +kernel
theorem dX0_number_106 : decode cX0_number 106 = .ok (.bipush 40, 2) := by decide +kernel
theorem dX0_number_108 : decode cX0_number 108 = .ok (.invokevirtual 185, 3) := by decide +kernel
theorem dX0_number_111 : decode cX0_number 111 = .ok (.ireturn, 1) := by decide +kernel
theorem dX0_number_112 : decode cX0_number 112 = .ok (.aload_n 0, 1) := by decide +kernel
theorem dX0_number_113 : decode cX0_number 113 = .ok (.getfield 71, 3) := by decide +kernel
theorem dX0_number_116 : decode cX0_number 116 = .ok (.ireturn, 1) := by decide +kernel
theorem dX0_orderProperty_0 : decode cX0_orderProperty 0 = .ok (.aload_n 0, 1) := by decide +kernel
theorem dX0_orderProperty_1 : decode cX0_orderProperty 1 = .ok (.iload_n 1, 1) := by decide +kernel
theorem dX0_orderProperty_2 : decode cX0_orderProperty 2 = .ok (.invokevirtual 81, 3) := by decide +kernel
theorem dX0_orderProperty_5 : decode cX0_orderProperty 5 = .ok (.astore_n 3, 1) := by decide +kernel
theorem dX0_orderProperty_6 : decode cX0_orderProperty 6 = .ok (.aload_n 3, 1) := by decide +kernel
theorem dX0_orderProperty_7 : decode cX0_orderProperty 7 = .ok (.ifnonnull 5, 3) := by decide +kernel
theorem dX0_orderProperty_10 : decode cX0_orderProperty 10 = .ok (.iconst (-1), 1) := by decide +kernel
theorem dX0_orderProperty_11 : decode cX0_orderProperty 11 = .ok (.ireturn, 1) := by decide +kernel
theorem dX0_orderProperty_12 : decode cX0_orderProperty 12 = .ok (.iload_n 2, 1) := by decide +kernel
theorem dX0_orderProperty_13 : decode cX0_orderProperty 13 = .ok (.tableswitch 97 0 7 #[47, 52, 57, 62, 67, 72, 77, 82], 47) := by decide +kernel
theorem dX0_orderProperty_60 : decode cX0_orderProperty 60 = .ok (.aload_n 3, 1) := by decide +kernel
theorem dX0_orderProperty_61 : decode cX0_orderProperty 61 = .ok (.getfield 74, 3) := by decide +kernel
theorem dX0_orderProperty_64 : decode cX0_orderProperty 64 = .ok (.ireturn, 1) := by decide +kernel
theorem dX0_orderProperty_65 : decode cX0_orderProperty 65 = .ok (.aload_n 3, 1) := by decide +kernel
theorem dX0_orderProperty_66 : decode cX0_orderProperty 66 = .ok (.getfield 122, 3) := by decide +kernel
theorem dX0_orderProperty_69 : decode cX0_orderProperty 69 = .ok (.ireturn, 1) := by decide +kernel
theorem dX0_orderProperty_70 : decode cX0_orderProperty 70 = .ok (.aload_n 3, 1) := by decide +kernel
theorem dX0_orderProperty_71 : decode cX0_orderProperty 71 = .ok (.getfield 92, 3) := by decide +kernel
theorem dX0_orderProperty_74 : decode cX0_orderProperty 74 = .ok (.ireturn, 1) := by decide +kernel
theorem dX0_orderProperty_75 : decode cX0_orderProperty 75 = .ok (.aload_n 3, 1) := by decide +kernel
theorem dX0_orderProperty_76 : decode cX0_orderProperty 76 = .ok (.getfield 188, 3) := by decide +kernel
theorem dX0_orderProperty_79 : decode cX0_orderProperty 79 = .ok (.ireturn, 1) := by decide +kernel
theorem dX0_orderProperty_80 : decode cX0_orderProperty 80 = .ok (.aload_n 3, 1) := by decide +kernel
theorem dX0_orderProperty_81 : decode cX0_orderProperty 81 = .ok (.getfield 95, 3) := by decide +kernel
theorem dX0_orderProperty_84 : decode cX0_orderProperty 84 = .ok (.ireturn, 1) := by decide +kernel
theorem dX0_orderProperty_85 : decode cX0_orderProperty 85 = .ok (.aload_n 3, 1) := by decide +kernel
theorem dX0_orderProperty_86 : decode cX0_orderProperty 86 = .ok (.getfield 89, 3) := by decide +kernel
theorem dX0_orderProperty_89 : decode cX0_orderProperty 89 = .ok (.ireturn, 1) := by decide +kernel
theorem dX0_orderProperty_90 : decode cX0_orderProperty 90 = .ok (.aload_n 3, 1) := by decide +kernel
theorem dX0_orderProperty_91 : decode cX0_orderProperty 91 = .ok (.getfield 191, 3) := by decide +kernel
theorem dX0_orderProperty_94 : decode cX0_orderProperty 94 = .ok (.ireturn, 1) := by decide +kernel
theorem dX0_orderProperty_95 : decode cX0_orderProperty 95 = .ok (.aload_n 3, 1) := by decide +kernel
theorem dX0_orderProperty_96 : decode cX0_orderProperty 96 = .ok (.getfield 188, 3) := by decide +kernel
theorem dX0_orderProperty_99 : decode cX0_orderProperty 99 = .ok (.aload_n 3, 1) := by decide +kernel
theorem dX0_orderProperty_100 : decode cX0_orderProperty 100 = .ok (.getfield 191, 3) := by decide +kernel
theorem dX0_orderProperty_103 : decode cX0_orderProperty 103 = .ok (.isub, 1) := by decide +kernel
theorem dX0_orderProperty_104 : decode cX0_orderProperty 104 = .ok (.aload_n 3, 1) := by decide +kernel
theorem dX0_orderProperty_105 : decode cX0_orderProperty 105 = .ok (.invokevirtual 115, 3) := by decide +kernel
theorem dX0_orderProperty_108 : decode cX0_orderProperty 108 = .ok (.imul, 1) := by decide +kernel
theorem dX0_orderProperty_109 : decode cX0_orderProperty 109 = .ok (.ireturn, 1) := by decide +kernel
theorem dX0_orderProperty_110 : decode cX0_orderProperty 110 = .ok (.aload_n 0, 1) := by decide +kernel
theorem dX0_orderProperty_111 : decode cX0_orderProperty 111 = .ok (.aload_n 3, 1) := by decide +kernel
theorem dX0_orderProperty_112 : decode cX0_orderProperty 112 = .ok (.getfield 92, 3) := by decide +kernel
theorem dX0_orderProperty_115 : decode cX0_orderProperty 115 = .ok (.invokevirtual 185, 3) := by decide +kernel
theorem dX0_orderProperty_118 : decode cX0_orderProperty 118 = .ok (.ireturn, 1) := by decide +kernel
theorem dX0_earnedRatio_0 : decode cX0_earnedRatio 0 = .ok (.iconst 0, 1) := by decide +kernel
theorem dX0_earnedRatio_1 : decode cX0_earnedRatio 1 = .ok (.istore_n 1, 1) := by decide +kernel
theorem dX0_earnedRatio_2 : decode cX0_earnedRatio 2 = .ok (.iconst 0, 1) := by decide +kernel
theorem dX0_earnedRatio_3 : decode cX0_earnedRatio 3 = .ok (.istore_n 2, 1) := by decide +kernel
theorem dX0_earnedRatio_4 : decode cX0_earnedRatio 4 = .ok (.iconst 0, 1) := by decide +kernel
theorem dX0_earnedRatio_5 : decode cX0_earnedRatio 5 = .ok (.istore_n 3, 1) := by decide +kernel
theorem dX0_earnedRatio_6 : decode cX0_earnedRatio 6 = .ok (.iconst 0, 1) := by decide +kernel
theorem dX0_earnedRatio_7 : decode cX0_earnedRatio 7 = .ok (.istore 4, 2) := by decide +kernel
theorem dX0_earnedRatio_9 : decode cX0_earnedRatio 9 = .ok (.iload 4, 2) := by decide +kernel
theorem dX0_earnedRatio_11 : decode cX0_earnedRatio 11 = .ok (.aload_n 0, 1) := by decide +kernel
theorem dX0_earnedRatio_12 : decode cX0_earnedRatio 12 = .ok (.getfield 11, 3) := by decide +kernel
theorem dX0_earnedRatio_15 : decode cX0_earnedRatio 15 = .ok (.arraylength, 1) := by decide +kernel
theorem dX0_earnedRatio_16 : decode cX0_earnedRatio 16 = .ok (.if_icmp .ge 59, 3) := by decide +kernel
theorem dX0_earnedRatio_19 : decode cX0_earnedRatio 19 = .ok (.aload_n 0, 1) := by decide +kernel
theorem dX0_earnedRatio_20 : decode cX0_earnedRatio 20 = .ok (.getfield 11, 3) := by decide +kernel
theorem dX0_earnedRatio_23 : decode cX0_earnedRatio 23 = .ok (.iload 4, 2) := by decide +kernel
theorem dX0_earnedRatio_25 : decode cX0_earnedRatio 25 = .ok (.aaload, 1) := by decide +kernel
theorem dX0_earnedRatio_26 : decode cX0_earnedRatio 26 = .ok (.invokevirtual 107, 3) := by decide +kernel
theorem dX0_earnedRatio_29 : decode cX0_earnedRatio 29 = .ok (.ifCond .eq 40, 3) := by decide +kernel
theorem dX0_earnedRatio_32 : decode cX0_earnedRatio 32 = .ok (.aload_n 0, 1) := by decide +kernel
theorem dX0_earnedRatio_33 : decode cX0_earnedRatio 33 = .ok (.getfield 11, 3) := by decide +kernel
theorem dX0_earnedRatio_36 : decode cX0_earnedRatio 36 = .ok (.iload 4, 2) := by decide +kernel
theorem dX0_earnedRatio_38 : decode cX0_earnedRatio 38 = .ok (.aaload, 1) := by decide +kernel
theorem dX0_earnedRatio_39 : decode cX0_earnedRatio 39 = .ok (.getfield 194, 3) := by decide +kernel
theorem dX0_earnedRatio_42 : decode cX0_earnedRatio 42 = .ok (.istore 5, 2) := by decide +kernel
theorem dX0_earnedRatio_44 : decode cX0_earnedRatio 44 = .ok (.iload_n 1, 1) := by decide +kernel
theorem dX0_earnedRatio_45 : decode cX0_earnedRatio 45 = .ok (.ifCond .eq 12, 3) := by decide +kernel
theorem dX0_earnedRatio_48 : decode cX0_earnedRatio 48 = .ok (.iload_n 2, 1) := by decide +kernel
theorem dX0_earnedRatio_49 : decode cX0_earnedRatio 49 = .ok (.iload 5, 2) := by decide +kernel
theorem dX0_earnedRatio_51 : decode cX0_earnedRatio 51 = .ok (.invokestatic 197, 3) := by decide +kernel
theorem dX0_earnedRatio_54 : decode cX0_earnedRatio 54 = .ok (.goto 5, 3) := by decide +kernel
theorem dX0_earnedRatio_57 : decode cX0_earnedRatio 57 = .ok (.iload 5, 2) := by decide +kernel
theorem dX0_earnedRatio_59 : decode cX0_earnedRatio 59 = .ok (.istore_n 2, 1) := by decide +kernel
theorem dX0_earnedRatio_60 : decode cX0_earnedRatio 60 = .ok (.iload_n 3, 1) := by decide +kernel
theorem dX0_earnedRatio_61 : decode cX0_earnedRatio 61 = .ok (.iload 5, 2) := by decide +kernel
theorem dX0_earnedRatio_63 : decode cX0_earnedRatio 63 = .ok (.invokestatic 202, 3) := by decide +kernel
theorem dX0_earnedRatio_66 : decode cX0_earnedRatio 66 = .ok (.istore_n 3, 1) := by decide +kernel
theorem dX0_earnedRatio_67 : decode cX0_earnedRatio 67 = .ok (.iconst 1, 1) := by decide +kernel
theorem dX0_earnedRatio_68 : decode cX0_earnedRatio 68 = .ok (.istore_n 1, 1) := by decide +kernel
theorem dX0_earnedRatio_69 : decode cX0_earnedRatio 69 = .ok (.iinc 4 1, 3) := by decide +kernel
theorem dX0_earnedRatio_72 : decode cX0_earnedRatio 72 = .ok (.goto (-63), 3) := by decide +kernel
theorem dX0_earnedRatio_75 : decode cX0_earnedRatio 75 = .ok (.iload_n 3, 1) := by decide +kernel
theorem dX0_earnedRatio_76 : decode cX0_earnedRatio 76 = .ok (.ifCond .le 11, 3) := by decide +kernel
theorem dX0_earnedRatio_79 : decode cX0_earnedRatio 79 = .ok (.iload_n 2, 1) := by decide +kernel
theorem dX0_earnedRatio_80 : decode cX0_earnedRatio 80 = .ok (.i2d, 1) := by decide +kernel
theorem dX0_earnedRatio_81 : decode cX0_earnedRatio 81 = .ok (.iload_n 3, 1) := by decide +kernel
theorem dX0_earnedRatio_82 : decode cX0_earnedRatio 82 = .ok (.i2d, 1) := by decide +kernel
theorem dX0_earnedRatio_83 : decode cX0_earnedRatio 83 = .ok (.ddiv, 1) := by decide +kernel
theorem dX0_earnedRatio_84 : decode cX0_earnedRatio 84 = .ok (.goto 4, 3) := by decide +kernel
theorem dX0_earnedRatio_87 : decode cX0_earnedRatio 87 = .ok (.dconst 1, 1) := by decide +kernel
theorem dX0_earnedRatio_88 : decode cX0_earnedRatio 88 = .ok (.dreturn, 1) := by decide +kernel
theorem dX1_init_0 : decode cX1_init 0 = .ok (.aload_n 0, 1) := by decide +kernel
theorem dX1_init_1 : decode cX1_init 1 = .ok (.invokespecial 3, 3) := by decide +kernel
theorem dX1_init_4 : decode cX1_init 4 = .ok (.aload_n 0, 1) := by decide +kernel
theorem dX1_init_5 : decode cX1_init 5 = .ok (.bipush 6, 2) := by decide +kernel
theorem dX1_init_7 : decode cX1_init 7 = .ok (.newarray .int, 2) := by decide +kernel
theorem dX1_init_9 : decode cX1_init 9 = .ok (.putfield 9, 3) := by decide +kernel
theorem dX1_init_12 : decode cX1_init 12 = .ok (.return_, 1) := by decide +kernel
theorem dX1_become_0 : decode cX1_become 0 = .ok (.aload_n 0, 1) := by decide +kernel
theorem dX1_become_1 : decode cX1_become 1 = .ok (.iload_n 1, 1) := by decide +kernel
theorem dX1_become_2 : decode cX1_become 2 = .ok (.putfield 15, 3) := by decide +kernel
theorem dX1_become_5 : decode cX1_become 5 = .ok (.aload_n 0, 1) := by decide +kernel
theorem dX1_become_6 : decode cX1_become 6 = .ok (.iload_n 2, 1) := by decide +kernel
theorem dX1_become_7 : decode cX1_become 7 = .ok (.putfield 19, 3) := by decide +kernel
theorem dX1_become_10 : decode cX1_become 10 = .ok (.aload_n 0, 1) := by decide +kernel
theorem dX1_become_11 : decode cX1_become 11 = .ok (.iload_n 3, 1) := by decide +kernel
theorem dX1_become_12 : decode cX1_become 12 = .ok (.putfield 22, 3) := by decide +kernel
theorem dX1_become_15 : decode cX1_become 15 = .ok (.aload_n 0, 1) := by decide +kernel
theorem dX1_become_16 : decode cX1_become 16 = .ok (.iload 4, 2) := by decide +kernel
theorem dX1_become_18 : decode cX1_become 18 = .ok (.putfield 25, 3) := by decide +kernel
theorem dX1_become_21 : decode cX1_become 21 = .ok (.aload_n 0, 1) := by decide +kernel
theorem dX1_become_22 : decode cX1_become 22 = .ok (.iload 5, 2) := by decide +kernel
theorem dX1_become_24 : decode cX1_become 24 = .ok (.putfield 28, 3) := by decide +kernel
theorem dX1_become_27 : decode cX1_become 27 = .ok (.aload_n 0, 1) := by decide +kernel
theorem dX1_become_28 : decode cX1_become 28 = .ok (.iload 6, 2) := by decide +kernel
theorem dX1_become_30 : decode cX1_become 30 = .ok (.putfield 31, 3) := by decide +kernel
theorem dX1_become_33 : decode cX1_become 33 = .ok (.aload_n 0, 1) := by decide +kernel
theorem dX1_become_34 : decode cX1_become 34 = .ok (.iconst 0, 1) := by decide +kernel
theorem dX1_become_35 : decode cX1_become 35 = .ok (.putfield 34, 3) := by decide +kernel
theorem dX1_become_38 : decode cX1_become 38 = .ok (.iconst 0, 1) := by decide +kernel
theorem dX1_become_39 : decode cX1_become 39 = .ok (.istore 7, 2) := by decide +kernel
theorem dX1_become_41 : decode cX1_become 41 = .ok (.iload 7, 2) := by decide +kernel
theorem dX1_become_43 : decode cX1_become 43 = .ok (.aload_n 0, 1) := by decide +kernel
theorem dX1_become_44 : decode cX1_become 44 = .ok (.getfield 9, 3) := by decide +kernel
theorem dX1_become_47 : decode cX1_become 47 = .ok (.arraylength, 1) := by decide +kernel
theorem dX1_become_48 : decode cX1_become 48 = .ok (.if_icmp .ge 17, 3) := by decide +kernel
theorem dX1_become_51 : decode cX1_become 51 = .ok (.aload_n 0, 1) := by decide +kernel
theorem dX1_become_52 : decode cX1_become 52 = .ok (.getfield 9, 3) := by decide +kernel
theorem dX1_become_55 : decode cX1_become 55 = .ok (.iload 7, 2) := by decide +kernel
theorem dX1_become_57 : decode cX1_become 57 = .ok (.iconst 0, 1) := by decide +kernel
theorem dX1_become_58 : decode cX1_become 58 = .ok (.iastore, 1) := by decide +kernel
theorem dX1_become_59 : decode cX1_become 59 = .ok (.iinc 7 1, 3) := by decide +kernel
theorem dX1_become_62 : decode cX1_become 62 = .ok (.goto (-21), 3) := by decide +kernel
theorem dX1_become_65 : decode cX1_become 65 = .ok (.return_, 1) := by decide +kernel
theorem dX1_gramsEach_0 : decode cX1_gramsEach 0 = .ok (.aload_n 0, 1) := by decide +kernel
theorem dX1_gramsEach_1 : decode cX1_gramsEach 1 = .ok (.getfield 22, 3) := by decide +kernel
theorem dX1_gramsEach_4 : decode cX1_gramsEach 4 = .ok (.bipush 9, 2) := by decide +kernel
theorem dX1_gramsEach_6 : decode cX1_gramsEach 6 = .ok (.iadd, 1) := by decide +kernel
theorem dX1_gramsEach_7 : decode cX1_gramsEach 7 = .ok (.bipush 10, 2) := by decide +kernel
theorem dX1_gramsEach_9 : decode cX1_gramsEach 9 = .ok (.idiv, 1) := by decide +kernel
theorem dX1_gramsEach_10 : decode cX1_gramsEach 10 = .ok (.ireturn, 1) := by decide +kernel
theorem dX1_isDone_0 : decode cX1_isDone 0 = .ok (.aload_n 0, 1) := by decide +kernel
theorem dX1_isDone_1 : decode cX1_isDone 1 = .ok (.getfield 34, 3) := by decide +kernel
theorem dX1_isDone_4 : decode cX1_isDone 4 = .ok (.aload_n 0, 1) := by decide +kernel
theorem dX1_isDone_5 : decode cX1_isDone 5 = .ok (.getfield 25, 3) := by decide +kernel
theorem dX1_isDone_8 : decode cX1_isDone 8 = .ok (.if_icmp .lt 7, 3) := by decide +kernel
theorem dX1_isDone_11 : decode cX1_isDone 11 = .ok (.iconst 1, 1) := by decide +kernel
theorem dX1_isDone_12 : decode cX1_isDone 12 = .ok (.goto 4, 3) := by decide +kernel
theorem dX1_isDone_15 : decode cX1_isDone 15 = .ok (.iconst 0, 1) := by decide +kernel
theorem dX1_isDone_16 : decode cX1_isDone 16 = .ok (.ireturn, 1) := by decide +kernel
theorem dX1_addGood_0 : decode cX1_addGood 0 = .ok (.iload_n 1, 1) := by decide +kernel
theorem dX1_addGood_1 : decode cX1_addGood 1 = .ok (.ifCond .lt 32, 3) := by decide +kernel
theorem dX1_addGood_4 : decode cX1_addGood 4 = .ok (.iload_n 1, 1) := by decide +kernel
theorem dX1_addGood_5 : decode cX1_addGood 5 = .ok (.aload_n 0, 1) := by decide +kernel
theorem dX1_addGood_6 : decode cX1_addGood 6 = .ok (.getfield 9, 3) := by decide +kernel
theorem dX1_addGood_9 : decode cX1_addGood 9 = .ok (.arraylength, 1) := by decide +kernel
theorem dX1_addGood_10 : decode cX1_addGood 10 = .ok (.if_icmp .ge 23, 3) := by decide +kernel
theorem dX1_addGood_13 : decode cX1_addGood 13 = .ok (.aload_n 0, 1) := by decide +kernel
theorem dX1_addGood_14 : decode cX1_addGood 14 = .ok (.getfield 9, 3) := by decide +kernel
theorem dX1_addGood_17 : decode cX1_addGood 17 = .ok (.iload_n 1, 1) := by decide +kernel
theorem dX1_addGood_18 : decode cX1_addGood 18 = .ok (.dup2, 1) := by decide +kernel
theorem dX1_addGood_19 : decode cX1_addGood 19 = .ok (.iaload, 1) := by decide +kernel
theorem dX1_addGood_20 : decode cX1_addGood 20 = .ok (.iconst 1, 1) := by decide +kernel
theorem dX1_addGood_21 : decode cX1_addGood 21 = .ok (.iadd, 1) := by decide +kernel
theorem dX1_addGood_22 : decode cX1_addGood 22 = .ok (.iastore, 1) := by decide +kernel
theorem dX1_addGood_23 : decode cX1_addGood 23 = .ok (.aload_n 0, 1) := by decide +kernel
theorem dX1_addGood_24 : decode cX1_addGood 24 = .ok (.dup, 1) := by decide +kernel
theorem dX1_addGood_25 : decode cX1_addGood 25 = .ok (.getfield 34, 3) := by decide +kernel
theorem dX1_addGood_28 : decode cX1_addGood 28 = .ok (.iconst 1, 1) := by decide +kernel
theorem dX1_addGood_29 : decode cX1_addGood 29 = .ok (.iadd, 1) := by decide +kernel
theorem dX1_addGood_30 : decode cX1_addGood 30 = .ok (.putfield 34, 3) := by decide +kernel
theorem dX1_addGood_33 : decode cX1_addGood 33 = .ok (.return_, 1) := by decide +kernel
theorem dX1_lateHours_0 : decode cX1_lateHours 0 = .ok (.iload_n 1, 1) := by decide +kernel
theorem dX1_lateHours_1 : decode cX1_lateHours 1 = .ok (.aload_n 0, 1) := by decide +kernel
theorem dX1_lateHours_2 : decode cX1_lateHours 2 = .ok (.getfield 31, 3) := by decide +kernel
theorem dX1_lateHours_5 : decode cX1_lateHours 5 = .ok (.if_icmp .le 12, 3) := by decide +kernel
theorem dX1_lateHours_8 : decode cX1_lateHours 8 = .ok (.iload_n 1, 1) := by decide +kernel
theorem dX1_lateHours_9 : decode cX1_lateHours 9 = .ok (.aload_n 0, 1) := by decide +kernel
theorem dX1_lateHours_10 : decode cX1_lateHours 10 = .ok (.getfield 31, 3) := by decide +kernel
theorem dX1_lateHours_13 : decode cX1_lateHours 13 = .ok (.isub, 1) := by decide +kernel
theorem dX1_lateHours_14 : decode cX1_lateHours 14 = .ok (.goto 4, 3) := by decide +kernel
theorem dX1_lateHours_17 : decode cX1_lateHours 17 = .ok (.iconst 0, 1) := by decide +kernel
theorem dX1_lateHours_18 : decode cX1_lateHours 18 = .ok (.ireturn, 1) := by decide +kernel
theorem dX1_payFor_0 : decode cX1_payFor 0 = .ok (.aload_n 0, 1) := by decide +kernel
theorem dX1_payFor_1 : decode cX1_payFor 1 = .ok (.getfield 28, 3) := by decide +kernel
theorem dX1_payFor_4 : decode cX1_payFor 4 = .ok (.aload_n 0, 1) := by decide +kernel
theorem dX1_payFor_5 : decode cX1_payFor 5 = .ok (.getfield 34, 3) := by decide +kernel
theorem dX1_payFor_8 : decode cX1_payFor 8 = .ok (.imul, 1) := by decide +kernel
theorem dX1_payFor_9 : decode cX1_payFor 9 = .ok (.istore_n 3, 1) := by decide +kernel
theorem dX1_payFor_10 : decode cX1_payFor 10 = .ok (.iload_n 3, 1) := by decide +kernel
theorem dX1_payFor_11 : decode cX1_payFor 11 = .ok (.i2l, 1) := by decide +kernel
theorem dX1_payFor_12 : decode cX1_payFor 12 = .ok (.iload_n 1, 1) := by decide +kernel
theorem dX1_payFor_13 : decode cX1_payFor 13 = .ok (.i2l, 1) := by decide +kernel
theorem dX1_payFor_14 : decode cX1_payFor 14 = .ok (.lmul, 1) := by decide +kernel
theorem dX1_payFor_15 : decode cX1_payFor 15 = .ok (.iload_n 2, 1) := by decide +kernel
theorem dX1_payFor_16 : decode cX1_payFor 16 = .ok (.i2l, 1) := by decide +kernel
theorem dX1_payFor_17 : decode cX1_payFor 17 = .ok (.lmul, 1) := by decide +kernel
theorem dX1_payFor_18 : decode cX1_payFor 18 = .ok (.ldc2_w 37, 3) := by decide +kernel
theorem dX1_payFor_21 : decode cX1_payFor 21 = .ok (.ldiv, 1) := by decide +kernel
theorem dX1_payFor_22 : decode cX1_payFor 22 = .ok (.lstore 4, 2) := by decide +kernel
theorem dX1_payFor_24 : decode cX1_payFor 24 = .ok (.lload 4, 2) := by decide +kernel
theorem dX1_payFor_26 : decode cX1_payFor 26 = .ok (.iload_n 3, 1) := by decide +kernel
theorem dX1_payFor_27 : decode cX1_payFor 27 = .ok (.i2l, 1) := by decide +kernel
theorem dX1_payFor_28 : decode cX1_payFor 28 = .ok (.lcmp, 1) := by decide +kernel
theorem dX1_payFor_29 : decode cX1_payFor 29 = .ok (.ifCond .ge 11, 3) := by decide +kernel
theorem dX1_payFor_32 : decode cX1_payFor 32 = .ok (.iload_n 3, 1) := by decide +kernel
theorem dX1_payFor_33 : decode cX1_payFor 33 = .ok (.lload 4, 2) := by decide +kernel
theorem dX1_payFor_35 : decode cX1_payFor 35 = .ok (.l2i, 1) := by decide +kernel
theorem dX1_payFor_36 : decode cX1_payFor 36 = .ok (.isub, 1) := by decide +kernel
theorem dX1_payFor_37 : decode cX1_payFor 37 = .ok (.goto 4, 3) := by decide +kernel
theorem dX1_payFor_40 : decode cX1_payFor 40 = .ok (.iconst 0, 1) := by decide +kernel
theorem dX1_payFor_41 : decode cX1_payFor 41 = .ok (.ireturn, 1) := by decide +kernel
theorem dX1_divide_0 : decode cX1_divide 0 = .ok (.iload_n 1, 1) := by decide +kernel
theorem dX1_divide_1 : decode cX1_divide 1 = .ok (.istore_n 3, 1) := by decide +kernel
theorem dX1_divide_2 : decode cX1_divide 2 = .ok (.iconst 0, 1) := by decide +kernel
theorem dX1_divide_3 : decode cX1_divide 3 = .ok (.istore 4, 2) := by decide +kernel
theorem dX1_divide_5 : decode cX1_divide 5 = .ok (.iconst 0, 1) := by decide +kernel
theorem dX1_divide_6 : decode cX1_divide 6 = .ok (.istore 5, 2) := by decide +kernel
theorem dX1_divide_8 : decode cX1_divide 8 = .ok (.iload 5, 2) := by decide +kernel
theorem dX1_divide_10 : decode cX1_divide 10 = .ok (.aload_n 0, 1) := by decide +kernel
theorem dX1_divide_11 : decode cX1_divide 11 = .ok (.getfield 9, 3) := by decide +kernel
theorem dX1_divide_14 : decode cX1_divide 14 = .ok (.arraylength, 1) := by decide +kernel
theorem dX1_divide_15 : decode cX1_divide 15 = .ok (.if_icmp .ge 73, 3) := by decide +kernel
theorem dX1_divide_18 : decode cX1_divide 18 = .ok (.iload 5, 2) := by decide +kernel
theorem dX1_divide_20 : decode cX1_divide 20 = .ok (.aload_n 2, 1) := by decide +kernel
theorem dX1_divide_21 : decode cX1_divide 21 = .ok (.arraylength, 1) := by decide +kernel
theorem dX1_divide_22 : decode cX1_divide 22 = .ok (.if_icmp .ge 66, 3) := by decide +kernel
theorem dX1_divide_25 : decode cX1_divide 25 = .ok (.aload_n 2, 1) := by decide +kernel
theorem dX1_divide_26 : decode cX1_divide 26 = .ok (.iload 5, 2) := by decide +kernel
theorem dX1_divide_28 : decode cX1_divide 28 = .ok (.aload_n 0, 1) := by decide +kernel
theorem dX1_divide_29 : decode cX1_divide 29 = .ok (.getfield 34, 3) := by decide +kernel
theorem dX1_divide_32 : decode cX1_divide 32 = .ok (.ifCond .le 20, 3) := by decide +kernel
theorem dX1_divide_35 : decode cX1_divide 35 = .ok (.iload_n 1, 1) := by decide +kernel
theorem dX1_divide_36 : decode cX1_divide 36 = .ok (.aload_n 0, 1) := by decide +kernel
theorem dX1_divide_37 : decode cX1_divide 37 = .ok (.getfield 9, 3) := by decide +kernel
theorem dX1_divide_40 : decode cX1_divide 40 = .ok (.iload 5, 2) := by decide +kernel
theorem dX1_divide_42 : decode cX1_divide 42 = .ok (.iaload, 1) := by decide +kernel
theorem dX1_divide_43 : decode cX1_divide 43 = .ok (.imul, 1) := by decide +kernel
theorem dX1_divide_44 : decode cX1_divide 44 = .ok (.aload_n 0, 1) := by decide +kernel
theorem dX1_divide_45 : decode cX1_divide 45 = .ok (.getfield 34, 3) := by decide +kernel
theorem dX1_divide_48 : decode cX1_divide 48 = .ok (.idiv, 1) := by decide +kernel
theorem dX1_divide_49 : decode cX1_divide 49 = .ok (.goto 4, 3) := by decide +kernel
theorem dX1_divide_52 : decode cX1_divide 52 = .ok (.iconst 0, 1) := by decide +kernel
theorem dX1_divide_53 : decode cX1_divide 53 = .ok (.iastore, 1) := by decide +kernel
theorem dX1_divide_54 : decode cX1_divide 54 = .ok (.iload_n 3, 1) := by decide +kernel
theorem dX1_divide_55 : decode cX1_divide 55 = .ok (.aload_n 2, 1) := by decide +kernel
theorem dX1_divide_56 : decode cX1_divide 56 = .ok (.iload 5, 2) := by decide +kernel
theorem dX1_divide_58 : decode cX1_divide 58 = .ok (.iaload, 1) := by decide +kernel
theorem dX1_divide_59 : decode cX1_divide 59 = .ok (.isub, 1) := by decide +kernel
theorem dX1_divide_60 : decode cX1_divide 60 = .ok (.istore_n 3, 1) := by decide +kernel
theorem dX1_divide_61 : decode cX1_divide 61 = .ok (.aload_n 0, 1) := by decide +kernel
theorem dX1_divide_62 : decode cX1_divide 62 = .ok (.getfield 9, 3) := by decide +kernel
theorem dX1_divide_65 : decode cX1_divide 65 = .ok (.iload 5, 2) := by decide +kernel
theorem dX1_divide_67 : decode cX1_divide 67 = .ok (.iaload, 1) := by decide +kernel
theorem dX1_divide_68 : decode cX1_divide 68 = .ok (.aload_n 0, 1) := by decide +kernel
theorem dX1_divide_69 : decode cX1_divide 69 = .ok (.getfield 9, 3) := by decide +kernel
theorem dX1_divide_72 : decode cX1_divide 72 = .ok (.iload 4, 2) := by decide +kernel
theorem dX1_divide_74 : decode cX1_divide 74 = .ok (.iaload, 1) := by decide +kernel
theorem dX1_divide_75 : decode cX1_divide 75 = .ok (.if_icmp .le 7, 3) := by decide +kernel
theorem dX1_divide_78 : decode cX1_divide 78 = .ok (.iload 5, 2) := by decide +kernel
theorem dX1_divide_80 : decode cX1_divide 80 = .ok (.istore 4, 2) := by decide +kernel
theorem dX1_divide_82 : decode cX1_divide 82 = .ok (.iinc 5 1, 3) := by decide +kernel
theorem dX1_divide_85 : decode cX1_divide 85 = .ok (.goto (-77), 3) := by decide +kernel
theorem dX1_divide_88 : decode cX1_divide 88 = .ok (.iload 4, 2) := by decide +kernel
theorem dX1_divide_90 : decode cX1_divide 90 = .ok (.aload_n 2, 1) := by decide +kernel
theorem dX1_divide_91 : decode cX1_divide 91 = .ok (.arraylength, 1) := by decide +kernel
theorem dX1_divide_92 : decode cX1_divide 92 = .ok (.if_icmp .ge 11, 3) := by decide +kernel
theorem dX1_divide_95 : decode cX1_divide 95 = .ok (.aload_n 2, 1) := by decide +kernel
theorem dX1_divide_96 : decode cX1_divide 96 = .ok (.iload 4, 2) := by decide +kernel
theorem dX1_divide_98 : decode cX1_divide 98 = .ok (.dup2, 1) := by decide +kernel
theorem dX1_divide_99 : decode cX1_divide 99 = .ok (.iaload, 1) := by decide +kernel
theorem dX1_divide_100 : decode cX1_divide 100 = .ok (.iload_n 3, 1) := by decide +kernel
theorem dX1_divide_101 : decode cX1_divide 101 = .ok (.iadd, 1) := by decide +kernel
theorem dX1_divide_102 : decode cX1_divide 102 = .ok (.iastore, 1) := by decide +kernel
theorem dX1_divide_103 : decode cX1_divide 103 = .ok (.return_, 1) := by decide +kernel
theorem dX1_copyFrom_0 : decode cX1_copyFrom 0 = .ok (.iconst 0, 1) := by decide +kernel
theorem dX1_copyFrom_1 : decode cX1_copyFrom 1 = .ok (.istore_n 2, 1) := by decide +kernel
theorem dX1_copyFrom_2 : decode cX1_copyFrom 2 = .ok (.iload_n 2, 1) := by decide +kernel
theorem dX1_copyFrom_3 : decode cX1_copyFrom 3 = .ok (.aload_n 0, 1) := by decide +kernel
theorem dX1_copyFrom_4 : decode cX1_copyFrom 4 = .ok (.getfield 9, 3) := by decide +kernel
theorem dX1_copyFrom_7 : decode cX1_copyFrom 7 = .ok (.arraylength, 1) := by decide +kernel
theorem dX1_copyFrom_8 : decode cX1_copyFrom 8 = .ok (.if_icmp .ge 30, 3) := by decide +kernel
theorem dX1_copyFrom_11 : decode cX1_copyFrom 11 = .ok (.iload_n 2, 1) := by decide +kernel
theorem dX1_copyFrom_12 : decode cX1_copyFrom 12 = .ok (.aload_n 1, 1) := by decide +kernel
theorem dX1_copyFrom_13 : decode cX1_copyFrom 13 = .ok (.getfield 9, 3) := by decide +kernel
theorem dX1_copyFrom_16 : decode cX1_copyFrom 16 = .ok (.arraylength, 1) := by decide +kernel
theorem dX1_copyFrom_17 : decode cX1_copyFrom 17 = .ok (.if_icmp .ge 21, 3) := by decide +kernel
theorem dX1_copyFrom_20 : decode cX1_copyFrom 20 = .ok (.aload_n 0, 1) := by decide +kernel
theorem dX1_copyFrom_21 : decode cX1_copyFrom 21 = .ok (.getfield 9, 3) := by decide +kernel
theorem dX1_copyFrom_24 : decode cX1_copyFrom 24 = .ok (.iload_n 2, 1) := by decide +kernel
theorem dX1_copyFrom_25 : decode cX1_copyFrom 25 = .ok (.aload_n 1, 1) := by decide +kernel
theorem dX1_copyFrom_26 : decode cX1_copyFrom 26 = .ok (.getfield 9, 3) := by decide +kernel
theorem dX1_copyFrom_29 : decode cX1_copyFrom 29 = .ok (.iload_n 2, 1) := by decide +kernel
theorem dX1_copyFrom_30 : decode cX1_copyFrom 30 = .ok (.iaload, 1) := by decide +kernel
theorem dX1_copyFrom_31 : decode cX1_copyFrom 31 = .ok (.iastore, 1) := by decide +kernel
theorem dX1_copyFrom_32 : decode cX1_copyFrom 32 = .ok (.iinc 2 1, 3) := by decide +kernel
theorem dX1_copyFrom_35 : decode cX1_copyFrom 35 = .ok (.goto (-33), 3) := by decide +kernel
theorem dX1_copyFrom_38 : decode cX1_copyFrom 38 = .ok (.aload_n 0, 1) := by decide +kernel
theorem dX1_copyFrom_39 : decode cX1_copyFrom 39 = .ok (.aload_n 1, 1) := by decide +kernel
theorem dX1_copyFrom_40 : decode cX1_copyFrom 40 = .ok (.getfield 15, 3) := by decide +kernel
theorem dX1_copyFrom_43 : decode cX1_copyFrom 43 = .ok (.putfield 15, 3) := by decide +kernel
theorem dX1_copyFrom_46 : decode cX1_copyFrom 46 = .ok (.aload_n 0, 1) := by decide +kernel
theorem dX1_copyFrom_47 : decode cX1_copyFrom 47 = .ok (.aload_n 1, 1) := by decide +kernel
theorem dX1_copyFrom_48 : decode cX1_copyFrom 48 = .ok (.getfield 19, 3) := by decide +kernel
theorem dX1_copyFrom_51 : decode cX1_copyFrom 51 = .ok (.putfield 19, 3) := by decide +kernel
theorem dX1_copyFrom_54 : decode cX1_copyFrom 54 = .ok (.aload_n 0, 1) := by decide +kernel
theorem dX1_copyFrom_55 : decode cX1_copyFrom 55 = .ok (.aload_n 1, 1) := by decide +kernel
theorem dX1_copyFrom_56 : decode cX1_copyFrom 56 = .ok (.getfield 22, 3) := by decide +kernel
theorem dX1_copyFrom_59 : decode cX1_copyFrom 59 = .ok (.putfield 22, 3) := by decide +kernel
theorem dX1_copyFrom_62 : decode cX1_copyFrom 62 = .ok (.aload_n 0, 1) := by decide +kernel
theorem dX1_copyFrom_63 : decode cX1_copyFrom 63 = .ok (.aload_n 1, 1) := by decide +kernel
theorem dX1_copyFrom_64 : decode cX1_copyFrom 64 = .ok (.getfield 25, 3) := by decide +kernel
theorem dX1_copyFrom_67 : decode cX1_copyFrom 67 = .ok (.putfield 25, 3) := by decide +kernel
theorem dX1_copyFrom_70 : decode cX1_copyFrom 70 = .ok (.aload_n 0, 1) := by decide +kernel
theorem dX1_copyFrom_71 : decode cX1_copyFrom 71 = .ok (.aload_n 1, 1) := by decide +kernel
theorem dX1_copyFrom_72 : decode cX1_copyFrom 72 = .ok (.getfield 28, 3) := by decide +kernel
theorem dX1_copyFrom_75 : decode cX1_copyFrom 75 = .ok (.putfield 28, 3) := by decide +kernel
theorem dX1_copyFrom_78 : decode cX1_copyFrom 78 = .ok (.aload_n 0, 1) := by decide +kernel
theorem dX1_copyFrom_79 : decode cX1_copyFrom 79 = .ok (.aload_n 1, 1) := by decide +kernel
theorem dX1_copyFrom_80 : decode cX1_copyFrom 80 = .ok (.getfield 31, 3) := by decide +kernel
theorem dX1_copyFrom_83 : decode cX1_copyFrom 83 = .ok (.putfield 31, 3) := by decide +kernel
theorem dX1_copyFrom_86 : decode cX1_copyFrom 86 = .ok (.aload_n 0, 1) := by decide +kernel
theorem dX1_copyFrom_87 : decode cX1_copyFrom 87 = .ok (.aload_n 1, 1) := by decide +kernel
theorem dX1_copyFrom_88 : decode cX1_copyFrom 88 = .ok (.getfield 34, 3) := by decide +kernel
theorem dX1_copyFrom_91 : decode cX1_copyFrom 91 = .ok (.putfield 34, 3) := by decide +kernel
theorem dX1_copyFrom_94 : decode cX1_copyFrom 94 = .ok (.return_, 1) := by decide +kernel
theorem dX2_init_0 : decode cX2_init 0 = .ok (.aload_n 0, 1) := by decide +kernel
theorem dX2_init_1 : decode cX2_init 1 = .ok (.invokespecial 3, 3) := by decide +kernel
theorem dX2_init_4 : decode cX2_init 4 = .ok (.aload_n 0, 1) := by decide +kernel
theorem dX2_init_5 : decode cX2_init 5 = .ok (.iconst 5, 1) := by decide +kernel
theorem dX2_init_6 : decode cX2_init 6 = .ok (.newarray .int, 2) := by decide +kernel
theorem dX2_init_8 : decode cX2_init 8 = .ok (.putfield 9, 3) := by decide +kernel
theorem dX2_init_11 : decode cX2_init 11 = .ok (.return_, 1) := by decide +kernel
theorem dX3_init_0 : decode cX3_init 0 = .ok (.aload_n 0, 1) := by decide +kernel
theorem dX3_init_1 : decode cX3_init 1 = .ok (.invokespecial 3, 3) := by decide +kernel
theorem dX3_init_4 : decode cX3_init 4 = .ok (.aload_n 0, 1) := by decide +kernel
theorem dX3_init_5 : decode cX3_init 5 = .ok (.new 9, 3) := by decide +kernel
theorem dX3_init_8 : decode cX3_init 8 = .ok (.dup, 1) := by decide +kernel
theorem dX3_init_9 : decode cX3_init 9 = .ok (.invokespecial 11, 3) := by decide +kernel
theorem dX3_init_12 : decode cX3_init 12 = .ok (.putfield 12, 3) := by decide +kernel
theorem dX3_init_15 : decode cX3_init 15 = .ok (.return_, 1) := by decide +kernel
theorem dX3_hasLoom_0 : decode cX3_hasLoom 0 = .ok (.aload_n 0, 1) := by decide +kernel
theorem dX3_hasLoom_1 : decode cX3_hasLoom 1 = .ok (.getfield 18, 3) := by decide +kernel
theorem dX3_hasLoom_4 : decode cX3_hasLoom 4 = .ok (.ifCond .le 7, 3) := by decide +kernel
theorem dX3_hasLoom_7 : decode cX3_hasLoom 7 = .ok (.iconst 1, 1) := by decide +kernel
theorem dX3_hasLoom_8 : decode cX3_hasLoom 8 = .ok (.goto 4, 3) := by decide +kernel
theorem dX3_hasLoom_11 : decode cX3_hasLoom 11 = .ok (.iconst 0, 1) := by decide +kernel
theorem dX3_hasLoom_12 : decode cX3_hasLoom 12 = .ok (.ireturn, 1) := by decide +kernel
theorem dX3_borrow_0 : decode cX3_borrow 0 = .ok (.aload_n 0, 1) := by decide +kernel
theorem dX3_borrow_1 : decode cX3_borrow 1 = .ok (.dup, 1) := by decide +kernel
theorem dX3_borrow_2 : decode cX3_borrow 2 = .ok (.getfield 22, 3) := by decide +kernel
theorem dX3_borrow_5 : decode cX3_borrow 5 = .ok (.iload_n 1, 1) := by decide +kernel
theorem dX3_borrow_6 : decode cX3_borrow 6 = .ok (.iadd, 1) := by decide +kernel
theorem dX3_borrow_7 : decode cX3_borrow 7 = .ok (.putfield 22, 3) := by decide +kernel
theorem dX3_borrow_10 : decode cX3_borrow 10 = .ok (.aload_n 0, 1) := by decide +kernel
theorem dX3_borrow_11 : decode cX3_borrow 11 = .ok (.dup, 1) := by decide +kernel
theorem dX3_borrow_12 : decode cX3_borrow 12 = .ok (.getfield 25, 3) := by decide +kernel
theorem dX3_borrow_15 : decode cX3_borrow 15 = .ok (.iload_n 1, 1) := by decide +kernel
theorem dX3_borrow_16 : decode cX3_borrow 16 = .ok (.iadd, 1) := by decide +kernel
theorem dX3_borrow_17 : decode cX3_borrow 17 = .ok (.putfield 25, 3) := by decide +kernel
theorem dX3_borrow_20 : decode cX3_borrow 20 = .ok (.return_, 1) := by decide +kernel
theorem dX3_weavesGood_0 : decode cX3_weavesGood 0 = .ok (.aload_n 0, 1) := by decide +kernel
theorem dX3_weavesGood_1 : decode cX3_weavesGood 1 = .ok (.dup, 1) := by decide +kernel
theorem dX3_weavesGood_2 : decode cX3_weavesGood 2 = .ok (.getfield 28, 3) := by decide +kernel
theorem dX3_weavesGood_5 : decode cX3_weavesGood 5 = .ok (.iconst 1, 1) := by decide +kernel
theorem dX3_weavesGood_6 : decode cX3_weavesGood 6 = .ok (.iadd, 1) := by decide +kernel
theorem dX3_weavesGood_7 : decode cX3_weavesGood 7 = .ok (.putfield 28, 3) := by decide +kernel
theorem dX3_weavesGood_10 : decode cX3_weavesGood 10 = .ok (.aload_n 0, 1) := by decide +kernel
theorem dX3_weavesGood_11 : decode cX3_weavesGood 11 = .ok (.getfield 31, 3) := by decide +kernel
theorem dX3_weavesGood_14 : decode cX3_weavesGood 14 = .ok (.ifCond .le 27, 3) := by decide +kernel
theorem dX3_weavesGood_17 : decode cX3_weavesGood 17 = .ok (.aload_n 0, 1) := by decide +kernel
theorem dX3_weavesGood_18 : decode cX3_weavesGood 18 = .ok (.getfield 28, 3) := by decide +kernel
theorem dX3_weavesGood_21 : decode cX3_weavesGood 21 = .ok (.aload_n 0, 1) := by decide +kernel
theorem dX3_weavesGood_22 : decode cX3_weavesGood 22 = .ok (.getfield 31, 3) := by decide +kernel
theorem dX3_weavesGood_25 : decode cX3_weavesGood 25 = .ok (.irem, 1) := by decide +kernel
theorem dX3_weavesGood_26 : decode cX3_weavesGood 26 = .ok (.ifCond .ne 15, 3) := by decide +kernel
theorem dX3_weavesGood_29 : decode cX3_weavesGood 29 = .ok (.aload_n 0, 1) := by decide +kernel
theorem dX3_weavesGood_30 : decode cX3_weavesGood 30 = .ok (.dup, 1) := by decide +kernel
theorem dX3_weavesGood_31 : decode cX3_weavesGood 31 = .ok (.getfield 34, 3) := by decide +kernel
theorem dX3_weavesGood_34 : decode cX3_weavesGood 34 = .ok (.iconst 1, 1) := by decide +kernel
theorem dX3_weavesGood_35 : decode cX3_weavesGood 35 = .ok (.iadd, 1) := by decide +kernel
theorem dX3_weavesGood_36 : decode cX3_weavesGood 36 = .ok (.putfield 34, 3) := by decide +kernel
theorem dX3_weavesGood_39 : decode cX3_weavesGood 39 = .ok (.iconst 0, 1) := by decide +kernel
theorem dX3_weavesGood_40 : decode cX3_weavesGood 40 = .ok (.ireturn, 1) := by decide +kernel
theorem dX3_weavesGood_41 : decode cX3_weavesGood 41 = .ok (.iconst 1, 1) := by decide +kernel
theorem dX3_weavesGood_42 : decode cX3_weavesGood 42 = .ok (.ireturn, 1) := by decide +kernel
theorem dX3_receive_0 : decode cX3_receive 0 = .ok (.iload_n 2, 1) := by decide +kernel
theorem dX3_receive_1 : decode cX3_receive 1 = .ok (.ifCond .le 16, 3) := by decide +kernel
theorem dX3_receive_4 : decode cX3_receive 4 = .ok (.aload_n 0, 1) := by decide +kernel
theorem dX3_receive_5 : decode cX3_receive 5 = .ok (.getfield 22, 3) := by decide +kernel
theorem dX3_receive_8 : decode cX3_receive 8 = .ok (.iload_n 1, 1) := by decide +kernel
theorem dX3_receive_9 : decode cX3_receive 9 = .ok (.iload_n 2, 1) := by decide +kernel
theorem dX3_receive_10 : decode cX3_receive 10 = .ok (.idiv, 1) := by decide +kernel
theorem dX3_receive_11 : decode cX3_receive 11 = .ok (.invokestatic 37, 3) := by decide +kernel
theorem dX3_receive_14 : decode cX3_receive 14 = .ok (.goto 7, 3) := by decide +kernel
theorem dX3_receive_17 : decode cX3_receive 17 = .ok (.aload_n 0, 1) := by decide +kernel
theorem dX3_receive_18 : decode cX3_receive 18 = .ok (.getfield 22, 3) := by decide +kernel
theorem dX3_receive_21 : decode cX3_receive 21 = .ok (.istore_n 3, 1) := by decide +kernel
theorem dX3_receive_22 : decode cX3_receive 22 = .ok (.aload_n 0, 1) := by decide +kernel
theorem dX3_receive_23 : decode cX3_receive 23 = .ok (.dup, 1) := by decide +kernel
theorem dX3_receive_24 : decode cX3_receive 24 = .ok (.getfield 22, 3) := by decide +kernel
theorem dX3_receive_27 : decode cX3_receive 27 = .ok (.iload_n 3, 1) := by decide +kernel
theorem dX3_receive_28 : decode cX3_receive 28 = .ok (.isub, 1) := by decide +kernel
theorem dX3_receive_29 : decode cX3_receive 29 = .ok (.putfield 22, 3) := by decide +kernel
theorem dX3_receive_32 : decode cX3_receive 32 = .ok (.aload_n 0, 1) := by decide +kernel
theorem dX3_receive_33 : decode cX3_receive 33 = .ok (.dup, 1) := by decide +kernel
theorem dX3_receive_34 : decode cX3_receive 34 = .ok (.getfield 43, 3) := by decide +kernel
theorem dX3_receive_37 : decode cX3_receive 37 = .ok (.iload_n 1, 1) := by decide +kernel
theorem dX3_receive_38 : decode cX3_receive 38 = .ok (.iload_n 3, 1) := by decide +kernel
theorem dX3_receive_39 : decode cX3_receive 39 = .ok (.iload_n 2, 1) := by decide +kernel
theorem dX3_receive_40 : decode cX3_receive 40 = .ok (.imul, 1) := by decide +kernel
theorem dX3_receive_41 : decode cX3_receive 41 = .ok (.isub, 1) := by decide +kernel
theorem dX3_receive_42 : decode cX3_receive 42 = .ok (.iadd, 1) := by decide +kernel
theorem dX3_receive_43 : decode cX3_receive 43 = .ok (.putfield 43, 3) := by decide +kernel
theorem dX3_receive_46 : decode cX3_receive 46 = .ok (.return_, 1) := by decide +kernel
theorem dX3_property_0 : decode cX3_property 0 = .ok (.iload_n 1, 1) := by decide +kernel
theorem dX3_property_1 : decode cX3_property 1 = .ok (.tableswitch 78 0 6 #[43, 48, 53, 58, 63, 68, 73], 43) := by decide +kernel
theorem dX3_property_44 : decode cX3_property 44 = .ok (.aload_n 0, 1) := by decide +kernel
theorem dX3_property_45 : decode cX3_property 45 = .ok (.getfield 18, 3) := by decide +kernel
theorem dX3_property_48 : decode cX3_property 48 = .ok (.ireturn, 1) := by decide +kernel
theorem dX3_property_49 : decode cX3_property 49 = .ok (.aload_n 0, 1) := by decide +kernel
theorem dX3_property_50 : decode cX3_property 50 = .ok (.getfield 46, 3) := by decide +kernel
theorem dX3_property_53 : decode cX3_property 53 = .ok (.ireturn, 1) := by decide +kernel
theorem dX3_property_54 : decode cX3_property 54 = .ok (.aload_n 0, 1) := by decide +kernel
theorem dX3_property_55 : decode cX3_property 55 = .ok (.getfield 31, 3) := by decide +kernel
theorem dX3_property_58 : decode cX3_property 58 = .ok (.ireturn, 1) := by decide +kernel
theorem dX3_property_59 : decode cX3_property 59 = .ok (.aload_n 0, 1) := by decide +kernel
theorem dX3_property_60 : decode cX3_property 60 = .ok (.getfield 22, 3) := by decide +kernel
theorem dX3_property_63 : decode cX3_property 63 = .ok (.ireturn, 1) := by decide +kernel
theorem dX3_property_64 : decode cX3_property 64 = .ok (.aload_n 0, 1) := by decide +kernel
theorem dX3_property_65 : decode cX3_property 65 = .ok (.getfield 43, 3) := by decide +kernel
theorem dX3_property_68 : decode cX3_property 68 = .ok (.ireturn, 1) := by decide +kernel
theorem dX3_property_69 : decode cX3_property 69 = .ok (.aload_n 0, 1) := by decide +kernel
theorem dX3_property_70 : decode cX3_property 70 = .ok (.getfield 28, 3) := by decide +kernel
theorem dX3_property_73 : decode cX3_property 73 = .ok (.ireturn, 1) := by decide +kernel
theorem dX3_property_74 : decode cX3_property 74 = .ok (.aload_n 0, 1) := by decide +kernel
theorem dX3_property_75 : decode cX3_property 75 = .ok (.getfield 34, 3) := by decide +kernel
theorem dX3_property_78 : decode cX3_property 78 = .ok (.ireturn, 1) := by decide +kernel
theorem dX3_property_79 : decode cX3_property 79 = .ok (.aload_n 0, 1) := by decide +kernel
theorem dX3_property_80 : decode cX3_property 80 = .ok (.getfield 25, 3) := by decide +kernel
theorem dX3_property_83 : decode cX3_property 83 = .ok (.ireturn, 1) := by decide +kernel
theorem dX3_copyFrom_0 : decode cX3_copyFrom 0 = .ok (.aload_n 0, 1) := by decide +kernel
theorem dX3_copyFrom_1 : decode cX3_copyFrom 1 = .ok (.getfield 12, 3) := by decide +kernel
theorem dX3_copyFrom_4 : decode cX3_copyFrom 4 = .ok (.aload_n 1, 1) := by decide +kernel
theorem dX3_copyFrom_5 : decode cX3_copyFrom 5 = .ok (.getfield 12, 3) := by decide +kernel
theorem dX3_copyFrom_8 : decode cX3_copyFrom 8 = .ok (.invokevirtual 49, 3) := by decide +kernel
theorem dX3_copyFrom_11 : decode cX3_copyFrom 11 = .ok (.aload_n 0, 1) := by decide +kernel
theorem dX3_copyFrom_12 : decode cX3_copyFrom 12 = .ok (.aload_n 1, 1) := by decide +kernel
theorem dX3_copyFrom_13 : decode cX3_copyFrom 13 = .ok (.getfield 18, 3) := by decide +kernel
theorem dX3_copyFrom_16 : decode cX3_copyFrom 16 = .ok (.putfield 18, 3) := by decide +kernel
theorem dX3_copyFrom_19 : decode cX3_copyFrom 19 = .ok (.aload_n 0, 1) := by decide +kernel
theorem dX3_copyFrom_20 : decode cX3_copyFrom 20 = .ok (.aload_n 1, 1) := by decide +kernel
theorem dX3_copyFrom_21 : decode cX3_copyFrom 21 = .ok (.getfield 46, 3) := by decide +kernel
theorem dX3_copyFrom_24 : decode cX3_copyFrom 24 = .ok (.putfield 46, 3) := by decide +kernel
theorem dX3_copyFrom_27 : decode cX3_copyFrom 27 = .ok (.aload_n 0, 1) := by decide +kernel
theorem dX3_copyFrom_28 : decode cX3_copyFrom 28 = .ok (.aload_n 1, 1) := by decide +kernel
theorem dX3_copyFrom_29 : decode cX3_copyFrom 29 = .ok (.getfield 31, 3) := by decide +kernel
theorem dX3_copyFrom_32 : decode cX3_copyFrom 32 = .ok (.putfield 31, 3) := by decide +kernel
theorem dX3_copyFrom_35 : decode cX3_copyFrom 35 = .ok (.aload_n 0, 1) := by decide +kernel
theorem dX3_copyFrom_36 : decode cX3_copyFrom 36 = .ok (.aload_n 1, 1) := by decide +kernel
theorem dX3_copyFrom_37 : decode cX3_copyFrom 37 = .ok (.getfield 22, 3) := by decide +kernel
theorem dX3_copyFrom_40 : decode cX3_copyFrom 40 = .ok (.putfield 22, 3) := by decide +kernel
theorem dX3_copyFrom_43 : decode cX3_copyFrom 43 = .ok (.aload_n 0, 1) := by decide +kernel
theorem dX3_copyFrom_44 : decode cX3_copyFrom 44 = .ok (.aload_n 1, 1) := by decide +kernel
theorem dX3_copyFrom_45 : decode cX3_copyFrom 45 = .ok (.getfield 43, 3) := by decide +kernel
theorem dX3_copyFrom_48 : decode cX3_copyFrom 48 = .ok (.putfield 43, 3) := by decide +kernel
theorem dX3_copyFrom_51 : decode cX3_copyFrom 51 = .ok (.aload_n 0, 1) := by decide +kernel
theorem dX3_copyFrom_52 : decode cX3_copyFrom 52 = .ok (.aload_n 1, 1) := by decide +kernel
theorem dX3_copyFrom_53 : decode cX3_copyFrom 53 = .ok (.getfield 28, 3) := by decide +kernel
theorem dX3_copyFrom_56 : decode cX3_copyFrom 56 = .ok (.putfield 28, 3) := by decide +kernel
theorem dX3_copyFrom_59 : decode cX3_copyFrom 59 = .ok (.aload_n 0, 1) := by decide +kernel
theorem dX3_copyFrom_60 : decode cX3_copyFrom 60 = .ok (.aload_n 1, 1) := by decide +kernel
theorem dX3_copyFrom_61 : decode cX3_copyFrom 61 = .ok (.getfield 34, 3) := by decide +kernel
theorem dX3_copyFrom_64 : decode cX3_copyFrom 64 = .ok (.putfield 34, 3) := by decide +kernel
theorem dX3_copyFrom_67 : decode cX3_copyFrom 67 = .ok (.aload_n 0, 1) := by decide +kernel
theorem dX3_copyFrom_68 : decode cX3_copyFrom 68 = .ok (.aload_n 1, 1) := by decide +kernel
theorem dX3_copyFrom_69 : decode cX3_copyFrom 69 = .ok (.getfield 25, 3) := by decide +kernel
theorem dX3_copyFrom_72 : decode cX3_copyFrom 72 = .ok (.putfield 25, 3) := by decide +kernel
theorem dX3_copyFrom_75 : decode cX3_copyFrom 75 = .ok (.return_, 1) := by decide +kernel
theorem dX4_init_0 : decode cX4_init 0 = .ok (.aload_n 0, 1) := by decide +kernel
theorem dX4_init_1 : decode cX4_init 1 = .ok (.invokespecial 3, 3) := by decide +kernel
theorem dX4_init_4 : decode cX4_init 4 = .ok (.aload_n 0, 1) := by decide +kernel
theorem dX4_init_5 : decode cX4_init 5 = .ok (.iconst 4, 1) := by decide +kernel
theorem dX4_init_6 : decode cX4_init 6 = .ok (.newarray .int, 2) := by decide +kernel
theorem dX4_init_8 : decode cX4_init 8 = .ok (.putfield 9, 3) := by decide +kernel
theorem dX4_init_11 : decode cX4_init 11 = .ok (.return_, 1) := by decide +kernel
theorem dX4_of_0 : decode cX4_of 0 = .ok (.iload_n 1, 1) := by decide +kernel
theorem dX4_of_1 : decode cX4_of 1 = .ok (.ifCond .lt 21, 3) := by decide +kernel
theorem dX4_of_4 : decode cX4_of 4 = .ok (.iload_n 1, 1) := by decide +kernel
theorem dX4_of_5 : decode cX4_of 5 = .ok (.aload_n 0, 1) := by decide +kernel
theorem dX4_of_6 : decode cX4_of 6 = .ok (.getfield 9, 3) := by decide +kernel
theorem dX4_of_9 : decode cX4_of 9 = .ok (.arraylength, 1) := by decide +kernel
theorem dX4_of_10 : decode cX4_of 10 = .ok (.if_icmp .ge 12, 3) := by decide +kernel
theorem dX4_of_13 : decode cX4_of 13 = .ok (.aload_n 0, 1) := by decide +kernel
theorem dX4_of_14 : decode cX4_of 14 = .ok (.getfield 9, 3) := by decide +kernel
theorem dX4_of_17 : decode cX4_of 17 = .ok (.iload_n 1, 1) := by decide +kernel
theorem dX4_of_18 : decode cX4_of 18 = .ok (.iaload, 1) := by decide +kernel
theorem dX4_of_19 : decode cX4_of 19 = .ok (.goto 4, 3) := by decide +kernel
theorem dX4_of_22 : decode cX4_of 22 = .ok (.iconst 0, 1) := by decide +kernel
theorem dX4_of_23 : decode cX4_of 23 = .ok (.ireturn, 1) := by decide +kernel
theorem dX4_add_0 : decode cX4_add 0 = .ok (.iload_n 1, 1) := by decide +kernel
theorem dX4_add_1 : decode cX4_add 1 = .ok (.ifCond .lt 12, 3) := by decide +kernel
theorem dX4_add_4 : decode cX4_add 4 = .ok (.iload_n 1, 1) := by decide +kernel
theorem dX4_add_5 : decode cX4_add 5 = .ok (.aload_n 0, 1) := by decide +kernel
theorem dX4_add_6 : decode cX4_add 6 = .ok (.getfield 9, 3) := by decide +kernel
theorem dX4_add_9 : decode cX4_add 9 = .ok (.arraylength, 1) := by decide +kernel
theorem dX4_add_10 : decode cX4_add 10 = .ok (.if_icmp .lt 5, 3) := by decide +kernel
theorem dX4_add_13 : decode cX4_add 13 = .ok (.iconst 0, 1) := by decide +kernel
theorem dX4_add_14 : decode cX4_add 14 = .ok (.ireturn, 1) := by decide +kernel
theorem dX4_add_15 : decode cX4_add 15 = .ok (.aload_n 0, 1) := by decide +kernel
theorem dX4_add_16 : decode cX4_add 16 = .ok (.getfield 9, 3) := by decide +kernel
theorem dX4_add_19 : decode cX4_add 19 = .ok (.iload_n 1, 1) := by decide +kernel
theorem dX4_add_20 : decode cX4_add 20 = .ok (.dup2, 1) := by decide +kernel
theorem dX4_add_21 : decode cX4_add 21 = .ok (.iaload, 1) := by decide +kernel
theorem dX4_add_22 : decode cX4_add 22 = .ok (.iload_n 2, 1) := by decide +kernel
theorem dX4_add_23 : decode cX4_add 23 = .ok (.iadd, 1) := by decide +kernel
theorem dX4_add_24 : decode cX4_add 24 = .ok (.iastore, 1) := by decide +kernel
theorem dX4_add_25 : decode cX4_add 25 = .ok (.aload_n 0, 1) := by decide +kernel
theorem dX4_add_26 : decode cX4_add 26 = .ok (.getfield 9, 3) := by decide +kernel
theorem dX4_add_29 : decode cX4_add 29 = .ok (.iload_n 1, 1) := by decide +kernel
theorem dX4_add_30 : decode cX4_add 30 = .ok (.iaload, 1) := by decide +kernel
theorem dX4_add_31 : decode cX4_add 31 = .ok (.ireturn, 1) := by decide +kernel
theorem dX4_copyFrom_0 : decode cX4_copyFrom 0 = .ok (.iconst 0, 1) := by decide +kernel
theorem dX4_copyFrom_1 : decode cX4_copyFrom 1 = .ok (.istore_n 2, 1) := by decide +kernel
theorem dX4_copyFrom_2 : decode cX4_copyFrom 2 = .ok (.iload_n 2, 1) := by decide +kernel
theorem dX4_copyFrom_3 : decode cX4_copyFrom 3 = .ok (.aload_n 0, 1) := by decide +kernel
theorem dX4_copyFrom_4 : decode cX4_copyFrom 4 = .ok (.getfield 9, 3) := by decide +kernel
theorem dX4_copyFrom_7 : decode cX4_copyFrom 7 = .ok (.arraylength, 1) := by decide +kernel
theorem dX4_copyFrom_8 : decode cX4_copyFrom 8 = .ok (.if_icmp .ge 30, 3) := by decide +kernel
theorem dX4_copyFrom_11 : decode cX4_copyFrom 11 = .ok (.iload_n 2, 1) := by decide +kernel
theorem dX4_copyFrom_12 : decode cX4_copyFrom 12 = .ok (.aload_n 1, 1) := by decide +kernel
theorem dX4_copyFrom_13 : decode cX4_copyFrom 13 = .ok (.getfield 9, 3) := by decide +kernel
theorem dX4_copyFrom_16 : decode cX4_copyFrom 16 = .ok (.arraylength, 1) := by decide +kernel
theorem dX4_copyFrom_17 : decode cX4_copyFrom 17 = .ok (.if_icmp .ge 21, 3) := by decide +kernel
theorem dX4_copyFrom_20 : decode cX4_copyFrom 20 = .ok (.aload_n 0, 1) := by decide +kernel
theorem dX4_copyFrom_21 : decode cX4_copyFrom 21 = .ok (.getfield 9, 3) := by decide +kernel
theorem dX4_copyFrom_24 : decode cX4_copyFrom 24 = .ok (.iload_n 2, 1) := by decide +kernel
theorem dX4_copyFrom_25 : decode cX4_copyFrom 25 = .ok (.aload_n 1, 1) := by decide +kernel
theorem dX4_copyFrom_26 : decode cX4_copyFrom 26 = .ok (.getfield 9, 3) := by decide +kernel
theorem dX4_copyFrom_29 : decode cX4_copyFrom 29 = .ok (.iload_n 2, 1) := by decide +kernel
theorem dX4_copyFrom_30 : decode cX4_copyFrom 30 = .ok (.iaload, 1) := by decide +kernel
theorem dX4_copyFrom_31 : decode cX4_copyFrom 31 = .ok (.iastore, 1) := by decide +kernel
theorem dX4_copyFrom_32 : decode cX4_copyFrom 32 = .ok (.iinc 2 1, 3) := by decide +kernel
theorem dX4_copyFrom_35 : decode cX4_copyFrom 35 = .ok (.goto (-33), 3) := by decide +kernel
theorem dX4_copyFrom_38 : decode cX4_copyFrom 38 = .ok (.return_, 1) := by decide +kernel
theorem dX5_init_0 : decode cX5_init 0 = .ok (.aload_n 0, 1) := by decide +kernel
theorem dX5_init_1 : decode cX5_init 1 = .ok (.invokespecial 1, 3) := by decide +kernel
theorem dX5_init_4 : decode cX5_init 4 = .ok (.aload_n 0, 1) := by decide +kernel
theorem dX5_init_5 : decode cX5_init 5 = .ok (.new 7, 3) := by decide +kernel
theorem dX5_init_8 : decode cX5_init 8 = .ok (.dup, 1) := by decide +kernel
theorem dX5_init_9 : decode cX5_init 9 = .ok (.invokespecial 9, 3) := by decide +kernel
theorem dX5_init_12 : decode cX5_init 12 = .ok (.putfield 10, 3) := by decide +kernel
theorem dX5_init_15 : decode cX5_init 15 = .ok (.aload_n 0, 1) := by decide +kernel
theorem dX5_init_16 : decode cX5_init 16 = .ok (.new 7, 3) := by decide +kernel
theorem dX5_init_19 : decode cX5_init 19 = .ok (.dup, 1) := by decide +kernel
theorem dX5_init_20 : decode cX5_init 20 = .ok (.invokespecial 9, 3) := by decide +kernel
theorem dX5_init_23 : decode cX5_init 23 = .ok (.putfield 16, 3) := by decide +kernel
theorem dX5_init_26 : decode cX5_init 26 = .ok (.aload_n 0, 1) := by decide +kernel
theorem dX5_init_27 : decode cX5_init 27 = .ok (.bipush 6, 2) := by decide +kernel
theorem dX5_init_29 : decode cX5_init 29 = .ok (.anewarray 7, 3) := by decide +kernel
theorem dX5_init_32 : decode cX5_init 32 = .ok (.putfield 19, 3) := by decide +kernel
theorem dX5_init_35 : decode cX5_init 35 = .ok (.aload_n 0, 1) := by decide +kernel
theorem dX5_init_36 : decode cX5_init 36 = .ok (.bipush 60, 2) := by decide +kernel
theorem dX5_init_38 : decode cX5_init 38 = .ok (.newarray .int, 2) := by decide +kernel
theorem dX5_init_40 : decode cX5_init 40 = .ok (.putfield 23, 3) := by decide +kernel
theorem dX5_init_43 : decode cX5_init 43 = .ok (.aload_n 0, 1) := by decide +kernel
theorem dX5_init_44 : decode cX5_init 44 = .ok (.new 27, 3) := by decide +kernel
theorem dX5_init_47 : decode cX5_init 47 = .ok (.dup, 1) := by decide +kernel
theorem dX5_init_48 : decode cX5_init 48 = .ok (.invokespecial 29, 3) := by decide +kernel
theorem dX5_init_51 : decode cX5_init 51 = .ok (.putfield 30, 3) := by decide +kernel
theorem dX5_init_54 : decode cX5_init 54 = .ok (.aload_n 0, 1) := by decide +kernel
theorem dX5_init_55 : decode cX5_init 55 = .ok (.bipush 10, 2) := by decide +kernel
theorem dX5_init_57 : decode cX5_init 57 = .ok (.newarray .int, 2) := by decide +kernel
theorem dX5_init_59 : decode cX5_init 59 = .ok (.putfield 34, 3) := by decide +kernel
theorem dX5_init_62 : decode cX5_init 62 = .ok (.iconst 0, 1) := by decide +kernel
theorem dX5_init_63 : decode cX5_init 63 = .ok (.istore_n 1, 1) := by decide +kernel
theorem dX5_init_64 : decode cX5_init 64 = .ok (.iload_n 1, 1) := by decide +kernel
theorem dX5_init_65 : decode cX5_init 65 = .ok (.aload_n 0, 1) := by decide +kernel
theorem dX5_init_66 : decode cX5_init 66 = .ok (.getfield 19, 3) := by decide +kernel
theorem dX5_init_69 : decode cX5_init 69 = .ok (.arraylength, 1) := by decide +kernel
theorem dX5_init_70 : decode cX5_init 70 = .ok (.if_icmp .ge 22, 3) := by decide +kernel
theorem dX5_init_73 : decode cX5_init 73 = .ok (.aload_n 0, 1) := by decide +kernel
theorem dX5_init_74 : decode cX5_init 74 = .ok (.getfield 19, 3) := by decide +kernel
theorem dX5_init_77 : decode cX5_init 77 = .ok (.iload_n 1, 1) := by decide +kernel
theorem dX5_init_78 : decode cX5_init 78 = .ok (.new 7, 3) := by decide +kernel
theorem dX5_init_81 : decode cX5_init 81 = .ok (.dup, 1) := by decide +kernel
theorem dX5_init_82 : decode cX5_init 82 = .ok (.invokespecial 9, 3) := by decide +kernel
theorem dX5_init_85 : decode cX5_init 85 = .ok (.aastore, 1) := by decide +kernel
theorem dX5_init_86 : decode cX5_init 86 = .ok (.iinc 1 1, 3) := by decide +kernel
theorem dX5_init_89 : decode cX5_init 89 = .ok (.goto (-25), 3) := by decide +kernel
theorem dX5_init_92 : decode cX5_init 92 = .ok (.return_, 1) := by decide +kernel
theorem dX5_loom_0 : decode cX5_loom 0 = .ok (.iload_n 1, 1) := by decide +kernel
theorem dX5_loom_1 : decode cX5_loom 1 = .ok (.iconst 0, 1) := by decide +kernel
theorem dX5_loom_2 : decode cX5_loom 2 = .ok (.iconst 5, 1) := by decide +kernel
theorem dX5_loom_3 : decode cX5_loom 3 = .ok (.invokestatic 37, 3) := by decide +kernel
theorem dX5_loom_6 : decode cX5_loom 6 = .ok (.ifCond .ne 13, 3) := by decide +kernel
theorem dX5_loom_9 : decode cX5_loom 9 = .ok (.new 41, 3) := by decide +kernel
theorem dX5_loom_12 : decode cX5_loom 12 = .ok (.dup, 1) := by decide +kernel
theorem dX5_loom_13 : decode cX5_loom 13 = .ok (.ldc 43, 2) := by decide +kernel
theorem dX5_loom_15 : decode cX5_loom 15 = .ok (.invokespecial 45, 3) := by decide +kernel
theorem dX5_loom_18 : decode cX5_loom 18 = .ok (.athrow, 1) := by decide +kernel
theorem dX5_loom_19 : decode cX5_loom 19 = .ok (.iload_n 2, 1) := by decide +kernel
theorem dX5_loom_20 : decode cX5_loom 20 = .ok (.ifCond .eq 23, 3) := by decide +kernel
theorem dX5_loom_23 : decode cX5_loom 23 = .ok (.iload_n 2, 1) := by decide +kernel
theorem dX5_loom_24 : decode cX5_loom 24 = .ok (.iload_n 3, 1) := by decide +kernel
theorem dX5_loom_25 : decode cX5_loom 25 = .ok (.iload 4, 2) := by decide +kernel
theorem dX5_loom_27 : decode cX5_loom 27 = .ok (.invokestatic 48, 3) := by decide +kernel
theorem dX5_loom_30 : decode cX5_loom 30 = .ok (.ifCond .ne 13, 3) := by decide +kernel
theorem dX5_loom_33 : decode cX5_loom 33 = .ok (.new 51, 3) := by decide +kernel
theorem dX5_loom_36 : decode cX5_loom 36 = .ok (.dup, 1) := by decide +kernel
theorem dX5_loom_37 : decode cX5_loom 37 = .ok (.ldc 53, 2) := by decide +kernel
theorem dX5_loom_39 : decode cX5_loom 39 = .ok (.invokespecial 55, 3) := by decide +kernel
theorem dX5_loom_42 : decode cX5_loom 42 = .ok (.athrow, 1) := by decide +kernel
theorem dX5_loom_43 : decode cX5_loom 43 = .ok (.aload_n 0, 1) := by decide +kernel
theorem dX5_loom_44 : decode cX5_loom 44 = .ok (.invokevirtual 56, 3) := by decide +kernel
theorem dX5_loom_47 : decode cX5_loom 47 = .ok (.aload_n 0, 1) := by decide +kernel
theorem dX5_loom_48 : decode cX5_loom 48 = .ok (.getfield 10, 3) := by decide +kernel
theorem dX5_loom_51 : decode cX5_loom 51 = .ok (.getfield 59, 3) := by decide +kernel
theorem dX5_loom_54 : decode cX5_loom 54 = .ok (.iload_n 1, 1) := by decide +kernel
theorem dX5_loom_55 : decode cX5_loom 55 = .ok (.aaload, 1) := by decide +kernel
theorem dX5_loom_56 : decode cX5_loom 56 = .ok (.astore 5, 2) := by decide +kernel
theorem dX5_loom_58 : decode cX5_loom 58 = .ok (.aload 5, 2) := by decide +kernel
theorem dX5_loom_60 : decode cX5_loom 60 = .ok (.getfield 63, 3) := by decide +kernel
theorem dX5_loom_63 : decode cX5_loom 63 = .ok (.istore 6, 2) := by decide +kernel
theorem dX5_loom_65 : decode cX5_loom 65 = .ok (.aload 5, 2) := by decide +kernel
theorem dX5_loom_67 : decode cX5_loom 67 = .ok (.iload_n 2, 1) := by decide +kernel
theorem dX5_loom_68 : decode cX5_loom 68 = .ok (.putfield 63, 3) := by decide +kernel
theorem dX5_loom_71 : decode cX5_loom 71 = .ok (.aload 5, 2) := by decide +kernel
theorem dX5_loom_73 : decode cX5_loom 73 = .ok (.iload_n 2, 1) := by decide +kernel
theorem dX5_loom_74 : decode cX5_loom 74 = .ok (.ifCond .ne 7, 3) := by decide +kernel
theorem dX5_loom_77 : decode cX5_loom 77 = .ok (.iconst 0, 1) := by decide +kernel
theorem dX5_loom_78 : decode cX5_loom 78 = .ok (.goto 4, 3) := by decide +kernel
theorem dX5_loom_81 : decode cX5_loom 81 = .ok (.iload_n 3, 1) := by decide +kernel
theorem dX5_loom_82 : decode cX5_loom 82 = .ok (.putfield 69, 3) := by decide +kernel
theorem dX5_loom_85 : decode cX5_loom 85 = .ok (.aload 5, 2) := by decide +kernel
theorem dX5_loom_87 : decode cX5_loom 87 = .ok (.iload_n 2, 1) := by decide +kernel
theorem dX5_loom_88 : decode cX5_loom 88 = .ok (.ifCond .ne 7, 3) := by decide +kernel
theorem dX5_loom_91 : decode cX5_loom 91 = .ok (.iconst 0, 1) := by decide +kernel
theorem dX5_loom_92 : decode cX5_loom 92 = .ok (.goto 5, 3) := by decide +kernel
theorem dX5_loom_95 : decode cX5_loom 95 = .ok (.iload 4, 2) := by decide +kernel
theorem dX5_loom_97 : decode cX5_loom 97 = .ok (.putfield 72, 3) := by decide +kernel
theorem dX5_loom_100 : decode cX5_loom 100 = .ok (.iload 6, 2) := by decide +kernel
theorem dX5_loom_102 : decode cX5_loom 102 = .ok (.ireturn, 1) := by decide +kernel
theorem dX5_yarn_0 : decode cX5_yarn 0 = .ok (.iload_n 1, 1) := by decide +kernel
theorem dX5_yarn_1 : decode cX5_yarn 1 = .ok (.iconst 0, 1) := by decide +kernel
theorem dX5_yarn_2 : decode cX5_yarn 2 = .ok (.iconst 5, 1) := by decide +kernel
theorem dX5_yarn_3 : decode cX5_yarn 3 = .ok (.invokestatic 37, 3) := by decide +kernel
theorem dX5_yarn_6 : decode cX5_yarn 6 = .ok (.ifCond .eq 12, 3) := by decide +kernel
theorem dX5_yarn_9 : decode cX5_yarn 9 = .ok (.iload_n 2, 1) := by decide +kernel
theorem dX5_yarn_10 : decode cX5_yarn 10 = .ok (.iconst 0, 1) := by decide +kernel
theorem dX5_yarn_11 : decode cX5_yarn 11 = .ok (.iconst 3, 1) := by decide +kernel
theorem dX5_yarn_12 : decode cX5_yarn 12 = .ok (.invokestatic 37, 3) := by decide +kernel
theorem dX5_yarn_15 : decode cX5_yarn 15 = .ok (.ifCond .ne 13, 3) := by decide +kernel
theorem dX5_yarn_18 : decode cX5_yarn 18 = .ok (.new 41, 3) := by decide +kernel
theorem dX5_yarn_21 : decode cX5_yarn 21 = .ok (.dup, 1) := by decide +kernel
theorem dX5_yarn_22 : decode cX5_yarn 22 = .ok (.ldc 75, 2) := by decide +kernel
theorem dX5_yarn_24 : decode cX5_yarn 24 = .ok (.invokespecial 45, 3) := by decide +kernel
theorem dX5_yarn_27 : decode cX5_yarn 27 = .ok (.athrow, 1) := by decide +kernel
theorem dX5_yarn_28 : decode cX5_yarn 28 = .ok (.iload_n 3, 1) := by decide +kernel
theorem dX5_yarn_29 : decode cX5_yarn 29 = .ok (.sipush (-9999), 3) := by decide +kernel
theorem dX5_yarn_32 : decode cX5_yarn 32 = .ok (.sipush 9999, 3) := by decide +kernel
theorem dX5_yarn_35 : decode cX5_yarn 35 = .ok (.invokestatic 37, 3) := by decide +kernel
