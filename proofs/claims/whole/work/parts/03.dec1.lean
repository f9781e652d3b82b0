theorem dX0_init_0 : decode cX0_init 0 = .ok (.aload_n 0, 1) := by decide +kernel
theorem dX0_init_1 : decode cX0_init 1 = .ok (.invokespecial 3, 3) := by decide +kernel
theorem dX0_init_4 : decode cX0_init 4 = .ok (.aload_n 0, 1) := by decide +kernel
theorem dX0_init_5 : decode cX0_init 5 = .ok (.bipush 6, 2) := by decide +kernel
theorem dX0_init_7 : decode cX0_init 7 = .ok (.anewarray 9, 3) := by decide +kernel
theorem dX0_init_10 : decode cX0_init 10 = .ok (.putfield 11, 3) := by decide +kernel
theorem dX0_init_13 : decode cX0_init 13 = .ok (.aload_n 0, 1) := by decide +kernel
theorem dX0_init_14 : decode cX0_init 14 = .ok (.bipush 10, 2) := by decide +kernel
theorem dX0_init_16 : decode cX0_init 16 = .ok (.anewarray 17, 3) := by decide +kernel
theorem dX0_init_19 : decode cX0_init 19 = .ok (.putfield 19, 3) := by decide +kernel
theorem dX0_init_22 : decode cX0_init 22 = .ok (.aload_n 0, 1) := by decide +kernel
theorem dX0_init_23 : decode cX0_init 23 = .ok (.new 23, 3) := by decide +kernel
theorem dX0_init_26 : decode cX0_init 26 = .ok (.dup, 1) := by decide +kernel
theorem dX0_init_27 : decode cX0_init 27 = .ok (.invokespecial 25, 3) := by decide +kernel
theorem dX0_init_30 : decode cX0_init 30 = .ok (.putfield 26, 3) := by decide +kernel
theorem dX0_init_33 : decode cX0_init 33 = .ok (.aload_n 0, 1) := by decide +kernel
theorem dX0_init_34 : decode cX0_init 34 = .ok (.iconst 4, 1) := by decide +kernel
theorem dX0_init_35 : decode cX0_init 35 = .ok (.newarray .int, 2) := by decide +kernel
theorem dX0_init_37 : decode cX0_init 37 = .ok (.dup, 1) := by decide +kernel
theorem dX0_init_38 : decode cX0_init 38 = .ok (.iconst 0, 1) := by decide +kernel
theorem dX0_init_39 : decode cX0_init 39 = .ok (.iconst 0, 1) := by decide +kernel
theorem dX0_init_40 : decode cX0_init 40 = .ok (.iastore, 1) := by decide +kernel
theorem dX0_init_41 : decode cX0_init 41 = .ok (.dup, 1) := by decide +kernel
theorem dX0_init_42 : decode cX0_init 42 = .ok (.iconst 1, 1) := by decide +kernel
theorem dX0_init_43 : decode cX0_init 43 = .ok (.iconst 1, 1) := by decide +kernel
theorem dX0_init_44 : decode cX0_init 44 = .ok (.iastore, 1) := by decide +kernel
theorem dX0_init_45 : decode cX0_init 45 = .ok (.dup, 1) := by decide +kernel
theorem dX0_init_46 : decode cX0_init 46 = .ok (.iconst 2, 1) := by decide +kernel
theorem dX0_init_47 : decode cX0_init 47 = .ok (.iconst 5, 1) := by decide +kernel
theorem dX0_init_48 : decode cX0_init 48 = .ok (.iastore, 1) := by decide +kernel
theorem dX0_init_49 : decode cX0_init 49 = .ok (.dup, 1) := by decide +kernel
theorem dX0_init_50 : decode cX0_init 50 = .ok (.iconst 3, 1) := by decide +kernel
theorem dX0_init_51 : decode cX0_init 51 = .ok (.iconst 1, 1) := by decide +kernel
theorem dX0_init_52 : decode cX0_init 52 = .ok (.iastore, 1) := by decide +kernel
theorem dX0_init_53 : decode cX0_init 53 = .ok (.putfield 30, 3) := by decide +kernel
theorem dX0_init_56 : decode cX0_init 56 = .ok (.aload_n 0, 1) := by decide +kernel
theorem dX0_init_57 : decode cX0_init 57 = .ok (.bipush 6, 2) := by decide +kernel
theorem dX0_init_59 : decode cX0_init 59 = .ok (.newarray .int, 2) := by decide +kernel
theorem dX0_init_61 : decode cX0_init 61 = .ok (.putfield 34, 3) := by decide +kernel
theorem dX0_init_64 : decode cX0_init 64 = .ok (.iconst 0, 1) := by decide +kernel
theorem dX0_init_65 : decode cX0_init 65 = .ok (.istore_n 1, 1) := by decide +kernel
theorem dX0_init_66 : decode cX0_init 66 = .ok (.iload_n 1, 1) := by decide +kernel
theorem dX0_init_67 : decode cX0_init 67 = .ok (.aload_n 0, 1) := by decide +kernel
theorem dX0_init_68 : decode cX0_init 68 = .ok (.getfield 11, 3) := by decide +kernel
theorem dX0_init_71 : decode cX0_init 71 = .ok (.arraylength, 1) := by decide +kernel
theorem dX0_init_72 : decode cX0_init 72 = .ok (.if_icmp .ge 22, 3) := by decide +kernel
theorem dX0_init_75 : decode cX0_init 75 = .ok (.aload_n 0, 1) := by decide +kernel
theorem dX0_init_76 : decode cX0_init 76 = .ok (.getfield 11, 3) := by decide +kernel
theorem dX0_init_79 : decode cX0_init 79 = .ok (.iload_n 1, 1) := by decide +kernel
theorem dX0_init_80 : decode cX0_init 80 = .ok (.new 9, 3) := by decide +kernel
theorem dX0_init_83 : decode cX0_init 83 = .ok (.dup, 1) := by decide +kernel
theorem dX0_init_84 : decode cX0_init 84 = .ok (.invokespecial 37, 3) := by decide +kernel
theorem dX0_init_87 : decode cX0_init 87 = .ok (.aastore, 1) := by decide +kernel
theorem dX0_init_88 : decode cX0_init 88 = .ok (.iinc 1 1, 3) := by decide +kernel
theorem dX0_init_91 : decode cX0_init 91 = .ok (.goto (-25), 3) := by decide +kernel
theorem dX0_init_94 : decode cX0_init 94 = .ok (.iconst 0, 1) := by decide +kernel
theorem dX0_init_95 : decode cX0_init 95 = .ok (.istore_n 1, 1) := by decide +kernel
theorem dX0_init_96 : decode cX0_init 96 = .ok (.iload_n 1, 1) := by decide +kernel
theorem dX0_init_97 : decode cX0_init 97 = .ok (.aload_n 0, 1) := by decide +kernel
theorem dX0_init_98 : decode cX0_init 98 = .ok (.getfield 19, 3) := by decide +kernel
theorem dX0_init_101 : decode cX0_init 101 = .ok (.arraylength, 1) := by decide +kernel
theorem dX0_init_102 : decode cX0_init 102 = .ok (.if_icmp .ge 22, 3) := by decide +kernel
theorem dX0_init_105 : decode cX0_init 105 = .ok (.aload_n 0, 1) := by decide +kernel
theorem dX0_init_106 : decode cX0_init 106 = .ok (.getfield 19, 3) := by decide +kernel
theorem dX0_init_109 : decode cX0_init 109 = .ok (.iload_n 1, 1) := by decide +kernel
theorem dX0_init_110 : decode cX0_init 110 = .ok (.new 17, 3) := by decide +kernel
theorem dX0_init_113 : decode cX0_init 113 = .ok (.dup, 1) := by decide +kernel
theorem dX0_init_114 : decode cX0_init 114 = .ok (.invokespecial 38, 3) := by decide +kernel
theorem dX0_init_117 : decode cX0_init 117 = .ok (.aastore, 1) := by decide +kernel
theorem dX0_init_118 : decode cX0_init 118 = .ok (.iinc 1 1, 3) := by decide +kernel
theorem dX0_init_121 : decode cX0_init 121 = .ok (.goto (-25), 3) := by decide +kernel
theorem dX0_init_124 : decode cX0_init 124 = .ok (.return_, 1) := by decide +kernel
theorem dX0_copyFrom_0 : decode cX0_copyFrom 0 = .ok (.iconst 0, 1) := by decide +kernel
theorem dX0_copyFrom_1 : decode cX0_copyFrom 1 = .ok (.istore_n 2, 1) := by decide +kernel
theorem dX0_copyFrom_2 : decode cX0_copyFrom 2 = .ok (.iload_n 2, 1) := by decide +kernel
theorem dX0_copyFrom_3 : decode cX0_copyFrom 3 = .ok (.aload_n 0, 1) := by decide +kernel
theorem dX0_copyFrom_4 : decode cX0_copyFrom 4 = .ok (.getfield 11, 3) := by decide +kernel
theorem dX0_copyFrom_7 : decode cX0_copyFrom 7 = .ok (.arraylength, 1) := by decide +kernel
theorem dX0_copyFrom_8 : decode cX0_copyFrom 8 = .ok (.if_icmp .ge 33, 3) := by decide +kernel
theorem dX0_copyFrom_11 : decode cX0_copyFrom 11 = .ok (.iload_n 2, 1) := by decide +kernel
theorem dX0_copyFrom_12 : decode cX0_copyFrom 12 = .ok (.aload_n 1, 1) := by decide +kernel
theorem dX0_copyFrom_13 : decode cX0_copyFrom 13 = .ok (.getfield 11, 3) := by decide +kernel
theorem dX0_copyFrom_16 : decode cX0_copyFrom 16 = .ok (.arraylength, 1) := by decide +kernel
theorem dX0_copyFrom_17 : decode cX0_copyFrom 17 = .ok (.if_icmp .ge 24, 3) := by decide +kernel
theorem dX0_copyFrom_20 : decode cX0_copyFrom 20 = .ok (.aload_n 0, 1) := by decide +kernel
theorem dX0_copyFrom_21 : decode cX0_copyFrom 21 = .ok (.getfield 11, 3) := by decide +kernel
theorem dX0_copyFrom_24 : decode cX0_copyFrom 24 = .ok (.iload_n 2, 1) := by decide +kernel
theorem dX0_copyFrom_25 : decode cX0_copyFrom 25 = .ok (.aaload, 1) := by decide +kernel
theorem dX0_copyFrom_26 : decode cX0_copyFrom 26 = .ok (.aload_n 1, 1) := by decide +kernel
theorem dX0_copyFrom_27 : decode cX0_copyFrom 27 = .ok (.getfield 11, 3) := by decide +kernel
theorem dX0_copyFrom_30 : decode cX0_copyFrom 30 = .ok (.iload_n 2, 1) := by decide +kernel
theorem dX0_copyFrom_31 : decode cX0_copyFrom 31 = .ok (.aaload, 1) := by decide +kernel
theorem dX0_copyFrom_32 : decode cX0_copyFrom 32 = .ok (.invokevirtual 39, 3) := by decide +kernel
theorem dX0_copyFrom_35 : decode cX0_copyFrom 35 = .ok (.iinc 2 1, 3) := by decide +kernel
theorem dX0_copyFrom_38 : decode cX0_copyFrom 38 = .ok (.goto (-36), 3) := by decide +kernel
theorem dX0_copyFrom_41 : decode cX0_copyFrom 41 = .ok (.iconst 0, 1) := by decide +kernel
theorem dX0_copyFrom_42 : decode cX0_copyFrom 42 = .ok (.istore_n 2, 1) := by decide +kernel
theorem dX0_copyFrom_43 : decode cX0_copyFrom 43 = .ok (.iload_n 2, 1) := by decide +kernel
theorem dX0_copyFrom_44 : decode cX0_copyFrom 44 = .ok (.aload_n 0, 1) := by decide +kernel
theorem dX0_copyFrom_45 : decode cX0_copyFrom 45 = .ok (.getfield 19, 3) := by decide +kernel
theorem dX0_copyFrom_48 : decode cX0_copyFrom 48 = .ok (.arraylength, 1) := by decide +kernel
theorem dX0_copyFrom_49 : decode cX0_copyFrom 49 = .ok (.if_icmp .ge 33, 3) := by decide +kernel
theorem dX0_copyFrom_52 : decode cX0_copyFrom 52 = .ok (.iload_n 2, 1) := by decide +kernel
theorem dX0_copyFrom_53 : decode cX0_copyFrom 53 = .ok (.aload_n 1, 1) := by decide +kernel
theorem dX0_copyFrom_54 : decode cX0_copyFrom 54 = .ok (.getfield 19, 3) := by decide +kernel
theorem dX0_copyFrom_57 : decode cX0_copyFrom 57 = .ok (.arraylength, 1) := by decide +kernel
theorem dX0_copyFrom_58 : decode cX0_copyFrom 58 = .ok (.if_icmp .ge 24, 3) := by decide +kernel
theorem dX0_copyFrom_61 : decode cX0_copyFrom 61 = .ok (.aload_n 0, 1) := by decide +kernel
theorem dX0_copyFrom_62 : decode cX0_copyFrom 62 = .ok (.getfield 19, 3) := by decide +kernel
theorem dX0_copyFrom_65 : decode cX0_copyFrom 65 = .ok (.iload_n 2, 1) := by decide +kernel
theorem dX0_copyFrom_66 : decode cX0_copyFrom 66 = .ok (.aaload, 1) := by decide +kernel
theorem dX0_copyFrom_67 : decode cX0_copyFrom 67 = .ok (.aload_n 1, 1) := by decide +kernel
theorem dX0_copyFrom_68 : decode cX0_copyFrom 68 = .ok (.getfield 19, 3) := by decide +kernel
theorem dX0_copyFrom_71 : decode cX0_copyFrom 71 = .ok (.iload_n 2, 1) := by decide +kernel
theorem dX0_copyFrom_72 : decode cX0_copyFrom 72 = .ok (.aaload, 1) := by decide +kernel
theorem dX0_copyFrom_73 : decode cX0_copyFrom 73 = .ok (.invokevirtual 43, 3) := by decide +kernel
theorem dX0_copyFrom_76 : decode cX0_copyFrom 76 = .ok (.iinc 2 1, 3) := by decide +kernel
theorem dX0_copyFrom_79 : decode cX0_copyFrom 79 = .ok (.goto (-36), 3) := by decide +kernel
theorem dX0_copyFrom_82 : decode cX0_copyFrom 82 = .ok (.aload_n 0, 1) := by decide +kernel
theorem dX0_copyFrom_83 : decode cX0_copyFrom 83 = .ok (.getfield 26, 3) := by decide +kernel
theorem dX0_copyFrom_86 : decode cX0_copyFrom 86 = .ok (.aload_n 1, 1) := by decide +kernel
theorem dX0_copyFrom_87 : decode cX0_copyFrom 87 = .ok (.getfield 26, 3) := by decide +kernel
theorem dX0_copyFrom_90 : decode cX0_copyFrom 90 = .ok (.invokevirtual 46, 3) := by decide +kernel
theorem dX0_copyFrom_93 : decode cX0_copyFrom 93 = .ok (.iconst 0, 1) := by decide +kernel
theorem dX0_copyFrom_94 : decode cX0_copyFrom 94 = .ok (.istore_n 2, 1) := by decide +kernel
theorem dX0_copyFrom_95 : decode cX0_copyFrom 95 = .ok (.iload_n 2, 1) := by decide +kernel
theorem dX0_copyFrom_96 : decode cX0_copyFrom 96 = .ok (.aload_n 0, 1) := by decide +kernel
theorem dX0_copyFrom_97 : decode cX0_copyFrom 97 = .ok (.getfield 30, 3) := by decide +kernel
theorem dX0_copyFrom_100 : decode cX0_copyFrom 100 = .ok (.arraylength, 1) := by decide +kernel
theorem dX0_copyFrom_101 : decode cX0_copyFrom 101 = .ok (.if_icmp .ge 30, 3) := by decide +kernel
theorem dX0_copyFrom_104 : decode cX0_copyFrom 104 = .ok (.iload_n 2, 1) := by decide +kernel
theorem dX0_copyFrom_105 : decode cX0_copyFrom 105 = .ok (.aload_n 1, 1) := by decide +kernel
theorem dX0_copyFrom_106 : decode cX0_copyFrom 106 = .ok (.getfield 30, 3) := by decide +kernel
theorem dX0_copyFrom_109 : decode cX0_copyFrom 109 = .ok (.arraylength, 1) := by decide +kernel
theorem dX0_copyFrom_110 : decode cX0_copyFrom 110 = .ok (.if_icmp .ge 21, 3) := by decide +kernel
theorem dX0_copyFrom_113 : decode cX0_copyFrom 113 = .ok (.aload_n 0, 1) := by decide +kernel
theorem dX0_copyFrom_114 : decode cX0_copyFrom 114 = .ok (.getfield 30, 3) := by decide +kernel
theorem dX0_copyFrom_117 : decode cX0_copyFrom 117 = .ok (.iload_n 2, 1) := by decide +kernel
theorem dX0_copyFrom_118 : decode cX0_copyFrom 118 = .ok (.aload_n 1, 1) := by decide +kernel
theorem dX0_copyFrom_119 : decode cX0_copyFrom 119 = .ok (.getfield 30, 3) := by decide +kernel
theorem dX0_copyFrom_122 : decode cX0_copyFrom 122 = .ok (.iload_n 2, 1) := by decide +kernel
theorem dX0_copyFrom_123 : decode cX0_copyFrom 123 = .ok (.iaload, 1) := by decide +kernel
theorem dX0_copyFrom_124 : decode cX0_copyFrom 124 = .ok (.iastore, 1) := by decide +kernel
theorem dX0_copyFrom_125 : decode cX0_copyFrom 125 = .ok (.iinc 2 1, 3) := by decide +kernel
theorem dX0_copyFrom_128 : decode cX0_copyFrom 128 = .ok (.goto (-33), 3) := by decide +kernel
theorem dX0_copyFrom_131 : decode cX0_copyFrom 131 = .ok (.aload_n 0, 1) := by decide +kernel
theorem dX0_copyFrom_132 : decode cX0_copyFrom 132 = .ok (.aload_n 1, 1) := by decide +kernel
theorem dX0_copyFrom_133 : decode cX0_copyFrom 133 = .ok (.getfield 49, 3) := by decide +kernel
theorem dX0_copyFrom_136 : decode cX0_copyFrom 136 = .ok (.putfield 49, 3) := by decide +kernel
theorem dX0_copyFrom_139 : decode cX0_copyFrom 139 = .ok (.aload_n 0, 1) := by decide +kernel
theorem dX0_copyFrom_140 : decode cX0_copyFrom 140 = .ok (.aload_n 1, 1) := by decide +kernel
theorem dX0_copyFrom_141 : decode cX0_copyFrom 141 = .ok (.getfield 53, 3) := by decide +kernel
theorem dX0_copyFrom_144 : decode cX0_copyFrom 144 = .ok (.putfield 53, 3) := by decide +kernel
theorem dX0_copyFrom_147 : decode cX0_copyFrom 147 = .ok (.aload_n 0, 1) := by decide +kernel
theorem dX0_copyFrom_148 : decode cX0_copyFrom 148 = .ok (.aload_n 1, 1) := by decide +kernel
theorem dX0_copyFrom_149 : decode cX0_copyFrom 149 = .ok (.getfield 56, 3) := by decide +kernel
theorem dX0_copyFrom_152 : decode cX0_copyFrom 152 = .ok (.putfield 56, 3) := by decide +kernel
theorem dX0_copyFrom_155 : decode cX0_copyFrom 155 = .ok (.aload_n 0, 1) := by decide +kernel
theorem dX0_copyFrom_156 : decode cX0_copyFrom 156 = .ok (.aload_n 1, 1) := by decide +kernel
theorem dX0_copyFrom_157 : decode cX0_copyFrom 157 = .ok (.getfield 59, 3) := by decide +kernel
theorem dX0_copyFrom_160 : decode cX0_copyFrom 160 = .ok (.putfield 59, 3) := by decide +kernel
theorem dX0_copyFrom_163 : decode cX0_copyFrom 163 = .ok (.aload_n 0, 1) := by decide +kernel
theorem dX0_copyFrom_164 : decode cX0_copyFrom 164 = .ok (.aload_n 1, 1) := by decide +kernel
theorem dX0_copyFrom_165 : decode cX0_copyFrom 165 = .ok (.getfield 62, 3) := by decide +kernel
theorem dX0_copyFrom_168 : decode cX0_copyFrom 168 = .ok (.putfield 62, 3) := by decide +kernel
theorem dX0_copyFrom_171 : decode cX0_copyFrom 171 = .ok (.aload_n 0, 1) := by decide +kernel
theorem dX0_copyFrom_172 : decode cX0_copyFrom 172 = .ok (.aload_n 1, 1) := by decide +kernel
theorem dX0_copyFrom_173 : decode cX0_copyFrom 173 = .ok (.getfield 65, 3) := by decide +kernel
theorem dX0_copyFrom_176 : decode cX0_copyFrom 176 = .ok (.putfield 65, 3) := by decide +kernel
theorem dX0_copyFrom_179 : decode cX0_copyFrom 179 = .ok (.aload_n 0, 1) := by decide +kernel
theorem dX0_copyFrom_180 : decode cX0_copyFrom 180 = .ok (.aload_n 1, 1) := by decide +kernel
theorem dX0_copyFrom_181 : decode cX0_copyFrom 181 = .ok (.getfield 68, 3) := by decide +kernel
theorem dX0_copyFrom_184 : decode cX0_copyFrom 184 = .ok (.putfield 68, 3) := by decide +kernel
theorem dX0_copyFrom_187 : decode cX0_copyFrom 187 = .ok (.aload_n 0, 1) := by decide +kernel
theorem dX0_copyFrom_188 : decode cX0_copyFrom 188 = .ok (.aload_n 1, 1) := by decide +kernel
theorem dX0_copyFrom_189 : decode cX0_copyFrom 189 = .ok (.getfield 71, 3) := by decide +kernel
theorem dX0_copyFrom_192 : decode cX0_copyFrom 192 = .ok (.putfield 71, 3) := by decide +kernel
theorem dX0_copyFrom_195 : decode cX0_copyFrom 195 = .ok (.return_, 1) := by decide +kernel
theorem dX0_orderAt_0 : decode cX0_orderAt 0 = .ok (.iload_n 1, 1) := by decide +kernel
theorem dX0_orderAt_1 : decode cX0_orderAt 1 = .ok (.ifCond .lt 24, 3) := by decide +kernel
theorem dX0_orderAt_4 : decode cX0_orderAt 4 = .ok (.iload_n 1, 1) := by decide +kernel
theorem dX0_orderAt_5 : decode cX0_orderAt 5 = .ok (.aload_n 0, 1) := by decide +kernel
theorem dX0_orderAt_6 : decode cX0_orderAt 6 = .ok (.getfield 49, 3) := by decide +kernel
theorem dX0_orderAt_9 : decode cX0_orderAt 9 = .ok (.if_icmp .ge 16, 3) := by decide +kernel
theorem dX0_orderAt_12 : decode cX0_orderAt 12 = .ok (.iload_n 1, 1) := by decide +kernel
theorem dX0_orderAt_13 : decode cX0_orderAt 13 = .ok (.aload_n 0, 1) := by decide +kernel
theorem dX0_orderAt_14 : decode cX0_orderAt 14 = .ok (.getfield 19, 3) := by decide +kernel
theorem dX0_orderAt_17 : decode cX0_orderAt 17 = .ok (.arraylength, 1) := by decide +kernel
theorem dX0_orderAt_18 : decode cX0_orderAt 18 = .ok (.if_icmp .ge 7, 3) := by decide +kernel
theorem dX0_orderAt_21 : decode cX0_orderAt 21 = .ok (.iconst 1, 1) := by decide +kernel
theorem dX0_orderAt_22 : decode cX0_orderAt 22 = .ok (.goto 4, 3) := by decide +kernel
theorem dX0_orderAt_25 : decode cX0_orderAt 25 = .ok (.iconst 0, 1) := by decide +kernel
theorem dX0_orderAt_26 : decode cX0_orderAt 26 = .ok (.istore_n 2, 1) := by decide +kernel
theorem dX0_orderAt_27 : decode cX0_orderAt 27 = .ok (.iload_n 2, 1) := by decide +kernel
theorem dX0_orderAt_28 : decode cX0_orderAt 28 = .ok (.ifCond .eq 12, 3) := by decide +kernel
theorem dX0_orderAt_31 : decode cX0_orderAt 31 = .ok (.aload_n 0, 1) := by decide +kernel
theorem dX0_orderAt_32 : decode cX0_orderAt 32 = .ok (.getfield 19, 3) := by decide +kernel
theorem dX0_orderAt_35 : decode cX0_orderAt 35 = .ok (.iload_n 1, 1) := by decide +kernel
theorem dX0_orderAt_36 : decode cX0_orderAt 36 = .ok (.aaload, 1) := by decide +kernel
theorem dX0_orderAt_37 : decode cX0_orderAt 37 = .ok (.goto 4, 3) := by decide +kernel
theorem dX0_orderAt_40 : decode cX0_orderAt 40 = .ok (.aconst_null, 1) := by decide +kernel
theorem dX0_orderAt_41 : decode cX0_orderAt 41 = .ok (.areturn, 1) := by decide +kernel
theorem dX0_placeOf_0 : decode cX0_placeOf 0 = .ok (.iconst 0, 1) := by decide +kernel
theorem dX0_placeOf_1 : decode cX0_placeOf 1 = .ok (.istore_n 2, 1) := by decide +kernel
theorem dX0_placeOf_2 : decode cX0_placeOf 2 = .ok (.iload_n 2, 1) := by decide +kernel
theorem dX0_placeOf_3 : decode cX0_placeOf 3 = .ok (.aload_n 0, 1) := by decide +kernel
theorem dX0_placeOf_4 : decode cX0_placeOf 4 = .ok (.getfield 49, 3) := by decide +kernel
theorem dX0_placeOf_7 : decode cX0_placeOf 7 = .ok (.if_icmp .ge 33, 3) := by decide +kernel
theorem dX0_placeOf_10 : decode cX0_placeOf 10 = .ok (.iload_n 2, 1) := by decide +kernel
theorem dX0_placeOf_11 : decode cX0_placeOf 11 = .ok (.aload_n 0, 1) := by decide +kernel
theorem dX0_placeOf_12 : decode cX0_placeOf 12 = .ok (.getfield 19, 3) := by decide +kernel
theorem dX0_placeOf_15 : decode cX0_placeOf 15 = .ok (.arraylength, 1) := by decide +kernel
theorem dX0_placeOf_16 : decode cX0_placeOf 16 = .ok (.if_icmp .ge 24, 3) := by decide +kernel
theorem dX0_placeOf_19 : decode cX0_placeOf 19 = .ok (.aload_n 0, 1) := by decide +kernel
theorem dX0_placeOf_20 : decode cX0_placeOf 20 = .ok (.getfield 19, 3) := by decide +kernel
theorem dX0_placeOf_23 : decode cX0_placeOf 23 = .ok (.iload_n 2, 1) := by decide +kernel
theorem dX0_placeOf_24 : decode cX0_placeOf 24 = .ok (.aaload, 1) := by decide +kernel
theorem dX0_placeOf_25 : decode cX0_placeOf 25 = .ok (.getfield 74, 3) := by decide +kernel
theorem dX0_placeOf_28 : decode cX0_placeOf 28 = .ok (.iload_n 1, 1) := by decide +kernel
theorem dX0_placeOf_29 : decode cX0_placeOf 29 = .ok (.if_icmp .ne 5, 3) := by decide +kernel
theorem dX0_placeOf_32 : decode cX0_placeOf 32 = .ok (.iload_n 2, 1) := by decide +kernel
theorem dX0_placeOf_33 : decode cX0_placeOf 33 = .ok (.ireturn, 1) := by decide +kernel
theorem dX0_placeOf_34 : decode cX0_placeOf 34 = .ok (.iinc 2 1, 3) := by decide +kernel
theorem dX0_placeOf_37 : decode cX0_placeOf 37 = .ok (.goto (-35), 3) := by decide +kernel
theorem dX0_placeOf_40 : decode cX0_placeOf 40 = .ok (.iconst (-1), 1) := by decide +kernel
theorem dX0_placeOf_41 : decode cX0_placeOf 41 = .ok (.ireturn, 1) := by decide +kernel
theorem dX0_find_0 : decode cX0_find 0 = .ok (.aload_n 0, 1) := by decide +kernel
theorem dX0_find_1 : decode cX0_find 1 = .ok (.aload_n 0, 1) := by decide +kernel
theorem dX0_find_2 : decode cX0_find 2 = .ok (.iload_n 1, 1) := by decide +kernel
theorem dX0_find_3 : decode cX0_find 3 = .ok (.invokevirtual 77, 3) := by decide +kernel
theorem dX0_find_6 : decode cX0_find 6 = .ok (.invokevirtual 81, 3) := by decide +kernel
theorem dX0_find_9 : decode cX0_find 9 = .ok (.areturn, 1) := by decide +kernel
theorem dX0_take_0 : decode cX0_take 0 = .ok (.aload_n 0, 1) := by decide +kernel
theorem dX0_take_1 : decode cX0_take 1 = .ok (.getfield 49, 3) := by decide +kernel
theorem dX0_take_4 : decode cX0_take 4 = .ok (.ifCond .lt 15, 3) := by decide +kernel
theorem dX0_take_7 : decode cX0_take 7 = .ok (.aload_n 0, 1) := by decide +kernel
theorem dX0_take_8 : decode cX0_take 8 = .ok (.getfield 49, 3) := by decide +kernel
theorem dX0_take_11 : decode cX0_take 11 = .ok (.aload_n 0, 1) := by decide +kernel
theorem dX0_take_12 : decode cX0_take 12 = .ok (.getfield 19, 3) := by decide +kernel
theorem dX0_take_15 : decode cX0_take 15 = .ok (.arraylength, 1) := by decide +kernel
theorem dX0_take_16 : decode cX0_take 16 = .ok (.if_icmp .lt 5, 3) := by decide +kernel
theorem dX0_take_19 : decode cX0_take 19 = .ok (.iconst (-1), 1) := by decide +kernel
theorem dX0_take_20 : decode cX0_take 20 = .ok (.ireturn, 1) := by decide +kernel
theorem dX0_take_21 : decode cX0_take 21 = .ok (.aload_n 0, 1) := by decide +kernel
theorem dX0_take_22 : decode cX0_take 22 = .ok (.getfield 19, 3) := by decide +kernel
theorem dX0_take_25 : decode cX0_take 25 = .ok (.aload_n 0, 1) := by decide +kernel
theorem dX0_take_26 : decode cX0_take 26 = .ok (.getfield 49, 3) := by decide +kernel
theorem dX0_take_29 : decode cX0_take 29 = .ok (.aaload, 1) := by decide +kernel
theorem dX0_take_30 : decode cX0_take 30 = .ok (.astore 6, 2) := by decide +kernel
theorem dX0_take_32 : decode cX0_take 32 = .ok (.aload 6, 2) := by decide +kernel
theorem dX0_take_34 : decode cX0_take 34 = .ok (.aload_n 0, 1) := by decide +kernel
theorem dX0_take_35 : decode cX0_take 35 = .ok (.getfield 53, 3) := by decide +kernel
theorem dX0_take_38 : decode cX0_take 38 = .ok (.iload_n 1, 1) := by decide +kernel
theorem dX0_take_39 : decode cX0_take 39 = .ok (.iload_n 2, 1) := by decide +kernel
theorem dX0_take_40 : decode cX0_take 40 = .ok (.iload_n 3, 1) := by decide +kernel
theorem dX0_take_41 : decode cX0_take 41 = .ok (.iload 4, 2) := by decide +kernel
theorem dX0_take_43 : decode cX0_take 43 = .ok (.iload 5, 2) := by decide +kernel
theorem dX0_take_45 : decode cX0_take 45 = .ok (.invokevirtual 85, 3) := by decide +kernel
theorem dX0_take_48 : decode cX0_take 48 = .ok (.aload_n 0, 1) := by decide +kernel
theorem dX0_take_49 : decode cX0_take 49 = .ok (.getfield 49, 3) := by decide +kernel
theorem dX0_take_52 : decode cX0_take 52 = .ok (.istore 7, 2) := by decide +kernel
theorem dX0_take_54 : decode cX0_take 54 = .ok (.iload 7, 2) := by decide +kernel
theorem dX0_take_56 : decode cX0_take 56 = .ok (.ifCond .le 53, 3) := by decide +kernel
theorem dX0_take_59 : decode cX0_take 59 = .ok (.aload_n 0, 1) := by decide +kernel
theorem dX0_take_60 : decode cX0_take 60 = .ok (.getfield 19, 3) := by decide +kernel
theorem dX0_take_63 : decode cX0_take 63 = .ok (.iload 7, 2) := by decide +kernel
theorem dX0_take_65 : decode cX0_take 65 = .ok (.iconst 1, 1) := by decide +kernel
theorem dX0_take_66 : decode cX0_take 66 = .ok (.isub, 1) := by decide +kernel
theorem dX0_take_67 : decode cX0_take 67 = .ok (.aaload, 1) := by decide +kernel
theorem dX0_take_68 : decode cX0_take 68 = .ok (.getfield 89, 3) := by decide +kernel
theorem dX0_take_71 : decode cX0_take 71 = .ok (.iload 5, 2) := by decide +kernel
theorem dX0_take_73 : decode cX0_take 73 = .ok (.if_icmp .le 36, 3) := by decide +kernel
theorem dX0_take_76 : decode cX0_take 76 = .ok (.aload_n 0, 1) := by decide +kernel
theorem dX0_take_77 : decode cX0_take 77 = .ok (.getfield 19, 3) := by decide +kernel
theorem dX0_take_80 : decode cX0_take 80 = .ok (.iload 7, 2) := by decide +kernel
theorem dX0_take_82 : decode cX0_take 82 = .ok (.aload_n 0, 1) := by decide +kernel
theorem dX0_take_83 : decode cX0_take 83 = .ok (.getfield 19, 3) := by decide +kernel
theorem dX0_take_86 : decode cX0_take 86 = .ok (.iload 7, 2) := by decide +kernel
theorem dX0_take_88 : decode cX0_take 88 = .ok (.iconst 1, 1) := by decide +kernel
theorem dX0_take_89 : decode cX0_take 89 = .ok (.isub, 1) := by decide +kernel
theorem dX0_take_90 : decode cX0_take 90 = .ok (.aaload, 1) := by decide +kernel
theorem dX0_take_91 : decode cX0_take 91 = .ok (.aastore, 1) := by decide +kernel
theorem dX0_take_92 : decode cX0_take 92 = .ok (.aload_n 0, 1) := by decide +kernel
theorem dX0_take_93 : decode cX0_take 93 = .ok (.getfield 19, 3) := by decide +kernel
theorem dX0_take_96 : decode cX0_take 96 = .ok (.iload 7, 2) := by decide +kernel
theorem dX0_take_98 : decode cX0_take 98 = .ok (.iconst 1, 1) := by decide +kernel
theorem dX0_take_99 : decode cX0_take 99 = .ok (.isub, 1) := by decide +kernel
theorem dX0_take_100 : decode cX0_take 100 = .ok (.aload 6, 2) := by decide +kernel
theorem dX0_take_102 : decode cX0_take 102 = .ok (.aastore, 1) := by decide +kernel
theorem dX0_take_103 : decode cX0_take 103 = .ok (.iinc 7 (-1), 3) := by decide +kernel
theorem dX0_take_106 : decode cX0_take 106 = .ok (.goto (-52), 3) := by decide +kernel
theorem dX0_take_109 : decode cX0_take 109 = .ok (.aload_n 0, 1) := by decide +kernel
theorem dX0_take_110 : decode cX0_take 110 = .ok (.dup, 1) := by decide +kernel
theorem dX0_take_111 : decode cX0_take 111 = .ok (.getfield 49, 3) := by decide +kernel
theorem dX0_take_114 : decode cX0_take 114 = .ok (.iconst 1, 1) := by decide +kernel
theorem dX0_take_115 : decode cX0_take 115 = .ok (.iadd, 1) := by decide +kernel
theorem dX0_take_116 : decode cX0_take 116 = .ok (.putfield 49, 3) := by decide +kernel
theorem dX0_take_119 : decode cX0_take 119 = .ok (.aload_n 0, 1) := by decide +kernel
theorem dX0_take_120 : decode cX0_take 120 = .ok (.dup, 1) := by decide +kernel
theorem dX0_take_121 : decode cX0_take 121 = .ok (.getfield 53, 3) := by decide +kernel
theorem dX0_take_124 : decode cX0_take 124 = .ok (.iconst 1, 1) := by decide +kernel
theorem dX0_take_125 : decode cX0_take 125 = .ok (.iadd, 1) := by decide +kernel
theorem dX0_take_126 : decode cX0_take 126 = .ok (.putfield 53, 3) := by decide +kernel
theorem dX0_take_129 : decode cX0_take 129 = .ok (.aload 6, 2) := by decide +kernel
theorem dX0_take_131 : decode cX0_take 131 = .ok (.getfield 74, 3) := by decide +kernel
theorem dX0_take_134 : decode cX0_take 134 = .ok (.ireturn, 1) := by decide +kernel
theorem dX0_dismiss_0 : decode cX0_dismiss 0 = .ok (.iconst 0, 1) := by decide +kernel
theorem dX0_dismiss_1 : decode cX0_dismiss 1 = .ok (.istore_n 2, 1) := by decide +kernel
theorem dX0_dismiss_2 : decode cX0_dismiss 2 = .ok (.iload_n 2, 1) := by decide +kernel
theorem dX0_dismiss_3 : decode cX0_dismiss 3 = .ok (.iconst 1, 1) := by decide +kernel
theorem dX0_dismiss_4 : decode cX0_dismiss 4 = .ok (.iadd, 1) := by decide +kernel
theorem dX0_dismiss_5 : decode cX0_dismiss 5 = .ok (.aload_n 0, 1) := by decide +kernel
theorem dX0_dismiss_6 : decode cX0_dismiss 6 = .ok (.getfield 19, 3) := by decide +kernel
theorem dX0_dismiss_9 : decode cX0_dismiss 9 = .ok (.arraylength, 1) := by decide +kernel
theorem dX0_dismiss_10 : decode cX0_dismiss 10 = .ok (.if_icmp .ge 42, 3) := by decide +kernel
theorem dX0_dismiss_13 : decode cX0_dismiss 13 = .ok (.aload_n 0, 1) := by decide +kernel
theorem dX0_dismiss_14 : decode cX0_dismiss 14 = .ok (.getfield 19, 3) := by decide +kernel
theorem dX0_dismiss_17 : decode cX0_dismiss 17 = .ok (.iload_n 2, 1) := by decide +kernel
theorem dX0_dismiss_18 : decode cX0_dismiss 18 = .ok (.aaload, 1) := by decide +kernel
theorem dX0_dismiss_19 : decode cX0_dismiss 19 = .ok (.aload_n 1, 1) := by decide +kernel
theorem dX0_dismiss_20 : decode cX0_dismiss 20 = .ok (.if_acmp .ne 26, 3) := by decide +kernel
theorem dX0_dismiss_23 : decode cX0_dismiss 23 = .ok (.aload_n 0, 1) := by decide +kernel
theorem dX0_dismiss_24 : decode cX0_dismiss 24 = .ok (.getfield 19, 3) := by decide +kernel
theorem dX0_dismiss_27 : decode cX0_dismiss 27 = .ok (.iload_n 2, 1) := by decide +kernel
theorem dX0_dismiss_28 : decode cX0_dismiss 28 = .ok (.aload_n 0, 1) := by decide +kernel
theorem dX0_dismiss_29 : decode cX0_dismiss 29 = .ok (.getfield 19, 3) := by decide +kernel
theorem dX0_dismiss_32 : decode cX0_dismiss 32 = .ok (.iload_n 2, 1) := by decide +kernel
theorem dX0_dismiss_33 : decode cX0_dismiss 33 = .ok (.iconst 1, 1) := by decide +kernel
theorem dX0_dismiss_34 : decode cX0_dismiss 34 = .ok (.iadd, 1) := by decide +kernel
theorem dX0_dismiss_35 : decode cX0_dismiss 35 = .ok (.aaload, 1) := by decide +kernel
theorem dX0_dismiss_36 : decode cX0_dismiss 36 = .ok (.aastore, 1) := by decide +kernel
theorem dX0_dismiss_37 : decode cX0_dismiss 37 = .ok (.aload_n 0, 1) := by decide +kernel
theorem dX0_dismiss_38 : decode cX0_dismiss 38 = .ok (.getfield 19, 3) := by decide +kernel
theorem dX0_dismiss_41 : decode cX0_dismiss 41 = .ok (.iload_n 2, 1) := by decide +kernel
theorem dX0_dismiss_42 : decode cX0_dismiss 42 = .ok (.iconst 1, 1) := by decide +kernel
theorem dX0_dismiss_43 : decode cX0_dismiss 43 = .ok (.iadd, 1) := by decide +kernel
theorem dX0_dismiss_44 : decode cX0_dismiss 44 = .ok (.aload_n 1, 1) := by decide +kernel
theorem dX0_dismiss_45 : decode cX0_dismiss 45 = .ok (.aastore, 1) := by decide +kernel
theorem dX0_dismiss_46 : decode cX0_dismiss 46 = .ok (.iinc 2 1, 3) := by decide +kernel
theorem dX0_dismiss_49 : decode cX0_dismiss 49 = .ok (.goto (-47), 3) := by decide +kernel
theorem dX0_dismiss_52 : decode cX0_dismiss 52 = .ok (.aload_n 0, 1) := by decide +kernel
theorem dX0_dismiss_53 : decode cX0_dismiss 53 = .ok (.dup, 1) := by decide +kernel
theorem dX0_dismiss_54 : decode cX0_dismiss 54 = .ok (.getfield 49, 3) := by decide +kernel
theorem dX0_dismiss_57 : decode cX0_dismiss 57 = .ok (.iconst 1, 1) := by decide +kernel
theorem dX0_dismiss_58 : decode cX0_dismiss 58 = .ok (.isub, 1) := by decide +kernel
theorem dX0_dismiss_59 : decode cX0_dismiss 59 = .ok (.putfield 49, 3) := by decide +kernel
theorem dX0_dismiss_62 : decode cX0_dismiss 62 = .ok (.return_, 1) := by decide +kernel
theorem dX0_merit_0 : decode cX0_merit 0 = .ok (.aload_n 0, 1) := by decide +kernel
theorem dX0_merit_1 : decode cX0_merit 1 = .ok (.getfield 30, 3) := by decide +kernel
theorem dX0_merit_4 : decode cX0_merit 4 = .ok (.iconst 0, 1) := by decide +kernel
theorem dX0_merit_5 : decode cX0_merit 5 = .ok (.iaload, 1) := by decide +kernel
theorem dX0_merit_6 : decode cX0_merit 6 = .ok (.lookupswitch 36 #[(1, 26), (2, 31)], 26) := by decide +kernel
theorem dX0_merit_32 : decode cX0_merit 32 = .ok (.aload_n 1, 1) := by decide +kernel
theorem dX0_merit_33 : decode cX0_merit 33 = .ok (.getfield 92, 3) := by decide +kernel
theorem dX0_merit_36 : decode cX0_merit 36 = .ok (.ireturn, 1) := by decide +kernel
theorem dX0_merit_37 : decode cX0_merit 37 = .ok (.aload_n 1, 1) := by decide +kernel
theorem dX0_merit_38 : decode cX0_merit 38 = .ok (.getfield 95, 3) := by decide +kernel
theorem dX0_merit_41 : decode cX0_merit 41 = .ok (.ireturn, 1) := by decide +kernel
theorem dX0_merit_42 : decode cX0_merit 42 = .ok (.iconst 0, 1) := by decide +kernel
theorem dX0_merit_43 : decode cX0_merit 43 = .ok (.ireturn, 1) := by decide +kernel
theorem dX0_choiceOf_0 : decode cX0_choiceOf 0 = .ok (.aconst_null, 1) := by decide +kernel
theorem dX0_choiceOf_1 : decode cX0_choiceOf 1 = .ok (.astore_n 2, 1) := by decide +kernel
theorem dX0_choiceOf_2 : decode cX0_choiceOf 2 = .ok (.iconst 0, 1) := by decide +kernel
theorem dX0_choiceOf_3 : decode cX0_choiceOf 3 = .ok (.istore_n 3, 1) := by decide +kernel
theorem dX0_choiceOf_4 : decode cX0_choiceOf 4 = .ok (.iload_n 3, 1) := by decide +kernel
theorem dX0_choiceOf_5 : decode cX0_choiceOf 5 = .ok (.aload_n 0, 1) := by decide +kernel
theorem dX0_choiceOf_6 : decode cX0_choiceOf 6 = .ok (.getfield 49, 3) := by decide +kernel
theorem dX0_choiceOf_9 : decode cX0_choiceOf 9 = .ok (.if_icmp .ge 59, 3) := by decide +kernel
theorem dX0_choiceOf_12 : decode cX0_choiceOf 12 = .ok (.iload_n 3, 1) := by decide +kernel
theorem dX0_choiceOf_13 : decode cX0_choiceOf 13 = .ok (.aload_n 0, 1) := by decide +kernel
theorem dX0_choiceOf_14 : decode cX0_choiceOf 14 = .ok (.getfield 19, 3) := by decide +kernel
theorem dX0_choiceOf_17 : decode cX0_choiceOf 17 = .ok (.arraylength, 1) := by decide +kernel
theorem dX0_choiceOf_18 : decode cX0_choiceOf 18 = .ok (.if_icmp .ge 50, 3) := by decide +kernel
theorem dX0_choiceOf_21 : decode cX0_choiceOf 21 = .ok (.aload_n 0, 1) := by decide +kernel
theorem dX0_choiceOf_22 : decode cX0_choiceOf 22 = .ok (.getfield 19, 3) := by decide +kernel
theorem dX0_choiceOf_25 : decode cX0_choiceOf 25 = .ok (.iload_n 3, 1) := by decide +kernel
theorem dX0_choiceOf_26 : decode cX0_choiceOf 26 = .ok (.aaload, 1) := by decide +kernel
theorem dX0_choiceOf_27 : decode cX0_choiceOf 27 = .ok (.astore 4, 2) := by decide +kernel
theorem dX0_choiceOf_29 : decode cX0_choiceOf 29 = .ok (.aload 4, 2) := by decide +kernel
theorem dX0_choiceOf_31 : decode cX0_choiceOf 31 = .ok (.getfield 92, 3) := by decide +kernel
theorem dX0_choiceOf_34 : decode cX0_choiceOf 34 = .ok (.aload_n 1, 1) := by decide +kernel
theorem dX0_choiceOf_35 : decode cX0_choiceOf 35 = .ok (.getfield 98, 3) := by decide +kernel
theorem dX0_choiceOf_38 : decode cX0_choiceOf 38 = .ok (.if_icmp .gt 24, 3) := by decide +kernel
theorem dX0_choiceOf_41 : decode cX0_choiceOf 41 = .ok (.aload_n 2, 1) := by decide +kernel
theorem dX0_choiceOf_42 : decode cX0_choiceOf 42 = .ok (.ifnull 17, 3) := by decide +kernel
theorem dX0_choiceOf_45 : decode cX0_choiceOf 45 = .ok (.aload_n 0, 1) := by decide +kernel
theorem dX0_choiceOf_46 : decode cX0_choiceOf 46 = .ok (.aload 4, 2) := by decide +kernel
theorem dX0_choiceOf_48 : decode cX0_choiceOf 48 = .ok (.invokevirtual 99, 3) := by decide +kernel
theorem dX0_choiceOf_51 : decode cX0_choiceOf 51 = .ok (.aload_n 0, 1) := by decide +kernel
theorem dX0_choiceOf_52 : decode cX0_choiceOf 52 = .ok (.aload_n 2, 1) := by decide +kernel
theorem dX0_choiceOf_53 : decode cX0_choiceOf 53 = .ok (.invokevirtual 99, 3) := by decide +kernel
theorem dX0_choiceOf_56 : decode cX0_choiceOf 56 = .ok (.if_icmp .le 6, 3) := by decide +kernel
theorem dX0_choiceOf_59 : decode cX0_choiceOf 59 = .ok (.aload 4, 2) := by decide +kernel
theorem dX0_choiceOf_61 : decode cX0_choiceOf 61 = .ok (.astore_n 2, 1) := by decide +kernel
theorem dX0_choiceOf_62 : decode cX0_choiceOf 62 = .ok (.iinc 3 1, 3) := by decide +kernel
theorem dX0_choiceOf_65 : decode cX0_choiceOf 65 = .ok (.goto (-61), 3) := by decide +kernel
theorem dX0_choiceOf_68 : decode cX0_choiceOf 68 = .ok (.aload_n 2, 1) := by decide +kernel
theorem dX0_choiceOf_69 : decode cX0_choiceOf 69 = .ok (.areturn, 1) := by decide +kernel
theorem dX0_chosenNumber_0 : decode cX0_chosenNumber 0 = .ok (.aload_n 0, 1) := by decide +kernel
theorem dX0_chosenNumber_1 : decode cX0_chosenNumber 1 = .ok (.aload_n 1, 1) := by decide +kernel
theorem dX0_chosenNumber_2 : decode cX0_chosenNumber 2 = .ok (.invokevirtual 103, 3) := by decide +kernel
theorem dX0_chosenNumber_5 : decode cX0_chosenNumber 5 = .ok (.astore_n 2, 1) := by decide +kernel
theorem dX0_chosenNumber_6 : decode cX0_chosenNumber 6 = .ok (.aload_n 2, 1) := by decide +kernel
theorem dX0_chosenNumber_7 : decode cX0_chosenNumber 7 = .ok (.ifnonnull 7, 3) := by decide +kernel
theorem dX0_chosenNumber_10 : decode cX0_chosenNumber 10 = .ok (.iconst (-1), 1) := by decide +kernel
theorem dX0_chosenNumber_11 : decode cX0_chosenNumber 11 = .ok (.goto 7, 3) := by decide +kernel
theorem dX0_chosenNumber_14 : decode cX0_chosenNumber 14 = .ok (.aload_n 2, 1) := by decide +kernel
theorem dX0_chosenNumber_15 : decode cX0_chosenNumber 15 = .ok (.getfield 74, 3) := by decide +kernel
theorem dX0_chosenNumber_18 : decode cX0_chosenNumber 18 = .ok (.ireturn, 1) := by decide +kernel
theorem dX0_hindrance_0 : decode cX0_hindrance 0 = .ok (.aload_n 1, 1) := by decide +kernel
theorem dX0_hindrance_1 : decode cX0_hindrance 1 = .ok (.invokevirtual 107, 3) := by decide +kernel
theorem dX0_hindrance_4 : decode cX0_hindrance 4 = .ok (.ifCond .ne 5, 3) := by decide +kernel
theorem dX0_hindrance_7 : decode cX0_hindrance 7 = .ok (.iconst 1, 1) := by decide +kernel
theorem dX0_hindrance_8 : decode cX0_hindrance 8 = .ok (.ireturn, 1) := by decide +kernel
theorem dX0_hindrance_9 : decode cX0_hindrance 9 = .ok (.aload_n 0, 1) := by decide +kernel
theorem dX0_hindrance_10 : decode cX0_hindrance 10 = .ok (.aload_n 1, 1) := by decide +kernel
theorem dX0_hindrance_11 : decode cX0_hindrance 11 = .ok (.invokevirtual 103, 3) := by decide +kernel
theorem dX0_hindrance_14 : decode cX0_hindrance 14 = .ok (.astore_n 2, 1) := by decide +kernel
theorem dX0_hindrance_15 : decode cX0_hindrance 15 = .ok (.aload_n 2, 1) := by decide +kernel
theorem dX0_hindrance_16 : decode cX0_hindrance 16 = .ok (.ifnonnull 5, 3) := by decide +kernel
theorem dX0_hindrance_19 : decode cX0_hindrance 19 = .ok (.iconst 2, 1) := by decide +kernel
theorem dX0_hindrance_20 : decode cX0_hindrance 20 = .ok (.ireturn, 1) := by decide +kernel
theorem dX0_hindrance_21 : decode cX0_hindrance 21 = .ok (.aload_n 0, 1) := by decide +kernel
theorem dX0_hindrance_22 : decode cX0_hindrance 22 = .ok (.aload_n 1, 1) := by decide +kernel
theorem dX0_hindrance_23 : decode cX0_hindrance 23 = .ok (.aload_n 2, 1) := by decide +kernel
theorem dX0_hindrance_24 : decode cX0_hindrance 24 = .ok (.invokevirtual 111, 3) := by decide +kernel
theorem dX0_hindrance_27 : decode cX0_hindrance 27 = .ok (.ifnonnull 7, 3) := by decide +kernel
theorem dX0_hindrance_30 : decode cX0_hindrance 30 = .ok (.iconst 3, 1) := by decide +kernel
theorem dX0_hindrance_31 : decode cX0_hindrance 31 = .ok (.goto 4, 3) := by decide +kernel
theorem dX0_hindrance_34 : decode cX0_hindrance 34 = .ok (.iconst 0, 1) := by decide +kernel
theorem dX0_hindrance_35 : decode cX0_hindrance 35 = .ok (.ireturn, 1) := by decide +kernel
theorem dX0_sourceOf_0 : decode cX0_sourceOf 0 = .ok (.aload_n 2, 1) := by decide +kernel
theorem dX0_sourceOf_1 : decode cX0_sourceOf 1 = .ok (.invokevirtual 115, 3) := by decide +kernel
theorem dX0_sourceOf_4 : decode cX0_sourceOf 4 = .ok (.istore_n 3, 1) := by decide +kernel
theorem dX0_sourceOf_5 : decode cX0_sourceOf 5 = .ok (.aload_n 1, 1) := by decide +kernel
theorem dX0_sourceOf_6 : decode cX0_sourceOf 6 = .ok (.getfield 119, 3) := by decide +kernel
theorem dX0_sourceOf_9 : decode cX0_sourceOf 9 = .ok (.aload_n 2, 1) := by decide +kernel
theorem dX0_sourceOf_10 : decode cX0_sourceOf 10 = .ok (.getfield 122, 3) := by decide +kernel
theorem dX0_sourceOf_13 : decode cX0_sourceOf 13 = .ok (.invokevirtual 125, 3) := by decide +kernel
theorem dX0_sourceOf_16 : decode cX0_sourceOf 16 = .ok (.iload_n 3, 1) := by decide +kernel
theorem dX0_sourceOf_17 : decode cX0_sourceOf 17 = .ok (.if_icmp .lt 8, 3) := by decide +kernel
theorem dX0_sourceOf_20 : decode cX0_sourceOf 20 = .ok (.aload_n 1, 1) := by decide +kernel
theorem dX0_sourceOf_21 : decode cX0_sourceOf 21 = .ok (.getfield 119, 3) := by decide +kernel
theorem dX0_sourceOf_24 : decode cX0_sourceOf 24 = .ok (.areturn, 1) := by decide +kernel
theorem dX0_sourceOf_25 : decode cX0_sourceOf 25 = .ok (.aload_n 0, 1) := by decide +kernel
theorem dX0_sourceOf_26 : decode cX0_sourceOf 26 = .ok (.getfield 30, 3) := by decide +kernel
theorem dX0_sourceOf_29 : decode cX0_sourceOf 29 = .ok (.iconst 1, 1) := by decide +kernel
theorem dX0_sourceOf_30 : decode cX0_sourceOf 30 = .ok (.iaload, 1) := by decide +kernel
theorem dX0_sourceOf_31 : decode cX0_sourceOf 31 = .ok (.iconst 1, 1) := by decide +kernel
theorem dX0_sourceOf_32 : decode cX0_sourceOf 32 = .ok (.if_icmp .ne 25, 3) := by decide +kernel
theorem dX0_sourceOf_35 : decode cX0_sourceOf 35 = .ok (.aload_n 0, 1) := by decide +kernel
theorem dX0_sourceOf_36 : decode cX0_sourceOf 36 = .ok (.getfield 26, 3) := by decide +kernel
theorem dX0_sourceOf_39 : decode cX0_sourceOf 39 = .ok (.aload_n 2, 1) := by decide +kernel
theorem dX0_sourceOf_40 : decode cX0_sourceOf 40 = .ok (.getfield 122, 3) := by decide +kernel
theorem dX0_sourceOf_43 : decode cX0_sourceOf 43 = .ok (.invokevirtual 125, 3) := by decide +kernel
theorem dX0_sourceOf_46 : decode cX0_sourceOf 46 = .ok (.iload_n 3, 1) := by decide +kernel
theorem dX0_sourceOf_47 : decode cX0_sourceOf 47 = .ok (.if_icmp .lt 10, 3) := by decide +kernel
theorem dX0_sourceOf_50 : decode cX0_sourceOf 50 = .ok (.aload_n 0, 1) := by decide +kernel
theorem dX0_sourceOf_51 : decode cX0_sourceOf 51 = .ok (.getfield 26, 3) := by decide +kernel
theorem dX0_sourceOf_54 : decode cX0_sourceOf 54 = .ok (.goto 4, 3) := by decide +kernel
theorem dX0_sourceOf_57 : decode cX0_sourceOf 57 = .ok (.aconst_null, 1) := by decide +kernel
theorem dX0_sourceOf_58 : decode cX0_sourceOf 58 = .ok (.areturn, 1) := by decide +kernel
theorem dX0_takeYarn_0 : decode cX0_takeYarn 0 = .ok (.aload_n 3, 1) := by decide +kernel
theorem dX0_takeYarn_1 : decode cX0_takeYarn 1 = .ok (.invokevirtual 115, 3) := by decide +kernel
theorem dX0_takeYarn_4 : decode cX0_takeYarn 4 = .ok (.istore 4, 2) := by decide +kernel
theorem dX0_takeYarn_6 : decode cX0_takeYarn 6 = .ok (.aload_n 1, 1) := by decide +kernel
theorem dX0_takeYarn_7 : decode cX0_takeYarn 7 = .ok (.aload_n 3, 1) := by decide +kernel
theorem dX0_takeYarn_8 : decode cX0_takeYarn 8 = .ok (.getfield 122, 3) := by decide +kernel
theorem dX0_takeYarn_11 : decode cX0_takeYarn 11 = .ok (.iload 4, 2) := by decide +kernel
theorem dX0_takeYarn_13 : decode cX0_takeYarn 13 = .ok (.ineg, 1) := by decide +kernel
theorem dX0_takeYarn_14 : decode cX0_takeYarn 14 = .ok (.invokevirtual 128, 3) := by decide +kernel
theorem dX0_takeYarn_17 : decode cX0_takeYarn 17 = .ok (.pop, 1) := by decide +kernel
theorem dX0_takeYarn_18 : decode cX0_takeYarn 18 = .ok (.aload_n 1, 1) := by decide +kernel
theorem dX0_takeYarn_19 : decode cX0_takeYarn 19 = .ok (.aload_n 0, 1) := by decide +kernel
theorem dX0_takeYarn_20 : decode cX0_takeYarn 20 = .ok (.getfield 26, 3) := by decide +kernel
theorem dX0_takeYarn_23 : decode cX0_takeYarn 23 = .ok (.if_acmp .ne 9, 3) := by decide +kernel
theorem dX0_takeYarn_26 : decode cX0_takeYarn 26 = .ok (.aload_n 2, 1) := by decide +kernel
theorem dX0_takeYarn_27 : decode cX0_takeYarn 27 = .ok (.iload 4, 2) := by decide +kernel
theorem dX0_takeYarn_29 : decode cX0_takeYarn 29 = .ok (.invokevirtual 132, 3) := by decide +kernel
theorem dX0_takeYarn_32 : decode cX0_takeYarn 32 = .ok (.aload_n 0, 1) := by decide +kernel
theorem dX0_takeYarn_33 : decode cX0_takeYarn 33 = .ok (.dup, 1) := by decide +kernel
theorem dX0_takeYarn_34 : decode cX0_takeYarn 34 = .ok (.getfield 68, 3) := by decide +kernel
theorem dX0_takeYarn_37 : decode cX0_takeYarn 37 = .ok (.iload 4, 2) := by decide +kernel
theorem dX0_takeYarn_39 : decode cX0_takeYarn 39 = .ok (.iadd, 1) := by decide +kernel
theorem dX0_takeYarn_40 : decode cX0_takeYarn 40 = .ok (.putfield 68, 3) := by decide +kernel
theorem dX0_takeYarn_43 : decode cX0_takeYarn 43 = .ok (.return_, 1) := by decide +kernel
theorem dX0_passHour_0 : decode cX0_passHour 0 = .ok (.iconst 0, 1) := by decide +kernel
theorem dX0_passHour_1 : decode cX0_passHour 1 = .ok (.istore_n 1, 1) := by decide +kernel
theorem dX0_passHour_2 : decode cX0_passHour 2 = .ok (.iconst 0, 1) := by decide +kernel
theorem dX0_passHour_3 : decode cX0_passHour 3 = .ok (.istore_n 2, 1) := by decide +kernel
theorem dX0_passHour_4 : decode cX0_passHour 4 = .ok (.iload_n 2, 1) := by decide +kernel
theorem dX0_passHour_5 : decode cX0_passHour 5 = .ok (.aload_n 0, 1) := by decide +kernel
theorem dX0_passHour_6 : decode cX0_passHour 6 = .ok (.getfield 11, 3) := by decide +kernel
theorem dX0_passHour_9 : decode cX0_passHour 9 = .ok (.arraylength, 1) := by decide +kernel
theorem dX0_passHour_10 : decode cX0_passHour 10 = .ok (.if_icmp .ge 55, 3) := by decide +kernel
theorem dX0_passHour_13 : decode cX0_passHour 13 = .ok (.aload_n 0, 1) := by decide +kernel
theorem dX0_passHour_14 : decode cX0_passHour 14 = .ok (.getfield 11, 3) := by decide +kernel
theorem dX0_passHour_17 : decode cX0_passHour 17 = .ok (.iload_n 2, 1) := by decide +kernel
theorem dX0_passHour_18 : decode cX0_passHour 18 = .ok (.aaload, 1) := by decide +kernel
theorem dX0_passHour_19 : decode cX0_passHour 19 = .ok (.invokevirtual 107, 3) := by decide +kernel
theorem dX0_passHour_22 : decode cX0_passHour 22 = .ok (.ifCond .eq 37, 3) := by decide +kernel
theorem dX0_passHour_25 : decode cX0_passHour 25 = .ok (.aload_n 0, 1) := by decide +kernel
theorem dX0_passHour_26 : decode cX0_passHour 26 = .ok (.aload_n 0, 1) := by decide +kernel
theorem dX0_passHour_27 : decode cX0_passHour 27 = .ok (.getfield 11, 3) := by decide +kernel
theorem dX0_passHour_30 : decode cX0_passHour 30 = .ok (.iload_n 2, 1) := by decide +kernel
theorem dX0_passHour_31 : decode cX0_passHour 31 = .ok (.aaload, 1) := by decide +kernel
theorem dX0_passHour_32 : decode cX0_passHour 32 = .ok (.iload_n 2, 1) := by decide +kernel
theorem dX0_passHour_33 : decode cX0_passHour 33 = .ok (.invokevirtual 136, 3) := by decide +kernel
theorem dX0_passHour_36 : decode cX0_passHour 36 = .ok (.istore_n 3, 1) := by decide +kernel
theorem dX0_passHour_37 : decode cX0_passHour 37 = .ok (.iload_n 1, 1) := by decide +kernel
theorem dX0_passHour_38 : decode cX0_passHour 38 = .ok (.iload_n 3, 1) := by decide +kernel
theorem dX0_passHour_39 : decode cX0_passHour 39 = .ok (.iadd, 1) := by decide +kernel
theorem dX0_passHour_40 : decode cX0_passHour 40 = .ok (.istore_n 1, 1) := by decide +kernel
theorem dX0_passHour_41 : decode cX0_passHour 41 = .ok (.aload_n 0, 1) := by decide +kernel
theorem dX0_passHour_42 : decode cX0_passHour 42 = .ok (.dup, 1) := by decide +kernel
theorem dX0_passHour_43 : decode cX0_passHour 43 = .ok (.getfield 71, 3) := by decide +kernel
theorem dX0_passHour_46 : decode cX0_passHour 46 = .ok (.iload_n 3, 1) := by decide +kernel
theorem dX0_passHour_47 : decode cX0_passHour 47 = .ok (.ifCond .ne 7, 3) := by decide +kernel
theorem dX0_passHour_50 : decode cX0_passHour 50 = .ok (.iconst 1, 1) := by decide +kernel
theorem dX0_passHour_51 : decode cX0_passHour 51 = .ok (.goto 4, 3) := by decide +kernel
theorem dX0_passHour_54 : decode cX0_passHour 54 = .ok (.iconst 0, 1) := by decide +kernel
theorem dX0_passHour_55 : decode cX0_passHour 55 = .ok (.iadd, 1) := by decide +kernel
theorem dX0_passHour_56 : decode cX0_passHour 56 = .ok (.putfield 71, 3) := by decide +kernel
theorem dX0_passHour_59 : decode cX0_passHour 59 = .ok (.iinc 2 1, 3) := by decide +kernel
theorem dX0_passHour_62 : decode cX0_passHour 62 = .ok (.goto (-58), 3) := by decide +kernel
theorem dX0_passHour_65 : decode cX0_passHour 65 = .ok (.aload_n 0, 1) := by decide +kernel
theorem dX0_passHour_66 : decode cX0_passHour 66 = .ok (.dup, 1) := by decide +kernel
theorem dX0_passHour_67 : decode cX0_passHour 67 = .ok (.getfield 56, 3) := by decide +kernel
theorem dX0_passHour_70 : decode cX0_passHour 70 = .ok (.iconst 1, 1) := by decide +kernel
theorem dX0_passHour_71 : decode cX0_passHour 71 = .ok (.iadd, 1) := by decide +kernel
theorem dX0_passHour_72 : decode cX0_passHour 72 = .ok (.putfield 56, 3) := by decide +kernel
theorem dX0_passHour_75 : decode cX0_passHour 75 = .ok (.iload_n 1, 1) := by decide +kernel
theorem dX0_passHour_76 : decode cX0_passHour 76 = .ok (.ireturn, 1) := by decide +kernel
theorem dX0_workLoom_0 : decode cX0_workLoom 0 = .ok (.aload_n 0, 1) := by decide +kernel
theorem dX0_workLoom_1 : decode cX0_workLoom 1 = .ok (.aload_n 1, 1) := by decide +kernel
theorem dX0_workLoom_2 : decode cX0_workLoom 2 = .ok (.invokevirtual 103, 3) := by decide +kernel
theorem dX0_workLoom_5 : decode cX0_workLoom 5 = .ok (.astore_n 3, 1) := by decide +kernel
theorem dX0_workLoom_6 : decode cX0_workLoom 6 = .ok (.aload_n 3, 1) := by decide +kernel
theorem dX0_workLoom_7 : decode cX0_workLoom 7 = .ok (.ifnonnull 5, 3) := by decide +kernel
theorem dX0_workLoom_10 : decode cX0_workLoom 10 = .ok (.iconst 0, 1) := by decide +kernel
theorem dX0_workLoom_11 : decode cX0_workLoom 11 = .ok (.ireturn, 1) := by decide +kernel
theorem dX0_workLoom_12 : decode cX0_workLoom 12 = .ok (.iconst 0, 1) := by decide +kernel
theorem dX0_workLoom_13 : decode cX0_workLoom 13 = .ok (.istore 4, 2) := by decide +kernel
theorem dX0_workLoom_15 : decode cX0_workLoom 15 = .ok (.iconst 0, 1) := by decide +kernel
theorem dX0_workLoom_16 : decode cX0_workLoom 16 = .ok (.istore 5, 2) := by decide +kernel
theorem dX0_workLoom_18 : decode cX0_workLoom 18 = .ok (.iload 5, 2) := by decide +kernel
theorem dX0_workLoom_20 : decode cX0_workLoom 20 = .ok (.aload_n 1, 1) := by decide +kernel
theorem dX0_workLoom_21 : decode cX0_workLoom 21 = .ok (.getfield 140, 3) := by decide +kernel
theorem dX0_workLoom_24 : decode cX0_workLoom 24 = .ok (.if_icmp .ge 55, 3) := by decide +kernel
theorem dX0_workLoom_27 : decode cX0_workLoom 27 = .ok (.aload_n 3, 1) := by decide +kernel
theorem dX0_workLoom_28 : decode cX0_workLoom 28 = .ok (.invokevirtual 143, 3) := by decide +kernel
theorem dX0_workLoom_31 : decode cX0_workLoom 31 = .ok (.ifCond .ne 48, 3) := by decide +kernel
theorem dX0_workLoom_34 : decode cX0_workLoom 34 = .ok (.aload_n 0, 1) := by decide +kernel
theorem dX0_workLoom_35 : decode cX0_workLoom 35 = .ok (.aload_n 1, 1) := by decide +kernel
theorem dX0_workLoom_36 : decode cX0_workLoom 36 = .ok (.aload_n 3, 1) := by decide +kernel
theorem dX0_workLoom_37 : decode cX0_workLoom 37 = .ok (.invokevirtual 111, 3) := by decide +kernel
theorem dX0_workLoom_40 : decode cX0_workLoom 40 = .ok (.astore 6, 2) := by decide +kernel
theorem dX0_workLoom_42 : decode cX0_workLoom 42 = .ok (.aload 6, 2) := by decide +kernel
theorem dX0_workLoom_44 : decode cX0_workLoom 44 = .ok (.ifnonnull 6, 3) := by decide +kernel
theorem dX0_workLoom_47 : decode cX0_workLoom 47 = .ok (.goto 32, 3) := by decide +kernel
theorem dX0_workLoom_50 : decode cX0_workLoom 50 = .ok (.aload_n 0, 1) := by decide +kernel
theorem dX0_workLoom_51 : decode cX0_workLoom 51 = .ok (.aload 6, 2) := by decide +kernel
theorem dX0_workLoom_53 : decode cX0_workLoom 53 = .ok (.aload_n 1, 1) := by decide +kernel
theorem dX0_workLoom_54 : decode cX0_workLoom 54 = .ok (.aload_n 3, 1) := by decide +kernel
theorem dX0_workLoom_55 : decode cX0_workLoom 55 = .ok (.invokevirtual 146, 3) := by decide +kernel
theorem dX0_workLoom_58 : decode cX0_workLoom 58 = .ok (.iinc 4 1, 3) := by decide +kernel
theorem dX0_workLoom_61 : decode cX0_workLoom 61 = .ok (.aload_n 1, 1) := by decide +kernel
theorem dX0_workLoom_62 : decode cX0_workLoom 62 = .ok (.invokevirtual 150, 3) := by decide +kernel
theorem dX0_workLoom_65 : decode cX0_workLoom 65 = .ok (.ifCond .eq 8, 3) := by decide +kernel
theorem dX0_workLoom_68 : decode cX0_workLoom 68 = .ok (.aload_n 3, 1) := by decide +kernel
theorem dX0_workLoom_69 : decode cX0_workLoom 69 = .ok (.iload_n 2, 1) := by decide +kernel
theorem dX0_workLoom_70 : decode cX0_workLoom 70 = .ok (.invokevirtual 153, 3) := by decide +kernel
theorem dX0_workLoom_73 : decode cX0_workLoom 73 = .ok (.iinc 5 1, 3) := by decide +kernel
theorem dX0_workLoom_76 : decode cX0_workLoom 76 = .ok (.goto (-58), 3) := by decide +kernel
theorem dX0_workLoom_79 : decode cX0_workLoom 79 = .ok (.aload_n 3, 1) := by decide +kernel
theorem dX0_workLoom_80 : decode cX0_workLoom 80 = .ok (.invokevirtual 143, 3) := by decide +kernel
theorem dX0_workLoom_83 : decode cX0_workLoom 83 = .ok (.ifCond .eq 8, 3) := by decide +kernel
theorem dX0_workLoom_86 : decode cX0_workLoom 86 = .ok (.aload_n 0, 1) := by decide +kernel
theorem dX0_workLoom_87 : decode cX0_workLoom 87 = .ok (.aload_n 3, 1) := by decide +kernel
theorem dX0_workLoom_88 : decode cX0_workLoom 88 = .ok (.invokevirtual 156, 3) := by decide +kernel
theorem dX0_workLoom_91 : decode cX0_workLoom 91 = .ok (.iload 4, 2) := by decide +kernel
theorem dX0_workLoom_93 : decode cX0_workLoom 93 = .ok (.ireturn, 1) := by decide +kernel
theorem dX0_finish_0 : decode cX0_finish 0 = .ok (.aload_n 1, 1) := by decide +kernel
theorem dX0_finish_1 : decode cX0_finish 1 = .ok (.aload_n 0, 1) := by decide +kernel
theorem dX0_finish_2 : decode cX0_finish 2 = .ok (.getfield 56, 3) := by decide +kernel
theorem dX0_finish_5 : decode cX0_finish 5 = .ok (.invokevirtual 159, 3) := by decide +kernel
theorem dX0_finish_8 : decode cX0_finish 8 = .ok (.istore_n 2, 1) := by decide +kernel
theorem dX0_finish_9 : decode cX0_finish 9 = .ok (.aload_n 1, 1) := by decide +kernel
theorem dX0_finish_10 : decode cX0_finish 10 = .ok (.iload_n 2, 1) := by decide +kernel
theorem dX0_finish_11 : decode cX0_finish 11 = .ok (.aload_n 0, 1) := by decide +kernel
theorem dX0_finish_12 : decode cX0_finish 12 = .ok (.getfield 30, 3) := by decide +kernel
theorem dX0_finish_15 : decode cX0_finish 15 = .ok (.iconst 2, 1) := by decide +kernel
theorem dX0_finish_16 : decode cX0_finish 16 = .ok (.iaload, 1) := by decide +kernel
theorem dX0_finish_17 : decode cX0_finish 17 = .ok (.invokevirtual 162, 3) := by decide +kernel
theorem dX0_finish_20 : decode cX0_finish 20 = .ok (.istore_n 3, 1) := by decide +kernel
theorem dX0_finish_21 : decode cX0_finish 21 = .ok (.aload_n 1, 1) := by decide +kernel
theorem dX0_finish_22 : decode cX0_finish 22 = .ok (.iload_n 3, 1) := by decide +kernel
theorem dX0_finish_23 : decode cX0_finish 23 = .ok (.aload_n 0, 1) := by decide +kernel
theorem dX0_finish_24 : decode cX0_finish 24 = .ok (.getfield 34, 3) := by decide +kernel
theorem dX0_finish_27 : decode cX0_finish 27 = .ok (.invokevirtual 165, 3) := by decide +kernel
theorem dX0_finish_30 : decode cX0_finish 30 = .ok (.iconst 0, 1) := by decide +kernel
theorem dX0_finish_31 : decode cX0_finish 31 = .ok (.istore 4, 2) := by decide +kernel
theorem dX0_finish_33 : decode cX0_finish 33 = .ok (.iload 4, 2) := by decide +kernel
theorem dX0_finish_35 : decode cX0_finish 35 = .ok (.aload_n 0, 1) := by decide +kernel
theorem dX0_finish_36 : decode cX0_finish 36 = .ok (.getfield 11, 3) := by decide +kernel
theorem dX0_finish_39 : decode cX0_finish 39 = .ok (.arraylength, 1) := by decide +kernel
theorem dX0_finish_40 : decode cX0_finish 40 = .ok (.if_icmp .ge 42, 3) := by decide +kernel
theorem dX0_finish_43 : decode cX0_finish 43 = .ok (.iload 4, 2) := by decide +kernel
theorem dX0_finish_45 : decode cX0_finish 45 = .ok (.aload_n 0, 1) := by decide +kernel
theorem dX0_finish_46 : decode cX0_finish 46 = .ok (.getfield 34, 3) := by decide +kernel
theorem dX0_finish_49 : decode cX0_finish 49 = .ok (.arraylength, 1) := by decide +kernel
theorem dX0_finish_50 : decode cX0_finish 50 = .ok (.if_icmp .ge 32, 3) := by decide +kernel
theorem dX0_finish_53 : decode cX0_finish 53 = .ok (.aload_n 0, 1) := by decide +kernel
theorem dX0_finish_54 : decode cX0_finish 54 = .ok (.getfield 11, 3) := by decide +kernel
theorem dX0_finish_57 : decode cX0_finish 57 = .ok (.iload 4, 2) := by decide +kernel
theorem dX0_finish_59 : decode cX0_finish 59 = .ok (.aaload, 1) := by decide +kernel
theorem dX0_finish_60 : decode cX0_finish 60 = .ok (.aload_n 0, 1) := by decide +kernel
theorem dX0_finish_61 : decode cX0_finish 61 = .ok (.getfield 34, 3) := by decide +kernel
theorem dX0_finish_64 : decode cX0_finish 64 = .ok (.iload 4, 2) := by decide +kernel
theorem dX0_finish_66 : decode cX0_finish 66 = .ok (.iaload, 1) := by decide +kernel
theorem dX0_finish_67 : decode cX0_finish 67 = .ok (.aload_n 0, 1) := by decide +kernel
theorem dX0_finish_68 : decode cX0_finish 68 = .ok (.getfield 30, 3) := by decide +kernel
theorem dX0_finish_71 : decode cX0_finish 71 = .ok (.iconst 3, 1) := by decide +kernel
theorem dX0_finish_72 : decode cX0_finish 72 = .ok (.iaload, 1) := by decide +kernel
theorem dX0_finish_73 : decode cX0_finish 73 = .ok (.invokevirtual 169, 3) := by decide +kernel
theorem dX0_finish_76 : decode cX0_finish 76 = .ok (.iinc 4 1, 3) := by decide +kernel
theorem dX0_finish_79 : decode cX0_finish 79 = .ok (.goto (-46), 3) := by decide +kernel
theorem dX0_finish_82 : decode cX0_finish 82 = .ok (.aload_n 0, 1) := by decide +kernel
theorem dX0_finish_83 : decode cX0_finish 83 = .ok (.dup, 1) := by decide +kernel
theorem dX0_finish_84 : decode cX0_finish 84 = .ok (.getfield 65, 3) := by decide +kernel
theorem dX0_finish_87 : decode cX0_finish 87 = .ok (.iload_n 3, 1) := by decide +kernel
theorem dX0_finish_88 : decode cX0_finish 88 = .ok (.iadd, 1) := by decide +kernel
theorem dX0_finish_89 : decode cX0_finish 89 = .ok (.putfield 65, 3) := by decide +kernel
theorem dX0_finish_92 : decode cX0_finish 92 = .ok (.aload_n 0, 1) := by decide +kernel
theorem dX0_finish_93 : decode cX0_finish 93 = .ok (.dup, 1) := by decide +kernel
theorem dX0_finish_94 : decode cX0_finish 94 = .ok (.getfield 59, 3) := by decide +kernel
theorem dX0_finish_97 : decode cX0_finish 97 = .ok (.iconst 1, 1) := by decide +kernel
theorem dX0_finish_98 : decode cX0_finish 98 = .ok (.iadd, 1) := by decide +kernel
theorem dX0_finish_99 : decode cX0_finish 99 = .ok (.putfield 59, 3) := by decide +kernel
theorem dX0_finish_102 : decode cX0_finish 102 = .ok (.aload_n 0, 1) := by decide +kernel
theorem dX0_finish_103 : decode cX0_finish 103 = .ok (.dup, 1) := by decide +kernel
theorem dX0_finish_104 : decode cX0_finish 104 = .ok (.getfield 62, 3) := by decide +kernel
theorem dX0_finish_107 : decode cX0_finish 107 = .ok (.iload_n 2, 1) := by decide +kernel
theorem dX0_finish_108 : decode cX0_finish 108 = .ok (.ifCond .le 7, 3) := by decide +kernel
theorem dX0_finish_111 : decode cX0_finish 111 = .ok (.iconst 1, 1) := by decide +kernel
theorem dX0_finish_112 : decode cX0_finish 112 = .ok (.goto 4, 3) := by decide +kernel
theorem dX0_finish_115 : decode cX0_finish 115 = .ok (.iconst 0, 1) := by decide +kernel
theorem dX0_finish_116 : decode cX0_finish 116 = .ok (.iadd, 1) := by decide +kernel
theorem dX0_finish_117 : decode cX0_finish 117 = .ok (.putfield 62, 3) := by decide +kernel
theorem dX0_finish_120 : decode cX0_finish 120 = .ok (.aload_n 0, 1) := by decide +kernel
theorem dX0_finish_121 : decode cX0_finish 121 = .ok (.aload_n 1, 1) := by decide +kernel
theorem dX0_finish_122 : decode cX0_finish 122 = .ok (.invokevirtual 173, 3) := by decide +kernel
theorem dX0_finish_125 : decode cX0_finish 125 = .ok (.return_, 1) := by decide +kernel
theorem dX0_foresee_0 : decode cX0_foresee 0 = .ok (.iconst 1, 1) := by decide +kernel
theorem dX0_foresee_1 : decode cX0_foresee 1 = .ok (.istore_n 2, 1) := by decide +kernel
theorem dX0_foresee_2 : decode cX0_foresee 2 = .ok (.iconst 0, 1) := by decide +kernel
theorem dX0_foresee_3 : decode cX0_foresee 3 = .ok (.istore_n 3, 1) := by decide +kernel
theorem dX0_foresee_4 : decode cX0_foresee 4 = .ok (.iload_n 3, 1) := by decide +kernel
theorem dX0_foresee_5 : decode cX0_foresee 5 = .ok (.iload_n 1, 1) := by decide +kernel
theorem dX0_foresee_6 : decode cX0_foresee 6 = .ok (.if_icmp .ge 26, 3) := by decide +kernel
theorem dX0_foresee_9 : decode cX0_foresee 9 = .ok (.iload_n 2, 1) := by decide +kernel
theorem dX0_foresee_10 : decode cX0_foresee 10 = .ok (.ifCond .eq 22, 3) := by decide +kernel
theorem dX0_foresee_13 : decode cX0_foresee 13 = .ok (.aload_n 0, 1) := by decide +kernel
theorem dX0_foresee_14 : decode cX0_foresee 14 = .ok (.invokevirtual 176, 3) := by decide +kernel
theorem dX0_foresee_17 : decode cX0_foresee 17 = .ok (.ifCond .le 7, 3) := by decide +kernel
theorem dX0_foresee_20 : decode cX0_foresee 20 = .ok (.iconst 1, 1) := by decide +kernel
theorem dX0_foresee_21 : decode cX0_foresee 21 = .ok (.goto 4, 3) := by decide +kernel
theorem dX0_foresee_24 : decode cX0_foresee 24 = .ok (.iconst 0, 1) := by decide +kernel
theorem dX0_foresee_25 : decode cX0_foresee 25 = .ok (.istore_n 2, 1) := by decide +kernel
theorem dX0_foresee_26 : decode cX0_foresee 26 = .ok (.iinc 3 1, 3) := by decide +kernel
theorem dX0_foresee_29 : decode cX0_foresee 29 = .ok (.goto (-25), 3) := by decide +kernel
theorem dX0_foresee_32 : decode cX0_foresee 32 = .ok (.return_, 1) := by decide +kernel
theorem dX0_dueOf_0 : decode cX0_dueOf 0 = .ok (.aload_n 1, 1) := by decide +kernel
theorem dX0_dueOf_1 : decode cX0_dueOf 1 = .ok (.aload_n 1, 1) := by decide +kernel
theorem dX0_dueOf_2 : decode cX0_dueOf 2 = .ok (.aload_n 0, 1) := by decide +kernel
theorem dX0_dueOf_3 : decode cX0_dueOf 3 = .ok (.getfield 56, 3) := by decide +kernel
theorem dX0_dueOf_6 : decode cX0_dueOf 6 = .ok (.invokevirtual 159, 3) := by decide +kernel
theorem dX0_dueOf_9 : decode cX0_dueOf 9 = .ok (.aload_n 0, 1) := by decide +kernel
theorem dX0_dueOf_10 : decode cX0_dueOf 10 = .ok (.getfield 30, 3) := by decide +kernel
theorem dX0_dueOf_13 : decode cX0_dueOf 13 = .ok (.iconst 2, 1) := by decide +kernel
theorem dX0_dueOf_14 : decode cX0_dueOf 14 = .ok (.iaload, 1) := by decide +kernel
theorem dX0_dueOf_15 : decode cX0_dueOf 15 = .ok (.invokevirtual 162, 3) := by decide +kernel
theorem dX0_dueOf_18 : decode cX0_dueOf 18 = .ok (.istore_n 3, 1) := by decide +kernel
theorem dX0_dueOf_19 : decode cX0_dueOf 19 = .ok (.aload_n 1, 1) := by decide +kernel
theorem dX0_dueOf_20 : decode cX0_dueOf 20 = .ok (.iload_n 3, 1) := by decide +kernel
theorem dX0_dueOf_21 : decode cX0_dueOf 21 = .ok (.aload_n 0, 1) := by decide +kernel
theorem dX0_dueOf_22 : decode cX0_dueOf 22 = .ok (.getfield 34, 3) := by decide +kernel
theorem dX0_dueOf_25 : decode cX0_dueOf 25 = .ok (.invokevirtual 165, 3) := by decide +kernel
theorem dX0_dueOf_28 : decode cX0_dueOf 28 = .ok (.iload_n 2, 1) := by decide +kernel
theorem dX0_dueOf_29 : decode cX0_dueOf 29 = .ok (.ifCond .lt 21, 3) := by decide +kernel
theorem dX0_dueOf_32 : decode cX0_dueOf 32 = .ok (.iload_n 2, 1) := by decide +kernel
theorem dX0_dueOf_33 : decode cX0_dueOf 33 = .ok (.aload_n 0, 1) := by decide +kernel
theorem dX0_dueOf_34 : decode cX0_dueOf 34 = .ok (.getfield 34, 3) := by decide +kernel
theorem dX0_dueOf_37 : decode cX0_dueOf 37 = .ok (.arraylength, 1) := by decide +kernel
theorem dX0_dueOf_38 : decode cX0_dueOf 38 = .ok (.if_icmp .ge 12, 3) := by decide +kernel
theorem dX0_dueOf_41 : decode cX0_dueOf 41 = .ok (.aload_n 0, 1) := by decide +kernel
theorem dX0_dueOf_42 : decode cX0_dueOf 42 = .ok (.getfield 34, 3) := by decide +kernel
theorem dX0_dueOf_45 : decode cX0_dueOf 45 = .ok (.iload_n 2, 1) := by decide +kernel
theorem dX0_dueOf_46 : decode cX0_dueOf 46 = .ok (.iaload, 1) := by decide +kernel
theorem dX0_dueOf_47 : decode cX0_dueOf 47 = .ok (.goto 4, 3) := by decide +kernel
theorem dX0_dueOf_50 : decode cX0_dueOf 50 = .ok (.iconst 0, 1) := by decide +kernel
theorem dX0_dueOf_51 : decode cX0_dueOf 51 = .ok (.ireturn, 1) := by decide +kernel
theorem dX0_sumOf_0 : decode cX0_sumOf 0 = .ok (.iconst 0, 1) := by decide +kernel
theorem dX0_sumOf_1 : decode cX0_sumOf 1 = .ok (.istore_n 2, 1) := by decide +kernel
theorem dX0_sumOf_2 : decode cX0_sumOf 2 = .ok (.iconst 0, 1) := by decide +kernel
theorem dX0_sumOf_3 : decode cX0_sumOf 3 = .ok (.istore_n 3, 1) := by decide +kernel
theorem dX0_sumOf_4 : decode cX0_sumOf 4 = .ok (.iload_n 3, 1) := by decide +kernel
theorem dX0_sumOf_5 : decode cX0_sumOf 5 = .ok (.aload_n 0, 1) := by decide +kernel
theorem dX0_sumOf_6 : decode cX0_sumOf 6 = .ok (.getfield 11, 3) := by decide +kernel
theorem dX0_sumOf_9 : decode cX0_sumOf 9 = .ok (.arraylength, 1) := by decide +kernel
theorem dX0_sumOf_10 : decode cX0_sumOf 10 = .ok (.if_icmp .ge 22, 3) := by decide +kernel
theorem dX0_sumOf_13 : decode cX0_sumOf 13 = .ok (.iload_n 2, 1) := by decide +kernel
theorem dX0_sumOf_14 : decode cX0_sumOf 14 = .ok (.aload_n 0, 1) := by decide +kernel
theorem dX0_sumOf_15 : decode cX0_sumOf 15 = .ok (.getfield 11, 3) := by decide +kernel
theorem dX0_sumOf_18 : decode cX0_sumOf 18 = .ok (.iload_n 3, 1) := by decide +kernel
theorem dX0_sumOf_19 : decode cX0_sumOf 19 = .ok (.aaload, 1) := by decide +kernel
theorem dX0_sumOf_20 : decode cX0_sumOf 20 = .ok (.iload_n 1, 1) := by decide +kernel
theorem dX0_sumOf_21 : decode cX0_sumOf 21 = .ok (.invokevirtual 179, 3) := by decide +kernel
theorem dX0_sumOf_24 : decode cX0_sumOf 24 = .ok (.iadd, 1) := by decide +kernel
theorem dX0_sumOf_25 : decode cX0_sumOf 25 = .ok (.istore_n 2, 1) := by decide +kernel
theorem dX0_sumOf_26 : decode cX0_sumOf 26 = .ok (.iinc 3 1, 3) := by decide +kernel
theorem dX0_sumOf_29 : decode cX0_sumOf 29 = .ok (.goto (-25), 3) := by decide +kernel
theorem dX0_sumOf_32 : decode cX0_sumOf 32 = .ok (.iload_n 2, 1) := by decide +kernel
theorem dX0_sumOf_33 : decode cX0_sumOf 33 = .ok (.ireturn, 1) := by decide +kernel
theorem dX0_loomsAsWideAs_0 : decode cX0_loomsAsWideAs 0 = .ok (.iconst 0, 1) := by decide +kernel
theorem dX0_loomsAsWideAs_1 : decode cX0_loomsAsWideAs 1 = .ok (.istore_n 2, 1) := by decide +kernel
theorem dX0_loomsAsWideAs_2 : decode cX0_loomsAsWideAs 2 = .ok (.iconst 0, 1) := by decide +kernel
theorem dX0_loomsAsWideAs_3 : decode cX0_loomsAsWideAs 3 = .ok (.istore_n 3, 1) := by decide +kernel
theorem dX0_loomsAsWideAs_4 : decode cX0_loomsAsWideAs 4 = .ok (.iload_n 3, 1) := by decide +kernel
theorem dX0_loomsAsWideAs_5 : decode cX0_loomsAsWideAs 5 = .ok (.aload_n 0, 1) := by decide +kernel
theorem dX0_loomsAsWideAs_6 : decode cX0_loomsAsWideAs 6 = .ok (.getfield 11, 3) := by decide +kernel
theorem dX0_loomsAsWideAs_9 : decode cX0_loomsAsWideAs 9 = .ok (.arraylength, 1) := by decide +kernel
theorem dX0_loomsAsWideAs_10 : decode cX0_loomsAsWideAs 10 = .ok (.if_icmp .ge 30, 3) := by decide +kernel
theorem dX0_loomsAsWideAs_13 : decode cX0_loomsAsWideAs 13 = .ok (.iload_n 2, 1) := by decide +kernel
theorem dX0_loomsAsWideAs_14 : decode cX0_loomsAsWideAs 14 = .ok (.aload_n 0, 1) := by decide +kernel
theorem dX0_loomsAsWideAs_15 : decode cX0_loomsAsWideAs 15 = .ok (.getfield 11, 3) := by decide +kernel
theorem dX0_loomsAsWideAs_18 : decode cX0_loomsAsWideAs 18 = .ok (.iload_n 3, 1) := by decide +kernel
theorem dX0_loomsAsWideAs_19 : decode cX0_loomsAsWideAs 19 = .ok (.aaload, 1) := by decide +kernel
theorem dX0_loomsAsWideAs_20 : decode cX0_loomsAsWideAs 20 = .ok (.getfield 98, 3) := by decide +kernel
theorem dX0_loomsAsWideAs_23 : decode cX0_loomsAsWideAs 23 = .ok (.iload_n 1, 1) := by decide +kernel
theorem dX0_loomsAsWideAs_24 : decode cX0_loomsAsWideAs 24 = .ok (.if_icmp .lt 7, 3) := by decide +kernel
theorem dX0_loomsAsWideAs_27 : decode cX0_loomsAsWideAs 27 = .ok (.iconst 1, 1) := by decide +kernel
theorem dX0_loomsAsWideAs_28 : decode cX0_loomsAsWideAs 28 = .ok (.goto 4, 3) := by decide +kernel
theorem dX0_loomsAsWideAs_31 : decode cX0_loomsAsWideAs 31 = .ok (.iconst 0, 1) := by decide +kernel
theorem dX0_loomsAsWideAs_32 : decode cX0_loomsAsWideAs 32 = .ok (.iadd, 1) := by decide +kernel
theorem dX0_loomsAsWideAs_33 : decode cX0_loomsAsWideAs 33 = .ok (.istore_n 2, 1) := by decide +kernel
theorem dX0_loomsAsWideAs_34 : decode cX0_loomsAsWideAs 34 = .ok (.iinc 3 1, 3) := by decide +kernel
theorem dX0_loomsAsWideAs_37 : decode cX0_loomsAsWideAs 37 = .ok (.goto (-33), 3) := by decide +kernel
theorem dX0_loomsAsWideAs_40 : decode cX0_loomsAsWideAs 40 = .ok (.iload_n 2, 1) := by decide +kernel
theorem dX0_loomsAsWideAs_41 : decode cX0_loomsAsWideAs 41 = .ok (.ireturn, 1) := by decide +kernel
theorem dX0_number_0 : decode cX0_number 0 = .ok (.iload_n 1, 1) := by decide +kernel
theorem dX0_number_1 : decode cX0_number 1 = .ok (.tableswitch 111 0 9 #[55, 60, 65, 70, 75, 80, 86, 93, 98, 104], 55) := by decide +kernel
theorem dX0_number_56 : decode cX0_number 56 = .ok (.aload_n 0, 1) := by decide +kernel
theorem dX0_number_57 : decode cX0_number 57 = .ok (.getfield 56, 3) := by decide +kernel
theorem dX0_number_60 : decode cX0_number 60 = .ok (.ireturn, 1) := by decide +kernel
theorem dX0_number_61 : decode cX0_number 61 = .ok (.aload_n 0, 1) := by decide +kernel
theorem dX0_number_62 : decode cX0_number 62 = .ok (.getfield 49, 3) := by decide +kernel
theorem dX0_number_65 : decode cX0_number 65 = .ok (.ireturn, 1) := by decide +kernel
theorem dX0_number_66 : decode cX0_number 66 = .ok (.aload_n 0, 1) := by decide +kernel
theorem dX0_number_67 : decode cX0_number 67 = .ok (.getfield 59, 3) := by decide +kernel
theorem dX0_number_70 : decode cX0_number 70 = .ok (.ireturn, 1) := by decide +kernel
theorem dX0_number_71 : decode cX0_number 71 = .ok (.aload_n 0, 1) := by decide +kernel
theorem dX0_number_72 : decode cX0_number 72 = .ok (.getfield 62, 3) := by decide +kernel
theorem dX0_number_75 : decode cX0_number 75 = .ok (.ireturn, 1) := by decide +kernel
theorem dX0_number_76 : decode cX0_number 76 = .ok (.aload_n 0, 1) := by decide +kernel
theorem dX0_number_77 : decode cX0_number 77 = .ok (.getfield 65, 3) := by decide +kernel
theorem dX0_number_80 : decode cX0_number 80 = .ok (.ireturn, 1) := by decide +kernel
theorem dX0_number_81 : decode cX0_number 81 = .ok (.aload_n 0, 1) := by decide +kernel
theorem dX0_number_82 : decode cX0_number 82 = .ok (.iconst 5, 1) := by decide +kernel
theorem dX0_number_83 : decode cX0_number 83 = .ok (.invokevirtual 182, 3) := by decide +kernel
theorem dX0_number_86 : decode cX0_number 86 = .ok (.ireturn, 1) := by decide +kernel
theorem dX0_number_87 : decode cX0_number 87 = .ok (.aload_n 0, 1) := by decide +kernel
theorem dX0_number_88 : decode cX0_number 88 = .ok (.bipush 6, 2) := by decide +kernel
theorem dX0_number_90 : decode cX0_number 90 = .ok (.invokevirtual 182, 3) := by decide +kernel
theorem dX0_number_93 : decode cX0_number 93 = .ok (.ireturn, 1) := by decide +kernel
theorem dX0_number_94 : decode cX0_number 94 = .ok (.aload_n 0, 1) := by decide +kernel
theorem dX0_number_95 : decode cX0_number 95 = .ok (.getfield 68, 3) := by decide +kernel
theorem dX0_number_98 : decode cX0_number 98 = .ok (.ireturn, 1) := by decide +kernel
theorem dX0_number_99 : decode cX0_number 99 = .ok (.aload_n 0, 1) := by decide +kernel
theorem dX0_number_100 : decode cX0_number 100 = .ok (.iconst 3, 1) := by decide +kernel
theorem dX0_number_101 : decode cX0_number 101 = .ok (.invokevirtual 182, 3) := by decide +kernel
theorem dX0_number_104 : decode cX0_number 104 = .ok (.ireturn, 1) := by decide +kernel
theorem dX0_number_105 : decode cX0_number 105 = .ok (.aload_n 0, 1) := by decide +kernel
theorem dX0_number_106 : decode cX0_number 106 = .ok (.bipush 40, 2) := by decide +kernel
theorem dX0_number_108 : decode cX0_number 108 = .ok (.invokevirtual 185, 3) := by decide +kernel
theorem dX0_number_111 : decode cX0_number 111 = .ok (.ireturn, 1) := by decide +kernel
theorem dX0_number_112 : decode cX0_number 112 = .ok (.aload_n 0, 1) := by decide +kernel
theorem dX0_number_113 : decode cX0_number 113 = .ok (.getfield 71, 3) := by decide +kernel
theorem dX0_number_116 : decode cX0_number 116 = .ok (.ireturn, 1) := by decide +kernel
theorem dX0_orderProperty_0 : decode cX0_orderProperty 0 = .ok (.aload_n 0, 1) := by decide +kernel
theorem dX0_orderProperty_1 : decode cX0_orderProperty 1 = .ok (.iload_n 1, 1) := by decide +kernel
theorem dX0_orderProperty_2 : decode cX0_orderProperty 2 = .ok (.invokevirtual 81, 3) := by decide +kernel
theorem dX0_orderProperty_5 : decode cX0_orderProperty 5 = .ok (.astore_n 3, 1) := by decide +kernel
theorem dX0_orderProperty_6 : decode cX0_orderProperty 6 = .ok (.aload_n 3, 1) := by decide +kernel
theorem dX0_orderProperty_7 : decode cX0_orderProperty 7 = .ok (.ifnonnull 5, 3) := by decide +kernel
theorem dX0_orderProperty_10 : decode cX0_orderProperty 10 = .ok (.iconst (-1), 1) := by decide +kernel
theorem dX0_orderProperty_11 : decode cX0_orderProperty 11 = .ok (.ireturn, 1) := by decide +kernel
theorem dX0_orderProperty_12 : decode cX0_orderProperty 12 = .ok (.iload_n 2, 1) := by decide +kernel
theorem dX0_orderProperty_13 : decode cX0_orderProperty 13 = .ok (.tableswitch 97 0 7 #[47, 52, 57, 62, 67, 72, 77, 82], 47) := by decide +kernel
theorem dX0_orderProperty_60 : decode cX0_orderProperty 60 = .ok (.aload_n 3, 1) := by decide +kernel
theorem dX0_orderProperty_61 : decode cX0_orderProperty 61 = .ok (.getfield 74, 3) := by decide +kernel
theorem dX0_orderProperty_64 : decode cX0_orderProperty 64 = .ok (.ireturn, 1) := by decide +kernel
theorem dX0_orderProperty_65 : decode cX0_orderProperty 65 = .ok (.aload_n 3, 1) := by decide +kernel
theorem dX0_orderProperty_66 : decode cX0_orderProperty 66 = .ok (.getfield 122, 3) := by decide +kernel
theorem dX0_orderProperty_69 : decode cX0_orderProperty 69 = .ok (.ireturn, 1) := by decide +kernel
theorem dX0_orderProperty_70 : decode cX0_orderProperty 70 = .ok (.aload_n 3, 1) := by decide +kernel
theorem dX0_orderProperty_71 : decode cX0_orderProperty 71 = .ok (.getfield 92, 3) := by decide +kernel
theorem dX0_orderProperty_74 : decode cX0_orderProperty 74 = .ok (.ireturn, 1) := by decide +kernel
theorem dX0_orderProperty_75 : decode cX0_orderProperty 75 = .ok (.aload_n 3, 1) := by decide +kernel
theorem dX0_orderProperty_76 : decode cX0_orderProperty 76 = .ok (.getfield 188, 3) := by decide +kernel
theorem dX0_orderProperty_79 : decode cX0_orderProperty 79 = .ok (.ireturn, 1) := by decide +kernel
theorem dX0_orderProperty_80 : decode cX0_orderProperty 80 = .ok (.aload_n 3, 1) := by decide +kernel
theorem dX0_orderProperty_81 : decode cX0_orderProperty 81 = .ok (.getfield 95, 3) := by decide +kernel
theorem dX0_orderProperty_84 : decode cX0_orderProperty 84 = .ok (.ireturn, 1) := by decide +kernel
theorem dX0_orderProperty_85 : decode cX0_orderProperty 85 = .ok (.aload_n 3, 1) := by decide +kernel
theorem dX0_orderProperty_86 : decode cX0_orderProperty 86 = .ok (.getfield 89, 3) := by decide +kernel
theorem dX0_orderProperty_89 : decode cX0_orderProperty 89 = .ok (.ireturn, 1) := by decide +kernel
theorem dX0_orderProperty_90 : decode cX0_orderProperty 90 = .ok (.aload_n 3, 1) := by decide +kernel
theorem dX0_orderProperty_91 : decode cX0_orderProperty 91 = .ok (.getfield 191, 3) := by decide +kernel
theorem dX0_orderProperty_94 : decode cX0_orderProperty 94 = .ok (.ireturn, 1) := by decide +kernel
theorem dX0_orderProperty_95 : decode cX0_orderProperty 95 = .ok (.aload_n 3, 1) := by decide +kernel
theorem dX0_orderProperty_96 : decode cX0_orderProperty 96 = .ok (.getfield 188, 3) := by decide +kernel
theorem dX0_orderProperty_99 : decode cX0_orderProperty 99 = .ok (.aload_n 3, 1) := by decide +kernel
theorem dX0_orderProperty_100 : decode cX0_orderProperty 100 = .ok (.getfield 191, 3) := by decide +kernel
theorem dX0_orderProperty_103 : decode cX0_orderProperty 103 = .ok (.isub, 1) := by decide +kernel
theorem dX0_orderProperty_104 : decode cX0_orderProperty 104 = .ok (.aload_n 3, 1) := by decide +kernel
theorem dX0_orderProperty_105 : decode cX0_orderProperty 105 = .ok (.invokevirtual 115, 3) := by decide +kernel
theorem dX0_orderProperty_108 : decode cX0_orderProperty 108 = .ok (.imul, 1) := by decide +kernel
theorem dX0_orderProperty_109 : decode cX0_orderProperty 109 = .ok (.ireturn, 1) := by decide +kernel
theorem dX0_orderProperty_110 : decode cX0_orderProperty 110 = .ok (.aload_n 0, 1) := by decide +kernel
theorem dX0_orderProperty_111 : decode cX0_orderProperty 111 = .ok (.aload_n 3, 1) := by decide +kernel
theorem dX0_orderProperty_112 : decode cX0_orderProperty 112 = .ok (.getfield 92, 3) := by decide +kernel
theorem dX0_orderProperty_115 : decode cX0_orderProperty 115 = .ok (.invokevirtual 185, 3) := by decide +kernel
theorem dX0_orderProperty_118 : decode cX0_orderProperty 118 = .ok (.ireturn, 1) := by decide +kernel
theorem dX0_earnedRatio_0 : decode cX0_earnedRatio 0 = .ok (.iconst 0, 1) := by decide +kernel
theorem dX0_earnedRatio_1 : decode cX0_earnedRatio 1 = .ok (.istore_n 1, 1) := by decide +kernel
theorem dX0_earnedRatio_2 : decode cX0_earnedRatio 2 = .ok (.iconst 0, 1) := by decide +kernel
theorem dX0_earnedRatio_3 : decode cX0_earnedRatio 3 = .ok (.istore_n 2, 1) := by decide +kernel
theorem dX0_earnedRatio_4 : decode cX0_earnedRatio 4 = .ok (.iconst 0, 1) := by decide +kernel
theorem dX0_earnedRatio_5 : decode cX0_earnedRatio 5 = .ok (.istore_n 3, 1) := by decide +kernel
theorem dX0_earnedRatio_6 : decode cX0_earnedRatio 6 = .ok (.iconst 0, 1) := by decide +kernel
theorem dX0_earnedRatio_7 : decode cX0_earnedRatio 7 = .ok (.istore 4, 2) := by decide +kernel
theorem dX0_earnedRatio_9 : decode cX0_earnedRatio 9 = .ok (.iload 4, 2) := by decide +kernel
theorem dX0_earnedRatio_11 : decode cX0_earnedRatio 11 = .ok (.aload_n 0, 1) := by decide +kernel
theorem dX0_earnedRatio_12 : decode cX0_earnedRatio 12 = .ok (.getfield 11, 3) := by decide +kernel
theorem dX0_earnedRatio_15 : decode cX0_earnedRatio 15 = .ok (.arraylength, 1) := by decide +kernel
theorem dX0_earnedRatio_16 : decode cX0_earnedRatio 16 = .ok (.if_icmp .ge 59, 3) := by decide +kernel
theorem dX0_earnedRatio_19 : decode cX0_earnedRatio 19 = .ok (.aload_n 0, 1) := by decide +kernel
theorem dX0_earnedRatio_20 : decode cX0_earnedRatio 20 = .ok (.getfield 11, 3) := by decide +kernel
theorem dX0_earnedRatio_23 : decode cX0_earnedRatio 23 = .ok (.iload 4, 2) := by decide +kernel
theorem dX0_earnedRatio_25 : decode cX0_earnedRatio 25 = .ok (.aaload, 1) := by decide +kernel
theorem dX0_earnedRatio_26 : decode cX0_earnedRatio 26 = .ok (.invokevirtual 107, 3) := by decide +kernel
theorem dX0_earnedRatio_29 : decode cX0_earnedRatio 29 = .ok (.ifCond .eq 40, 3) := by decide +kernel
theorem dX0_earnedRatio_32 : decode cX0_earnedRatio 32 = .ok (.aload_n 0, 1) := by decide +kernel
theorem dX0_earnedRatio_33 : decode cX0_earnedRatio 33 = .ok (.getfield 11, 3) := by decide +kernel
theorem dX0_earnedRatio_36 : decode cX0_earnedRatio 36 = .ok (.iload 4, 2) := by decide +kernel
theorem dX0_earnedRatio_38 : decode cX0_earnedRatio 38 = .ok (.aaload, 1) := by decide +kernel
theorem dX0_earnedRatio_39 : decode cX0_earnedRatio 39 = .ok (.getfield 194, 3) := by decide +kernel
theorem dX0_earnedRatio_42 : decode cX0_earnedRatio 42 = .ok (.istore 5, 2) := by decide +kernel
theorem dX0_earnedRatio_44 : decode cX0_earnedRatio 44 = .ok (.iload_n 1, 1) := by decide +kernel
theorem dX0_earnedRatio_45 : decode cX0_earnedRatio 45 = .ok (.ifCond .eq 12, 3) := by decide +kernel
theorem dX0_earnedRatio_48 : decode cX0_earnedRatio 48 = .ok (.iload_n 2, 1) := by decide +kernel
theorem dX0_earnedRatio_49 : decode cX0_earnedRatio 49 = .ok (.iload 5, 2) := by decide +kernel
theorem dX0_earnedRatio_51 : decode cX0_earnedRatio 51 = .ok (.invokestatic 197, 3) := by decide +kernel
theorem dX0_earnedRatio_54 : decode cX0_earnedRatio 54 = .ok (.goto 5, 3) := by decide +kernel
theorem dX0_earnedRatio_57 : decode cX0_earnedRatio 57 = .ok (.iload 5, 2) := by decide +kernel
theorem dX0_earnedRatio_59 : decode cX0_earnedRatio 59 = .ok (.istore_n 2, 1) := by decide +kernel
theorem dX0_earnedRatio_60 : decode cX0_earnedRatio 60 = .ok (.iload_n 3, 1) := by decide +kernel
theorem dX0_earnedRatio_61 : decode cX0_earnedRatio 61 = .ok (.iload 5, 2) := by decide +kernel
theorem dX0_earnedRatio_63 : decode cX0_earnedRatio 63 = .ok (.invokestatic 202, 3) := by decide +kernel
theorem dX0_earnedRatio_66 : decode cX0_earnedRatio 66 = .ok (.istore_n 3, 1) := by decide +kernel
theorem dX0_earnedRatio_67 : decode cX0_earnedRatio 67 = .ok (.iconst 1, 1) := by decide +kernel
theorem dX0_earnedRatio_68 : decode cX0_earnedRatio 68 = .ok (.istore_n 1, 1) := by decide +kernel
theorem dX0_earnedRatio_69 : decode cX0_earnedRatio 69 = .ok (.iinc 4 1, 3) := by decide +kernel
theorem dX0_earnedRatio_72 : decode cX0_earnedRatio 72 = .ok (.goto (-63), 3) := by decide +kernel
theorem dX0_earnedRatio_75 : decode cX0_earnedRatio 75 = .ok (.iload_n 3, 1) := by decide +kernel
theorem dX0_earnedRatio_76 : decode cX0_earnedRatio 76 = .ok (.ifCond .le 11, 3) := by decide +kernel
theorem dX0_earnedRatio_79 : decode cX0_earnedRatio 79 = .ok (.iload_n 2, 1) := by decide +kernel
theorem dX0_earnedRatio_80 : decode cX0_earnedRatio 80 = .ok (.i2d, 1) := by decide +kernel
theorem dX0_earnedRatio_81 : decode cX0_earnedRatio 81 = .ok (.iload_n 3, 1) := by decide +kernel
theorem dX0_earnedRatio_82 : decode cX0_earnedRatio 82 = .ok (.i2d, 1) := by decide +kernel
theorem dX0_earnedRatio_83 : decode cX0_earnedRatio 83 = .ok (.ddiv, 1) := by decide +kernel
theorem dX0_earnedRatio_84 : decode cX0_earnedRatio 84 = .ok (.goto 4, 3) := by decide +kernel
theorem dX0_earnedRatio_87 : decode cX0_earnedRatio 87 = .ok (.dconst 1, 1) := by decide +kernel
theorem dX0_earnedRatio_88 : decode cX0_earnedRatio 88 = .ok (.dreturn, 1) := by decide +kernel
theorem dX1_init_0 : decode cX1_init 0 = .ok (.aload_n 0, 1) := by decide +kernel
theorem dX1_init_1 : decode cX1_init 1 = .ok (.invokespecial 3, 3) := by decide +kernel
theorem dX1_init_4 : decode cX1_init 4 = .ok (.aload_n 0, 1) := by decide +kernel
theorem dX1_init_5 : decode cX1_init 5 = .ok (.bipush 6, 2) := by decide +kernel
theorem dX1_init_7 : decode cX1_init 7 = .ok (.newarray .int, 2) := by decide +kernel
theorem dX1_init_9 : decode cX1_init 9 = .ok (.putfield 9, 3) := by decide +kernel
theorem dX1_init_12 : decode cX1_init 12 = .ok (.return_, 1) := by decide +kernel
theorem dX1_become_0 : decode cX1_become 0 = .ok (.aload_n 0, 1) := by decide +kernel
theorem dX1_become_1 : decode cX1_become 1 = .ok (.iload_n 1, 1) := by decide +kernel
theorem dX1_become_2 : decode cX1_become 2 = .ok (.putfield 15, 3) := by decide +kernel
theorem dX1_become_5 : decode cX1_become 5 = .ok (.aload_n 0, 1) := by decide +kernel
theorem dX1_become_6 : decode cX1_become 6 = .ok (.iload_n 2, 1) := by decide +kernel
theorem dX1_become_7 : decode cX1_become 7 = .ok (.putfield 19, 3) := by decide +kernel
theorem dX1_become_10 : decode cX1_become 10 = .ok (.aload_n 0, 1) := by decide +kernel
theorem dX1_become_11 : decode cX1_become 11 = .ok (.iload_n 3, 1) := by decide +kernel
theorem dX1_become_12 : decode cX1_become 12 = .ok (.putfield 22, 3) := by decide +kernel
theorem dX1_become_15 : decode cX1_become 15 = .ok (.aload_n 0, 1) := by decide +kernel
theorem dX1_become_16 : decode cX1_become 16 = .ok (.iload 4, 2) := by decide +kernel
theorem dX1_become_18 : decode cX1_become 18 = .ok (.putfield 25, 3) := by decide +kernel
theorem dX1_become_21 : decode cX1_become 21 = .ok (.aload_n 0, 1) := by decide +kernel
theorem dX1_become_22 : decode cX1_become 22 = .ok (.iload 5, 2) := by decide +kernel
theorem dX1_become_24 : decode cX1_become 24 = .ok (.putfield 28, 3) := by decide +kernel
theorem dX1_become_27 : decode cX1_become 27 = .ok (.aload_n 0, 1) := by decide +kernel
theorem dX1_become_28 : decode cX1_become 28 = .ok (.iload 6, 2) := by decide +kernel
theorem dX1_become_30 : decode cX1_become 30 = .ok (.putfield 31, 3) := by decide +kernel
theorem dX1_become_33 : decode cX1_become 33 = .ok (.aload_n 0, 1) := by decide +kernel
theorem dX1_become_34 : decode cX1_become 34 = .ok (.iconst 0, 1) := by decide +kernel
theorem dX1_become_35 : decode cX1_become 35 = .ok (.putfield 34, 3) := by decide +kernel
theorem dX1_become_38 : decode cX1_become 38 = .ok (.iconst 0, 1) := by decide +kernel
theorem dX1_become_39 : decode cX1_become 39 = .ok (.istore 7, 2) := by decide +kernel
theorem dX1_become_41 : decode cX1_become 41 = .ok (.iload 7, 2) := by decide +kernel
theorem dX1_become_43 : decode cX1_become 43 = .ok (.aload_n 0, 1) := by decide +kernel
theorem dX1_become_44 : decode cX1_become 44 = .ok (.getfield 9, 3) := by decide +kernel
theorem dX1_become_47 : decode cX1_become 47 = .ok (.arraylength, 1) := by decide +kernel
theorem dX1_become_48 : decode cX1_become 48 = .ok (.if_icmp .ge 17, 3) := by decide +kernel
theorem dX1_become_51 : decode cX1_become 51 = .ok (.aload_n 0, 1) := by decide +kernel
theorem dX1_become_52 : decode cX1_become 52 = .ok (.getfield 9, 3) := by decide +kernel
theorem dX1_become_55 : decode cX1_become 55 = .ok (.iload 7, 2) := by decide +kernel
theorem dX1_become_57 : decode cX1_become 57 = .ok (.iconst 0, 1) := by decide +kernel
theorem dX1_become_58 : decode cX1_become 58 = .ok (.iastore, 1) := by decide +kernel
theorem dX1_become_59 : decode cX1_become 59 = .ok (.iinc 7 1, 3) := by decide +kernel
theorem dX1_become_62 : decode cX1_become 62 = .ok (.goto (-21), 3) := by decide +kernel
theorem dX1_become_65 : decode cX1_become 65 = .ok (.return_, 1) := by decide +kernel
theorem dX1_gramsEach_0 : decode cX1_gramsEach 0 = .ok (.aload_n 0, 1) := by decide +kernel
theorem dX1_gramsEach_1 : decode cX1_gramsEach 1 = .ok (.getfield 22, 3) := by decide +kernel
theorem dX1_gramsEach_4 : decode cX1_gramsEach 4 = .ok (.bipush 9, 2) := by decide +kernel
theorem dX1_gramsEach_6 : decode cX1_gramsEach 6 = .ok (.iadd, 1) := by decide +kernel
theorem dX1_gramsEach_7 : decode cX1_gramsEach 7 = .ok (.bipush 10, 2) := by decide +kernel
theorem dX1_gramsEach_9 : decode cX1_gramsEach 9 = .ok (.idiv, 1) := by decide +kernel
theorem dX1_gramsEach_10 : decode cX1_gramsEach 10 = .ok (.ireturn, 1) := by decide +kernel
theorem dX1_isDone_0 : decode cX1_isDone 0 = .ok (.aload_n 0, 1) := by decide +kernel
theorem dX1_isDone_1 : decode cX1_isDone 1 = .ok (.getfield 34, 3) := by decide +kernel
theorem dX1_isDone_4 : decode cX1_isDone 4 = .ok (.aload_n 0, 1) := by decide +kernel
theorem dX1_isDone_5 : decode cX1_isDone 5 = .ok (.getfield 25, 3) := by decide +kernel
theorem dX1_isDone_8 : decode cX1_isDone 8 = .ok (.if_icmp .lt 7, 3) := by decide +kernel
theorem dX1_isDone_11 : decode cX1_isDone 11 = .ok (.iconst 1, 1) := by decide +kernel
theorem dX1_isDone_12 : decode cX1_isDone 12 = .ok (.goto 4, 3) := by decide +kernel
theorem dX1_isDone_15 : decode cX1_isDone 15 = .ok (.iconst 0, 1) := by decide +kernel
theorem dX1_isDone_16 : decode cX1_isDone 16 = .ok (.ireturn, 1) := by decide +kernel
theorem dX1_addGood_0 : decode cX1_addGood 0 = .ok (.iload_n 1, 1) := by decide +kernel
theorem dX1_addGood_1 : decode cX1_addGood 1 = .ok (.ifCond .lt 32, 3) := by decide +kernel
theorem dX1_addGood_4 : decode cX1_addGood 4 = .ok (.iload_n 1, 1) := by decide +kernel
theorem dX1_addGood_5 : decode cX1_addGood 5 = .ok (.aload_n 0, 1) := by decide +kernel
theorem dX1_addGood_6 : decode cX1_addGood 6 = .ok (.getfield 9, 3) := by decide +kernel
theorem dX1_addGood_9 : decode cX1_addGood 9 = .ok (.arraylength, 1) := by decide +kernel
theorem dX1_addGood_10 : decode cX1_addGood 10 = .ok (.if_icmp .ge 23, 3) := by decide +kernel
theorem dX1_addGood_13 : decode cX1_addGood 13 = .ok (.aload_n 0, 1) := by decide +kernel
theorem dX1_addGood_14 : decode cX1_addGood 14 = .ok (.getfield 9, 3) := by decide +kernel
theorem dX1_addGood_17 : decode cX1_addGood 17 = .ok (.iload_n 1, 1) := by decide +kernel
theorem dX1_addGood_18 : decode cX1_addGood 18 = .ok (.dup2, 1) := by decide +kernel
theorem dX1_addGood_19 : decode cX1_addGood 19 = .ok (.iaload, 1) := by decide +kernel
theorem dX1_addGood_20 : decode cX1_addGood 20 = .ok (.iconst 1, 1) := by decide +kernel
theorem dX1_addGood_21 : decode cX1_addGood 21 = .ok (.iadd, 1) := by decide +kernel
theorem dX1_addGood_22 : decode cX1_addGood 22 = .ok (.iastore, 1) := by decide +kernel
theorem dX1_addGood_23 : decode cX1_addGood 23 = .ok (.aload_n 0, 1) := by decide +kernel
theorem dX1_addGood_24 : decode cX1_addGood 24 = .ok (.dup, 1) := by decide +kernel
theorem dX1_addGood_25 : decode cX1_addGood 25 = .ok (.getfield 34, 3) := by decide +kernel
theorem dX1_addGood_28 : decode cX1_addGood 28 = .ok (.iconst 1, 1) := by decide +kernel
theorem dX1_addGood_29 : decode cX1_addGood 29 = .ok (.iadd, 1) := by decide +kernel
theorem dX1_addGood_30 : decode cX1_addGood 30 = .ok (.putfield 34, 3) := by decide +kernel
theorem dX1_addGood_33 : decode cX1_addGood 33 = .ok (.return_, 1) := by decide +kernel
theorem dX1_lateHours_0 : decode cX1_lateHours 0 = .ok (.iload_n 1, 1) := by decide +kernel
theorem dX1_lateHours_1 : decode cX1_lateHours 1 = .ok (.aload_n 0, 1) := by decide +kernel
theorem dX1_lateHours_2 : decode cX1_lateHours 2 = .ok (.getfield 31, 3) := by decide +kernel
theorem dX1_lateHours_5 : decode cX1_lateHours 5 = .ok (.if_icmp .le 12, 3) := by decide +kernel
theorem dX1_lateHours_8 : decode cX1_lateHours 8 = .ok (.iload_n 1, 1) := by decide +kernel
theorem dX1_lateHours_9 : decode cX1_lateHours 9 = .ok (.aload_n 0, 1) := by decide +kernel
theorem dX1_lateHours_10 : decode cX1_lateHours 10 = .ok (.getfield 31, 3) := by decide +kernel
theorem dX1_lateHours_13 : decode cX1_lateHours 13 = .ok (.isub, 1) := by decide +kernel
theorem dX1_lateHours_14 : decode cX1_lateHours 14 = .ok (.goto 4, 3) := by decide +kernel
theorem dX1_lateHours_17 : decode cX1_lateHours 17 = .ok (.iconst 0, 1) := by decide +kernel
theorem dX1_lateHours_18 : decode cX1_lateHours 18 = .ok (.ireturn, 1) := by decide +kernel
theorem dX1_payFor_0 : decode cX1_payFor 0 = .ok (.aload_n 0, 1) := by decide +kernel
theorem dX1_payFor_1 : decode cX1_payFor 1 = .ok (.getfield 28, 3) := by decide +kernel
theorem dX1_payFor_4 : decode cX1_payFor 4 = .ok (.aload_n 0, 1) := by decide +kernel
theorem dX1_payFor_5 : decode cX1_payFor 5 = .ok (.getfield 34, 3) := by decide +kernel
theorem dX1_payFor_8 : decode cX1_payFor 8 = .ok (.imul, 1) := by decide +kernel
theorem dX1_payFor_9 : decode cX1_payFor 9 = .ok (.istore_n 3, 1) := by decide +kernel
theorem dX1_payFor_10 : decode cX1_payFor 10 = .ok (.iload_n 3, 1) := by decide +kernel
theorem dX1_payFor_11 : decode cX1_payFor 11 = .ok (.i2l, 1) := by decide +kernel
theorem dX1_payFor_12 : decode cX1_payFor 12 = .ok (.iload_n 1, 1) := by decide +kernel
theorem dX1_payFor_13 : decode cX1_payFor 13 = .ok (.i2l, 1) := by decide +kernel
theorem dX1_payFor_14 : decode cX1_payFor 14 = .ok (.lmul, 1) := by decide +kernel
theorem dX1_payFor_15 : decode cX1_payFor 15 = .ok (.iload_n 2, 1) := by decide +kernel
theorem dX1_payFor_16 : decode cX1_payFor 16 = .ok (.i2l, 1) := by decide +kernel
theorem dX1_payFor_17 : decode cX1_payFor 17 = .ok (.lmul, 1) := by decide +kernel
theorem dX1_payFor_18 : decode cX1_payFor 18 = .ok (.ldc2_w 37, 3) := by decide +kernel
theorem dX1_payFor_21 : decode cX1_payFor 21 = .ok (.ldiv, 1) := by decide +kernel
theorem dX1_payFor_22 : decode cX1_payFor 22 = .ok (.lstore 4, 2) := by decide +kernel
theorem dX1_payFor_24 : decode cX1_payFor 24 = .ok (.lload 4, 2) := by decide +kernel
theorem dX1_payFor_26 : decode cX1_payFor 26 = .ok (.iload_n 3, 1) := by decide +kernel
theorem dX1_payFor_27 : decode cX1_payFor 27 = .ok (.i2l, 1) := by decide +kernel
theorem dX1_payFor_28 : decode cX1_payFor 28 = .ok (.lcmp, 1) := by decide +kernel
theorem dX1_payFor_29 : decode cX1_payFor 29 = .ok (.ifCond .ge 11, 3) := by decide +kernel
theorem dX1_payFor_32 : decode cX1_payFor 32 = .ok (.iload_n 3, 1) := by decide +kernel
theorem dX1_payFor_33 : decode cX1_payFor 33 = .ok (.lload 4, 2) := by decide +kernel
theorem dX1_payFor_35 : decode cX1_payFor 35 = .ok (.l2i, 1) := by decide +kernel
theorem dX1_payFor_36 : decode cX1_payFor 36 = .ok (.isub, 1) := by decide +kernel
theorem dX1_payFor_37 : decode cX1_payFor 37 = .ok (.goto 4, 3) := by decide +kernel
theorem dX1_payFor_40 : decode cX1_payFor 40 = .ok (.iconst 0, 1) := by decide +kernel
theorem dX1_payFor_41 : decode cX1_payFor 41 = .ok (.ireturn, 1) := by decide +kernel
theorem dX1_divide_0 : decode cX1_divide 0 = .ok (.iload_n 1, 1) := by decide +kernel
theorem dX1_divide_1 : decode cX1_divide 1 = .ok (.istore_n 3, 1) := by decide +kernel
theorem dX1_divide_2 : decode cX1_divide 2 = .ok (.iconst 0, 1) := by decide +kernel
theorem dX1_divide_3 : decode cX1_divide 3 = .ok (.istore 4, 2) := by decide +kernel
theorem dX1_divide_5 : decode cX1_divide 5 = .ok (.iconst 0, 1) := by decide +kernel
theorem dX1_divide_6 : decode cX1_divide 6 = .ok (.istore 5, 2) := by decide +kernel
theorem dX1_divide_8 : decode cX1_divide 8 = .ok (.iload 5, 2) := by decide +kernel
theorem dX1_divide_10 : decode cX1_divide 10 = .ok (.aload_n 0, 1) := by decide +kernel
theorem dX1_divide_11 : decode cX1_divide 11 = .ok (.getfield 9, 3) := by decide +kernel
theorem dX1_divide_14 : decode cX1_divide 14 = .ok (.arraylength, 1) := by decide +kernel
theorem dX1_divide_15 : decode cX1_divide 15 = .ok (.if_icmp .ge 73, 3) := by decide +kernel
theorem dX1_divide_18 : decode cX1_divide 18 = .ok (.iload 5, 2) := by decide +kernel
theorem dX1_divide_20 : decode cX1_divide 20 = .ok (.aload_n 2, 1) := by decide +kernel
theorem dX1_divide_21 : decode cX1_divide 21 = .ok (.arraylength, 1) := by decide +kernel
theorem dX1_divide_22 : decode cX1_divide 22 = .ok (.if_icmp .ge 66, 3) := by decide +kernel
theorem dX1_divide_25 : decode cX1_divide 25 = .ok (.aload_n 2, 1) := by decide +kernel
theorem dX1_divide_26 : decode cX1_divide 26 = .ok (.iload 5, 2) := by decide +kernel
theorem dX1_divide_28 : decode cX1_divide 28 = .ok (.aload_n 0, 1) := by decide +kernel
theorem dX1_divide_29 : decode cX1_divide 29 = .ok (.getfield 34, 3) := by decide +kernel
theorem dX1_divide_32 : decode cX1_divide 32 = .ok (.ifCond .le 20, 3) := by decide +kernel
theorem dX1_divide_35 : decode cX1_divide 35 = .ok (.iload_n 1, 1) := by decide +kernel
theorem dX1_divide_36 : decode cX1_divide 36 = .ok (.aload_n 0, 1) := by decide +kernel
theorem dX1_divide_37 : decode cX1_divide 37 = .ok (.getfield 9, 3) := by decide +kernel
theorem dX1_divide_40 : decode cX1_divide 40 = .ok (.iload 5, 2) := by decide +kernel
theorem dX1_divide_42 : decode cX1_divide 42 = .ok (.iaload, 1) := by decide +kernel
theorem dX1_divide_43 : decode cX1_divide 43 = .ok (.imul, 1) := by decide +kernel
theorem dX1_divide_44 : decode cX1_divide 44 = .ok (.aload_n 0, 1) := by decide +kernel
theorem dX1_divide_45 : decode cX1_divide 45 = .ok (.getfield 34, 3) := by decide +kernel
theorem dX1_divide_48 : decode cX1_divide 48 = .ok (.idiv, 1) := by decide +kernel
theorem dX1_divide_49 : decode cX1_divide 49 = .ok (.goto 4, 3) := by decide +kernel
theorem dX1_divide_52 : decode cX1_divide 52 = .ok (.iconst 0, 1) := by decide +kernel
theorem dX1_divide_53 : decode cX1_divide 53 = .ok (.iastore, 1) := by decide +kernel
theorem dX1_divide_54 : decode cX1_divide 54 = .ok (.iload_n 3, 1) := by decide +kernel
theorem dX1_divide_55 : decode cX1_divide 55 = .ok (.aload_n 2, 1) := by decide +kernel
theorem dX1_divide_56 : decode cX1_divide 56 = .ok (.iload 5, 2) := by decide +kernel
theorem dX1_divide_58 : decode cX1_divide 58 = .ok (.iaload, 1) := by decide +kernel
theorem dX1_divide_59 : decode cX1_divide 59 = .ok (.isub, 1) := by decide +kernel
theorem dX1_divide_60 : decode cX1_divide 60 = .ok (.istore_n 3, 1) := by decide +kernel
theorem dX1_divide_61 : decode cX1_divide 61 = .ok (.aload_n 0, 1) := by decide +kernel
theorem dX1_divide_62 : decode cX1_divide 62 = .ok (.getfield 9, 3) := by decide +kernel
theorem dX1_divide_65 : decode cX1_divide 65 = .ok (.iload 5, 2) := by decide +kernel
theorem dX1_divide_67 : decode cX1_divide 67 = .ok (.iaload, 1) := by decide +kernel
theorem dX1_divide_68 : decode cX1_divide 68 = .ok (.aload_n 0, 1) := by decide +kernel
theorem dX1_divide_69 : decode cX1_divide 69 = .ok (.getfield 9, 3) := by decide +kernel
theorem dX1_divide_72 : decode cX1_divide 72 = .ok (.iload 4, 2) := by decide +kernel
theorem dX1_divide_74 : decode cX1_divide 74 = .ok (.iaload, 1) := by decide +kernel
theorem dX1_divide_75 : decode cX1_divide 75 = .ok (.if_icmp .le 7, 3) := by decide +kernel
theorem dX1_divide_78 : decode cX1_divide 78 = .ok (.iload 5, 2) := by decide +kernel
theorem dX1_divide_80 : decode cX1_divide 80 = .ok (.istore 4, 2) := by decide +kernel
theorem dX1_divide_82 : decode cX1_divide 82 = .ok (.iinc 5 1, 3) := by decide +kernel
theorem dX1_divide_85 : decode cX1_divide 85 = .ok (.goto (-77), 3) := by decide +kernel
theorem dX1_divide_88 : decode cX1_divide 88 = .ok (.iload 4, 2) := by decide +kernel
theorem dX1_divide_90 : decode cX1_divide 90 = .ok (.aload_n 2, 1) := by decide +kernel
theorem dX1_divide_91 : decode cX1_divide 91 = .ok (.arraylength, 1) := by decide +kernel
theorem dX1_divide_92 : decode cX1_divide 92 = .ok (.if_icmp .ge 11, 3) := by decide +kernel
theorem dX1_divide_95 : decode cX1_divide 95 = .ok (.aload_n 2, 1) := by decide +kernel
theorem dX1_divide_96 : decode cX1_divide 96 = .ok (.iload 4, 2) := by decide +kernel
theorem dX1_divide_98 : decode cX1_divide 98 = .ok (.dup2, 1) := by decide +kernel
theorem dX1_divide_99 : decode cX1_divide 99 = .ok (.iaload, 1) := by decide +kernel
theorem dX1_divide_100 : decode cX1_divide 100 = .ok (.iload_n 3, 1) := by decide +kernel
theorem dX1_divide_101 : decode cX1_divide 101 = .ok (.iadd, 1) := by decide +kernel
theorem dX1_divide_102 : decode cX1_divide 102 = .ok (.iastore, 1) := by decide +kernel
theorem dX1_divide_103 : decode cX1_divide 103 = .ok (.return_, 1) := by decide +kernel
theorem dX1_copyFrom_0 : decode cX1_copyFrom 0 = .ok (.iconst 0, 1) := by decide +kernel
theorem dX1_copyFrom_1 : decode cX1_copyFrom 1 = .ok (.istore_n 2, 1) := by decide +kernel
theorem dX1_copyFrom_2 : decode cX1_copyFrom 2 = .ok (.iload_n 2, 1) := by decide +kernel
theorem dX1_copyFrom_3 : decode cX1_copyFrom 3 = .ok (.aload_n 0, 1) := by decide +kernel
theorem dX1_copyFrom_4 : decode cX1_copyFrom 4 = .ok (.getfield 9, 3) := by decide +kernel
theorem dX1_copyFrom_7 : decode cX1_copyFrom 7 = .ok (.arraylength, 1) := by decide +kernel
theorem dX1_copyFrom_8 : decode cX1_copyFrom 8 = .ok (.if_icmp .ge 30, 3) := by decide +kernel
theorem dX1_copyFrom_11 : decode cX1_copyFrom 11 = .ok (.iload_n 2, 1) := by decide +kernel
theorem dX1_copyFrom_12 : decode cX1_copyFrom 12 = .ok (.aload_n 1, 1) := by decide +kernel
theorem dX1_copyFrom_13 : decode cX1_copyFrom 13 = .ok (.getfield 9, 3) := by decide +kernel
theorem dX1_copyFrom_16 : decode cX1_copyFrom 16 = .ok (.arraylength, 1) := by decide +kernel
theorem dX1_copyFrom_17 : decode cX1_copyFrom 17 = .ok (.if_icmp .ge 21, 3) := by decide +kernel
theorem dX1_copyFrom_20 : decode cX1_copyFrom 20 = .ok (.aload_n 0, 1) := by decide +kernel
theorem dX1_copyFrom_21 : decode cX1_copyFrom 21 = .ok (.getfield 9, 3) := by decide +kernel
theorem dX1_copyFrom_24 : decode cX1_copyFrom 24 = .ok (.iload_n 2, 1) := by decide +kernel
theorem dX1_copyFrom_25 : decode cX1_copyFrom 25 = .ok (.aload_n 1, 1) := by decide +kernel
theorem dX1_copyFrom_26 : decode cX1_copyFrom 26 = .ok (.getfield 9, 3) := by decide +kernel
theorem dX1_copyFrom_29 : decode cX1_copyFrom 29 = .ok (.iload_n 2, 1) := by decide +kernel
theorem dX1_copyFrom_30 : decode cX1_copyFrom 30 = .ok (.iaload, 1) := by decide +kernel
theorem dX1_copyFrom_31 : decode cX1_copyFrom 31 = .ok (.iastore, 1) := by decide +kernel
theorem dX1_copyFrom_32 : decode cX1_copyFrom 32 = .ok (.iinc 2 1, 3) := by decide +kernel
theorem dX1_copyFrom_35 : decode cX1_copyFrom 35 = .ok (.goto (-33), 3) := by decide +kernel
theorem dX1_copyFrom_38 : decode cX1_copyFrom 38 = .ok (.aload_n 0, 1) := by decide +kernel
theorem dX1_copyFrom_39 : decode cX1_copyFrom 39 = .ok (.aload_n 1, 1) := by decide +kernel
theorem dX1_copyFrom_40 : decode cX1_copyFrom 40 = .ok (.getfield 15, 3) := by decide +kernel
theorem dX1_copyFrom_43 : decode cX1_copyFrom 43 = .ok (.putfield 15, 3) := by decide +kernel
theorem dX1_copyFrom_46 : decode cX1_copyFrom 46 = .ok (.aload_n 0, 1) := by decide +kernel
theorem dX1_copyFrom_47 : decode cX1_copyFrom 47 = .ok (.aload_n 1, 1) := by decide +kernel
theorem dX1_copyFrom_48 : decode cX1_copyFrom 48 = .ok (.getfield 19, 3) := by decide +kernel
theorem dX1_copyFrom_51 : decode cX1_copyFrom 51 = .ok (.putfield 19, 3) := by decide +kernel
theorem dX1_copyFrom_54 : decode cX1_copyFrom 54 = .ok (.aload_n 0, 1) := by decide +kernel
theorem dX1_copyFrom_55 : decode cX1_copyFrom 55 = .ok (.aload_n 1, 1) := by decide +kernel
theorem dX1_copyFrom_56 : decode cX1_copyFrom 56 = .ok (.getfield 22, 3) := by decide +kernel
theorem dX1_copyFrom_59 : decode cX1_copyFrom 59 = .ok (.putfield 22, 3) := by decide +kernel
theorem dX1_copyFrom_62 : decode cX1_copyFrom 62 = .ok (.aload_n 0, 1) := by decide +kernel
theorem dX1_copyFrom_63 : decode cX1_copyFrom 63 = .ok (.aload_n 1, 1) := by decide +kernel
theorem dX1_copyFrom_64 : decode cX1_copyFrom 64 = .ok (.getfield 25, 3) := by decide +kernel
theorem dX1_copyFrom_67 : decode cX1_copyFrom 67 = .ok (.putfield 25, 3) := by decide +kernel
theorem dX1_copyFrom_70 : decode cX1_copyFrom 70 = .ok (.aload_n 0, 1) := by decide +kernel
theorem dX1_copyFrom_71 : decode cX1_copyFrom 71 = .ok (.aload_n 1, 1) := by decide +kernel
theorem dX1_copyFrom_72 : decode cX1_copyFrom 72 = .ok (.getfield 28, 3) := by decide +kernel
theorem dX1_copyFrom_75 : decode cX1_copyFrom 75 = .ok (.putfield 28, 3) := by decide +kernel
theorem dX1_copyFrom_78 : decode cX1_copyFrom 78 = .ok (.aload_n 0, 1) := by decide +kernel
theorem dX1_copyFrom_79 : decode cX1_copyFrom 79 = .ok (.aload_n 1, 1) := by decide +kernel
theorem dX1_copyFrom_80 : decode cX1_copyFrom 80 = .ok (.getfield 31, 3) := by decide +kernel
theorem dX1_copyFrom_83 : decode cX1_copyFrom 83 = .ok (.putfield 31, 3) := by decide +kernel
theorem dX1_copyFrom_86 : decode cX1_copyFrom 86 = .ok (.aload_n 0, 1) := by decide +kernel
theorem dX1_copyFrom_87 : decode cX1_copyFrom 87 = .ok (.aload_n 1, 1) := by decide +kernel
theorem dX1_copyFrom_88 : decode cX1_copyFrom 88 = .ok (.getfield 34, 3) := by decide +kernel
theorem dX1_copyFrom_91 : decode cX1_copyFrom 91 = .ok (.putfield 34, 3) := by decide +kernel
theorem dX1_copyFrom_94 : decode cX1_copyFrom 94 = .ok (.return_, 1) := by decide +kernel
theorem dX2_init_0 : decode cX2_init 0 = .ok (.aload_n 0, 1) := by decide +kernel
theorem dX2_init_1 : decode cX2_init 1 = .ok (.invokespecial 3, 3) := by decide +kernel
theorem dX2_init_4 : decode cX2_init 4 = .ok (.aload_n 0, 1) := by decide +kernel
theorem dX2_init_5 : decode cX2_init 5 = .ok (.iconst 5, 1) := by decide +kernel
theorem dX2_init_6 : decode cX2_init 6 = .ok (.newarray .int, 2) := by decide +kernel
theorem dX2_init_8 : decode cX2_init 8 = .ok (.putfield 9, 3) := by decide +kernel
theorem dX2_init_11 : decode cX2_init 11 = .ok (.return_, 1) := by decide +kernel
theorem dX2_restart_0 : decode cX2_restart 0 = .ok (.aload_n 0, 1) := by decide +kernel
theorem dX2_restart_1 : decode cX2_restart 1 = .ok (.iconst 0, 1) := by decide +kernel
theorem dX2_restart_2 : decode cX2_restart 2 = .ok (.putfield 15, 3) := by decide +kernel
theorem dX2_restart_5 : decode cX2_restart 5 = .ok (.aload_n 0, 1) := by decide +kernel
theorem dX2_restart_6 : decode cX2_restart 6 = .ok (.invokevirtual 19, 3) := by decide +kernel
theorem dX2_restart_9 : decode cX2_restart 9 = .ok (.return_, 1) := by decide +kernel
theorem dX2_startPart_0 : decode cX2_startPart 0 = .ok (.aload_n 0, 1) := by decide +kernel
theorem dX2_startPart_1 : decode cX2_startPart 1 = .ok (.dup, 1) := by decide +kernel
theorem dX2_startPart_2 : decode cX2_startPart 2 = .ok (.getfield 15, 3) := by decide +kernel
theorem dX2_startPart_5 : decode cX2_startPart 5 = .ok (.iconst 1, 1) := by decide +kernel
theorem dX2_startPart_6 : decode cX2_startPart 6 = .ok (.iadd, 1) := by decide +kernel
theorem dX2_startPart_7 : decode cX2_startPart 7 = .ok (.putfield 15, 3) := by decide +kernel
theorem dX2_startPart_10 : decode cX2_startPart 10 = .ok (.aload_n 0, 1) := by decide +kernel
theorem dX2_startPart_11 : decode cX2_startPart 11 = .ok (.iconst 0, 1) := by decide +kernel
theorem dX2_startPart_12 : decode cX2_startPart 12 = .ok (.putfield 22, 3) := by decide +kernel
theorem dX2_startPart_15 : decode cX2_startPart 15 = .ok (.aload_n 0, 1) := by decide +kernel
theorem dX2_startPart_16 : decode cX2_startPart 16 = .ok (.iconst 0, 1) := by decide +kernel
theorem dX2_startPart_17 : decode cX2_startPart 17 = .ok (.putfield 25, 3) := by decide +kernel
theorem dX2_startPart_20 : decode cX2_startPart 20 = .ok (.aload_n 0, 1) := by decide +kernel
theorem dX2_startPart_21 : decode cX2_startPart 21 = .ok (.getfield 9, 3) := by decide +kernel
theorem dX2_startPart_24 : decode cX2_startPart 24 = .ok (.iconst 3, 1) := by decide +kernel
theorem dX2_startPart_25 : decode cX2_startPart 25 = .ok (.bipush 10, 2) := by decide +kernel
theorem dX2_startPart_27 : decode cX2_startPart 27 = .ok (.iastore, 1) := by decide +kernel
theorem dX2_startPart_28 : decode cX2_startPart 28 = .ok (.aload_n 0, 1) := by decide +kernel
theorem dX2_startPart_29 : decode cX2_startPart 29 = .ok (.getfield 9, 3) := by decide +kernel
theorem dX2_startPart_32 : decode cX2_startPart 32 = .ok (.iconst 4, 1) := by decide +kernel
theorem dX2_startPart_33 : decode cX2_startPart 33 = .ok (.sipush 9999, 3) := by decide +kernel
theorem dX2_startPart_36 : decode cX2_startPart 36 = .ok (.iastore, 1) := by decide +kernel
theorem dX2_startPart_37 : decode cX2_startPart 37 = .ok (.return_, 1) := by decide +kernel
theorem dX2_accepts_0 : decode cX2_accepts 0 = .ok (.iload_n 1, 1) := by decide +kernel
theorem dX2_accepts_1 : decode cX2_accepts 1 = .ok (.bipush 48, 2) := by decide +kernel
theorem dX2_accepts_3 : decode cX2_accepts 3 = .ok (.if_icmp .lt 18, 3) := by decide +kernel
theorem dX2_accepts_6 : decode cX2_accepts 6 = .ok (.iload_n 1, 1) := by decide +kernel
theorem dX2_accepts_7 : decode cX2_accepts 7 = .ok (.bipush 57, 2) := by decide +kernel
theorem dX2_accepts_9 : decode cX2_accepts 9 = .ok (.if_icmp .gt 12, 3) := by decide +kernel
theorem dX2_accepts_12 : decode cX2_accepts 12 = .ok (.aload_n 0, 1) := by decide +kernel
theorem dX2_accepts_13 : decode cX2_accepts 13 = .ok (.iload_n 1, 1) := by decide +kernel
theorem dX2_accepts_14 : decode cX2_accepts 14 = .ok (.bipush 48, 2) := by decide +kernel
theorem dX2_accepts_16 : decode cX2_accepts 16 = .ok (.isub, 1) := by decide +kernel
theorem dX2_accepts_17 : decode cX2_accepts 17 = .ok (.invokevirtual 28, 3) := by decide +kernel
theorem dX2_accepts_20 : decode cX2_accepts 20 = .ok (.ireturn, 1) := by decide +kernel
theorem dX2_accepts_21 : decode cX2_accepts 21 = .ok (.aload_n 0, 1) := by decide +kernel
theorem dX2_accepts_22 : decode cX2_accepts 22 = .ok (.invokevirtual 32, 3) := by decide +kernel
theorem dX2_accepts_25 : decode cX2_accepts 25 = .ok (.ifCond .eq 15, 3) := by decide +kernel
theorem dX2_accepts_28 : decode cX2_accepts 28 = .ok (.aload_n 0, 1) := by decide +kernel
theorem dX2_accepts_29 : decode cX2_accepts 29 = .ok (.iload_n 1, 1) := by decide +kernel
theorem dX2_accepts_30 : decode cX2_accepts 30 = .ok (.invokevirtual 36, 3) := by decide +kernel
theorem dX2_accepts_33 : decode cX2_accepts 33 = .ok (.ifCond .eq 7, 3) := by decide +kernel
theorem dX2_accepts_36 : decode cX2_accepts 36 = .ok (.iconst 1, 1) := by decide +kernel
theorem dX2_accepts_37 : decode cX2_accepts 37 = .ok (.goto 4, 3) := by decide +kernel
theorem dX2_accepts_40 : decode cX2_accepts 40 = .ok (.iconst 0, 1) := by decide +kernel
theorem dX2_accepts_41 : decode cX2_accepts 41 = .ok (.ireturn, 1) := by decide +kernel
theorem dX2_isComplete_0 : decode cX2_isComplete 0 = .ok (.aload_n 0, 1) := by decide +kernel
theorem dX2_isComplete_1 : decode cX2_isComplete 1 = .ok (.getfield 22, 3) := by decide +kernel
theorem dX2_isComplete_4 : decode cX2_isComplete 4 = .ok (.iconst 2, 1) := by decide +kernel
theorem dX2_isComplete_5 : decode cX2_isComplete 5 = .ok (.if_icmp .lt 14, 3) := by decide +kernel
theorem dX2_isComplete_8 : decode cX2_isComplete 8 = .ok (.aload_n 0, 1) := by decide +kernel
theorem dX2_isComplete_9 : decode cX2_isComplete 9 = .ok (.invokevirtual 32, 3) := by decide +kernel
theorem dX2_isComplete_12 : decode cX2_isComplete 12 = .ok (.ifCond .eq 7, 3) := by decide +kernel
theorem dX2_isComplete_15 : decode cX2_isComplete 15 = .ok (.iconst 1, 1) := by decide +kernel
theorem dX2_isComplete_16 : decode cX2_isComplete 16 = .ok (.goto 4, 3) := by decide +kernel
theorem dX2_isComplete_19 : decode cX2_isComplete 19 = .ok (.iconst 0, 1) := by decide +kernel
theorem dX2_isComplete_20 : decode cX2_isComplete 20 = .ok (.ireturn, 1) := by decide +kernel
theorem dX2_isField_0 : decode cX2_isField 0 = .ok (.aload_n 0, 1) := by decide +kernel
theorem dX2_isField_1 : decode cX2_isField 1 = .ok (.getfield 22, 3) := by decide +kernel
theorem dX2_isField_4 : decode cX2_isField 4 = .ok (.iconst 0, 1) := by decide +kernel
theorem dX2_isField_5 : decode cX2_isField 5 = .ok (.iconst 4, 1) := by decide +kernel
theorem dX2_isField_6 : decode cX2_isField 6 = .ok (.invokestatic 39, 3) := by decide +kernel
theorem dX2_isField_9 : decode cX2_isField 9 = .ok (.ireturn, 1) := by decide +kernel
theorem dX2_numberStands_0 : decode cX2_numberStands 0 = .ok (.aload_n 0, 1) := by decide +kernel
theorem dX2_numberStands_1 : decode cX2_numberStands 1 = .ok (.invokevirtual 43, 3) := by decide +kernel
theorem dX2_numberStands_4 : decode cX2_numberStands 4 = .ok (.ifCond .eq 45, 3) := by decide +kernel
theorem dX2_numberStands_7 : decode cX2_numberStands 7 = .ok (.aload_n 0, 1) := by decide +kernel
theorem dX2_numberStands_8 : decode cX2_numberStands 8 = .ok (.getfield 25, 3) := by decide +kernel
theorem dX2_numberStands_11 : decode cX2_numberStands 11 = .ok (.ifCond .le 38, 3) := by decide +kernel
theorem dX2_numberStands_14 : decode cX2_numberStands 14 = .ok (.aload_n 0, 1) := by decide +kernel
theorem dX2_numberStands_15 : decode cX2_numberStands 15 = .ok (.getfield 9, 3) := by decide +kernel
theorem dX2_numberStands_18 : decode cX2_numberStands 18 = .ok (.aload_n 0, 1) := by decide +kernel
theorem dX2_numberStands_19 : decode cX2_numberStands 19 = .ok (.getfield 22, 3) := by decide +kernel
theorem dX2_numberStands_22 : decode cX2_numberStands 22 = .ok (.iaload, 1) := by decide +kernel
theorem dX2_numberStands_23 : decode cX2_numberStands 23 = .ok (.getstatic 46, 3) := by decide +kernel
theorem dX2_numberStands_26 : decode cX2_numberStands 26 = .ok (.aload_n 0, 1) := by decide +kernel
theorem dX2_numberStands_27 : decode cX2_numberStands 27 = .ok (.getfield 22, 3) := by decide +kernel
theorem dX2_numberStands_30 : decode cX2_numberStands 30 = .ok (.iaload, 1) := by decide +kernel
theorem dX2_numberStands_31 : decode cX2_numberStands 31 = .ok (.getstatic 49, 3) := by decide +kernel
theorem dX2_numberStands_34 : decode cX2_numberStands 34 = .ok (.aload_n 0, 1) := by decide +kernel
theorem dX2_numberStands_35 : decode cX2_numberStands 35 = .ok (.getfield 22, 3) := by decide +kernel
theorem dX2_numberStands_38 : decode cX2_numberStands 38 = .ok (.iaload, 1) := by decide +kernel
theorem dX2_numberStands_39 : decode cX2_numberStands 39 = .ok (.invokestatic 39, 3) := by decide +kernel
theorem dX2_numberStands_42 : decode cX2_numberStands 42 = .ok (.ifCond .eq 7, 3) := by decide +kernel
theorem dX2_numberStands_45 : decode cX2_numberStands 45 = .ok (.iconst 1, 1) := by decide +kernel
theorem dX2_numberStands_46 : decode cX2_numberStands 46 = .ok (.goto 4, 3) := by decide +kernel
theorem dX2_numberStands_49 : decode cX2_numberStands 49 = .ok (.iconst 0, 1) := by decide +kernel
theorem dX2_numberStands_50 : decode cX2_numberStands 50 = .ok (.ireturn, 1) := by decide +kernel
theorem dX2_acceptsDigit_0 : decode cX2_acceptsDigit 0 = .ok (.aload_n 0, 1) := by decide +kernel
theorem dX2_acceptsDigit_1 : decode cX2_acceptsDigit 1 = .ok (.invokevirtual 43, 3) := by decide +kernel
theorem dX2_acceptsDigit_4 : decode cX2_acceptsDigit 4 = .ok (.ifCond .eq 22, 3) := by decide +kernel
theorem dX2_acceptsDigit_7 : decode cX2_acceptsDigit 7 = .ok (.aload_n 0, 1) := by decide +kernel
theorem dX2_acceptsDigit_8 : decode cX2_acceptsDigit 8 = .ok (.getfield 25, 3) := by decide +kernel
theorem dX2_acceptsDigit_11 : decode cX2_acceptsDigit 11 = .ok (.ifCond .le 17, 3) := by decide +kernel
theorem dX2_acceptsDigit_14 : decode cX2_acceptsDigit 14 = .ok (.aload_n 0, 1) := by decide +kernel
theorem dX2_acceptsDigit_15 : decode cX2_acceptsDigit 15 = .ok (.getfield 9, 3) := by decide +kernel
theorem dX2_acceptsDigit_18 : decode cX2_acceptsDigit 18 = .ok (.aload_n 0, 1) := by decide +kernel
theorem dX2_acceptsDigit_19 : decode cX2_acceptsDigit 19 = .ok (.getfield 22, 3) := by decide +kernel
theorem dX2_acceptsDigit_22 : decode cX2_acceptsDigit 22 = .ok (.iaload, 1) := by decide +kernel
theorem dX2_acceptsDigit_23 : decode cX2_acceptsDigit 23 = .ok (.ifCond .ne 5, 3) := by decide +kernel
theorem dX2_acceptsDigit_26 : decode cX2_acceptsDigit 26 = .ok (.iconst 0, 1) := by decide +kernel
theorem dX2_acceptsDigit_27 : decode cX2_acceptsDigit 27 = .ok (.ireturn, 1) := by decide +kernel
theorem dX2_acceptsDigit_28 : decode cX2_acceptsDigit 28 = .ok (.aload_n 0, 1) := by decide +kernel
theorem dX2_acceptsDigit_29 : decode cX2_acceptsDigit 29 = .ok (.getfield 25, 3) := by decide +kernel
theorem dX2_acceptsDigit_32 : decode cX2_acceptsDigit 32 = .ok (.ifCond .ne 7, 3) := by decide +kernel
theorem dX2_acceptsDigit_35 : decode cX2_acceptsDigit 35 = .ok (.iload_n 1, 1) := by decide +kernel
theorem dX2_acceptsDigit_36 : decode cX2_acceptsDigit 36 = .ok (.goto 17, 3) := by decide +kernel
theorem dX2_acceptsDigit_39 : decode cX2_acceptsDigit 39 = .ok (.aload_n 0, 1) := by decide +kernel
theorem dX2_acceptsDigit_40 : decode cX2_acceptsDigit 40 = .ok (.getfield 9, 3) := by decide +kernel
theorem dX2_acceptsDigit_43 : decode cX2_acceptsDigit 43 = .ok (.aload_n 0, 1) := by decide +kernel
theorem dX2_acceptsDigit_44 : decode cX2_acceptsDigit 44 = .ok (.getfield 22, 3) := by decide +kernel
theorem dX2_acceptsDigit_47 : decode cX2_acceptsDigit 47 = .ok (.iaload, 1) := by decide +kernel
theorem dX2_acceptsDigit_48 : decode cX2_acceptsDigit 48 = .ok (.bipush 10, 2) := by decide +kernel
theorem dX2_acceptsDigit_50 : decode cX2_acceptsDigit 50 = .ok (.imul, 1) := by decide +kernel
theorem dX2_acceptsDigit_51 : decode cX2_acceptsDigit 51 = .ok (.iload_n 1, 1) := by decide +kernel
theorem dX2_acceptsDigit_52 : decode cX2_acceptsDigit 52 = .ok (.iadd, 1) := by decide +kernel
theorem dX2_acceptsDigit_53 : decode cX2_acceptsDigit 53 = .ok (.istore_n 2, 1) := by decide +kernel
theorem dX2_acceptsDigit_54 : decode cX2_acceptsDigit 54 = .ok (.iload_n 2, 1) := by decide +kernel
theorem dX2_acceptsDigit_55 : decode cX2_acceptsDigit 55 = .ok (.getstatic 46, 3) := by decide +kernel
theorem dX2_acceptsDigit_58 : decode cX2_acceptsDigit 58 = .ok (.aload_n 0, 1) := by decide +kernel
theorem dX2_acceptsDigit_59 : decode cX2_acceptsDigit 59 = .ok (.getfield 22, 3) := by decide +kernel
theorem dX2_acceptsDigit_62 : decode cX2_acceptsDigit 62 = .ok (.iaload, 1) := by decide +kernel
theorem dX2_acceptsDigit_63 : decode cX2_acceptsDigit 63 = .ok (.getstatic 49, 3) := by decide +kernel
theorem dX2_acceptsDigit_66 : decode cX2_acceptsDigit 66 = .ok (.aload_n 0, 1) := by decide +kernel
theorem dX2_acceptsDigit_67 : decode cX2_acceptsDigit 67 = .ok (.getfield 22, 3) := by decide +kernel
theorem dX2_acceptsDigit_70 : decode cX2_acceptsDigit 70 = .ok (.iaload, 1) := by decide +kernel
theorem dX2_acceptsDigit_71 : decode cX2_acceptsDigit 71 = .ok (.invokestatic 52, 3) := by decide +kernel
theorem dX2_acceptsDigit_74 : decode cX2_acceptsDigit 74 = .ok (.ifCond .ne 5, 3) := by decide +kernel
theorem dX2_acceptsDigit_77 : decode cX2_acceptsDigit 77 = .ok (.iconst 0, 1) := by decide +kernel
theorem dX2_acceptsDigit_78 : decode cX2_acceptsDigit 78 = .ok (.ireturn, 1) := by decide +kernel
theorem dX2_acceptsDigit_79 : decode cX2_acceptsDigit 79 = .ok (.aload_n 0, 1) := by decide +kernel
theorem dX2_acceptsDigit_80 : decode cX2_acceptsDigit 80 = .ok (.getfield 9, 3) := by decide +kernel
theorem dX2_acceptsDigit_83 : decode cX2_acceptsDigit 83 = .ok (.aload_n 0, 1) := by decide +kernel
theorem dX2_acceptsDigit_84 : decode cX2_acceptsDigit 84 = .ok (.getfield 22, 3) := by decide +kernel
theorem dX2_acceptsDigit_87 : decode cX2_acceptsDigit 87 = .ok (.iload_n 2, 1) := by decide +kernel
theorem dX2_acceptsDigit_88 : decode cX2_acceptsDigit 88 = .ok (.iastore, 1) := by decide +kernel
theorem dX2_acceptsDigit_89 : decode cX2_acceptsDigit 89 = .ok (.aload_n 0, 1) := by decide +kernel
theorem dX2_acceptsDigit_90 : decode cX2_acceptsDigit 90 = .ok (.dup, 1) := by decide +kernel
theorem dX2_acceptsDigit_91 : decode cX2_acceptsDigit 91 = .ok (.getfield 25, 3) := by decide +kernel
theorem dX2_acceptsDigit_94 : decode cX2_acceptsDigit 94 = .ok (.iconst 1, 1) := by decide +kernel
theorem dX2_acceptsDigit_95 : decode cX2_acceptsDigit 95 = .ok (.iadd, 1) := by decide +kernel
theorem dX2_acceptsDigit_96 : decode cX2_acceptsDigit 96 = .ok (.putfield 25, 3) := by decide +kernel
theorem dX2_acceptsDigit_99 : decode cX2_acceptsDigit 99 = .ok (.iconst 1, 1) := by decide +kernel
theorem dX2_acceptsDigit_100 : decode cX2_acceptsDigit 100 = .ok (.ireturn, 1) := by decide +kernel
theorem dX2_canBecome_0 : decode cX2_canBecome 0 = .ok (.iload_n 0, 1) := by decide +kernel
theorem dX2_canBecome_1 : decode cX2_canBecome 1 = .ok (.ifCond .ne 13, 3) := by decide +kernel
theorem dX2_canBecome_4 : decode cX2_canBecome 4 = .ok (.iload_n 1, 1) := by decide +kernel
theorem dX2_canBecome_5 : decode cX2_canBecome 5 = .ok (.ifCond .ne 7, 3) := by decide +kernel
theorem dX2_canBecome_8 : decode cX2_canBecome 8 = .ok (.iconst 1, 1) := by decide +kernel
theorem dX2_canBecome_9 : decode cX2_canBecome 9 = .ok (.goto 4, 3) := by decide +kernel
theorem dX2_canBecome_12 : decode cX2_canBecome 12 = .ok (.iconst 0, 1) := by decide +kernel
theorem dX2_canBecome_13 : decode cX2_canBecome 13 = .ok (.ireturn, 1) := by decide +kernel
theorem dX2_canBecome_14 : decode cX2_canBecome 14 = .ok (.iload_n 0, 1) := by decide +kernel
theorem dX2_canBecome_15 : decode cX2_canBecome 15 = .ok (.istore_n 3, 1) := by decide +kernel
theorem dX2_canBecome_16 : decode cX2_canBecome 16 = .ok (.iload_n 0, 1) := by decide +kernel
theorem dX2_canBecome_17 : decode cX2_canBecome 17 = .ok (.istore 4, 2) := by decide +kernel
theorem dX2_canBecome_19 : decode cX2_canBecome 19 = .ok (.iconst 0, 1) := by decide +kernel
theorem dX2_canBecome_20 : decode cX2_canBecome 20 = .ok (.istore 5, 2) := by decide +kernel
theorem dX2_canBecome_22 : decode cX2_canBecome 22 = .ok (.iload 5, 2) := by decide +kernel
theorem dX2_canBecome_24 : decode cX2_canBecome 24 = .ok (.iconst 5, 1) := by decide +kernel
theorem dX2_canBecome_25 : decode cX2_canBecome 25 = .ok (.if_icmp .ge 37, 3) := by decide +kernel
theorem dX2_canBecome_28 : decode cX2_canBecome 28 = .ok (.iload_n 3, 1) := by decide +kernel
theorem dX2_canBecome_29 : decode cX2_canBecome 29 = .ok (.iload_n 2, 1) := by decide +kernel
theorem dX2_canBecome_30 : decode cX2_canBecome 30 = .ok (.if_icmp .gt 32, 3) := by decide +kernel
theorem dX2_canBecome_33 : decode cX2_canBecome 33 = .ok (.iload 4, 2) := by decide +kernel
theorem dX2_canBecome_35 : decode cX2_canBecome 35 = .ok (.iload_n 1, 1) := by decide +kernel
theorem dX2_canBecome_36 : decode cX2_canBecome 36 = .ok (.if_icmp .lt 5, 3) := by decide +kernel
theorem dX2_canBecome_39 : decode cX2_canBecome 39 = .ok (.iconst 1, 1) := by decide +kernel
theorem dX2_canBecome_40 : decode cX2_canBecome 40 = .ok (.ireturn, 1) := by decide +kernel
theorem dX2_canBecome_41 : decode cX2_canBecome 41 = .ok (.iload_n 3, 1) := by decide +kernel
theorem dX2_canBecome_42 : decode cX2_canBecome 42 = .ok (.bipush 10, 2) := by decide +kernel
theorem dX2_canBecome_44 : decode cX2_canBecome 44 = .ok (.imul, 1) := by decide +kernel
theorem dX2_canBecome_45 : decode cX2_canBecome 45 = .ok (.istore_n 3, 1) := by decide +kernel
theorem dX2_canBecome_46 : decode cX2_canBecome 46 = .ok (.iload 4, 2) := by decide +kernel
theorem dX2_canBecome_48 : decode cX2_canBecome 48 = .ok (.bipush 10, 2) := by decide +kernel
theorem dX2_canBecome_50 : decode cX2_canBecome 50 = .ok (.imul, 1) := by decide +kernel
theorem dX2_canBecome_51 : decode cX2_canBecome 51 = .ok (.bipush 9, 2) := by decide +kernel
theorem dX2_canBecome_53 : decode cX2_canBecome 53 = .ok (.iadd, 1) := by decide +kernel
theorem dX2_canBecome_54 : decode cX2_canBecome 54 = .ok (.istore 4, 2) := by decide +kernel
theorem dX2_canBecome_56 : decode cX2_canBecome 56 = .ok (.iinc 5 1, 3) := by decide +kernel
theorem dX2_canBecome_59 : decode cX2_canBecome 59 = .ok (.goto (-37), 3) := by decide +kernel
theorem dX2_canBecome_62 : decode cX2_canBecome 62 = .ok (.iconst 0, 1) := by decide +kernel
theorem dX2_canBecome_63 : decode cX2_canBecome 63 = .ok (.ireturn, 1) := by decide +kernel
theorem dX2_acceptsMark_0 : decode cX2_acceptsMark 0 = .ok (.aload_n 0, 1) := by decide +kernel
theorem dX2_acceptsMark_1 : decode cX2_acceptsMark 1 = .ok (.iload_n 1, 1) := by decide +kernel
theorem dX2_acceptsMark_2 : decode cX2_acceptsMark 2 = .ok (.invokevirtual 55, 3) := by decide +kernel
theorem dX2_acceptsMark_5 : decode cX2_acceptsMark 5 = .ok (.istore_n 2, 1) := by decide +kernel
theorem dX2_acceptsMark_6 : decode cX2_acceptsMark 6 = .ok (.iload_n 2, 1) := by decide +kernel
theorem dX2_acceptsMark_7 : decode cX2_acceptsMark 7 = .ok (.iconst (-1), 1) := by decide +kernel
theorem dX2_acceptsMark_8 : decode cX2_acceptsMark 8 = .ok (.if_icmp .ne 5, 3) := by decide +kernel
theorem dX2_acceptsMark_11 : decode cX2_acceptsMark 11 = .ok (.iconst 0, 1) := by decide +kernel
theorem dX2_acceptsMark_12 : decode cX2_acceptsMark 12 = .ok (.ireturn, 1) := by decide +kernel
theorem dX2_acceptsMark_13 : decode cX2_acceptsMark 13 = .ok (.iload_n 2, 1) := by decide +kernel
theorem dX2_acceptsMark_14 : decode cX2_acceptsMark 14 = .ok (.ifCond .ne 7, 3) := by decide +kernel
theorem dX2_acceptsMark_17 : decode cX2_acceptsMark 17 = .ok (.aload_n 0, 1) := by decide +kernel
theorem dX2_acceptsMark_18 : decode cX2_acceptsMark 18 = .ok (.invokevirtual 19, 3) := by decide +kernel
theorem dX2_acceptsMark_21 : decode cX2_acceptsMark 21 = .ok (.aload_n 0, 1) := by decide +kernel
theorem dX2_acceptsMark_22 : decode cX2_acceptsMark 22 = .ok (.iload_n 2, 1) := by decide +kernel
theorem dX2_acceptsMark_23 : decode cX2_acceptsMark 23 = .ok (.putfield 22, 3) := by decide +kernel
theorem dX2_acceptsMark_26 : decode cX2_acceptsMark 26 = .ok (.aload_n 0, 1) := by decide +kernel
theorem dX2_acceptsMark_27 : decode cX2_acceptsMark 27 = .ok (.iconst 0, 1) := by decide +kernel
theorem dX2_acceptsMark_28 : decode cX2_acceptsMark 28 = .ok (.putfield 25, 3) := by decide +kernel
theorem dX2_acceptsMark_31 : decode cX2_acceptsMark 31 = .ok (.iconst 1, 1) := by decide +kernel
theorem dX2_acceptsMark_32 : decode cX2_acceptsMark 32 = .ok (.ireturn, 1) := by decide +kernel
theorem dX2_fieldBehind_0 : decode cX2_fieldBehind 0 = .ok (.iload_n 1, 1) := by decide +kernel
theorem dX2_fieldBehind_1 : decode cX2_fieldBehind 1 = .ok (.lookupswitch 128 #[(36, 78), (59, 114), (64, 92), (99, 64), (120, 51)], 51) := by decide +kernel
theorem dX2_fieldBehind_52 : decode cX2_fieldBehind 52 = .ok (.aload_n 0, 1) := by decide +kernel
theorem dX2_fieldBehind_53 : decode cX2_fieldBehind 53 = .ok (.getfield 22, 3) := by decide +kernel
theorem dX2_fieldBehind_56 : decode cX2_fieldBehind 56 = .ok (.ifCond .ne 7, 3) := by decide +kernel
theorem dX2_fieldBehind_59 : decode cX2_fieldBehind 59 = .ok (.iconst 1, 1) := by decide +kernel
theorem dX2_fieldBehind_60 : decode cX2_fieldBehind 60 = .ok (.goto 4, 3) := by decide +kernel
theorem dX2_fieldBehind_63 : decode cX2_fieldBehind 63 = .ok (.iconst (-1), 1) := by decide +kernel
theorem dX2_fieldBehind_64 : decode cX2_fieldBehind 64 = .ok (.ireturn, 1) := by decide +kernel
theorem dX2_fieldBehind_65 : decode cX2_fieldBehind 65 = .ok (.aload_n 0, 1) := by decide +kernel
theorem dX2_fieldBehind_66 : decode cX2_fieldBehind 66 = .ok (.getfield 22, 3) := by decide +kernel
theorem dX2_fieldBehind_69 : decode cX2_fieldBehind 69 = .ok (.iconst 1, 1) := by decide +kernel
theorem dX2_fieldBehind_70 : decode cX2_fieldBehind 70 = .ok (.if_icmp .ne 7, 3) := by decide +kernel
theorem dX2_fieldBehind_73 : decode cX2_fieldBehind 73 = .ok (.iconst 2, 1) := by decide +kernel
theorem dX2_fieldBehind_74 : decode cX2_fieldBehind 74 = .ok (.goto 4, 3) := by decide +kernel
theorem dX2_fieldBehind_77 : decode cX2_fieldBehind 77 = .ok (.iconst (-1), 1) := by decide +kernel
theorem dX2_fieldBehind_78 : decode cX2_fieldBehind 78 = .ok (.ireturn, 1) := by decide +kernel
theorem dX2_fieldBehind_79 : decode cX2_fieldBehind 79 = .ok (.aload_n 0, 1) := by decide +kernel
theorem dX2_fieldBehind_80 : decode cX2_fieldBehind 80 = .ok (.getfield 22, 3) := by decide +kernel
theorem dX2_fieldBehind_83 : decode cX2_fieldBehind 83 = .ok (.iconst 2, 1) := by decide +kernel
theorem dX2_fieldBehind_84 : decode cX2_fieldBehind 84 = .ok (.if_icmp .ne 7, 3) := by decide +kernel
theorem dX2_fieldBehind_87 : decode cX2_fieldBehind 87 = .ok (.iconst 3, 1) := by decide +kernel
theorem dX2_fieldBehind_88 : decode cX2_fieldBehind 88 = .ok (.goto 4, 3) := by decide +kernel
theorem dX2_fieldBehind_91 : decode cX2_fieldBehind 91 = .ok (.iconst (-1), 1) := by decide +kernel
theorem dX2_fieldBehind_92 : decode cX2_fieldBehind 92 = .ok (.ireturn, 1) := by decide +kernel
theorem dX2_fieldBehind_93 : decode cX2_fieldBehind 93 = .ok (.aload_n 0, 1) := by decide +kernel
theorem dX2_fieldBehind_94 : decode cX2_fieldBehind 94 = .ok (.getfield 22, 3) := by decide +kernel
theorem dX2_fieldBehind_97 : decode cX2_fieldBehind 97 = .ok (.iconst 2, 1) := by decide +kernel
theorem dX2_fieldBehind_98 : decode cX2_fieldBehind 98 = .ok (.if_icmp .eq 11, 3) := by decide +kernel
theorem dX2_fieldBehind_101 : decode cX2_fieldBehind 101 = .ok (.aload_n 0, 1) := by decide +kernel
theorem dX2_fieldBehind_102 : decode cX2_fieldBehind 102 = .ok (.getfield 22, 3) := by decide +kernel
theorem dX2_fieldBehind_105 : decode cX2_fieldBehind 105 = .ok (.iconst 3, 1) := by decide +kernel
theorem dX2_fieldBehind_106 : decode cX2_fieldBehind 106 = .ok (.if_icmp .ne 7, 3) := by decide +kernel
theorem dX2_fieldBehind_109 : decode cX2_fieldBehind 109 = .ok (.iconst 4, 1) := by decide +kernel
theorem dX2_fieldBehind_110 : decode cX2_fieldBehind 110 = .ok (.goto 4, 3) := by decide +kernel
theorem dX2_fieldBehind_113 : decode cX2_fieldBehind 113 = .ok (.iconst (-1), 1) := by decide +kernel
theorem dX2_fieldBehind_114 : decode cX2_fieldBehind 114 = .ok (.ireturn, 1) := by decide +kernel
theorem dX2_fieldBehind_115 : decode cX2_fieldBehind 115 = .ok (.aload_n 0, 1) := by decide +kernel
theorem dX2_fieldBehind_116 : decode cX2_fieldBehind 116 = .ok (.getfield 22, 3) := by decide +kernel
theorem dX2_fieldBehind_119 : decode cX2_fieldBehind 119 = .ok (.iconst 2, 1) := by decide +kernel
theorem dX2_fieldBehind_120 : decode cX2_fieldBehind 120 = .ok (.if_icmp .lt 7, 3) := by decide +kernel
theorem dX2_fieldBehind_123 : decode cX2_fieldBehind 123 = .ok (.iconst 0, 1) := by decide +kernel
theorem dX2_fieldBehind_124 : decode cX2_fieldBehind 124 = .ok (.goto 4, 3) := by decide +kernel
theorem dX2_fieldBehind_127 : decode cX2_fieldBehind 127 = .ok (.iconst (-1), 1) := by decide +kernel
theorem dX2_fieldBehind_128 : decode cX2_fieldBehind 128 = .ok (.ireturn, 1) := by decide +kernel
theorem dX2_fieldBehind_129 : decode cX2_fieldBehind 129 = .ok (.iconst (-1), 1) := by decide +kernel
theorem dX2_fieldBehind_130 : decode cX2_fieldBehind 130 = .ok (.ireturn, 1) := by decide +kernel
theorem dX3_init_0 : decode cX3_init 0 = .ok (.aload_n 0, 1) := by decide +kernel
theorem dX3_init_1 : decode cX3_init 1 = .ok (.invokespecial 3, 3) := by decide +kernel
theorem dX3_init_4 : decode cX3_init 4 = .ok (.aload_n 0, 1) := by decide +kernel
theorem dX3_init_5 : decode cX3_init 5 = .ok (.new 9, 3) := by decide +kernel
theorem dX3_init_8 : decode cX3_init 8 = .ok (.dup, 1) := by decide +kernel
theorem dX3_init_9 : decode cX3_init 9 = .ok (.invokespecial 11, 3) := by decide +kernel
theorem dX3_init_12 : decode cX3_init 12 = .ok (.putfield 12, 3) := by decide +kernel
theorem dX3_init_15 : decode cX3_init 15 = .ok (.return_, 1) := by decide +kernel
theorem dX3_hasLoom_0 : decode cX3_hasLoom 0 = .ok (.aload_n 0, 1) := by decide +kernel
theorem dX3_hasLoom_1 : decode cX3_hasLoom 1 = .ok (.getfield 18, 3) := by decide +kernel
theorem dX3_hasLoom_4 : decode cX3_hasLoom 4 = .ok (.ifCond .le 7, 3) := by decide +kernel
theorem dX3_hasLoom_7 : decode cX3_hasLoom 7 = .ok (.iconst 1, 1) := by decide +kernel
theorem dX3_hasLoom_8 : decode cX3_hasLoom 8 = .ok (.goto 4, 3) := by decide +kernel
theorem dX3_hasLoom_11 : decode cX3_hasLoom 11 = .ok (.iconst 0, 1) := by decide +kernel
theorem dX3_hasLoom_12 : decode cX3_hasLoom 12 = .ok (.ireturn, 1) := by decide +kernel
theorem dX3_borrow_0 : decode cX3_borrow 0 = .ok (.aload_n 0, 1) := by decide +kernel
theorem dX3_borrow_1 : decode cX3_borrow 1 = .ok (.dup, 1) := by decide +kernel
theorem dX3_borrow_2 : decode cX3_borrow 2 = .ok (.getfield 22, 3) := by decide +kernel
theorem dX3_borrow_5 : decode cX3_borrow 5 = .ok (.iload_n 1, 1) := by decide +kernel
theorem dX3_borrow_6 : decode cX3_borrow 6 = .ok (.iadd, 1) := by decide +kernel
theorem dX3_borrow_7 : decode cX3_borrow 7 = .ok (.putfield 22, 3) := by decide +kernel
theorem dX3_borrow_10 : decode cX3_borrow 10 = .ok (.aload_n 0, 1) := by decide +kernel
theorem dX3_borrow_11 : decode cX3_borrow 11 = .ok (.dup, 1) := by decide +kernel
theorem dX3_borrow_12 : decode cX3_borrow 12 = .ok (.getfield 25, 3) := by decide +kernel
theorem dX3_borrow_15 : decode cX3_borrow 15 = .ok (.iload_n 1, 1) := by decide +kernel
theorem dX3_borrow_16 : decode cX3_borrow 16 = .ok (.iadd, 1) := by decide +kernel
theorem dX3_borrow_17 : decode cX3_borrow 17 = .ok (.putfield 25, 3) := by decide +kernel
theorem dX3_borrow_20 : decode cX3_borrow 20 = .ok (.return_, 1) := by decide +kernel
theorem dX3_weavesGood_0 : decode cX3_weavesGood 0 = .ok (.aload_n 0, 1) := by decide +kernel
theorem dX3_weavesGood_1 : decode cX3_weavesGood 1 = .ok (.dup, 1) := by decide +kernel
theorem dX3_weavesGood_2 : decode cX3_weavesGood 2 = .ok (.getfield 28, 3) := by decide +kernel
theorem dX3_weavesGood_5 : decode cX3_weavesGood 5 = .ok (.iconst 1, 1) := by decide +kernel
theorem dX3_weavesGood_6 : decode cX3_weavesGood 6 = .ok (.iadd, 1) := by decide +kernel
theorem dX3_weavesGood_7 : decode cX3_weavesGood 7 = .ok (.putfield 28, 3) := by decide +kernel
theorem dX3_weavesGood_10 : decode cX3_weavesGood 10 = .ok (.aload_n 0, 1) := by decide +kernel
theorem dX3_weavesGood_11 : decode cX3_weavesGood 11 = .ok (.getfield 31, 3) := by decide +kernel
theorem dX3_weavesGood_14 : decode cX3_weavesGood 14 = .ok (.ifCond .le 27, 3) := by decide +kernel
theorem dX3_weavesGood_17 : decode cX3_weavesGood 17 = .ok (.aload_n 0, 1) := by decide +kernel
theorem dX3_weavesGood_18 : decode cX3_weavesGood 18 = .ok (.getfield 28, 3) := by decide +kernel
theorem dX3_weavesGood_21 : decode cX3_weavesGood 21 = .ok (.aload_n 0, 1) := by decide +kernel
theorem dX3_weavesGood_22 : decode cX3_weavesGood 22 = .ok (.getfield 31, 3) := by decide +kernel
theorem dX3_weavesGood_25 : decode cX3_weavesGood 25 = .ok (.irem, 1) := by decide +kernel
theorem dX3_weavesGood_26 : decode cX3_weavesGood 26 = .ok (.ifCond .ne 15, 3) := by decide +kernel
theorem dX3_weavesGood_29 : decode cX3_weavesGood 29 = .ok (.aload_n 0, 1) := by decide +kernel
theorem dX3_weavesGood_30 : decode cX3_weavesGood 30 = .ok (.dup, 1) := by decide +kernel
theorem dX3_weavesGood_31 : decode cX3_weavesGood 31 = .ok (.getfield 34, 3) := by decide +kernel
theorem dX3_weavesGood_34 : decode cX3_weavesGood 34 = .ok (.iconst 1, 1) := by decide +kernel
theorem dX3_weavesGood_35 : decode cX3_weavesGood 35 = .ok (.iadd, 1) := by decide +kernel
theorem dX3_weavesGood_36 : decode cX3_weavesGood 36 = .ok (.putfield 34, 3) := by decide +kernel
theorem dX3_weavesGood_39 : decode cX3_weavesGood 39 = .ok (.iconst 0, 1) := by decide +kernel
theorem dX3_weavesGood_40 : decode cX3_weavesGood 40 = .ok (.ireturn, 1) := by decide +kernel
theorem dX3_weavesGood_41 : decode cX3_weavesGood 41 = .ok (.iconst 1, 1) := by decide +kernel
theorem dX3_weavesGood_42 : decode cX3_weavesGood 42 = .ok (.ireturn, 1) := by decide +kernel
theorem dX3_receive_0 : decode cX3_receive 0 = .ok (.iload_n 2, 1) := by decide +kernel
theorem dX3_receive_1 : decode cX3_receive 1 = .ok (.ifCond .le 16, 3) := by decide +kernel
theorem dX3_receive_4 : decode cX3_receive 4 = .ok (.aload_n 0, 1) := by decide +kernel
theorem dX3_receive_5 : decode cX3_receive 5 = .ok (.getfield 22, 3) := by decide +kernel
theorem dX3_receive_8 : decode cX3_receive 8 = .ok (.iload_n 1, 1) := by decide +kernel
theorem dX3_receive_9 : decode cX3_receive 9 = .ok (.iload_n 2, 1) := by decide +kernel
theorem dX3_receive_10 : decode cX3_receive 10 = .ok (.idiv, 1) := by decide +kernel
theorem dX3_receive_11 : decode cX3_receive 11 = .ok (.invokestatic 37, 3) := by decide +kernel
theorem dX3_receive_14 : decode cX3_receive 14 = .ok (.goto 7, 3) := by decide +kernel
theorem dX3_receive_17 : decode cX3_receive 17 = .ok (.aload_n 0, 1) := by decide +kernel
theorem dX3_receive_18 : decode cX3_receive 18 = .ok (.getfield 22, 3) := by decide +kernel
theorem dX3_receive_21 : decode cX3_receive 21 = .ok (.istore_n 3, 1) := by decide +kernel
theorem dX3_receive_22 : decode cX3_receive 22 = .ok (.aload_n 0, 1) := by decide +kernel
theorem dX3_receive_23 : decode cX3_receive 23 = .ok (.dup, 1) := by decide +kernel
theorem dX3_receive_24 : decode cX3_receive 24 = .ok (.getfield 22, 3) := by decide +kernel
theorem dX3_receive_27 : decode cX3_receive 27 = .ok (.iload_n 3, 1) := by decide +kernel
theorem dX3_receive_28 : decode cX3_receive 28 = .ok (.isub, 1) := by decide +kernel
theorem dX3_receive_29 : decode cX3_receive 29 = .ok (.putfield 22, 3) := by decide +kernel
theorem dX3_receive_32 : decode cX3_receive 32 = .ok (.aload_n 0, 1) := by decide +kernel
theorem dX3_receive_33 : decode cX3_receive 33 = .ok (.dup, 1) := by decide +kernel
theorem dX3_receive_34 : decode cX3_receive 34 = .ok (.getfield 43, 3) := by decide +kernel
theorem dX3_receive_37 : decode cX3_receive 37 = .ok (.iload_n 1, 1) := by decide +kernel
theorem dX3_receive_38 : decode cX3_receive 38 = .ok (.iload_n 3, 1) := by decide +kernel
theorem dX3_receive_39 : decode cX3_receive 39 = .ok (.iload_n 2, 1) := by decide +kernel
theorem dX3_receive_40 : decode cX3_receive 40 = .ok (.imul, 1) := by decide +kernel
theorem dX3_receive_41 : decode cX3_receive 41 = .ok (.isub, 1) := by decide +kernel
theorem dX3_receive_42 : decode cX3_receive 42 = .ok (.iadd, 1) := by decide +kernel
theorem dX3_receive_43 : decode cX3_receive 43 = .ok (.putfield 43, 3) := by decide +kernel
theorem dX3_receive_46 : decode cX3_receive 46 = .ok (.return_, 1) := by decide +kernel
theorem dX3_property_0 : decode cX3_property 0 = .ok (.iload_n 1, 1) := by decide +kernel
theorem dX3_property_1 : decode cX3_property 1 = .ok (.tableswitch 78 0 6 #[43, 48, 53, 58, 63, 68, 73], 43) := by decide +kernel
theorem dX3_property_44 : decode cX3_property 44 = .ok (.aload_n 0, 1) := by decide +kernel
theorem dX3_property_45 : decode cX3_property 45 = .ok (.getfield 18, 3) := by decide +kernel
theorem dX3_property_48 : decode cX3_property 48 = .ok (.ireturn, 1) := by decide +kernel
theorem dX3_property_49 : decode cX3_property 49 = .ok (.aload_n 0, 1) := by decide +kernel
theorem dX3_property_50 : decode cX3_property 50 = .ok (.getfield 46, 3) := by decide +kernel
theorem dX3_property_53 : decode cX3_property 53 = .ok (.ireturn, 1) := by decide +kernel
theorem dX3_property_54 : decode cX3_property 54 = .ok (.aload_n 0, 1) := by decide +kernel
theorem dX3_property_55 : decode cX3_property 55 = .ok (.getfield 31, 3) := by decide +kernel
theorem dX3_property_58 : decode cX3_property 58 = .ok (.ireturn, 1) := by decide +kernel
theorem dX3_property_59 : decode cX3_property 59 = .ok (.aload_n 0, 1) := by decide +kernel
theorem dX3_property_60 : decode cX3_property 60 = .ok (.getfield 22, 3) := by decide +kernel
theorem dX3_property_63 : decode cX3_property 63 = .ok (.ireturn, 1) := by decide +kernel
theorem dX3_property_64 : decode cX3_property 64 = .ok (.aload_n 0, 1) := by decide +kernel
theorem dX3_property_65 : decode cX3_property 65 = .ok (.getfield 43, 3) := by decide +kernel
theorem dX3_property_68 : decode cX3_property 68 = .ok (.ireturn, 1) := by decide +kernel
theorem dX3_property_69 : decode cX3_property 69 = .ok (.aload_n 0, 1) := by decide +kernel
theorem dX3_property_70 : decode cX3_property 70 = .ok (.getfield 28, 3) := by decide +kernel
theorem dX3_property_73 : decode cX3_property 73 = .ok (.ireturn, 1) := by decide +kernel
theorem dX3_property_74 : decode cX3_property 74 = .ok (.aload_n 0, 1) := by decide +kernel
theorem dX3_property_75 : decode cX3_property 75 = .ok (.getfield 34, 3) := by decide +kernel
theorem dX3_property_78 : decode cX3_property 78 = .ok (.ireturn, 1) := by decide +kernel
theorem dX3_property_79 : decode cX3_property 79 = .ok (.aload_n 0, 1) := by decide +kernel
theorem dX3_property_80 : decode cX3_property 80 = .ok (.getfield 25, 3) := by decide +kernel
theorem dX3_property_83 : decode cX3_property 83 = .ok (.ireturn, 1) := by decide +kernel
theorem dX3_copyFrom_0 : decode cX3_copyFrom 0 = .ok (.aload_n 0, 1) := by decide +kernel
theorem dX3_copyFrom_1 : decode cX3_copyFrom 1 = .ok (.getfield 12, 3) := by decide +kernel
theorem dX3_copyFrom_4 : decode cX3_copyFrom 4 = .ok (.aload_n 1, 1) := by decide +kernel
theorem dX3_copyFrom_5 : decode cX3_copyFrom 5 = .ok (.getfield 12, 3) := by decide +kernel
theorem dX3_copyFrom_8 : decode cX3_copyFrom 8 = .ok (.invokevirtual 49, 3) := by decide +kernel
theorem dX3_copyFrom_11 : decode cX3_copyFrom 11 = .ok (.aload_n 0, 1) := by decide +kernel
theorem dX3_copyFrom_12 : decode cX3_copyFrom 12 = .ok (.aload_n 1, 1) := by decide +kernel
theorem dX3_copyFrom_13 : decode cX3_copyFrom 13 = .ok (.getfield 18, 3) := by decide +kernel
theorem dX3_copyFrom_16 : decode cX3_copyFrom 16 = .ok (.putfield 18, 3) := by decide +kernel
theorem dX3_copyFrom_19 : decode cX3_copyFrom 19 = .ok (.aload_n 0, 1) := by decide +kernel
theorem dX3_copyFrom_20 : decode cX3_copyFrom 20 = .ok (.aload_n 1, 1) := by decide +kernel
theorem dX3_copyFrom_21 : decode cX3_copyFrom 21 = .ok (.getfield 46, 3) := by decide +kernel
theorem dX3_copyFrom_24 : decode cX3_copyFrom 24 = .ok (.putfield 46, 3) := by decide +kernel
theorem dX3_copyFrom_27 : decode cX3_copyFrom 27 = .ok (.aload_n 0, 1) := by decide +kernel
theorem dX3_copyFrom_28 : decode cX3_copyFrom 28 = .ok (.aload_n 1, 1) := by decide +kernel
theorem dX3_copyFrom_29 : decode cX3_copyFrom 29 = .ok (.getfield 31, 3) := by decide +kernel
theorem dX3_copyFrom_32 : decode cX3_copyFrom 32 = .ok (.putfield 31, 3) := by decide +kernel
theorem dX3_copyFrom_35 : decode cX3_copyFrom 35 = .ok (.aload_n 0, 1) := by decide +kernel
theorem dX3_copyFrom_36 : decode cX3_copyFrom 36 = .ok (.aload_n 1, 1) := by decide +kernel
theorem dX3_copyFrom_37 : decode cX3_copyFrom 37 = .ok (.getfield 22, 3) := by decide +kernel
theorem dX3_copyFrom_40 : decode cX3_copyFrom 40 = .ok (.putfield 22, 3) := by decide +kernel
theorem dX3_copyFrom_43 : decode cX3_copyFrom 43 = .ok (.aload_n 0, 1) := by decide +kernel
theorem dX3_copyFrom_44 : decode cX3_copyFrom 44 = .ok (.aload_n 1, 1) := by decide +kernel
theorem dX3_copyFrom_45 : decode cX3_copyFrom 45 = .ok (.getfield 43, 3) := by decide +kernel
theorem dX3_copyFrom_48 : decode cX3_copyFrom 48 = .ok (.putfield 43, 3) := by decide +kernel
theorem dX3_copyFrom_51 : decode cX3_copyFrom 51 = .ok (.aload_n 0, 1) := by decide +kernel
theorem dX3_copyFrom_52 : decode cX3_copyFrom 52 = .ok (.aload_n 1, 1) := by decide +kernel
theorem dX3_copyFrom_53 : decode cX3_copyFrom 53 = .ok (.getfield 28, 3) := by decide +kernel
theorem dX3_copyFrom_56 : decode cX3_copyFrom 56 = .ok (.putfield 28, 3) := by decide +kernel
theorem dX3_copyFrom_59 : decode cX3_copyFrom 59 = .ok (.aload_n 0, 1) := by decide +kernel
theorem dX3_copyFrom_60 : decode cX3_copyFrom 60 = .ok (.aload_n 1, 1) := by decide +kernel
theorem dX3_copyFrom_61 : decode cX3_copyFrom 61 = .ok (.getfield 34, 3) := by decide +kernel
theorem dX3_copyFrom_64 : decode cX3_copyFrom 64 = .ok (.putfield 34, 3) := by decide +kernel
theorem dX3_copyFrom_67 : decode cX3_copyFrom 67 = .ok (.aload_n 0, 1) := by decide +kernel
theorem dX3_copyFrom_68 : decode cX3_copyFrom 68 = .ok (.aload_n 1, 1) := by decide +kernel
theorem dX3_copyFrom_69 : decode cX3_copyFrom 69 = .ok (.getfield 25, 3) := by decide +kernel
theorem dX3_copyFrom_72 : decode cX3_copyFrom 72 = .ok (.putfield 25, 3) := by decide +kernel
theorem dX3_copyFrom_75 : decode cX3_copyFrom 75 = .ok (.return_, 1) := by decide +kernel
theorem dX4_init_0 : decode cX4_init 0 = .ok (.aload_n 0, 1) := by decide +kernel
theorem dX4_init_1 : decode cX4_init 1 = .ok (.invokespecial 3, 3) := by decide +kernel
theorem dX4_init_4 : decode cX4_init 4 = .ok (.aload_n 0, 1) := by decide +kernel
theorem dX4_init_5 : decode cX4_init 5 = .ok (.iconst 4, 1) := by decide +kernel
theorem dX4_init_6 : decode cX4_init 6 = .ok (.newarray .int, 2) := by decide +kernel
theorem dX4_init_8 : decode cX4_init 8 = .ok (.putfield 9, 3) := by decide +kernel
theorem dX4_init_11 : decode cX4_init 11 = .ok (.return_, 1) := by decide +kernel
theorem dX4_of_0 : decode cX4_of 0 = .ok (.iload_n 1, 1) := by decide +kernel
theorem dX4_of_1 : decode cX4_of 1 = .ok (.ifCond .lt 21, 3) := by decide +kernel
theorem dX4_of_4 : decode cX4_of 4 = .ok (.iload_n 1, 1) := by decide +kernel
theorem dX4_of_5 : decode cX4_of 5 = .ok (.aload_n 0, 1) := by decide +kernel
theorem dX4_of_6 : decode cX4_of 6 = .ok (.getfield 9, 3) := by decide +kernel
theorem dX4_of_9 : decode cX4_of 9 = .ok (.arraylength, 1) := by decide +kernel
theorem dX4_of_10 : decode cX4_of 10 = .ok (.if_icmp .ge 12, 3) := by decide +kernel
theorem dX4_of_13 : decode cX4_of 13 = .ok (.aload_n 0, 1) := by decide +kernel
theorem dX4_of_14 : decode cX4_of 14 = .ok (.getfield 9, 3) := by decide +kernel
theorem dX4_of_17 : decode cX4_of 17 = .ok (.iload_n 1, 1) := by decide +kernel
theorem dX4_of_18 : decode cX4_of 18 = .ok (.iaload, 1) := by decide +kernel
theorem dX4_of_19 : decode cX4_of 19 = .ok (.goto 4, 3) := by decide +kernel
theorem dX4_of_22 : decode cX4_of 22 = .ok (.iconst 0, 1) := by decide +kernel
theorem dX4_of_23 : decode cX4_of 23 = .ok (.ireturn, 1) := by decide +kernel
theorem dX4_add_0 : decode cX4_add 0 = .ok (.iload_n 1, 1) := by decide +kernel
theorem dX4_add_1 : decode cX4_add 1 = .ok (.ifCond .lt 12, 3) := by decide +kernel
theorem dX4_add_4 : decode cX4_add 4 = .ok (.iload_n 1, 1) := by decide +kernel
theorem dX4_add_5 : decode cX4_add 5 = .ok (.aload_n 0, 1) := by decide +kernel
theorem dX4_add_6 : decode cX4_add 6 = .ok (.getfield 9, 3) := by decide +kernel
theorem dX4_add_9 : decode cX4_add 9 = .ok (.arraylength, 1) := by decide +kernel
theorem dX4_add_10 : decode cX4_add 10 = .ok (.if_icmp .lt 5, 3) := by decide +kernel
theorem dX4_add_13 : decode cX4_add 13 = .ok (.iconst 0, 1) := by decide +kernel
theorem dX4_add_14 : decode cX4_add 14 = .ok (.ireturn, 1) := by decide +kernel
theorem dX4_add_15 : decode cX4_add 15 = .ok (.aload_n 0, 1) := by decide +kernel
theorem dX4_add_16 : decode cX4_add 16 = .ok (.getfield 9, 3) := by decide +kernel
theorem dX4_add_19 : decode cX4_add 19 = .ok (.iload_n 1, 1) := by decide +kernel
theorem dX4_add_20 : decode cX4_add 20 = .ok (.dup2, 1) := by decide +kernel
theorem dX4_add_21 : decode cX4_add 21 = .ok (.iaload, 1) := by decide +kernel
theorem dX4_add_22 : decode cX4_add 22 = .ok (.iload_n 2, 1) := by decide +kernel
theorem dX4_add_23 : decode cX4_add 23 = .ok (.iadd, 1) := by decide +kernel
theorem dX4_add_24 : decode cX4_add 24 = .ok (.iastore, 1) := by decide +kernel
theorem dX4_add_25 : decode cX4_add 25 = .ok (.aload_n 0, 1) := by decide +kernel
theorem dX4_add_26 : decode cX4_add 26 = .ok (.getfield 9, 3) := by decide +kernel
theorem dX4_add_29 : decode cX4_add 29 = .ok (.iload_n 1, 1) := by decide +kernel
theorem dX4_add_30 : decode cX4_add 30 = .ok (.iaload, 1) := by decide +kernel
theorem dX4_add_31 : decode cX4_add 31 = .ok (.ireturn, 1) := by decide +kernel
theorem dX4_copyFrom_0 : decode cX4_copyFrom 0 = .ok (.iconst 0, 1) := by decide +kernel
theorem dX4_copyFrom_1 : decode cX4_copyFrom 1 = .ok (.istore_n 2, 1) := by decide +kernel
theorem dX4_copyFrom_2 : decode cX4_copyFrom 2 = .ok (.iload_n 2, 1) := by decide +kernel
theorem dX4_copyFrom_3 : decode cX4_copyFrom 3 = .ok (.aload_n 0, 1) := by decide +kernel
theorem dX4_copyFrom_4 : decode cX4_copyFrom 4 = .ok (.getfield 9, 3) := by decide +kernel
theorem dX4_copyFrom_7 : decode cX4_copyFrom 7 = .ok (.arraylength, 1) := by decide +kernel
theorem dX4_copyFrom_8 : decode cX4_copyFrom 8 = .ok (.if_icmp .ge 30, 3) := by decide +kernel
theorem dX4_copyFrom_11 : decode cX4_copyFrom 11 = .ok (.iload_n 2, 1) := by decide +kernel
theorem dX4_copyFrom_12 : decode cX4_copyFrom 12 = .ok (.aload_n 1, 1) := by decide +kernel
theorem dX4_copyFrom_13 : decode cX4_copyFrom 13 = .ok (.getfield 9, 3) := by decide +kernel
theorem dX4_copyFrom_16 : decode cX4_copyFrom 16 = .ok (.arraylength, 1) := by decide +kernel
theorem dX4_copyFrom_17 : decode cX4_copyFrom 17 = .ok (.if_icmp .ge 21, 3) := by decide +kernel
theorem dX4_copyFrom_20 : decode cX4_copyFrom 20 = .ok (.aload_n 0, 1) := by decide +kernel
theorem dX4_copyFrom_21 : decode cX4_copyFrom 21 = .ok (.getfield 9, 3) := by decide +kernel
theorem dX4_copyFrom_24 : decode cX4_copyFrom 24 = .ok (.iload_n 2, 1) := by decide +kernel
theorem dX4_copyFrom_25 : decode cX4_copyFrom 25 = .ok (.aload_n 1, 1) := by decide +kernel
theorem dX4_copyFrom_26 : decode cX4_copyFrom 26 = .ok (.getfield 9, 3) := by decide +kernel
theorem dX4_copyFrom_29 : decode cX4_copyFrom 29 = .ok (.iload_n 2, 1) := by decide +kernel
theorem dX4_copyFrom_30 : decode cX4_copyFrom 30 = .ok (.iaload, 1) := by decide +kernel
theorem dX4_copyFrom_31 : decode cX4_copyFrom 31 = .ok (.iastore, 1) := by decide +kernel
theorem dX4_copyFrom_32 : decode cX4_copyFrom 32 = .ok (.iinc 2 1, 3) := by decide +kernel
theorem dX4_copyFrom_35 : decode cX4_copyFrom 35 = .ok (.goto (-33), 3) := by decide +kernel
theorem dX4_copyFrom_38 : decode cX4_copyFrom 38 = .ok (.return_, 1) := by decide +kernel
theorem dX5_init_0 : decode cX5_init 0 = .ok (.aload_n 0, 1) := by decide +kernel
theorem dX5_init_1 : decode cX5_init 1 = .ok (.invokespecial 1, 3) := by decide +kernel
theorem dX5_init_4 : decode cX5_init 4 = .ok (.aload_n 0, 1) := by decide +kernel
theorem dX5_init_5 : decode cX5_init 5 = .ok (.new 7, 3) := by decide +kernel
theorem dX5_init_8 : decode cX5_init 8 = .ok (.dup, 1) := by decide +kernel
theorem dX5_init_9 : decode cX5_init 9 = .ok (.invokespecial 9, 3) := by decide +kernel
theorem dX5_init_12 : decode cX5_init 12 = .ok (.putfield 10, 3) := by decide +kernel
theorem dX5_init_15 : decode cX5_init 15 = .ok (.aload_n 0, 1) := by decide +kernel
theorem dX5_init_16 : decode cX5_init 16 = .ok (.new 7, 3) := by decide +kernel
theorem dX5_init_19 : decode cX5_init 19 = .ok (.dup, 1) := by decide +kernel
theorem dX5_init_20 : decode cX5_init 20 = .ok (.invokespecial 9, 3) := by decide +kernel
theorem dX5_init_23 : decode cX5_init 23 = .ok (.putfield 16, 3) := by decide +kernel
theorem dX5_init_26 : decode cX5_init 26 = .ok (.aload_n 0, 1) := by decide +kernel
theorem dX5_init_27 : decode cX5_init 27 = .ok (.bipush 6, 2) := by decide +kernel
theorem dX5_init_29 : decode cX5_init 29 = .ok (.anewarray 7, 3) := by decide +kernel
theorem dX5_init_32 : decode cX5_init 32 = .ok (.putfield 19, 3) := by decide +kernel
theorem dX5_init_35 : decode cX5_init 35 = .ok (.aload_n 0, 1) := by decide +kernel
theorem dX5_init_36 : decode cX5_init 36 = .ok (.bipush 60, 2) := by decide +kernel
theorem dX5_init_38 : decode cX5_init 38 = .ok (.newarray .int, 2) := by decide +kernel
theorem dX5_init_40 : decode cX5_init 40 = .ok (.putfield 23, 3) := by decide +kernel
theorem dX5_init_43 : decode cX5_init 43 = .ok (.aload_n 0, 1) := by decide +kernel
theorem dX5_init_44 : decode cX5_init 44 = .ok (.new 27, 3) := by decide +kernel
theorem dX5_init_47 : decode cX5_init 47 = .ok (.dup, 1) := by decide +kernel
theorem dX5_init_48 : decode cX5_init 48 = .ok (.invokespecial 29, 3) := by decide +kernel
theorem dX5_init_51 : decode cX5_init 51 = .ok (.putfield 30, 3) := by decide +kernel
theorem dX5_init_54 : decode cX5_init 54 = .ok (.aload_n 0, 1) := by decide +kernel
theorem dX5_init_55 : decode cX5_init 55 = .ok (.bipush 10, 2) := by decide +kernel
theorem dX5_init_57 : decode cX5_init 57 = .ok (.newarray .int, 2) := by decide +kernel
theorem dX5_init_59 : decode cX5_init 59 = .ok (.putfield 34, 3) := by decide +kernel
theorem dX5_init_62 : decode cX5_init 62 = .ok (.iconst 0, 1) := by decide +kernel
theorem dX5_init_63 : decode cX5_init 63 = .ok (.istore_n 1, 1) := by decide +kernel
theorem dX5_init_64 : decode cX5_init 64 = .ok (.iload_n 1, 1) := by decide +kernel
theorem dX5_init_65 : decode cX5_init 65 = .ok (.aload_n 0, 1) := by decide +kernel
theorem dX5_init_66 : decode cX5_init 66 = .ok (.getfield 19, 3) := by decide +kernel
theorem dX5_init_69 : decode cX5_init 69 = .ok (.arraylength, 1) := by decide +kernel
theorem dX5_init_70 : decode cX5_init 70 = .ok (.if_icmp .ge 22, 3) := by decide +kernel
theorem dX5_init_73 : decode cX5_init 73 = .ok (.aload_n 0, 1) := by decide +kernel
theorem dX5_init_74 : decode cX5_init 74 = .ok (.getfield 19, 3) := by decide +kernel
theorem dX5_init_77 : decode cX5_init 77 = .ok (.iload_n 1, 1) := by decide +kernel
theorem dX5_init_78 : decode cX5_init 78 = .ok (.new 7, 3) := by decide +kernel
theorem dX5_init_81 : decode cX5_init 81 = .ok (.dup, 1) := by decide +kernel
theorem dX5_init_82 : decode cX5_init 82 = .ok (.invokespecial 9, 3) := by decide +kernel
theorem dX5_init_85 : decode cX5_init 85 = .ok (.aastore, 1) := by decide +kernel
theorem dX5_init_86 : decode cX5_init 86 = .ok (.iinc 1 1, 3) := by decide +kernel
theorem dX5_init_89 : decode cX5_init 89 = .ok (.goto (-25), 3) := by decide +kernel
theorem dX5_init_92 : decode cX5_init 92 = .ok (.return_, 1) := by decide +kernel
theorem dX5_loom_0 : decode cX5_loom 0 = .ok (.iload_n 1, 1) := by decide +kernel
theorem dX5_loom_1 : decode cX5_loom 1 = .ok (.iconst 0, 1) := by decide +kernel
theorem dX5_loom_2 : decode cX5_loom 2 = .ok (.iconst 5, 1) := by decide +kernel
theorem dX5_loom_3 : decode cX5_loom 3 = .ok (.invokestatic 37, 3) := by decide +kernel
theorem dX5_loom_6 : decode cX5_loom 6 = .ok (.ifCond .ne 13, 3) := by decide +kernel
theorem dX5_loom_9 : decode cX5_loom 9 = .ok (.new 41, 3) := by decide +kernel
theorem dX5_loom_12 : decode cX5_loom 12 = .ok (.dup, 1) := by decide +kernel
theorem dX5_loom_13 : decode cX5_loom 13 = .ok (.ldc 43, 2) := by decide +kernel
theorem dX5_loom_15 : decode cX5_loom 15 = .ok (.invokespecial 45, 3) := by decide +kernel
theorem dX5_loom_18 : decode cX5_loom 18 = .ok (.athrow, 1) := by decide +kernel
theorem dX5_loom_19 : decode cX5_loom 19 = .ok (.iload_n 2, 1) := by decide +kernel
theorem dX5_loom_20 : decode cX5_loom 20 = .ok (.ifCond .eq 23, 3) := by decide +kernel
theorem dX5_loom_23 : decode cX5_loom 23 = .ok (.iload_n 2, 1) := by decide +kernel
theorem dX5_loom_24 : decode cX5_loom 24 = .ok (.iload_n 3, 1) := by decide +kernel
theorem dX5_loom_25 : decode cX5_loom 25 = .ok (.iload 4, 2) := by decide +kernel
theorem dX5_loom_27 : decode cX5_loom 27 = .ok (.invokestatic 48, 3) := by decide +kernel
theorem dX5_loom_30 : decode cX5_loom 30 = .ok (.ifCond .ne 13, 3) := by decide +kernel
theorem dX5_loom_33 : decode cX5_loom 33 = .ok (.new 51, 3) := by decide +kernel
theorem dX5_loom_36 : decode cX5_loom 36 = .ok (.dup, 1) := by decide +kernel
theorem dX5_loom_37 : decode cX5_loom 37 = .ok (.ldc 53, 2) := by decide +kernel
theorem dX5_loom_39 : decode cX5_loom 39 = .ok (.invokespecial 55, 3) := by decide +kernel
theorem dX5_loom_42 : decode cX5_loom 42 = .ok (.athrow, 1) := by decide +kernel
theorem dX5_loom_43 : decode cX5_loom 43 = .ok (.aload_n 0, 1) := by decide +kernel
theorem dX5_loom_44 : decode cX5_loom 44 = .ok (.invokevirtual 56, 3) := by decide +kernel
theorem dX5_loom_47 : decode cX5_loom 47 = .ok (.aload_n 0, 1) := by decide +kernel
theorem dX5_loom_48 : decode cX5_loom 48 = .ok (.getfield 10, 3) := by decide +kernel
theorem dX5_loom_51 : decode cX5_loom 51 = .ok (.getfield 59, 3) := by decide +kernel
theorem dX5_loom_54 : decode cX5_loom 54 = .ok (.iload_n 1, 1) := by decide +kernel
theorem dX5_loom_55 : decode cX5_loom 55 = .ok (.aaload, 1) := by decide +kernel
theorem dX5_loom_56 : decode cX5_loom 56 = .ok (.astore 5, 2) := by decide +kernel
theorem dX5_loom_58 : decode cX5_loom 58 = .ok (.aload 5, 2) := by decide +kernel
theorem dX5_loom_60 : decode cX5_loom 60 = .ok (.getfield 63, 3) := by decide +kernel
theorem dX5_loom_63 : decode cX5_loom 63 = .ok (.istore 6, 2) := by decide +kernel
theorem dX5_loom_65 : decode cX5_loom 65 = .ok (.aload 5, 2) := by decide +kernel
theorem dX5_loom_67 : decode cX5_loom 67 = .ok (.iload_n 2, 1) := by decide +kernel
theorem dX5_loom_68 : decode cX5_loom 68 = .ok (.putfield 63, 3) := by decide +kernel
theorem dX5_loom_71 : decode cX5_loom 71 = .ok (.aload 5, 2) := by decide +kernel
theorem dX5_loom_73 : decode cX5_loom 73 = .ok (.iload_n 2, 1) := by decide +kernel
theorem dX5_loom_74 : decode cX5_loom 74 = .ok (.ifCond .ne 7, 3) := by decide +kernel
theorem dX5_loom_77 : decode cX5_loom 77 = .ok (.iconst 0, 1) := by decide +kernel
theorem dX5_loom_78 : decode cX5_loom 78 = .ok (.goto 4, 3) := by decide +kernel
theorem dX5_loom_81 : decode cX5_loom 81 = .ok (.iload_n 3, 1) := by decide +kernel
theorem dX5_loom_82 : decode cX5_loom 82 = .ok (.putfield 69, 3) := by decide +kernel
theorem dX5_loom_85 : decode cX5_loom 85 = .ok (.aload 5, 2) := by decide +kernel
theorem dX5_loom_87 : decode cX5_loom 87 = .ok (.iload_n 2, 1) := by decide +kernel
theorem dX5_loom_88 : decode cX5_loom 88 = .ok (.ifCond .ne 7, 3) := by decide +kernel
theorem dX5_loom_91 : decode cX5_loom 91 = .ok (.iconst 0, 1) := by decide +kernel
theorem dX5_loom_92 : decode cX5_loom 92 = .ok (.goto 5, 3) := by decide +kernel
theorem dX5_loom_95 : decode cX5_loom 95 = .ok (.iload 4, 2) := by decide +kernel
theorem dX5_loom_97 : decode cX5_loom 97 = .ok (.putfield 72, 3) := by decide +kernel
theorem dX5_loom_100 : decode cX5_loom 100 = .ok (.iload 6, 2) := by decide +kernel
theorem dX5_loom_102 : decode cX5_loom 102 = .ok (.ireturn, 1) := by decide +kernel
theorem dX5_yarn_0 : decode cX5_yarn 0 = .ok (.iload_n 1, 1) := by decide +kernel
theorem dX5_yarn_1 : decode cX5_yarn 1 = .ok (.iconst 0, 1) := by decide +kernel
theorem dX5_yarn_2 : decode cX5_yarn 2 = .ok (.iconst 5, 1) := by decide +kernel
theorem dX5_yarn_3 : decode cX5_yarn 3 = .ok (.invokestatic 37, 3) := by decide +kernel
theorem dX5_yarn_6 : decode cX5_yarn 6 = .ok (.ifCond .eq 12, 3) := by decide +kernel
theorem dX5_yarn_9 : decode cX5_yarn 9 = .ok (.iload_n 2, 1) := by decide +kernel
theorem dX5_yarn_10 : decode cX5_yarn 10 = .ok (.iconst 0, 1) := by decide +kernel
theorem dX5_yarn_11 : decode cX5_yarn 11 = .ok (.iconst 3, 1) := by decide +kernel
theorem dX5_yarn_12 : decode cX5_yarn 12 = .ok (.invokestatic 37, 3) := by decide +kernel
theorem dX5_yarn_15 : decode cX5_yarn 15 = .ok (.ifCond .ne 13, 3) := by decide +kernel
theorem dX5_yarn_18 : decode cX5_yarn 18 = .ok (.new 41, 3) := by decide +kernel
theorem dX5_yarn_21 : decode cX5_yarn 21 = .ok (.dup, 1) := by decide +kernel
theorem dX5_yarn_22 : decode cX5_yarn 22 = .ok (.ldc 75, 2) := by decide +kernel
theorem dX5_yarn_24 : decode cX5_yarn 24 = .ok (.invokespecial 45, 3) := by decide +kernel
theorem dX5_yarn_27 : decode cX5_yarn 27 = .ok (.athrow, 1) := by decide +kernel
theorem dX5_yarn_28 : decode cX5_yarn 28 = .ok (.iload_n 3, 1) := by decide +kernel
theorem dX5_yarn_29 : decode cX5_yarn 29 = .ok (.sipush (-9999), 3) := by decide +kernel
theorem dX5_yarn_32 : decode cX5_yarn 32 = .ok (.sipush 9999, 3) := by decide +kernel
theorem dX5_yarn_35 : decode cX5_yarn 35 = .ok (.invokestatic 37, 3) := by decide +kernel
theorem dX5_yarn_38 : decode cX5_yarn 38 = .ok (.ifCond .ne 13, 3) := by decide +kernel
theorem dX5_yarn_41 : decode cX5_yarn 41 = .ok (.new 51, 3) := by decide +kernel
theorem dX5_yarn_44 : decode cX5_yarn 44 = .ok (.dup, 1) := by decide +kernel
theorem dX5_yarn_45 : decode cX5_yarn 45 = .ok (.ldc 77, 2) := by decide +kernel
theorem dX5_yarn_47 : decode cX5_yarn 47 = .ok (.invokespecial 55, 3) := by decide +kernel
theorem dX5_yarn_50 : decode cX5_yarn 50 = .ok (.athrow, 1) := by decide +kernel
theorem dX5_yarn_51 : decode cX5_yarn 51 = .ok (.aload_n 0, 1) := by decide +kernel
theorem dX5_yarn_52 : decode cX5_yarn 52 = .ok (.getfield 10, 3) := by decide +kernel
theorem dX5_yarn_55 : decode cX5_yarn 55 = .ok (.getfield 59, 3) := by decide +kernel
theorem dX5_yarn_58 : decode cX5_yarn 58 = .ok (.iload_n 1, 1) := by decide +kernel
theorem dX5_yarn_59 : decode cX5_yarn 59 = .ok (.aaload, 1) := by decide +kernel
theorem dX5_yarn_60 : decode cX5_yarn 60 = .ok (.getfield 79, 3) := by decide +kernel
theorem dX5_yarn_63 : decode cX5_yarn 63 = .ok (.astore 4, 2) := by decide +kernel
theorem dX5_yarn_65 : decode cX5_yarn 65 = .ok (.aload 4, 2) := by decide +kernel
theorem dX5_yarn_67 : decode cX5_yarn 67 = .ok (.iload_n 2, 1) := by decide +kernel
theorem dX5_yarn_68 : decode cX5_yarn 68 = .ok (.invokevirtual 83, 3) := by decide +kernel
theorem dX5_yarn_71 : decode cX5_yarn 71 = .ok (.iload_n 3, 1) := by decide +kernel
theorem dX5_yarn_72 : decode cX5_yarn 72 = .ok (.iadd, 1) := by decide +kernel
theorem dX5_yarn_73 : decode cX5_yarn 73 = .ok (.iconst 0, 1) := by decide +kernel
theorem dX5_yarn_74 : decode cX5_yarn 74 = .ok (.sipush 9999, 3) := by decide +kernel
theorem dX5_yarn_77 : decode cX5_yarn 77 = .ok (.invokestatic 37, 3) := by decide +kernel
theorem dX5_yarn_80 : decode cX5_yarn 80 = .ok (.ifCond .ne 13, 3) := by decide +kernel
theorem dX5_yarn_83 : decode cX5_yarn 83 = .ok (.new 89, 3) := by decide +kernel
theorem dX5_yarn_86 : decode cX5_yarn 86 = .ok (.dup, 1) := by decide +kernel
theorem dX5_yarn_87 : decode cX5_yarn 87 = .ok (.ldc 91, 2) := by decide +kernel
theorem dX5_yarn_89 : decode cX5_yarn 89 = .ok (.invokespecial 93, 3) := by decide +kernel
theorem dX5_yarn_92 : decode cX5_yarn 92 = .ok (.athrow, 1) := by decide +kernel
theorem dX5_yarn_93 : decode cX5_yarn 93 = .ok (.aload_n 0, 1) := by decide +kernel
theorem dX5_yarn_94 : decode cX5_yarn 94 = .ok (.invokevirtual 56, 3) := by decide +kernel
theorem dX5_yarn_97 : decode cX5_yarn 97 = .ok (.aload 4, 2) := by decide +kernel
theorem dX5_yarn_99 : decode cX5_yarn 99 = .ok (.iload_n 2, 1) := by decide +kernel
theorem dX5_yarn_100 : decode cX5_yarn 100 = .ok (.iload_n 3, 1) := by decide +kernel
theorem dX5_yarn_101 : decode cX5_yarn 101 = .ok (.invokevirtual 94, 3) := by decide +kernel
theorem dX5_yarn_104 : decode cX5_yarn 104 = .ok (.ireturn, 1) := by decide +kernel
theorem dX5_store_0 : decode cX5_store 0 = .ok (.iload_n 1, 1) := by decide +kernel
theorem dX5_store_1 : decode cX5_store 1 = .ok (.iconst 0, 1) := by decide +kernel
theorem dX5_store_2 : decode cX5_store 2 = .ok (.iconst 3, 1) := by decide +kernel
theorem dX5_store_3 : decode cX5_store 3 = .ok (.invokestatic 37, 3) := by decide +kernel
theorem dX5_store_6 : decode cX5_store 6 = .ok (.ifCond .ne 13, 3) := by decide +kernel
theorem dX5_store_9 : decode cX5_store 9 = .ok (.new 41, 3) := by decide +kernel
theorem dX5_store_12 : decode cX5_store 12 = .ok (.dup, 1) := by decide +kernel
theorem dX5_store_13 : decode cX5_store 13 = .ok (.ldc 98, 2) := by decide +kernel
theorem dX5_store_15 : decode cX5_store 15 = .ok (.invokespecial 45, 3) := by decide +kernel
theorem dX5_store_18 : decode cX5_store 18 = .ok (.athrow, 1) := by decide +kernel
theorem dX5_store_19 : decode cX5_store 19 = .ok (.iload_n 2, 1) := by decide +kernel
theorem dX5_store_20 : decode cX5_store 20 = .ok (.iconst 1, 1) := by decide +kernel
theorem dX5_store_21 : decode cX5_store 21 = .ok (.sipush 9999, 3) := by decide +kernel
theorem dX5_store_24 : decode cX5_store 24 = .ok (.invokestatic 37, 3) := by decide +kernel
theorem dX5_store_27 : decode cX5_store 27 = .ok (.ifCond .ne 13, 3) := by decide +kernel
theorem dX5_store_30 : decode cX5_store 30 = .ok (.new 51, 3) := by decide +kernel
theorem dX5_store_33 : decode cX5_store 33 = .ok (.dup, 1) := by decide +kernel
theorem dX5_store_34 : decode cX5_store 34 = .ok (.ldc 77, 2) := by decide +kernel
theorem dX5_store_36 : decode cX5_store 36 = .ok (.invokespecial 55, 3) := by decide +kernel
theorem dX5_store_39 : decode cX5_store 39 = .ok (.athrow, 1) := by decide +kernel
theorem dX5_store_40 : decode cX5_store 40 = .ok (.aload_n 0, 1) := by decide +kernel
theorem dX5_store_41 : decode cX5_store 41 = .ok (.getfield 10, 3) := by decide +kernel
theorem dX5_store_44 : decode cX5_store 44 = .ok (.getfield 100, 3) := by decide +kernel
theorem dX5_store_47 : decode cX5_store 47 = .ok (.iload_n 1, 1) := by decide +kernel
theorem dX5_store_48 : decode cX5_store 48 = .ok (.invokevirtual 83, 3) := by decide +kernel
theorem dX5_store_51 : decode cX5_store 51 = .ok (.iload_n 2, 1) := by decide +kernel
theorem dX5_store_52 : decode cX5_store 52 = .ok (.iadd, 1) := by decide +kernel
theorem dX5_store_53 : decode cX5_store 53 = .ok (.ldc 103, 2) := by decide +kernel
theorem dX5_store_55 : decode cX5_store 55 = .ok (.if_icmp .le 13, 3) := by decide +kernel
theorem dX5_store_58 : decode cX5_store 58 = .ok (.new 89, 3) := by decide +kernel
theorem dX5_store_61 : decode cX5_store 61 = .ok (.dup, 1) := by decide +kernel
theorem dX5_store_62 : decode cX5_store 62 = .ok (.ldc 104, 2) := by decide +kernel
theorem dX5_store_64 : decode cX5_store 64 = .ok (.invokespecial 93, 3) := by decide +kernel
theorem dX5_store_67 : decode cX5_store 67 = .ok (.athrow, 1) := by decide +kernel
theorem dX5_store_68 : decode cX5_store 68 = .ok (.aload_n 0, 1) := by decide +kernel
theorem dX5_store_69 : decode cX5_store 69 = .ok (.invokevirtual 56, 3) := by decide +kernel
theorem dX5_store_72 : decode cX5_store 72 = .ok (.aload_n 0, 1) := by decide +kernel
theorem dX5_store_73 : decode cX5_store 73 = .ok (.getfield 10, 3) := by decide +kernel
theorem dX5_store_76 : decode cX5_store 76 = .ok (.getfield 100, 3) := by decide +kernel
theorem dX5_store_79 : decode cX5_store 79 = .ok (.iload_n 1, 1) := by decide +kernel
theorem dX5_store_80 : decode cX5_store 80 = .ok (.iload_n 2, 1) := by decide +kernel
theorem dX5_store_81 : decode cX5_store 81 = .ok (.invokevirtual 94, 3) := by decide +kernel
theorem dX5_store_84 : decode cX5_store 84 = .ok (.ireturn, 1) := by decide +kernel
theorem dX5_give_0 : decode cX5_give 0 = .ok (.iload_n 1, 1) := by decide +kernel
theorem dX5_give_1 : decode cX5_give 1 = .ok (.iconst 0, 1) := by decide +kernel
theorem dX5_give_2 : decode cX5_give 2 = .ok (.iconst 5, 1) := by decide +kernel
theorem dX5_give_3 : decode cX5_give 3 = .ok (.invokestatic 37, 3) := by decide +kernel
theorem dX5_give_6 : decode cX5_give 6 = .ok (.ifCond .eq 21, 3) := by decide +kernel
theorem dX5_give_9 : decode cX5_give 9 = .ok (.iload_n 2, 1) := by decide +kernel
theorem dX5_give_10 : decode cX5_give 10 = .ok (.iconst 0, 1) := by decide +kernel
theorem dX5_give_11 : decode cX5_give 11 = .ok (.iconst 5, 1) := by decide +kernel
theorem dX5_give_12 : decode cX5_give 12 = .ok (.invokestatic 37, 3) := by decide +kernel
theorem dX5_give_15 : decode cX5_give 15 = .ok (.ifCond .eq 12, 3) := by decide +kernel
theorem dX5_give_18 : decode cX5_give 18 = .ok (.iload_n 3, 1) := by decide +kernel
theorem dX5_give_19 : decode cX5_give 19 = .ok (.iconst 0, 1) := by decide +kernel
theorem dX5_give_20 : decode cX5_give 20 = .ok (.iconst 3, 1) := by decide +kernel
theorem dX5_give_21 : decode cX5_give 21 = .ok (.invokestatic 37, 3) := by decide +kernel
theorem dX5_give_24 : decode cX5_give 24 = .ok (.ifCond .ne 13, 3) := by decide +kernel
theorem dX5_give_27 : decode cX5_give 27 = .ok (.new 41, 3) := by decide +kernel
theorem dX5_give_30 : decode cX5_give 30 = .ok (.dup, 1) := by decide +kernel
theorem dX5_give_31 : decode cX5_give 31 = .ok (.ldc 75, 2) := by decide +kernel
theorem dX5_give_33 : decode cX5_give 33 = .ok (.invokespecial 45, 3) := by decide +kernel
theorem dX5_give_36 : decode cX5_give 36 = .ok (.athrow, 1) := by decide +kernel
theorem dX5_give_37 : decode cX5_give 37 = .ok (.iload_n 1, 1) := by decide +kernel
theorem dX5_give_38 : decode cX5_give 38 = .ok (.iload_n 2, 1) := by decide +kernel
theorem dX5_give_39 : decode cX5_give 39 = .ok (.if_icmp .eq 15, 3) := by decide +kernel
theorem dX5_give_42 : decode cX5_give 42 = .ok (.iload 4, 2) := by decide +kernel
theorem dX5_give_44 : decode cX5_give 44 = .ok (.iconst 1, 1) := by decide +kernel
theorem dX5_give_45 : decode cX5_give 45 = .ok (.sipush 9999, 3) := by decide +kernel
theorem dX5_give_48 : decode cX5_give 48 = .ok (.invokestatic 37, 3) := by decide +kernel
theorem dX5_give_51 : decode cX5_give 51 = .ok (.ifCond .ne 13, 3) := by decide +kernel
theorem dX5_give_54 : decode cX5_give 54 = .ok (.new 51, 3) := by decide +kernel
theorem dX5_give_57 : decode cX5_give 57 = .ok (.dup, 1) := by decide +kernel
theorem dX5_give_58 : decode cX5_give 58 = .ok (.ldc 106, 2) := by decide +kernel
theorem dX5_give_60 : decode cX5_give 60 = .ok (.invokespecial 55, 3) := by decide +kernel
theorem dX5_give_63 : decode cX5_give 63 = .ok (.athrow, 1) := by decide +kernel
theorem dX5_give_64 : decode cX5_give 64 = .ok (.aload_n 0, 1) := by decide +kernel
theorem dX5_give_65 : decode cX5_give 65 = .ok (.getfield 10, 3) := by decide +kernel
theorem dX5_give_68 : decode cX5_give 68 = .ok (.getfield 59, 3) := by decide +kernel
theorem dX5_give_71 : decode cX5_give 71 = .ok (.iload_n 1, 1) := by decide +kernel
theorem dX5_give_72 : decode cX5_give 72 = .ok (.aaload, 1) := by decide +kernel
theorem dX5_give_73 : decode cX5_give 73 = .ok (.getfield 79, 3) := by decide +kernel
theorem dX5_give_76 : decode cX5_give 76 = .ok (.astore 5, 2) := by decide +kernel
theorem dX5_give_78 : decode cX5_give 78 = .ok (.aload_n 0, 1) := by decide +kernel
theorem dX5_give_79 : decode cX5_give 79 = .ok (.getfield 10, 3) := by decide +kernel
theorem dX5_give_82 : decode cX5_give 82 = .ok (.getfield 59, 3) := by decide +kernel
theorem dX5_give_85 : decode cX5_give 85 = .ok (.iload_n 2, 1) := by decide +kernel
theorem dX5_give_86 : decode cX5_give 86 = .ok (.aaload, 1) := by decide +kernel
theorem dX5_give_87 : decode cX5_give 87 = .ok (.getfield 79, 3) := by decide +kernel
theorem dX5_give_90 : decode cX5_give 90 = .ok (.astore 6, 2) := by decide +kernel
theorem dX5_give_92 : decode cX5_give 92 = .ok (.aload 5, 2) := by decide +kernel
theorem dX5_give_94 : decode cX5_give 94 = .ok (.iload_n 3, 1) := by decide +kernel
theorem dX5_give_95 : decode cX5_give 95 = .ok (.invokevirtual 83, 3) := by decide +kernel
theorem dX5_give_98 : decode cX5_give 98 = .ok (.iload 4, 2) := by decide +kernel
theorem dX5_give_100 : decode cX5_give 100 = .ok (.if_icmp .lt 18, 3) := by decide +kernel
theorem dX5_give_103 : decode cX5_give 103 = .ok (.aload 6, 2) := by decide +kernel
theorem dX5_give_105 : decode cX5_give 105 = .ok (.iload_n 3, 1) := by decide +kernel
theorem dX5_give_106 : decode cX5_give 106 = .ok (.invokevirtual 83, 3) := by decide +kernel
theorem dX5_give_109 : decode cX5_give 109 = .ok (.iload 4, 2) := by decide +kernel
theorem dX5_give_111 : decode cX5_give 111 = .ok (.iadd, 1) := by decide +kernel
theorem dX5_give_112 : decode cX5_give 112 = .ok (.sipush 9999, 3) := by decide +kernel
theorem dX5_give_115 : decode cX5_give 115 = .ok (.if_icmp .le 13, 3) := by decide +kernel
theorem dX5_give_118 : decode cX5_give 118 = .ok (.new 89, 3) := by decide +kernel
theorem dX5_give_121 : decode cX5_give 121 = .ok (.dup, 1) := by decide +kernel
theorem dX5_give_122 : decode cX5_give 122 = .ok (.ldc 91, 2) := by decide +kernel
theorem dX5_give_124 : decode cX5_give 124 = .ok (.invokespecial 93, 3) := by decide +kernel
theorem dX5_give_127 : decode cX5_give 127 = .ok (.athrow, 1) := by decide +kernel
theorem dX5_give_128 : decode cX5_give 128 = .ok (.aload_n 0, 1) := by decide +kernel
theorem dX5_give_129 : decode cX5_give 129 = .ok (.invokevirtual 56, 3) := by decide +kernel
theorem dX5_give_132 : decode cX5_give 132 = .ok (.aload 5, 2) := by decide +kernel
theorem dX5_give_134 : decode cX5_give 134 = .ok (.iload_n 3, 1) := by decide +kernel
theorem dX5_give_135 : decode cX5_give 135 = .ok (.iload 4, 2) := by decide +kernel
theorem dX5_give_137 : decode cX5_give 137 = .ok (.ineg, 1) := by decide +kernel
theorem dX5_give_138 : decode cX5_give 138 = .ok (.invokevirtual 94, 3) := by decide +kernel
theorem dX5_give_141 : decode cX5_give 141 = .ok (.pop, 1) := by decide +kernel
theorem dX5_give_142 : decode cX5_give 142 = .ok (.aload 6, 2) := by decide +kernel
theorem dX5_give_144 : decode cX5_give 144 = .ok (.iload_n 3, 1) := by decide +kernel
theorem dX5_give_145 : decode cX5_give 145 = .ok (.iload 4, 2) := by decide +kernel
theorem dX5_give_147 : decode cX5_give 147 = .ok (.invokevirtual 94, 3) := by decide +kernel
theorem dX5_give_150 : decode cX5_give 150 = .ok (.ireturn, 1) := by decide +kernel
theorem dX5_order_0 : decode cX5_order 0 = .ok (.iload_n 1, 1) := by decide +kernel
theorem dX5_order_1 : decode cX5_order 1 = .ok (.iconst 0, 1) := by decide +kernel
theorem dX5_order_2 : decode cX5_order 2 = .ok (.iconst 3, 1) := by decide +kernel
theorem dX5_order_3 : decode cX5_order 3 = .ok (.invokestatic 37, 3) := by decide +kernel
theorem dX5_order_6 : decode cX5_order 6 = .ok (.ifCond .ne 13, 3) := by decide +kernel
theorem dX5_order_9 : decode cX5_order 9 = .ok (.new 41, 3) := by decide +kernel
theorem dX5_order_12 : decode cX5_order 12 = .ok (.dup, 1) := by decide +kernel
theorem dX5_order_13 : decode cX5_order 13 = .ok (.ldc 98, 2) := by decide +kernel
theorem dX5_order_15 : decode cX5_order 15 = .ok (.invokespecial 45, 3) := by decide +kernel
theorem dX5_order_18 : decode cX5_order 18 = .ok (.athrow, 1) := by decide +kernel
theorem dX5_order_19 : decode cX5_order 19 = .ok (.iload_n 2, 1) := by decide +kernel
theorem dX5_order_20 : decode cX5_order 20 = .ok (.bipush 40, 2) := by decide +kernel
theorem dX5_order_22 : decode cX5_order 22 = .ok (.sipush 200, 3) := by decide +kernel
theorem dX5_order_25 : decode cX5_order 25 = .ok (.invokestatic 37, 3) := by decide +kernel
theorem dX5_order_28 : decode cX5_order 28 = .ok (.ifCond .eq 37, 3) := by decide +kernel
theorem dX5_order_31 : decode cX5_order 31 = .ok (.iload_n 3, 1) := by decide +kernel
theorem dX5_order_32 : decode cX5_order 32 = .ok (.iconst 1, 1) := by decide +kernel
theorem dX5_order_33 : decode cX5_order 33 = .ok (.sipush 200, 3) := by decide +kernel
theorem dX5_order_36 : decode cX5_order 36 = .ok (.invokestatic 37, 3) := by decide +kernel
theorem dX5_order_39 : decode cX5_order 39 = .ok (.ifCond .eq 26, 3) := by decide +kernel
theorem dX5_order_42 : decode cX5_order 42 = .ok (.iload 4, 2) := by decide +kernel
theorem dX5_order_44 : decode cX5_order 44 = .ok (.iconst 1, 1) := by decide +kernel
theorem dX5_order_45 : decode cX5_order 45 = .ok (.bipush 99, 2) := by decide +kernel
theorem dX5_order_47 : decode cX5_order 47 = .ok (.invokestatic 37, 3) := by decide +kernel
theorem dX5_order_50 : decode cX5_order 50 = .ok (.ifCond .eq 15, 3) := by decide +kernel
theorem dX5_order_53 : decode cX5_order 53 = .ok (.iload 5, 2) := by decide +kernel
theorem dX5_order_55 : decode cX5_order 55 = .ok (.iconst 0, 1) := by decide +kernel
theorem dX5_order_56 : decode cX5_order 56 = .ok (.sipush 9999, 3) := by decide +kernel
theorem dX5_order_59 : decode cX5_order 59 = .ok (.invokestatic 37, 3) := by decide +kernel
theorem dX5_order_62 : decode cX5_order 62 = .ok (.ifCond .ne 13, 3) := by decide +kernel
theorem dX5_order_65 : decode cX5_order 65 = .ok (.new 51, 3) := by decide +kernel
theorem dX5_order_68 : decode cX5_order 68 = .ok (.dup, 1) := by decide +kernel
theorem dX5_order_69 : decode cX5_order 69 = .ok (.ldc 108, 2) := by decide +kernel
theorem dX5_order_71 : decode cX5_order 71 = .ok (.invokespecial 55, 3) := by decide +kernel
theorem dX5_order_74 : decode cX5_order 74 = .ok (.athrow, 1) := by decide +kernel
theorem dX5_order_75 : decode cX5_order 75 = .ok (.aload_n 0, 1) := by decide +kernel
theorem dX5_order_76 : decode cX5_order 76 = .ok (.getfield 10, 3) := by decide +kernel
theorem dX5_order_79 : decode cX5_order 79 = .ok (.getfield 110, 3) := by decide +kernel
theorem dX5_order_82 : decode cX5_order 82 = .ok (.bipush 10, 2) := by decide +kernel
theorem dX5_order_84 : decode cX5_order 84 = .ok (.if_icmp .lt 13, 3) := by decide +kernel
theorem dX5_order_87 : decode cX5_order 87 = .ok (.new 89, 3) := by decide +kernel
theorem dX5_order_90 : decode cX5_order 90 = .ok (.dup, 1) := by decide +kernel
theorem dX5_order_91 : decode cX5_order 91 = .ok (.ldc 113, 2) := by decide +kernel
theorem dX5_order_93 : decode cX5_order 93 = .ok (.invokespecial 93, 3) := by decide +kernel
theorem dX5_order_96 : decode cX5_order 96 = .ok (.athrow, 1) := by decide +kernel
theorem dX5_order_97 : decode cX5_order 97 = .ok (.aload_n 0, 1) := by decide +kernel
theorem dX5_order_98 : decode cX5_order 98 = .ok (.invokevirtual 56, 3) := by decide +kernel
theorem dX5_order_101 : decode cX5_order 101 = .ok (.aload_n 0, 1) := by decide +kernel
theorem dX5_order_102 : decode cX5_order 102 = .ok (.getfield 10, 3) := by decide +kernel
theorem dX5_order_105 : decode cX5_order 105 = .ok (.iload_n 1, 1) := by decide +kernel
theorem dX5_order_106 : decode cX5_order 106 = .ok (.iload_n 2, 1) := by decide +kernel
theorem dX5_order_107 : decode cX5_order 107 = .ok (.iload_n 3, 1) := by decide +kernel
theorem dX5_order_108 : decode cX5_order 108 = .ok (.iload 4, 2) := by decide +kernel
theorem dX5_order_110 : decode cX5_order 110 = .ok (.iload 5, 2) := by decide +kernel
theorem dX5_order_112 : decode cX5_order 112 = .ok (.invokevirtual 115, 3) := by decide +kernel
theorem dX5_order_115 : decode cX5_order 115 = .ok (.ireturn, 1) := by decide +kernel
theorem dX5_cancel_0 : decode cX5_cancel 0 = .ok (.aload_n 0, 1) := by decide +kernel
theorem dX5_cancel_1 : decode cX5_cancel 1 = .ok (.getfield 10, 3) := by decide +kernel
theorem dX5_cancel_4 : decode cX5_cancel 4 = .ok (.iload_n 1, 1) := by decide +kernel
theorem dX5_cancel_5 : decode cX5_cancel 5 = .ok (.invokevirtual 119, 3) := by decide +kernel
theorem dX5_cancel_8 : decode cX5_cancel 8 = .ok (.astore_n 2, 1) := by decide +kernel
theorem dX5_cancel_9 : decode cX5_cancel 9 = .ok (.aload_n 2, 1) := by decide +kernel
theorem dX5_cancel_10 : decode cX5_cancel 10 = .ok (.ifnonnull 13, 3) := by decide +kernel
theorem dX5_cancel_13 : decode cX5_cancel 13 = .ok (.new 41, 3) := by decide +kernel
theorem dX5_cancel_16 : decode cX5_cancel 16 = .ok (.dup, 1) := by decide +kernel
theorem dX5_cancel_17 : decode cX5_cancel 17 = .ok (.ldc 123, 2) := by decide +kernel
theorem dX5_cancel_19 : decode cX5_cancel 19 = .ok (.invokespecial 45, 3) := by decide +kernel
theorem dX5_cancel_22 : decode cX5_cancel 22 = .ok (.athrow, 1) := by decide +kernel
theorem dX5_cancel_23 : decode cX5_cancel 23 = .ok (.aload_n 0, 1) := by decide +kernel
theorem dX5_cancel_24 : decode cX5_cancel 24 = .ok (.invokevirtual 56, 3) := by decide +kernel
theorem dX5_cancel_27 : decode cX5_cancel 27 = .ok (.aload_n 2, 1) := by decide +kernel
theorem dX5_cancel_28 : decode cX5_cancel 28 = .ok (.getfield 125, 3) := by decide +kernel
theorem dX5_cancel_31 : decode cX5_cancel 31 = .ok (.istore_n 3, 1) := by decide +kernel
theorem dX5_cancel_32 : decode cX5_cancel 32 = .ok (.aload_n 0, 1) := by decide +kernel
theorem dX5_cancel_33 : decode cX5_cancel 33 = .ok (.getfield 10, 3) := by decide +kernel
theorem dX5_cancel_36 : decode cX5_cancel 36 = .ok (.aload_n 2, 1) := by decide +kernel
theorem dX5_cancel_37 : decode cX5_cancel 37 = .ok (.invokevirtual 130, 3) := by decide +kernel
theorem dX5_cancel_40 : decode cX5_cancel 40 = .ok (.iload_n 3, 1) := by decide +kernel
theorem dX5_cancel_41 : decode cX5_cancel 41 = .ok (.ireturn, 1) := by decide +kernel
theorem dX5_set_0 : decode cX5_set 0 = .ok (.iload_n 1, 1) := by decide +kernel
theorem dX5_set_1 : decode cX5_set 1 = .ok (.iconst 0, 1) := by decide +kernel
theorem dX5_set_2 : decode cX5_set 2 = .ok (.iconst 3, 1) := by decide +kernel
theorem dX5_set_3 : decode cX5_set 3 = .ok (.invokestatic 37, 3) := by decide +kernel
theorem dX5_set_6 : decode cX5_set 6 = .ok (.ifCond .ne 13, 3) := by decide +kernel
theorem dX5_set_9 : decode cX5_set 9 = .ok (.new 41, 3) := by decide +kernel
theorem dX5_set_12 : decode cX5_set 12 = .ok (.dup, 1) := by decide +kernel
theorem dX5_set_13 : decode cX5_set 13 = .ok (.ldc 134, 2) := by decide +kernel
theorem dX5_set_15 : decode cX5_set 15 = .ok (.invokespecial 45, 3) := by decide +kernel
theorem dX5_set_18 : decode cX5_set 18 = .ok (.athrow, 1) := by decide +kernel
theorem dX5_set_19 : decode cX5_set 19 = .ok (.iload_n 2, 1) := by decide +kernel
theorem dX5_set_20 : decode cX5_set 20 = .ok (.iconst 0, 1) := by decide +kernel
theorem dX5_set_21 : decode cX5_set 21 = .ok (.getstatic 136, 3) := by decide +kernel
theorem dX5_set_24 : decode cX5_set 24 = .ok (.iload_n 1, 1) := by decide +kernel
theorem dX5_set_25 : decode cX5_set 25 = .ok (.iaload, 1) := by decide +kernel
theorem dX5_set_26 : decode cX5_set 26 = .ok (.invokestatic 37, 3) := by decide +kernel
theorem dX5_set_29 : decode cX5_set 29 = .ok (.ifCond .ne 13, 3) := by decide +kernel
theorem dX5_set_32 : decode cX5_set 32 = .ok (.new 51, 3) := by decide +kernel
theorem dX5_set_35 : decode cX5_set 35 = .ok (.dup, 1) := by decide +kernel
theorem dX5_set_36 : decode cX5_set 36 = .ok (.ldc 139, 2) := by decide +kernel
theorem dX5_set_38 : decode cX5_set 38 = .ok (.invokespecial 55, 3) := by decide +kernel
theorem dX5_set_41 : decode cX5_set 41 = .ok (.athrow, 1) := by decide +kernel
theorem dX5_set_42 : decode cX5_set 42 = .ok (.aload_n 0, 1) := by decide +kernel
theorem dX5_set_43 : decode cX5_set 43 = .ok (.invokevirtual 56, 3) := by decide +kernel
theorem dX5_set_46 : decode cX5_set 46 = .ok (.aload_n 0, 1) := by decide +kernel
theorem dX5_set_47 : decode cX5_set 47 = .ok (.getfield 10, 3) := by decide +kernel
theorem dX5_set_50 : decode cX5_set 50 = .ok (.getfield 141, 3) := by decide +kernel
theorem dX5_set_53 : decode cX5_set 53 = .ok (.iload_n 1, 1) := by decide +kernel
theorem dX5_set_54 : decode cX5_set 54 = .ok (.iaload, 1) := by decide +kernel
theorem dX5_set_55 : decode cX5_set 55 = .ok (.istore_n 3, 1) := by decide +kernel
theorem dX5_set_56 : decode cX5_set 56 = .ok (.aload_n 0, 1) := by decide +kernel
theorem dX5_set_57 : decode cX5_set 57 = .ok (.getfield 10, 3) := by decide +kernel
theorem dX5_set_60 : decode cX5_set 60 = .ok (.getfield 141, 3) := by decide +kernel
theorem dX5_set_63 : decode cX5_set 63 = .ok (.iload_n 1, 1) := by decide +kernel
theorem dX5_set_64 : decode cX5_set 64 = .ok (.iload_n 2, 1) := by decide +kernel
theorem dX5_set_65 : decode cX5_set 65 = .ok (.iastore, 1) := by decide +kernel
theorem dX5_set_66 : decode cX5_set 66 = .ok (.iload_n 3, 1) := by decide +kernel
theorem dX5_set_67 : decode cX5_set 67 = .ok (.ireturn, 1) := by decide +kernel
theorem dX5_pass_0 : decode cX5_pass 0 = .ok (.iload_n 1, 1) := by decide +kernel
theorem dX5_pass_1 : decode cX5_pass 1 = .ok (.iconst 1, 1) := by decide +kernel
theorem dX5_pass_2 : decode cX5_pass 2 = .ok (.bipush 99, 2) := by decide +kernel
theorem dX5_pass_4 : decode cX5_pass 4 = .ok (.invokestatic 37, 3) := by decide +kernel
theorem dX5_pass_7 : decode cX5_pass 7 = .ok (.ifCond .ne 13, 3) := by decide +kernel
theorem dX5_pass_10 : decode cX5_pass 10 = .ok (.new 51, 3) := by decide +kernel
theorem dX5_pass_13 : decode cX5_pass 13 = .ok (.dup, 1) := by decide +kernel
theorem dX5_pass_14 : decode cX5_pass 14 = .ok (.ldc 144, 2) := by decide +kernel
theorem dX5_pass_16 : decode cX5_pass 16 = .ok (.invokespecial 55, 3) := by decide +kernel
theorem dX5_pass_19 : decode cX5_pass 19 = .ok (.athrow, 1) := by decide +kernel
theorem dX5_pass_20 : decode cX5_pass 20 = .ok (.aload_n 0, 1) := by decide +kernel
theorem dX5_pass_21 : decode cX5_pass 21 = .ok (.getfield 10, 3) := by decide +kernel
theorem dX5_pass_24 : decode cX5_pass 24 = .ok (.getfield 146, 3) := by decide +kernel
theorem dX5_pass_27 : decode cX5_pass 27 = .ok (.iload_n 1, 1) := by decide +kernel
theorem dX5_pass_28 : decode cX5_pass 28 = .ok (.iadd, 1) := by decide +kernel
theorem dX5_pass_29 : decode cX5_pass 29 = .ok (.sipush 9999, 3) := by decide +kernel
theorem dX5_pass_32 : decode cX5_pass 32 = .ok (.if_icmp .le 13, 3) := by decide +kernel
theorem dX5_pass_35 : decode cX5_pass 35 = .ok (.new 89, 3) := by decide +kernel
theorem dX5_pass_38 : decode cX5_pass 38 = .ok (.dup, 1) := by decide +kernel
theorem dX5_pass_39 : decode cX5_pass 39 = .ok (.ldc 149, 2) := by decide +kernel
theorem dX5_pass_41 : decode cX5_pass 41 = .ok (.invokespecial 93, 3) := by decide +kernel
theorem dX5_pass_44 : decode cX5_pass 44 = .ok (.athrow, 1) := by decide +kernel
theorem dX5_pass_45 : decode cX5_pass 45 = .ok (.aload_n 0, 1) := by decide +kernel
theorem dX5_pass_46 : decode cX5_pass 46 = .ok (.invokevirtual 56, 3) := by decide +kernel
theorem dX5_pass_49 : decode cX5_pass 49 = .ok (.aload_n 0, 1) := by decide +kernel
theorem dX5_pass_50 : decode cX5_pass 50 = .ok (.getfield 10, 3) := by decide +kernel
theorem dX5_pass_53 : decode cX5_pass 53 = .ok (.getfield 151, 3) := by decide +kernel
theorem dX5_pass_56 : decode cX5_pass 56 = .ok (.istore_n 2, 1) := by decide +kernel
theorem dX5_pass_57 : decode cX5_pass 57 = .ok (.iconst 0, 1) := by decide +kernel
theorem dX5_pass_58 : decode cX5_pass 58 = .ok (.istore_n 3, 1) := by decide +kernel
theorem dX5_pass_59 : decode cX5_pass 59 = .ok (.iload_n 3, 1) := by decide +kernel
theorem dX5_pass_60 : decode cX5_pass 60 = .ok (.iload_n 1, 1) := by decide +kernel
theorem dX5_pass_61 : decode cX5_pass 61 = .ok (.if_icmp .ge 17, 3) := by decide +kernel
theorem dX5_pass_64 : decode cX5_pass 64 = .ok (.aload_n 0, 1) := by decide +kernel
theorem dX5_pass_65 : decode cX5_pass 65 = .ok (.getfield 10, 3) := by decide +kernel
theorem dX5_pass_68 : decode cX5_pass 68 = .ok (.invokevirtual 154, 3) := by decide +kernel
theorem dX5_pass_71 : decode cX5_pass 71 = .ok (.pop, 1) := by decide +kernel
theorem dX5_pass_72 : decode cX5_pass 72 = .ok (.iinc 3 1, 3) := by decide +kernel
theorem dX5_pass_75 : decode cX5_pass 75 = .ok (.goto (-16), 3) := by decide +kernel
theorem dX5_pass_78 : decode cX5_pass 78 = .ok (.aload_n 0, 1) := by decide +kernel
theorem dX5_pass_79 : decode cX5_pass 79 = .ok (.getfield 10, 3) := by decide +kernel
theorem dX5_pass_82 : decode cX5_pass 82 = .ok (.getfield 151, 3) := by decide +kernel
theorem dX5_pass_85 : decode cX5_pass 85 = .ok (.iload_n 2, 1) := by decide +kernel
theorem dX5_pass_86 : decode cX5_pass 86 = .ok (.isub, 1) := by decide +kernel
theorem dX5_pass_87 : decode cX5_pass 87 = .ok (.ireturn, 1) := by decide +kernel
theorem dX5_append_0 : decode cX5_append 0 = .ok (.iload_n 1, 1) := by decide +kernel
theorem dX5_append_1 : decode cX5_append 1 = .ok (.bipush 33, 2) := by decide +kernel
theorem dX5_append_3 : decode cX5_append 3 = .ok (.bipush 126, 2) := by decide +kernel
theorem dX5_append_5 : decode cX5_append 5 = .ok (.invokestatic 37, 3) := by decide +kernel
theorem dX5_append_8 : decode cX5_append 8 = .ok (.ifCond .ne 13, 3) := by decide +kernel
theorem dX5_append_11 : decode cX5_append 11 = .ok (.new 51, 3) := by decide +kernel
theorem dX5_append_14 : decode cX5_append 14 = .ok (.dup, 1) := by decide +kernel
theorem dX5_append_15 : decode cX5_append 15 = .ok (.ldc 158, 2) := by decide +kernel
theorem dX5_append_17 : decode cX5_append 17 = .ok (.invokespecial 55, 3) := by decide +kernel
theorem dX5_append_20 : decode cX5_append 20 = .ok (.athrow, 1) := by decide +kernel
theorem dX5_append_21 : decode cX5_append 21 = .ok (.aload_n 0, 1) := by decide +kernel
theorem dX5_append_22 : decode cX5_append 22 = .ok (.getfield 160, 3) := by decide +kernel
theorem dX5_append_25 : decode cX5_append 25 = .ok (.iconst 0, 1) := by decide +kernel
theorem dX5_append_26 : decode cX5_append 26 = .ok (.aload_n 0, 1) := by decide +kernel
theorem dX5_append_27 : decode cX5_append 27 = .ok (.getfield 23, 3) := by decide +kernel
theorem dX5_append_30 : decode cX5_append 30 = .ok (.arraylength, 1) := by decide +kernel
theorem dX5_append_31 : decode cX5_append 31 = .ok (.iconst 1, 1) := by decide +kernel
theorem dX5_append_32 : decode cX5_append 32 = .ok (.isub, 1) := by decide +kernel
theorem dX5_append_33 : decode cX5_append 33 = .ok (.invokestatic 37, 3) := by decide +kernel
theorem dX5_append_36 : decode cX5_append 36 = .ok (.ifCond .ne 13, 3) := by decide +kernel
theorem dX5_append_39 : decode cX5_append 39 = .ok (.new 89, 3) := by decide +kernel
theorem dX5_append_42 : decode cX5_append 42 = .ok (.dup, 1) := by decide +kernel
theorem dX5_append_43 : decode cX5_append 43 = .ok (.ldc 163, 2) := by decide +kernel
theorem dX5_append_45 : decode cX5_append 45 = .ok (.invokespecial 93, 3) := by decide +kernel
theorem dX5_append_48 : decode cX5_append 48 = .ok (.athrow, 1) := by decide +kernel
theorem dX5_append_49 : decode cX5_append 49 = .ok (.aload_n 0, 1) := by decide +kernel
theorem dX5_append_50 : decode cX5_append 50 = .ok (.getfield 23, 3) := by decide +kernel
theorem dX5_append_53 : decode cX5_append 53 = .ok (.aload_n 0, 1) := by decide +kernel
theorem dX5_append_54 : decode cX5_append 54 = .ok (.getfield 160, 3) := by decide +kernel
theorem dX5_append_57 : decode cX5_append 57 = .ok (.iload_n 1, 1) := by decide +kernel
theorem dX5_append_58 : decode cX5_append 58 = .ok (.iastore, 1) := by decide +kernel
theorem dX5_append_59 : decode cX5_append 59 = .ok (.aload_n 0, 1) := by decide +kernel
theorem dX5_append_60 : decode cX5_append 60 = .ok (.dup, 1) := by decide +kernel
theorem dX5_append_61 : decode cX5_append 61 = .ok (.getfield 160, 3) := by decide +kernel
theorem dX5_append_64 : decode cX5_append 64 = .ok (.iconst 1, 1) := by decide +kernel
theorem dX5_append_65 : decode cX5_append 65 = .ok (.iadd, 1) := by decide +kernel
theorem dX5_append_66 : decode cX5_append 66 = .ok (.putfield 160, 3) := by decide +kernel
theorem dX5_append_69 : decode cX5_append 69 = .ok (.aload_n 0, 1) := by decide +kernel
theorem dX5_append_70 : decode cX5_append 70 = .ok (.getfield 160, 3) := by decide +kernel
theorem dX5_append_73 : decode cX5_append 73 = .ok (.ireturn, 1) := by decide +kernel
theorem dX5_clearBuffer_0 : decode cX5_clearBuffer 0 = .ok (.aload_n 0, 1) := by decide +kernel
theorem dX5_clearBuffer_1 : decode cX5_clearBuffer 1 = .ok (.getfield 160, 3) := by decide +kernel
theorem dX5_clearBuffer_4 : decode cX5_clearBuffer 4 = .ok (.istore_n 1, 1) := by decide +kernel
theorem dX5_clearBuffer_5 : decode cX5_clearBuffer 5 = .ok (.aload_n 0, 1) := by decide +kernel
theorem dX5_clearBuffer_6 : decode cX5_clearBuffer 6 = .ok (.iconst 0, 1) := by decide +kernel
theorem dX5_clearBuffer_7 : decode cX5_clearBuffer 7 = .ok (.putfield 160, 3) := by decide +kernel
theorem dX5_clearBuffer_10 : decode cX5_clearBuffer 10 = .ok (.iload_n 1, 1) := by decide +kernel
theorem dX5_clearBuffer_11 : decode cX5_clearBuffer 11 = .ok (.ireturn, 1) := by decide +kernel
theorem dX5_firstError_0 : decode cX5_firstError 0 = .ok (.aload_n 0, 1) := by decide +kernel
theorem dX5_firstError_1 : decode cX5_firstError 1 = .ok (.invokevirtual 165, 3) := by decide +kernel
theorem dX5_firstError_4 : decode cX5_firstError 4 = .ok (.ireturn, 1) := by decide +kernel
theorem dX5_takeAll_0 : decode cX5_takeAll 0 = .ok (.aload_n 0, 1) := by decide +kernel
theorem dX5_takeAll_1 : decode cX5_takeAll 1 = .ok (.invokevirtual 165, 3) := by decide +kernel
theorem dX5_takeAll_4 : decode cX5_takeAll 4 = .ok (.aload_n 0, 1) := by decide +kernel
theorem dX5_takeAll_5 : decode cX5_takeAll 5 = .ok (.getfield 160, 3) := by decide +kernel
theorem dX5_takeAll_8 : decode cX5_takeAll 8 = .ok (.if_icmp .lt 13, 3) := by decide +kernel
theorem dX5_takeAll_11 : decode cX5_takeAll 11 = .ok (.aload_n 0, 1) := by decide +kernel
theorem dX5_takeAll_12 : decode cX5_takeAll 12 = .ok (.getfield 30, 3) := by decide +kernel
theorem dX5_takeAll_15 : decode cX5_takeAll 15 = .ok (.invokevirtual 168, 3) := by decide +kernel
theorem dX5_takeAll_18 : decode cX5_takeAll 18 = .ok (.ifCond .ne 13, 3) := by decide +kernel
theorem dX5_takeAll_21 : decode cX5_takeAll 21 = .ok (.new 51, 3) := by decide +kernel
theorem dX5_takeAll_24 : decode cX5_takeAll 24 = .ok (.dup, 1) := by decide +kernel
theorem dX5_takeAll_25 : decode cX5_takeAll 25 = .ok (.ldc 172, 2) := by decide +kernel
theorem dX5_takeAll_27 : decode cX5_takeAll 27 = .ok (.invokespecial 55, 3) := by decide +kernel
theorem dX5_takeAll_30 : decode cX5_takeAll 30 = .ok (.athrow, 1) := by decide +kernel
theorem dX5_takeAll_31 : decode cX5_takeAll 31 = .ok (.aload_n 0, 1) := by decide +kernel
theorem dX5_takeAll_32 : decode cX5_takeAll 32 = .ok (.getfield 10, 3) := by decide +kernel
theorem dX5_takeAll_35 : decode cX5_takeAll 35 = .ok (.getfield 110, 3) := by decide +kernel
theorem dX5_takeAll_38 : decode cX5_takeAll 38 = .ok (.aload_n 0, 1) := by decide +kernel
theorem dX5_takeAll_39 : decode cX5_takeAll 39 = .ok (.getfield 30, 3) := by decide +kernel
theorem dX5_takeAll_42 : decode cX5_takeAll 42 = .ok (.getfield 174, 3) := by decide +kernel
theorem dX5_takeAll_45 : decode cX5_takeAll 45 = .ok (.iadd, 1) := by decide +kernel
theorem dX5_takeAll_46 : decode cX5_takeAll 46 = .ok (.bipush 10, 2) := by decide +kernel
theorem dX5_takeAll_48 : decode cX5_takeAll 48 = .ok (.if_icmp .le 13, 3) := by decide +kernel
theorem dX5_takeAll_51 : decode cX5_takeAll 51 = .ok (.new 89, 3) := by decide +kernel
theorem dX5_takeAll_54 : decode cX5_takeAll 54 = .ok (.dup, 1) := by decide +kernel
theorem dX5_takeAll_55 : decode cX5_takeAll 55 = .ok (.ldc 113, 2) := by decide +kernel
theorem dX5_takeAll_57 : decode cX5_takeAll 57 = .ok (.invokespecial 93, 3) := by decide +kernel
theorem dX5_takeAll_60 : decode cX5_takeAll 60 = .ok (.athrow, 1) := by decide +kernel
theorem dX5_takeAll_61 : decode cX5_takeAll 61 = .ok (.aload_n 0, 1) := by decide +kernel
theorem dX5_takeAll_62 : decode cX5_takeAll 62 = .ok (.invokevirtual 56, 3) := by decide +kernel
theorem dX5_takeAll_65 : decode cX5_takeAll 65 = .ok (.aload_n 0, 1) := by decide +kernel
theorem dX5_takeAll_66 : decode cX5_takeAll 66 = .ok (.invokevirtual 177, 3) := by decide +kernel
theorem dX5_takeAll_69 : decode cX5_takeAll 69 = .ok (.aload_n 0, 1) := by decide +kernel
theorem dX5_takeAll_70 : decode cX5_takeAll 70 = .ok (.iconst 0, 1) := by decide +kernel
theorem dX5_takeAll_71 : decode cX5_takeAll 71 = .ok (.putfield 160, 3) := by decide +kernel
theorem dX5_takeAll_74 : decode cX5_takeAll 74 = .ok (.aload_n 0, 1) := by decide +kernel
theorem dX5_takeAll_75 : decode cX5_takeAll 75 = .ok (.getfield 10, 3) := by decide +kernel
theorem dX5_takeAll_78 : decode cX5_takeAll 78 = .ok (.getfield 110, 3) := by decide +kernel
theorem dX5_takeAll_81 : decode cX5_takeAll 81 = .ok (.ireturn, 1) := by decide +kernel
theorem dX5_undo_0 : decode cX5_undo 0 = .ok (.aload_n 0, 1) := by decide +kernel
theorem dX5_undo_1 : decode cX5_undo 1 = .ok (.getfield 180, 3) := by decide +kernel
theorem dX5_undo_4 : decode cX5_undo 4 = .ok (.iconst 1, 1) := by decide +kernel
theorem dX5_undo_5 : decode cX5_undo 5 = .ok (.aload_n 0, 1) := by decide +kernel
theorem dX5_undo_6 : decode cX5_undo 6 = .ok (.getfield 19, 3) := by decide +kernel
theorem dX5_undo_9 : decode cX5_undo 9 = .ok (.arraylength, 1) := by decide +kernel
theorem dX5_undo_10 : decode cX5_undo 10 = .ok (.invokestatic 37, 3) := by decide +kernel
theorem dX5_undo_13 : decode cX5_undo 13 = .ok (.ifCond .ne 13, 3) := by decide +kernel
theorem dX5_undo_16 : decode cX5_undo 16 = .ok (.new 89, 3) := by decide +kernel
theorem dX5_undo_19 : decode cX5_undo 19 = .ok (.dup, 1) := by decide +kernel
theorem dX5_undo_20 : decode cX5_undo 20 = .ok (.ldc 183, 2) := by decide +kernel
theorem dX5_undo_22 : decode cX5_undo 22 = .ok (.invokespecial 93, 3) := by decide +kernel
theorem dX5_undo_25 : decode cX5_undo 25 = .ok (.athrow, 1) := by decide +kernel
theorem dX5_undo_26 : decode cX5_undo 26 = .ok (.aload_n 0, 1) := by decide +kernel
theorem dX5_undo_27 : decode cX5_undo 27 = .ok (.dup, 1) := by decide +kernel
theorem dX5_undo_28 : decode cX5_undo 28 = .ok (.getfield 180, 3) := by decide +kernel
theorem dX5_undo_31 : decode cX5_undo 31 = .ok (.iconst 1, 1) := by decide +kernel
theorem dX5_undo_32 : decode cX5_undo 32 = .ok (.isub, 1) := by decide +kernel
theorem dX5_undo_33 : decode cX5_undo 33 = .ok (.putfield 180, 3) := by decide +kernel
theorem dX5_undo_36 : decode cX5_undo 36 = .ok (.aload_n 0, 1) := by decide +kernel
theorem dX5_undo_37 : decode cX5_undo 37 = .ok (.getfield 10, 3) := by decide +kernel
theorem dX5_undo_40 : decode cX5_undo 40 = .ok (.aload_n 0, 1) := by decide +kernel
theorem dX5_undo_41 : decode cX5_undo 41 = .ok (.getfield 19, 3) := by decide +kernel
theorem dX5_undo_44 : decode cX5_undo 44 = .ok (.aload_n 0, 1) := by decide +kernel
theorem dX5_undo_45 : decode cX5_undo 45 = .ok (.getfield 180, 3) := by decide +kernel
theorem dX5_undo_48 : decode cX5_undo 48 = .ok (.aaload, 1) := by decide +kernel
theorem dX5_undo_49 : decode cX5_undo 49 = .ok (.invokevirtual 185, 3) := by decide +kernel
theorem dX5_undo_52 : decode cX5_undo 52 = .ok (.aload_n 0, 1) := by decide +kernel
theorem dX5_undo_53 : decode cX5_undo 53 = .ok (.getfield 180, 3) := by decide +kernel
theorem dX5_undo_56 : decode cX5_undo 56 = .ok (.ireturn, 1) := by decide +kernel
theorem dX5_weaver_0 : decode cX5_weaver 0 = .ok (.iload_n 1, 1) := by decide +kernel
theorem dX5_weaver_1 : decode cX5_weaver 1 = .ok (.iconst 0, 1) := by decide +kernel
theorem dX5_weaver_2 : decode cX5_weaver 2 = .ok (.iconst 5, 1) := by decide +kernel
theorem dX5_weaver_3 : decode cX5_weaver 3 = .ok (.invokestatic 37, 3) := by decide +kernel
theorem dX5_weaver_6 : decode cX5_weaver 6 = .ok (.ifCond .ne 13, 3) := by decide +kernel
theorem dX5_weaver_9 : decode cX5_weaver 9 = .ok (.new 41, 3) := by decide +kernel
theorem dX5_weaver_12 : decode cX5_weaver 12 = .ok (.dup, 1) := by decide +kernel
theorem dX5_weaver_13 : decode cX5_weaver 13 = .ok (.ldc 43, 2) := by decide +kernel
theorem dX5_weaver_15 : decode cX5_weaver 15 = .ok (.invokespecial 45, 3) := by decide +kernel
theorem dX5_weaver_18 : decode cX5_weaver 18 = .ok (.athrow, 1) := by decide +kernel
theorem dX5_weaver_19 : decode cX5_weaver 19 = .ok (.iload_n 2, 1) := by decide +kernel
theorem dX5_weaver_20 : decode cX5_weaver 20 = .ok (.iconst 0, 1) := by decide +kernel
theorem dX5_weaver_21 : decode cX5_weaver 21 = .ok (.bipush 7, 2) := by decide +kernel
theorem dX5_weaver_23 : decode cX5_weaver 23 = .ok (.invokestatic 37, 3) := by decide +kernel
theorem dX5_weaver_26 : decode cX5_weaver 26 = .ok (.ifCond .ne 13, 3) := by decide +kernel
theorem dX5_weaver_29 : decode cX5_weaver 29 = .ok (.new 51, 3) := by decide +kernel
theorem dX5_weaver_32 : decode cX5_weaver 32 = .ok (.dup, 1) := by decide +kernel
theorem dX5_weaver_33 : decode cX5_weaver 33 = .ok (.ldc 189, 2) := by decide +kernel
theorem dX5_weaver_35 : decode cX5_weaver 35 = .ok (.invokespecial 55, 3) := by decide +kernel
theorem dX5_weaver_38 : decode cX5_weaver 38 = .ok (.athrow, 1) := by decide +kernel
theorem dX5_weaver_39 : decode cX5_weaver 39 = .ok (.aload_n 0, 1) := by decide +kernel
theorem dX5_weaver_40 : decode cX5_weaver 40 = .ok (.getfield 10, 3) := by decide +kernel
theorem dX5_weaver_43 : decode cX5_weaver 43 = .ok (.getfield 59, 3) := by decide +kernel
theorem dX5_weaver_46 : decode cX5_weaver 46 = .ok (.iload_n 1, 1) := by decide +kernel
theorem dX5_weaver_47 : decode cX5_weaver 47 = .ok (.aaload, 1) := by decide +kernel
theorem dX5_weaver_48 : decode cX5_weaver 48 = .ok (.iload_n 2, 1) := by decide +kernel
theorem dX5_weaver_49 : decode cX5_weaver 49 = .ok (.invokevirtual 191, 3) := by decide +kernel
theorem dX5_weaver_52 : decode cX5_weaver 52 = .ok (.ireturn, 1) := by decide +kernel
theorem dX5_share_0 : decode cX5_share 0 = .ok (.iload_n 1, 1) := by decide +kernel
theorem dX5_share_1 : decode cX5_share 1 = .ok (.iconst (-1), 1) := by decide +kernel
theorem dX5_share_2 : decode cX5_share 2 = .ok (.iconst 5, 1) := by decide +kernel
theorem dX5_share_3 : decode cX5_share 3 = .ok (.invokestatic 37, 3) := by decide +kernel
theorem dX5_share_6 : decode cX5_share 6 = .ok (.ifCond .eq 12, 3) := by decide +kernel
theorem dX5_share_9 : decode cX5_share 9 = .ok (.iload_n 2, 1) := by decide +kernel
theorem dX5_share_10 : decode cX5_share 10 = .ok (.iconst 0, 1) := by decide +kernel
theorem dX5_share_11 : decode cX5_share 11 = .ok (.iconst 3, 1) := by decide +kernel
theorem dX5_share_12 : decode cX5_share 12 = .ok (.invokestatic 37, 3) := by decide +kernel
theorem dX5_share_15 : decode cX5_share 15 = .ok (.ifCond .ne 13, 3) := by decide +kernel
theorem dX5_share_18 : decode cX5_share 18 = .ok (.new 41, 3) := by decide +kernel
theorem dX5_share_21 : decode cX5_share 21 = .ok (.dup, 1) := by decide +kernel
theorem dX5_share_22 : decode cX5_share 22 = .ok (.ldc 75, 2) := by decide +kernel
theorem dX5_share_24 : decode cX5_share 24 = .ok (.invokespecial 45, 3) := by decide +kernel
theorem dX5_share_27 : decode cX5_share 27 = .ok (.athrow, 1) := by decide +kernel
theorem dX5_share_28 : decode cX5_share 28 = .ok (.iload_n 1, 1) := by decide +kernel
theorem dX5_share_29 : decode cX5_share 29 = .ok (.iconst (-1), 1) := by decide +kernel
theorem dX5_share_30 : decode cX5_share 30 = .ok (.if_icmp .ne 17, 3) := by decide +kernel
theorem dX5_share_33 : decode cX5_share 33 = .ok (.aload_n 0, 1) := by decide +kernel
theorem dX5_share_34 : decode cX5_share 34 = .ok (.getfield 10, 3) := by decide +kernel
theorem dX5_share_37 : decode cX5_share 37 = .ok (.getfield 100, 3) := by decide +kernel
theorem dX5_share_40 : decode cX5_share 40 = .ok (.iload_n 2, 1) := by decide +kernel
theorem dX5_share_41 : decode cX5_share 41 = .ok (.invokevirtual 83, 3) := by decide +kernel
theorem dX5_share_44 : decode cX5_share 44 = .ok (.goto 19, 3) := by decide +kernel
theorem dX5_share_47 : decode cX5_share 47 = .ok (.aload_n 0, 1) := by decide +kernel
theorem dX5_share_48 : decode cX5_share 48 = .ok (.getfield 10, 3) := by decide +kernel
theorem dX5_share_51 : decode cX5_share 51 = .ok (.getfield 59, 3) := by decide +kernel
theorem dX5_share_54 : decode cX5_share 54 = .ok (.iload_n 1, 1) := by decide +kernel
theorem dX5_share_55 : decode cX5_share 55 = .ok (.aaload, 1) := by decide +kernel
theorem dX5_share_56 : decode cX5_share 56 = .ok (.getfield 79, 3) := by decide +kernel
theorem dX5_share_59 : decode cX5_share 59 = .ok (.iload_n 2, 1) := by decide +kernel
theorem dX5_share_60 : decode cX5_share 60 = .ok (.invokevirtual 83, 3) := by decide +kernel
theorem dX5_share_63 : decode cX5_share 63 = .ok (.ireturn, 1) := by decide +kernel
theorem dX5_orderOf_0 : decode cX5_orderOf 0 = .ok (.iload_n 1, 1) := by decide +kernel
theorem dX5_orderOf_1 : decode cX5_orderOf 1 = .ok (.ifCond .lt 13, 3) := by decide +kernel
theorem dX5_orderOf_4 : decode cX5_orderOf 4 = .ok (.iload_n 2, 1) := by decide +kernel
theorem dX5_orderOf_5 : decode cX5_orderOf 5 = .ok (.iconst 0, 1) := by decide +kernel
theorem dX5_orderOf_6 : decode cX5_orderOf 6 = .ok (.bipush 8, 2) := by decide +kernel
theorem dX5_orderOf_8 : decode cX5_orderOf 8 = .ok (.invokestatic 37, 3) := by decide +kernel
theorem dX5_orderOf_11 : decode cX5_orderOf 11 = .ok (.ifCond .ne 13, 3) := by decide +kernel
theorem dX5_orderOf_14 : decode cX5_orderOf 14 = .ok (.new 51, 3) := by decide +kernel
theorem dX5_orderOf_17 : decode cX5_orderOf 17 = .ok (.dup, 1) := by decide +kernel
theorem dX5_orderOf_18 : decode cX5_orderOf 18 = .ok (.ldc 194, 2) := by decide +kernel
theorem dX5_orderOf_20 : decode cX5_orderOf 20 = .ok (.invokespecial 55, 3) := by decide +kernel
theorem dX5_orderOf_23 : decode cX5_orderOf 23 = .ok (.athrow, 1) := by decide +kernel
theorem dX5_orderOf_24 : decode cX5_orderOf 24 = .ok (.aload_n 0, 1) := by decide +kernel
theorem dX5_orderOf_25 : decode cX5_orderOf 25 = .ok (.getfield 10, 3) := by decide +kernel
theorem dX5_orderOf_28 : decode cX5_orderOf 28 = .ok (.iload_n 1, 1) := by decide +kernel
theorem dX5_orderOf_29 : decode cX5_orderOf 29 = .ok (.iload_n 2, 1) := by decide +kernel
theorem dX5_orderOf_30 : decode cX5_orderOf 30 = .ok (.invokevirtual 196, 3) := by decide +kernel
theorem dX5_orderOf_33 : decode cX5_orderOf 33 = .ok (.ireturn, 1) := by decide +kernel
theorem dX5_wovenBy_0 : decode cX5_wovenBy 0 = .ok (.iload_n 1, 1) := by decide +kernel
theorem dX5_wovenBy_1 : decode cX5_wovenBy 1 = .ok (.ifCond .ge 13, 3) := by decide +kernel
theorem dX5_wovenBy_4 : decode cX5_wovenBy 4 = .ok (.new 51, 3) := by decide +kernel
theorem dX5_wovenBy_7 : decode cX5_wovenBy 7 = .ok (.dup, 1) := by decide +kernel
theorem dX5_wovenBy_8 : decode cX5_wovenBy 8 = .ok (.ldc 199, 2) := by decide +kernel
theorem dX5_wovenBy_10 : decode cX5_wovenBy 10 = .ok (.invokespecial 55, 3) := by decide +kernel
theorem dX5_wovenBy_13 : decode cX5_wovenBy 13 = .ok (.athrow, 1) := by decide +kernel
theorem dX5_wovenBy_14 : decode cX5_wovenBy 14 = .ok (.iload_n 2, 1) := by decide +kernel
theorem dX5_wovenBy_15 : decode cX5_wovenBy 15 = .ok (.iconst 0, 1) := by decide +kernel
theorem dX5_wovenBy_16 : decode cX5_wovenBy 16 = .ok (.iconst 5, 1) := by decide +kernel
theorem dX5_wovenBy_17 : decode cX5_wovenBy 17 = .ok (.invokestatic 37, 3) := by decide +kernel
theorem dX5_wovenBy_20 : decode cX5_wovenBy 20 = .ok (.ifCond .ne 13, 3) := by decide +kernel
theorem dX5_wovenBy_23 : decode cX5_wovenBy 23 = .ok (.new 41, 3) := by decide +kernel
theorem dX5_wovenBy_26 : decode cX5_wovenBy 26 = .ok (.dup, 1) := by decide +kernel
theorem dX5_wovenBy_27 : decode cX5_wovenBy 27 = .ok (.ldc 43, 2) := by decide +kernel
theorem dX5_wovenBy_29 : decode cX5_wovenBy 29 = .ok (.invokespecial 45, 3) := by decide +kernel
theorem dX5_wovenBy_32 : decode cX5_wovenBy 32 = .ok (.athrow, 1) := by decide +kernel
theorem dX5_wovenBy_33 : decode cX5_wovenBy 33 = .ok (.aload_n 0, 1) := by decide +kernel
theorem dX5_wovenBy_34 : decode cX5_wovenBy 34 = .ok (.getfield 10, 3) := by decide +kernel
theorem dX5_wovenBy_37 : decode cX5_wovenBy 37 = .ok (.iload_n 1, 1) := by decide +kernel
theorem dX5_wovenBy_38 : decode cX5_wovenBy 38 = .ok (.invokevirtual 201, 3) := by decide +kernel
theorem dX5_wovenBy_41 : decode cX5_wovenBy 41 = .ok (.astore_n 3, 1) := by decide +kernel
theorem dX5_wovenBy_42 : decode cX5_wovenBy 42 = .ok (.aload_n 3, 1) := by decide +kernel
theorem dX5_wovenBy_43 : decode cX5_wovenBy 43 = .ok (.ifnonnull 7, 3) := by decide +kernel
theorem dX5_wovenBy_46 : decode cX5_wovenBy 46 = .ok (.iconst (-1), 1) := by decide +kernel
theorem dX5_wovenBy_47 : decode cX5_wovenBy 47 = .ok (.goto 9, 3) := by decide +kernel
theorem dX5_wovenBy_50 : decode cX5_wovenBy 50 = .ok (.aload_n 3, 1) := by decide +kernel
theorem dX5_wovenBy_51 : decode cX5_wovenBy 51 = .ok (.getfield 204, 3) := by decide +kernel
theorem dX5_wovenBy_54 : decode cX5_wovenBy 54 = .ok (.iload_n 2, 1) := by decide +kernel
theorem dX5_wovenBy_55 : decode cX5_wovenBy 55 = .ok (.iaload, 1) := by decide +kernel
theorem dX5_wovenBy_56 : decode cX5_wovenBy 56 = .ok (.ireturn, 1) := by decide +kernel
theorem dX5_next_0 : decode cX5_next 0 = .ok (.iload_n 1, 1) := by decide +kernel
theorem dX5_next_1 : decode cX5_next 1 = .ok (.iconst 0, 1) := by decide +kernel
theorem dX5_next_2 : decode cX5_next 2 = .ok (.iconst 5, 1) := by decide +kernel
theorem dX5_next_3 : decode cX5_next 3 = .ok (.invokestatic 37, 3) := by decide +kernel
theorem dX5_next_6 : decode cX5_next 6 = .ok (.ifCond .ne 13, 3) := by decide +kernel
theorem dX5_next_9 : decode cX5_next 9 = .ok (.new 41, 3) := by decide +kernel
theorem dX5_next_12 : decode cX5_next 12 = .ok (.dup, 1) := by decide +kernel
theorem dX5_next_13 : decode cX5_next 13 = .ok (.ldc 43, 2) := by decide +kernel
theorem dX5_next_15 : decode cX5_next 15 = .ok (.invokespecial 45, 3) := by decide +kernel
theorem dX5_next_18 : decode cX5_next 18 = .ok (.athrow, 1) := by decide +kernel
theorem dX5_next_19 : decode cX5_next 19 = .ok (.iload_n 2, 1) := by decide +kernel
theorem dX5_next_20 : decode cX5_next 20 = .ok (.iconst 0, 1) := by decide +kernel
theorem dX5_next_21 : decode cX5_next 21 = .ok (.iconst 1, 1) := by decide +kernel
theorem dX5_next_22 : decode cX5_next 22 = .ok (.invokestatic 37, 3) := by decide +kernel
theorem dX5_next_25 : decode cX5_next 25 = .ok (.ifCond .ne 13, 3) := by decide +kernel
theorem dX5_next_28 : decode cX5_next 28 = .ok (.new 51, 3) := by decide +kernel
theorem dX5_next_31 : decode cX5_next 31 = .ok (.dup, 1) := by decide +kernel
theorem dX5_next_32 : decode cX5_next 32 = .ok (.ldc 207, 2) := by decide +kernel
theorem dX5_next_34 : decode cX5_next 34 = .ok (.invokespecial 55, 3) := by decide +kernel
theorem dX5_next_37 : decode cX5_next 37 = .ok (.athrow, 1) := by decide +kernel
theorem dX5_next_38 : decode cX5_next 38 = .ok (.aload_n 0, 1) := by decide +kernel
theorem dX5_next_39 : decode cX5_next 39 = .ok (.getfield 10, 3) := by decide +kernel
theorem dX5_next_42 : decode cX5_next 42 = .ok (.getfield 59, 3) := by decide +kernel
theorem dX5_next_45 : decode cX5_next 45 = .ok (.iload_n 1, 1) := by decide +kernel
theorem dX5_next_46 : decode cX5_next 46 = .ok (.aaload, 1) := by decide +kernel
theorem dX5_next_47 : decode cX5_next 47 = .ok (.astore_n 3, 1) := by decide +kernel
theorem dX5_next_48 : decode cX5_next 48 = .ok (.iload_n 2, 1) := by decide +kernel
theorem dX5_next_49 : decode cX5_next 49 = .ok (.ifCond .ne 14, 3) := by decide +kernel
theorem dX5_next_52 : decode cX5_next 52 = .ok (.aload_n 0, 1) := by decide +kernel
theorem dX5_next_53 : decode cX5_next 53 = .ok (.getfield 10, 3) := by decide +kernel
theorem dX5_next_56 : decode cX5_next 56 = .ok (.aload_n 3, 1) := by decide +kernel
theorem dX5_next_57 : decode cX5_next 57 = .ok (.invokevirtual 209, 3) := by decide +kernel
theorem dX5_next_60 : decode cX5_next 60 = .ok (.goto 11, 3) := by decide +kernel
theorem dX5_next_63 : decode cX5_next 63 = .ok (.aload_n 0, 1) := by decide +kernel
theorem dX5_next_64 : decode cX5_next 64 = .ok (.getfield 10, 3) := by decide +kernel
theorem dX5_next_67 : decode cX5_next 67 = .ok (.aload_n 3, 1) := by decide +kernel
theorem dX5_next_68 : decode cX5_next 68 = .ok (.invokevirtual 213, 3) := by decide +kernel
theorem dX5_next_71 : decode cX5_next 71 = .ok (.ireturn, 1) := by decide +kernel
theorem dX5_count_0 : decode cX5_count 0 = .ok (.iload_n 1, 1) := by decide +kernel
theorem dX5_count_1 : decode cX5_count 1 = .ok (.iconst 0, 1) := by decide +kernel
theorem dX5_count_2 : decode cX5_count 2 = .ok (.bipush 11, 2) := by decide +kernel
theorem dX5_count_4 : decode cX5_count 4 = .ok (.invokestatic 37, 3) := by decide +kernel
theorem dX5_count_7 : decode cX5_count 7 = .ok (.ifCond .ne 13, 3) := by decide +kernel
theorem dX5_count_10 : decode cX5_count 10 = .ok (.new 51, 3) := by decide +kernel
theorem dX5_count_13 : decode cX5_count 13 = .ok (.dup, 1) := by decide +kernel
theorem dX5_count_14 : decode cX5_count 14 = .ok (.ldc 216, 2) := by decide +kernel
theorem dX5_count_16 : decode cX5_count 16 = .ok (.invokespecial 55, 3) := by decide +kernel
theorem dX5_count_19 : decode cX5_count 19 = .ok (.athrow, 1) := by decide +kernel
theorem dX5_count_20 : decode cX5_count 20 = .ok (.aload_n 0, 1) := by decide +kernel
theorem dX5_count_21 : decode cX5_count 21 = .ok (.iload_n 1, 1) := by decide +kernel
theorem dX5_count_22 : decode cX5_count 22 = .ok (.invokevirtual 218, 3) := by decide +kernel
theorem dX5_count_25 : decode cX5_count 25 = .ok (.ireturn, 1) := by decide +kernel
theorem dX5_setting_0 : decode cX5_setting 0 = .ok (.iload_n 1, 1) := by decide +kernel
theorem dX5_setting_1 : decode cX5_setting 1 = .ok (.iconst 0, 1) := by decide +kernel
theorem dX5_setting_2 : decode cX5_setting 2 = .ok (.iconst 3, 1) := by decide +kernel
theorem dX5_setting_3 : decode cX5_setting 3 = .ok (.invokestatic 37, 3) := by decide +kernel
theorem dX5_setting_6 : decode cX5_setting 6 = .ok (.ifCond .ne 13, 3) := by decide +kernel
theorem dX5_setting_9 : decode cX5_setting 9 = .ok (.new 41, 3) := by decide +kernel
theorem dX5_setting_12 : decode cX5_setting 12 = .ok (.dup, 1) := by decide +kernel
theorem dX5_setting_13 : decode cX5_setting 13 = .ok (.ldc 134, 2) := by decide +kernel
theorem dX5_setting_15 : decode cX5_setting 15 = .ok (.invokespecial 45, 3) := by decide +kernel
theorem dX5_setting_18 : decode cX5_setting 18 = .ok (.athrow, 1) := by decide +kernel
theorem dX5_setting_19 : decode cX5_setting 19 = .ok (.aload_n 0, 1) := by decide +kernel
theorem dX5_setting_20 : decode cX5_setting 20 = .ok (.getfield 10, 3) := by decide +kernel
theorem dX5_setting_23 : decode cX5_setting 23 = .ok (.getfield 141, 3) := by decide +kernel
theorem dX5_setting_26 : decode cX5_setting 26 = .ok (.iload_n 1, 1) := by decide +kernel
theorem dX5_setting_27 : decode cX5_setting 27 = .ok (.iaload, 1) := by decide +kernel
theorem dX5_setting_28 : decode cX5_setting 28 = .ok (.ireturn, 1) := by decide +kernel
theorem dX5_ifPassed_0 : decode cX5_ifPassed 0 = .ok (.iload_n 1, 1) := by decide +kernel
theorem dX5_ifPassed_1 : decode cX5_ifPassed 1 = .ok (.iconst 1, 1) := by decide +kernel
theorem dX5_ifPassed_2 : decode cX5_ifPassed 2 = .ok (.sipush 200, 3) := by decide +kernel
theorem dX5_ifPassed_5 : decode cX5_ifPassed 5 = .ok (.invokestatic 37, 3) := by decide +kernel
theorem dX5_ifPassed_8 : decode cX5_ifPassed 8 = .ok (.ifCond .eq 12, 3) := by decide +kernel
theorem dX5_ifPassed_11 : decode cX5_ifPassed 11 = .ok (.iload_n 2, 1) := by decide +kernel
theorem dX5_ifPassed_12 : decode cX5_ifPassed 12 = .ok (.iconst 0, 1) := by decide +kernel
theorem dX5_ifPassed_13 : decode cX5_ifPassed 13 = .ok (.iconst 4, 1) := by decide +kernel
theorem dX5_ifPassed_14 : decode cX5_ifPassed 14 = .ok (.invokestatic 37, 3) := by decide +kernel
theorem dX5_ifPassed_17 : decode cX5_ifPassed 17 = .ok (.ifCond .ne 13, 3) := by decide +kernel
theorem dX5_ifPassed_20 : decode cX5_ifPassed 20 = .ok (.new 51, 3) := by decide +kernel
theorem dX5_ifPassed_23 : decode cX5_ifPassed 23 = .ok (.dup, 1) := by decide +kernel
theorem dX5_ifPassed_24 : decode cX5_ifPassed 24 = .ok (.ldc 221, 2) := by decide +kernel
theorem dX5_ifPassed_26 : decode cX5_ifPassed 26 = .ok (.invokespecial 55, 3) := by decide +kernel
theorem dX5_ifPassed_29 : decode cX5_ifPassed 29 = .ok (.athrow, 1) := by decide +kernel
theorem dX5_ifPassed_30 : decode cX5_ifPassed 30 = .ok (.aload_n 0, 1) := by decide +kernel
theorem dX5_ifPassed_31 : decode cX5_ifPassed 31 = .ok (.iload_n 1, 1) := by decide +kernel
theorem dX5_ifPassed_32 : decode cX5_ifPassed 32 = .ok (.iload_n 2, 1) := by decide +kernel
theorem dX5_ifPassed_33 : decode cX5_ifPassed 33 = .ok (.invokevirtual 223, 3) := by decide +kernel
theorem dX5_ifPassed_36 : decode cX5_ifPassed 36 = .ok (.ireturn, 1) := by decide +kernel
theorem dX5_doneIn_0 : decode cX5_doneIn 0 = .ok (.aload_n 0, 1) := by decide +kernel
theorem dX5_doneIn_1 : decode cX5_doneIn 1 = .ok (.getfield 10, 3) := by decide +kernel
theorem dX5_doneIn_4 : decode cX5_doneIn 4 = .ok (.iload_n 1, 1) := by decide +kernel
theorem dX5_doneIn_5 : decode cX5_doneIn 5 = .ok (.invokevirtual 226, 3) := by decide +kernel
theorem dX5_doneIn_8 : decode cX5_doneIn 8 = .ok (.istore_n 2, 1) := by decide +kernel
theorem dX5_doneIn_9 : decode cX5_doneIn 9 = .ok (.iload_n 2, 1) := by decide +kernel
theorem dX5_doneIn_10 : decode cX5_doneIn 10 = .ok (.iconst 0, 1) := by decide +kernel
theorem dX5_doneIn_11 : decode cX5_doneIn 11 = .ok (.bipush 9, 2) := by decide +kernel
theorem dX5_doneIn_13 : decode cX5_doneIn 13 = .ok (.invokestatic 37, 3) := by decide +kernel
theorem dX5_doneIn_16 : decode cX5_doneIn 16 = .ok (.ifCond .ne 13, 3) := by decide +kernel
theorem dX5_doneIn_19 : decode cX5_doneIn 19 = .ok (.new 41, 3) := by decide +kernel
theorem dX5_doneIn_22 : decode cX5_doneIn 22 = .ok (.dup, 1) := by decide +kernel
theorem dX5_doneIn_23 : decode cX5_doneIn 23 = .ok (.ldc 123, 2) := by decide +kernel
theorem dX5_doneIn_25 : decode cX5_doneIn 25 = .ok (.invokespecial 45, 3) := by decide +kernel
theorem dX5_doneIn_28 : decode cX5_doneIn 28 = .ok (.athrow, 1) := by decide +kernel
theorem dX5_doneIn_29 : decode cX5_doneIn 29 = .ok (.aload_n 0, 1) := by decide +kernel
theorem dX5_doneIn_30 : decode cX5_doneIn 30 = .ok (.invokevirtual 229, 3) := by decide +kernel
theorem dX5_doneIn_33 : decode cX5_doneIn 33 = .ok (.aload_n 0, 1) := by decide +kernel
theorem dX5_doneIn_34 : decode cX5_doneIn 34 = .ok (.getfield 34, 3) := by decide +kernel
theorem dX5_doneIn_37 : decode cX5_doneIn 37 = .ok (.iload_n 2, 1) := by decide +kernel
theorem dX5_doneIn_38 : decode cX5_doneIn 38 = .ok (.iaload, 1) := by decide +kernel
theorem dX5_doneIn_39 : decode cX5_doneIn 39 = .ok (.ireturn, 1) := by decide +kernel
theorem dX5_bestRule_0 : decode cX5_bestRule 0 = .ok (.iload_n 1, 1) := by decide +kernel
theorem dX5_bestRule_1 : decode cX5_bestRule 1 = .ok (.iconst 1, 1) := by decide +kernel
theorem dX5_bestRule_2 : decode cX5_bestRule 2 = .ok (.bipush 99, 2) := by decide +kernel
theorem dX5_bestRule_4 : decode cX5_bestRule 4 = .ok (.invokestatic 37, 3) := by decide +kernel
theorem dX5_bestRule_7 : decode cX5_bestRule 7 = .ok (.ifCond .ne 13, 3) := by decide +kernel
theorem dX5_bestRule_10 : decode cX5_bestRule 10 = .ok (.new 51, 3) := by decide +kernel
theorem dX5_bestRule_13 : decode cX5_bestRule 13 = .ok (.dup, 1) := by decide +kernel
theorem dX5_bestRule_14 : decode cX5_bestRule 14 = .ok (.ldc 144, 2) := by decide +kernel
theorem dX5_bestRule_16 : decode cX5_bestRule 16 = .ok (.invokespecial 55, 3) := by decide +kernel
theorem dX5_bestRule_19 : decode cX5_bestRule 19 = .ok (.athrow, 1) := by decide +kernel
theorem dX5_bestRule_20 : decode cX5_bestRule 20 = .ok (.aload_n 0, 1) := by decide +kernel
theorem dX5_bestRule_21 : decode cX5_bestRule 21 = .ok (.iload_n 1, 1) := by decide +kernel
theorem dX5_bestRule_22 : decode cX5_bestRule 22 = .ok (.invokevirtual 232, 3) := by decide +kernel
theorem dX5_bestRule_25 : decode cX5_bestRule 25 = .ok (.ireturn, 1) := by decide +kernel
theorem dX5_dueNow_0 : decode cX5_dueNow 0 = .ok (.aload_n 0, 1) := by decide +kernel
theorem dX5_dueNow_1 : decode cX5_dueNow 1 = .ok (.getfield 10, 3) := by decide +kernel
theorem dX5_dueNow_4 : decode cX5_dueNow 4 = .ok (.iload_n 1, 1) := by decide +kernel
theorem dX5_dueNow_5 : decode cX5_dueNow 5 = .ok (.invokevirtual 119, 3) := by decide +kernel
theorem dX5_dueNow_8 : decode cX5_dueNow 8 = .ok (.astore_n 3, 1) := by decide +kernel
theorem dX5_dueNow_9 : decode cX5_dueNow 9 = .ok (.aload_n 3, 1) := by decide +kernel
theorem dX5_dueNow_10 : decode cX5_dueNow 10 = .ok (.ifnull 12, 3) := by decide +kernel
theorem dX5_dueNow_13 : decode cX5_dueNow 13 = .ok (.iload_n 2, 1) := by decide +kernel
theorem dX5_dueNow_14 : decode cX5_dueNow 14 = .ok (.iconst 0, 1) := by decide +kernel
theorem dX5_dueNow_15 : decode cX5_dueNow 15 = .ok (.iconst 5, 1) := by decide +kernel
theorem dX5_dueNow_16 : decode cX5_dueNow 16 = .ok (.invokestatic 37, 3) := by decide +kernel
theorem dX5_dueNow_19 : decode cX5_dueNow 19 = .ok (.ifCond .ne 13, 3) := by decide +kernel
theorem dX5_dueNow_22 : decode cX5_dueNow 22 = .ok (.new 41, 3) := by decide +kernel
theorem dX5_dueNow_25 : decode cX5_dueNow 25 = .ok (.dup, 1) := by decide +kernel
theorem dX5_dueNow_26 : decode cX5_dueNow 26 = .ok (.ldc 235, 2) := by decide +kernel
theorem dX5_dueNow_28 : decode cX5_dueNow 28 = .ok (.invokespecial 45, 3) := by decide +kernel
theorem dX5_dueNow_31 : decode cX5_dueNow 31 = .ok (.athrow, 1) := by decide +kernel
theorem dX5_dueNow_32 : decode cX5_dueNow 32 = .ok (.aload_n 0, 1) := by decide +kernel
theorem dX5_dueNow_33 : decode cX5_dueNow 33 = .ok (.getfield 10, 3) := by decide +kernel
theorem dX5_dueNow_36 : decode cX5_dueNow 36 = .ok (.aload_n 3, 1) := by decide +kernel
theorem dX5_dueNow_37 : decode cX5_dueNow 37 = .ok (.iload_n 2, 1) := by decide +kernel
theorem dX5_dueNow_38 : decode cX5_dueNow 38 = .ok (.invokevirtual 237, 3) := by decide +kernel
theorem dX5_dueNow_41 : decode cX5_dueNow 41 = .ok (.ireturn, 1) := by decide +kernel
theorem dX5_evenness_0 : decode cX5_evenness 0 = .ok (.aload_n 0, 1) := by decide +kernel
theorem dX5_evenness_1 : decode cX5_evenness 1 = .ok (.getfield 10, 3) := by decide +kernel
theorem dX5_evenness_4 : decode cX5_evenness 4 = .ok (.invokevirtual 241, 3) := by decide +kernel
theorem dX5_evenness_7 : decode cX5_evenness 7 = .ok (.dreturn, 1) := by decide +kernel
theorem dX5_digest_0 : decode cX5_digest 0 = .ok (.aload_n 0, 1) := by decide +kernel
theorem dX5_digest_1 : decode cX5_digest 1 = .ok (.ldc2_w 245, 3) := by decide +kernel
theorem dX5_digest_4 : decode cX5_digest 4 = .ok (.invokevirtual 247, 3) := by decide +kernel
theorem dX5_digest_7 : decode cX5_digest 7 = .ok (.lstore_n 1, 1) := by decide +kernel
theorem dX5_digest_8 : decode cX5_digest 8 = .ok (.aload_n 0, 1) := by decide +kernel
theorem dX5_digest_9 : decode cX5_digest 9 = .ok (.lload_n 1, 1) := by decide +kernel
theorem dX5_digest_10 : decode cX5_digest 10 = .ok (.invokevirtual 251, 3) := by decide +kernel
theorem dX5_digest_13 : decode cX5_digest 13 = .ok (.lstore_n 1, 1) := by decide +kernel
theorem dX5_digest_14 : decode cX5_digest 14 = .ok (.iconst 0, 1) := by decide +kernel
theorem dX5_digest_15 : decode cX5_digest 15 = .ok (.istore_n 3, 1) := by decide +kernel
theorem dX5_digest_16 : decode cX5_digest 16 = .ok (.iload_n 3, 1) := by decide +kernel
theorem dX5_digest_17 : decode cX5_digest 17 = .ok (.iconst 4, 1) := by decide +kernel
theorem dX5_digest_18 : decode cX5_digest 18 = .ok (.if_icmp .ge 26, 3) := by decide +kernel
theorem dX5_digest_21 : decode cX5_digest 21 = .ok (.lload_n 1, 1) := by decide +kernel
theorem dX5_digest_22 : decode cX5_digest 22 = .ok (.aload_n 0, 1) := by decide +kernel
theorem dX5_digest_23 : decode cX5_digest 23 = .ok (.getfield 10, 3) := by decide +kernel
theorem dX5_digest_26 : decode cX5_digest 26 = .ok (.getfield 100, 3) := by decide +kernel
theorem dX5_digest_29 : decode cX5_digest 29 = .ok (.iload_n 3, 1) := by decide +kernel
theorem dX5_digest_30 : decode cX5_digest 30 = .ok (.invokevirtual 83, 3) := by decide +kernel
theorem dX5_digest_33 : decode cX5_digest 33 = .ok (.i2l, 1) := by decide +kernel
theorem dX5_digest_34 : decode cX5_digest 34 = .ok (.invokestatic 254, 3) := by decide +kernel
theorem dX5_digest_37 : decode cX5_digest 37 = .ok (.lstore_n 1, 1) := by decide +kernel
theorem dX5_digest_38 : decode cX5_digest 38 = .ok (.iinc 3 1, 3) := by decide +kernel
theorem dX5_digest_41 : decode cX5_digest 41 = .ok (.goto (-25), 3) := by decide +kernel
theorem dX5_digest_44 : decode cX5_digest 44 = .ok (.aload_n 0, 1) := by decide +kernel
theorem dX5_digest_45 : decode cX5_digest 45 = .ok (.lload_n 1, 1) := by decide +kernel
theorem dX5_digest_46 : decode cX5_digest 46 = .ok (.invokevirtual 258, 3) := by decide +kernel
theorem dX5_digest_49 : decode cX5_digest 49 = .ok (.lstore_n 1, 1) := by decide +kernel
theorem dX5_digest_50 : decode cX5_digest 50 = .ok (.iconst 0, 1) := by decide +kernel
theorem dX5_digest_51 : decode cX5_digest 51 = .ok (.istore_n 3, 1) := by decide +kernel
theorem dX5_digest_52 : decode cX5_digest 52 = .ok (.iload_n 3, 1) := by decide +kernel
theorem dX5_digest_53 : decode cX5_digest 53 = .ok (.iconst 5, 1) := by decide +kernel
theorem dX5_digest_54 : decode cX5_digest 54 = .ok (.if_icmp .ge 22, 3) := by decide +kernel
theorem dX5_digest_57 : decode cX5_digest 57 = .ok (.lload_n 1, 1) := by decide +kernel
theorem dX5_digest_58 : decode cX5_digest 58 = .ok (.aload_n 0, 1) := by decide +kernel
theorem dX5_digest_59 : decode cX5_digest 59 = .ok (.bipush 20, 2) := by decide +kernel
theorem dX5_digest_61 : decode cX5_digest 61 = .ok (.iload_n 3, 1) := by decide +kernel
theorem dX5_digest_62 : decode cX5_digest 62 = .ok (.invokevirtual 223, 3) := by decide +kernel
theorem dX5_digest_65 : decode cX5_digest 65 = .ok (.i2l, 1) := by decide +kernel
theorem dX5_digest_66 : decode cX5_digest 66 = .ok (.invokestatic 254, 3) := by decide +kernel
theorem dX5_digest_69 : decode cX5_digest 69 = .ok (.lstore_n 1, 1) := by decide +kernel
theorem dX5_digest_70 : decode cX5_digest 70 = .ok (.iinc 3 1, 3) := by decide +kernel
theorem dX5_digest_73 : decode cX5_digest 73 = .ok (.goto (-21), 3) := by decide +kernel
theorem dX5_digest_76 : decode cX5_digest 76 = .ok (.lload_n 1, 1) := by decide +kernel
theorem dX5_digest_77 : decode cX5_digest 77 = .ok (.aload_n 0, 1) := by decide +kernel
theorem dX5_digest_78 : decode cX5_digest 78 = .ok (.bipush 12, 2) := by decide +kernel
theorem dX5_digest_80 : decode cX5_digest 80 = .ok (.invokevirtual 232, 3) := by decide +kernel
theorem dX5_digest_83 : decode cX5_digest 83 = .ok (.i2l, 1) := by decide +kernel
theorem dX5_digest_84 : decode cX5_digest 84 = .ok (.invokestatic 254, 3) := by decide +kernel
theorem dX5_digest_87 : decode cX5_digest 87 = .ok (.lstore_n 1, 1) := by decide +kernel
theorem dX5_digest_88 : decode cX5_digest 88 = .ok (.lload_n 1, 1) := by decide +kernel
theorem dX5_digest_89 : decode cX5_digest 89 = .ok (.aload_n 0, 1) := by decide +kernel
theorem dX5_digest_90 : decode cX5_digest 90 = .ok (.getfield 10, 3) := by decide +kernel
theorem dX5_digest_93 : decode cX5_digest 93 = .ok (.invokevirtual 241, 3) := by decide +kernel
theorem dX5_digest_96 : decode cX5_digest 96 = .ok (.invokestatic 261, 3) := by decide +kernel
theorem dX5_digest_99 : decode cX5_digest 99 = .ok (.invokestatic 254, 3) := by decide +kernel
theorem dX5_digest_102 : decode cX5_digest 102 = .ok (.lstore_n 1, 1) := by decide +kernel
theorem dX5_digest_103 : decode cX5_digest 103 = .ok (.lload_n 1, 1) := by decide +kernel
theorem dX5_digest_104 : decode cX5_digest 104 = .ok (.aload_n 0, 1) := by decide +kernel
theorem dX5_digest_105 : decode cX5_digest 105 = .ok (.getfield 160, 3) := by decide +kernel
theorem dX5_digest_108 : decode cX5_digest 108 = .ok (.i2l, 1) := by decide +kernel
theorem dX5_digest_109 : decode cX5_digest 109 = .ok (.invokestatic 254, 3) := by decide +kernel
theorem dX5_digest_112 : decode cX5_digest 112 = .ok (.lstore_n 1, 1) := by decide +kernel
theorem dX5_digest_113 : decode cX5_digest 113 = .ok (.iconst 0, 1) := by decide +kernel
theorem dX5_digest_114 : decode cX5_digest 114 = .ok (.istore_n 3, 1) := by decide +kernel
theorem dX5_digest_115 : decode cX5_digest 115 = .ok (.iload_n 3, 1) := by decide +kernel
theorem dX5_digest_116 : decode cX5_digest 116 = .ok (.aload_n 0, 1) := by decide +kernel
theorem dX5_digest_117 : decode cX5_digest 117 = .ok (.getfield 160, 3) := by decide +kernel
theorem dX5_digest_120 : decode cX5_digest 120 = .ok (.if_icmp .ge 30, 3) := by decide +kernel
theorem dX5_digest_123 : decode cX5_digest 123 = .ok (.iload_n 3, 1) := by decide +kernel
theorem dX5_digest_124 : decode cX5_digest 124 = .ok (.aload_n 0, 1) := by decide +kernel
theorem dX5_digest_125 : decode cX5_digest 125 = .ok (.getfield 23, 3) := by decide +kernel
theorem dX5_digest_128 : decode cX5_digest 128 = .ok (.arraylength, 1) := by decide +kernel
theorem dX5_digest_129 : decode cX5_digest 129 = .ok (.if_icmp .ge 21, 3) := by decide +kernel
theorem dX5_digest_132 : decode cX5_digest 132 = .ok (.lload_n 1, 1) := by decide +kernel
theorem dX5_digest_133 : decode cX5_digest 133 = .ok (.aload_n 0, 1) := by decide +kernel
theorem dX5_digest_134 : decode cX5_digest 134 = .ok (.getfield 23, 3) := by decide +kernel
theorem dX5_digest_137 : decode cX5_digest 137 = .ok (.iload_n 3, 1) := by decide +kernel
theorem dX5_digest_138 : decode cX5_digest 138 = .ok (.iaload, 1) := by decide +kernel
theorem dX5_digest_139 : decode cX5_digest 139 = .ok (.i2l, 1) := by decide +kernel
theorem dX5_digest_140 : decode cX5_digest 140 = .ok (.invokestatic 254, 3) := by decide +kernel
theorem dX5_digest_143 : decode cX5_digest 143 = .ok (.lstore_n 1, 1) := by decide +kernel
theorem dX5_digest_144 : decode cX5_digest 144 = .ok (.iinc 3 1, 3) := by decide +kernel
theorem dX5_digest_147 : decode cX5_digest 147 = .ok (.goto (-32), 3) := by decide +kernel
theorem dX5_digest_150 : decode cX5_digest 150 = .ok (.lload_n 1, 1) := by decide +kernel
theorem dX5_digest_151 : decode cX5_digest 151 = .ok (.lreturn, 1) := by decide +kernel
theorem dX5_isWithin_0 : decode cX5_isWithin 0 = .ok (.iload_n 0, 1) := by decide +kernel
theorem dX5_isWithin_1 : decode cX5_isWithin 1 = .ok (.iload_n 1, 1) := by decide +kernel
theorem dX5_isWithin_2 : decode cX5_isWithin 2 = .ok (.if_icmp .lt 12, 3) := by decide +kernel
theorem dX5_isWithin_5 : decode cX5_isWithin 5 = .ok (.iload_n 0, 1) := by decide +kernel
theorem dX5_isWithin_6 : decode cX5_isWithin 6 = .ok (.iload_n 2, 1) := by decide +kernel
theorem dX5_isWithin_7 : decode cX5_isWithin 7 = .ok (.if_icmp .gt 7, 3) := by decide +kernel
theorem dX5_isWithin_10 : decode cX5_isWithin 10 = .ok (.iconst 1, 1) := by decide +kernel
theorem dX5_isWithin_11 : decode cX5_isWithin 11 = .ok (.goto 4, 3) := by decide +kernel
theorem dX5_isWithin_14 : decode cX5_isWithin 14 = .ok (.iconst 0, 1) := by decide +kernel
theorem dX5_isWithin_15 : decode cX5_isWithin 15 = .ok (.ireturn, 1) := by decide +kernel
theorem dX5_isLoom_0 : decode cX5_isLoom 0 = .ok (.iload_n 0, 1) := by decide +kernel
theorem dX5_isLoom_1 : decode cX5_isLoom 1 = .ok (.bipush 40, 2) := by decide +kernel
theorem dX5_isLoom_3 : decode cX5_isLoom 3 = .ok (.sipush 200, 3) := by decide +kernel
theorem dX5_isLoom_6 : decode cX5_isLoom 6 = .ok (.invokestatic 37, 3) := by decide +kernel
theorem dX5_isLoom_9 : decode cX5_isLoom 9 = .ok (.ifCond .eq 27, 3) := by decide +kernel
theorem dX5_isLoom_12 : decode cX5_isLoom 12 = .ok (.iload_n 1, 1) := by decide +kernel
theorem dX5_isLoom_13 : decode cX5_isLoom 13 = .ok (.iconst 1, 1) := by decide +kernel
theorem dX5_isLoom_14 : decode cX5_isLoom 14 = .ok (.bipush 9, 2) := by decide +kernel
theorem dX5_isLoom_16 : decode cX5_isLoom 16 = .ok (.invokestatic 37, 3) := by decide +kernel
theorem dX5_isLoom_19 : decode cX5_isLoom 19 = .ok (.ifCond .eq 17, 3) := by decide +kernel
theorem dX5_isLoom_22 : decode cX5_isLoom 22 = .ok (.iload_n 2, 1) := by decide +kernel
theorem dX5_isLoom_23 : decode cX5_isLoom 23 = .ok (.iconst 0, 1) := by decide +kernel
theorem dX5_isLoom_24 : decode cX5_isLoom 24 = .ok (.bipush 99, 2) := by decide +kernel
theorem dX5_isLoom_26 : decode cX5_isLoom 26 = .ok (.invokestatic 37, 3) := by decide +kernel
theorem dX5_isLoom_29 : decode cX5_isLoom 29 = .ok (.ifCond .eq 7, 3) := by decide +kernel
theorem dX5_isLoom_32 : decode cX5_isLoom 32 = .ok (.iconst 1, 1) := by decide +kernel
theorem dX5_isLoom_33 : decode cX5_isLoom 33 = .ok (.goto 4, 3) := by decide +kernel
theorem dX5_isLoom_36 : decode cX5_isLoom 36 = .ok (.iconst 0, 1) := by decide +kernel
theorem dX5_isLoom_37 : decode cX5_isLoom 37 = .ok (.ireturn, 1) := by decide +kernel
theorem dX5_saveState_0 : decode cX5_saveState 0 = .ok (.aload_n 0, 1) := by decide +kernel
theorem dX5_saveState_1 : decode cX5_saveState 1 = .ok (.getfield 180, 3) := by decide +kernel
theorem dX5_saveState_4 : decode cX5_saveState 4 = .ok (.aload_n 0, 1) := by decide +kernel
theorem dX5_saveState_5 : decode cX5_saveState 5 = .ok (.getfield 19, 3) := by decide +kernel
theorem dX5_saveState_8 : decode cX5_saveState 8 = .ok (.arraylength, 1) := by decide +kernel
theorem dX5_saveState_9 : decode cX5_saveState 9 = .ok (.if_icmp .lt 7, 3) := by decide +kernel
theorem dX5_saveState_12 : decode cX5_saveState 12 = .ok (.aload_n 0, 1) := by decide +kernel
theorem dX5_saveState_13 : decode cX5_saveState 13 = .ok (.invokevirtual 265, 3) := by decide +kernel
theorem dX5_saveState_16 : decode cX5_saveState 16 = .ok (.aload_n 0, 1) := by decide +kernel
theorem dX5_saveState_17 : decode cX5_saveState 17 = .ok (.getfield 180, 3) := by decide +kernel
theorem dX5_saveState_20 : decode cX5_saveState 20 = .ok (.iconst 0, 1) := by decide +kernel
theorem dX5_saveState_21 : decode cX5_saveState 21 = .ok (.aload_n 0, 1) := by decide +kernel
theorem dX5_saveState_22 : decode cX5_saveState 22 = .ok (.getfield 19, 3) := by decide +kernel
theorem dX5_saveState_25 : decode cX5_saveState 25 = .ok (.arraylength, 1) := by decide +kernel
theorem dX5_saveState_26 : decode cX5_saveState 26 = .ok (.iconst 1, 1) := by decide +kernel
theorem dX5_saveState_27 : decode cX5_saveState 27 = .ok (.isub, 1) := by decide +kernel
theorem dX5_saveState_28 : decode cX5_saveState 28 = .ok (.invokestatic 37, 3) := by decide +kernel
theorem dX5_saveState_31 : decode cX5_saveState 31 = .ok (.ifCond .eq 29, 3) := by decide +kernel
theorem dX5_saveState_34 : decode cX5_saveState 34 = .ok (.aload_n 0, 1) := by decide +kernel
theorem dX5_saveState_35 : decode cX5_saveState 35 = .ok (.getfield 19, 3) := by decide +kernel
theorem dX5_saveState_38 : decode cX5_saveState 38 = .ok (.aload_n 0, 1) := by decide +kernel
theorem dX5_saveState_39 : decode cX5_saveState 39 = .ok (.getfield 180, 3) := by decide +kernel
theorem dX5_saveState_42 : decode cX5_saveState 42 = .ok (.aaload, 1) := by decide +kernel
theorem dX5_saveState_43 : decode cX5_saveState 43 = .ok (.aload_n 0, 1) := by decide +kernel
theorem dX5_saveState_44 : decode cX5_saveState 44 = .ok (.getfield 10, 3) := by decide +kernel
theorem dX5_saveState_47 : decode cX5_saveState 47 = .ok (.invokevirtual 185, 3) := by decide +kernel
theorem dX5_saveState_50 : decode cX5_saveState 50 = .ok (.aload_n 0, 1) := by decide +kernel
theorem dX5_saveState_51 : decode cX5_saveState 51 = .ok (.dup, 1) := by decide +kernel
theorem dX5_saveState_52 : decode cX5_saveState 52 = .ok (.getfield 180, 3) := by decide +kernel
theorem dX5_saveState_55 : decode cX5_saveState 55 = .ok (.iconst 1, 1) := by decide +kernel
theorem dX5_saveState_56 : decode cX5_saveState 56 = .ok (.iadd, 1) := by decide +kernel
theorem dX5_saveState_57 : decode cX5_saveState 57 = .ok (.putfield 180, 3) := by decide +kernel
theorem dX5_saveState_60 : decode cX5_saveState 60 = .ok (.return_, 1) := by decide +kernel
theorem dX5_dropOldest_0 : decode cX5_dropOldest 0 = .ok (.aload_n 0, 1) := by decide +kernel
theorem dX5_dropOldest_1 : decode cX5_dropOldest 1 = .ok (.getfield 19, 3) := by decide +kernel
theorem dX5_dropOldest_4 : decode cX5_dropOldest 4 = .ok (.iconst 0, 1) := by decide +kernel
theorem dX5_dropOldest_5 : decode cX5_dropOldest 5 = .ok (.aaload, 1) := by decide +kernel
theorem dX5_dropOldest_6 : decode cX5_dropOldest 6 = .ok (.astore_n 1, 1) := by decide +kernel
theorem dX5_dropOldest_7 : decode cX5_dropOldest 7 = .ok (.iconst 0, 1) := by decide +kernel
theorem dX5_dropOldest_8 : decode cX5_dropOldest 8 = .ok (.istore_n 2, 1) := by decide +kernel
theorem dX5_dropOldest_9 : decode cX5_dropOldest 9 = .ok (.iload_n 2, 1) := by decide +kernel
theorem dX5_dropOldest_10 : decode cX5_dropOldest 10 = .ok (.iconst 1, 1) := by decide +kernel
theorem dX5_dropOldest_11 : decode cX5_dropOldest 11 = .ok (.iadd, 1) := by decide +kernel
theorem dX5_dropOldest_12 : decode cX5_dropOldest 12 = .ok (.aload_n 0, 1) := by decide +kernel
theorem dX5_dropOldest_13 : decode cX5_dropOldest 13 = .ok (.getfield 19, 3) := by decide +kernel
theorem dX5_dropOldest_16 : decode cX5_dropOldest 16 = .ok (.arraylength, 1) := by decide +kernel
theorem dX5_dropOldest_17 : decode cX5_dropOldest 17 = .ok (.if_icmp .ge 23, 3) := by decide +kernel
theorem dX5_dropOldest_20 : decode cX5_dropOldest 20 = .ok (.aload_n 0, 1) := by decide +kernel
theorem dX5_dropOldest_21 : decode cX5_dropOldest 21 = .ok (.getfield 19, 3) := by decide +kernel
theorem dX5_dropOldest_24 : decode cX5_dropOldest 24 = .ok (.iload_n 2, 1) := by decide +kernel
theorem dX5_dropOldest_25 : decode cX5_dropOldest 25 = .ok (.aload_n 0, 1) := by decide +kernel
theorem dX5_dropOldest_26 : decode cX5_dropOldest 26 = .ok (.getfield 19, 3) := by decide +kernel
theorem dX5_dropOldest_29 : decode cX5_dropOldest 29 = .ok (.iload_n 2, 1) := by decide +kernel
theorem dX5_dropOldest_30 : decode cX5_dropOldest 30 = .ok (.iconst 1, 1) := by decide +kernel
theorem dX5_dropOldest_31 : decode cX5_dropOldest 31 = .ok (.iadd, 1) := by decide +kernel
theorem dX5_dropOldest_32 : decode cX5_dropOldest 32 = .ok (.aaload, 1) := by decide +kernel
theorem dX5_dropOldest_33 : decode cX5_dropOldest 33 = .ok (.aastore, 1) := by decide +kernel
theorem dX5_dropOldest_34 : decode cX5_dropOldest 34 = .ok (.iinc 2 1, 3) := by decide +kernel
theorem dX5_dropOldest_37 : decode cX5_dropOldest 37 = .ok (.goto (-28), 3) := by decide +kernel
theorem dX5_dropOldest_40 : decode cX5_dropOldest 40 = .ok (.aload_n 0, 1) := by decide +kernel
theorem dX5_dropOldest_41 : decode cX5_dropOldest 41 = .ok (.getfield 19, 3) := by decide +kernel
theorem dX5_dropOldest_44 : decode cX5_dropOldest 44 = .ok (.aload_n 0, 1) := by decide +kernel
theorem dX5_dropOldest_45 : decode cX5_dropOldest 45 = .ok (.getfield 19, 3) := by decide +kernel
theorem dX5_dropOldest_48 : decode cX5_dropOldest 48 = .ok (.arraylength, 1) := by decide +kernel
theorem dX5_dropOldest_49 : decode cX5_dropOldest 49 = .ok (.iconst 1, 1) := by decide +kernel
theorem dX5_dropOldest_50 : decode cX5_dropOldest 50 = .ok (.isub, 1) := by decide +kernel
theorem dX5_dropOldest_51 : decode cX5_dropOldest 51 = .ok (.aload_n 1, 1) := by decide +kernel
theorem dX5_dropOldest_52 : decode cX5_dropOldest 52 = .ok (.aastore, 1) := by decide +kernel
theorem dX5_dropOldest_53 : decode cX5_dropOldest 53 = .ok (.aload_n 0, 1) := by decide +kernel
theorem dX5_dropOldest_54 : decode cX5_dropOldest 54 = .ok (.aload_n 0, 1) := by decide +kernel
theorem dX5_dropOldest_55 : decode cX5_dropOldest 55 = .ok (.getfield 19, 3) := by decide +kernel
theorem dX5_dropOldest_58 : decode cX5_dropOldest 58 = .ok (.arraylength, 1) := by decide +kernel
theorem dX5_dropOldest_59 : decode cX5_dropOldest 59 = .ok (.iconst 1, 1) := by decide +kernel
theorem dX5_dropOldest_60 : decode cX5_dropOldest 60 = .ok (.isub, 1) := by decide +kernel
theorem dX5_dropOldest_61 : decode cX5_dropOldest 61 = .ok (.putfield 180, 3) := by decide +kernel
theorem dX5_dropOldest_64 : decode cX5_dropOldest 64 = .ok (.return_, 1) := by decide +kernel
theorem dX5_readBuffer_0 : decode cX5_readBuffer 0 = .ok (.aload_n 0, 1) := by decide +kernel
theorem dX5_readBuffer_1 : decode cX5_readBuffer 1 = .ok (.getfield 30, 3) := by decide +kernel
theorem dX5_readBuffer_4 : decode cX5_readBuffer 4 = .ok (.invokevirtual 268, 3) := by decide +kernel
theorem dX5_readBuffer_7 : decode cX5_readBuffer 7 = .ok (.iconst 0, 1) := by decide +kernel
theorem dX5_readBuffer_8 : decode cX5_readBuffer 8 = .ok (.istore_n 1, 1) := by decide +kernel
theorem dX5_readBuffer_9 : decode cX5_readBuffer 9 = .ok (.iload_n 1, 1) := by decide +kernel
theorem dX5_readBuffer_10 : decode cX5_readBuffer 10 = .ok (.aload_n 0, 1) := by decide +kernel
theorem dX5_readBuffer_11 : decode cX5_readBuffer 11 = .ok (.getfield 160, 3) := by decide +kernel
theorem dX5_readBuffer_14 : decode cX5_readBuffer 14 = .ok (.if_icmp .ge 36, 3) := by decide +kernel
theorem dX5_readBuffer_17 : decode cX5_readBuffer 17 = .ok (.iload_n 1, 1) := by decide +kernel
theorem dX5_readBuffer_18 : decode cX5_readBuffer 18 = .ok (.aload_n 0, 1) := by decide +kernel
theorem dX5_readBuffer_19 : decode cX5_readBuffer 19 = .ok (.getfield 23, 3) := by decide +kernel
theorem dX5_readBuffer_22 : decode cX5_readBuffer 22 = .ok (.arraylength, 1) := by decide +kernel
theorem dX5_readBuffer_23 : decode cX5_readBuffer 23 = .ok (.if_icmp .ge 27, 3) := by decide +kernel
theorem dX5_readBuffer_26 : decode cX5_readBuffer 26 = .ok (.aload_n 0, 1) := by decide +kernel
theorem dX5_readBuffer_27 : decode cX5_readBuffer 27 = .ok (.getfield 30, 3) := by decide +kernel
theorem dX5_readBuffer_30 : decode cX5_readBuffer 30 = .ok (.aload_n 0, 1) := by decide +kernel
theorem dX5_readBuffer_31 : decode cX5_readBuffer 31 = .ok (.getfield 23, 3) := by decide +kernel
theorem dX5_readBuffer_34 : decode cX5_readBuffer 34 = .ok (.iload_n 1, 1) := by decide +kernel
theorem dX5_readBuffer_35 : decode cX5_readBuffer 35 = .ok (.iaload, 1) := by decide +kernel
theorem dX5_readBuffer_36 : decode cX5_readBuffer 36 = .ok (.invokevirtual 271, 3) := by decide +kernel
theorem dX5_readBuffer_39 : decode cX5_readBuffer 39 = .ok (.ifCond .ne 5, 3) := by decide +kernel
theorem dX5_readBuffer_42 : decode cX5_readBuffer 42 = .ok (.iload_n 1, 1) := by decide +kernel
theorem dX5_readBuffer_43 : decode cX5_readBuffer 43 = .ok (.ireturn, 1) := by decide +kernel
theorem dX5_readBuffer_44 : decode cX5_readBuffer 44 = .ok (.iinc 1 1, 3) := by decide +kernel
theorem dX5_readBuffer_47 : decode cX5_readBuffer 47 = .ok (.goto (-38), 3) := by decide +kernel
theorem dX5_readBuffer_50 : decode cX5_readBuffer 50 = .ok (.aload_n 0, 1) := by decide +kernel
theorem dX5_readBuffer_51 : decode cX5_readBuffer 51 = .ok (.getfield 160, 3) := by decide +kernel
theorem dX5_readBuffer_54 : decode cX5_readBuffer 54 = .ok (.ireturn, 1) := by decide +kernel
theorem dX5_takeParts_0 : decode cX5_takeParts 0 = .ok (.aload_n 0, 1) := by decide +kernel
theorem dX5_takeParts_1 : decode cX5_takeParts 1 = .ok (.getfield 30, 3) := by decide +kernel
theorem dX5_takeParts_4 : decode cX5_takeParts 4 = .ok (.invokevirtual 268, 3) := by decide +kernel
theorem dX5_takeParts_7 : decode cX5_takeParts 7 = .ok (.iconst 0, 1) := by decide +kernel
theorem dX5_takeParts_8 : decode cX5_takeParts 8 = .ok (.istore_n 1, 1) := by decide +kernel
theorem dX5_takeParts_9 : decode cX5_takeParts 9 = .ok (.iload_n 1, 1) := by decide +kernel
theorem dX5_takeParts_10 : decode cX5_takeParts 10 = .ok (.aload_n 0, 1) := by decide +kernel
theorem dX5_takeParts_11 : decode cX5_takeParts 11 = .ok (.getfield 160, 3) := by decide +kernel
theorem dX5_takeParts_14 : decode cX5_takeParts 14 = .ok (.if_icmp .ge 47, 3) := by decide +kernel
theorem dX5_takeParts_17 : decode cX5_takeParts 17 = .ok (.iload_n 1, 1) := by decide +kernel
theorem dX5_takeParts_18 : decode cX5_takeParts 18 = .ok (.aload_n 0, 1) := by decide +kernel
theorem dX5_takeParts_19 : decode cX5_takeParts 19 = .ok (.getfield 23, 3) := by decide +kernel
theorem dX5_takeParts_22 : decode cX5_takeParts 22 = .ok (.arraylength, 1) := by decide +kernel
theorem dX5_takeParts_23 : decode cX5_takeParts 23 = .ok (.if_icmp .ge 38, 3) := by decide +kernel
theorem dX5_takeParts_26 : decode cX5_takeParts 26 = .ok (.aload_n 0, 1) := by decide +kernel
theorem dX5_takeParts_27 : decode cX5_takeParts 27 = .ok (.getfield 23, 3) := by decide +kernel
theorem dX5_takeParts_30 : decode cX5_takeParts 30 = .ok (.iload_n 1, 1) := by decide +kernel
theorem dX5_takeParts_31 : decode cX5_takeParts 31 = .ok (.iaload, 1) := by decide +kernel
theorem dX5_takeParts_32 : decode cX5_takeParts 32 = .ok (.bipush 59, 2) := by decide +kernel
theorem dX5_takeParts_34 : decode cX5_takeParts 34 = .ok (.if_icmp .ne 7, 3) := by decide +kernel
theorem dX5_takeParts_37 : decode cX5_takeParts 37 = .ok (.aload_n 0, 1) := by decide +kernel
theorem dX5_takeParts_38 : decode cX5_takeParts 38 = .ok (.invokevirtual 275, 3) := by decide +kernel
theorem dX5_takeParts_41 : decode cX5_takeParts 41 = .ok (.aload_n 0, 1) := by decide +kernel
theorem dX5_takeParts_42 : decode cX5_takeParts 42 = .ok (.getfield 30, 3) := by decide +kernel
theorem dX5_takeParts_45 : decode cX5_takeParts 45 = .ok (.aload_n 0, 1) := by decide +kernel
theorem dX5_takeParts_46 : decode cX5_takeParts 46 = .ok (.getfield 23, 3) := by decide +kernel
theorem dX5_takeParts_49 : decode cX5_takeParts 49 = .ok (.iload_n 1, 1) := by decide +kernel
theorem dX5_takeParts_50 : decode cX5_takeParts 50 = .ok (.iaload, 1) := by decide +kernel
theorem dX5_takeParts_51 : decode cX5_takeParts 51 = .ok (.invokevirtual 271, 3) := by decide +kernel
theorem dX5_takeParts_54 : decode cX5_takeParts 54 = .ok (.pop, 1) := by decide +kernel
theorem dX5_takeParts_55 : decode cX5_takeParts 55 = .ok (.iinc 1 1, 3) := by decide +kernel
theorem dX5_takeParts_58 : decode cX5_takeParts 58 = .ok (.goto (-49), 3) := by decide +kernel
theorem dX5_takeParts_61 : decode cX5_takeParts 61 = .ok (.aload_n 0, 1) := by decide +kernel
theorem dX5_takeParts_62 : decode cX5_takeParts 62 = .ok (.invokevirtual 275, 3) := by decide +kernel
theorem dX5_takeParts_65 : decode cX5_takeParts 65 = .ok (.return_, 1) := by decide +kernel
theorem dX5_takePart_0 : decode cX5_takePart 0 = .ok (.aload_n 0, 1) := by decide +kernel
theorem dX5_takePart_1 : decode cX5_takePart 1 = .ok (.getfield 30, 3) := by decide +kernel
theorem dX5_takePart_4 : decode cX5_takePart 4 = .ok (.getfield 278, 3) := by decide +kernel
theorem dX5_takePart_7 : decode cX5_takePart 7 = .ok (.astore_n 1, 1) := by decide +kernel
theorem dX5_takePart_8 : decode cX5_takePart 8 = .ok (.aload_n 0, 1) := by decide +kernel
theorem dX5_takePart_9 : decode cX5_takePart 9 = .ok (.getfield 10, 3) := by decide +kernel
theorem dX5_takePart_12 : decode cX5_takePart 12 = .ok (.aload_n 1, 1) := by decide +kernel
theorem dX5_takePart_13 : decode cX5_takePart 13 = .ok (.iconst 2, 1) := by decide +kernel
theorem dX5_takePart_14 : decode cX5_takePart 14 = .ok (.iaload, 1) := by decide +kernel
theorem dX5_takePart_15 : decode cX5_takePart 15 = .ok (.aload_n 1, 1) := by decide +kernel
theorem dX5_takePart_16 : decode cX5_takePart 16 = .ok (.iconst 1, 1) := by decide +kernel
theorem dX5_takePart_17 : decode cX5_takePart 17 = .ok (.iaload, 1) := by decide +kernel
theorem dX5_takePart_18 : decode cX5_takePart 18 = .ok (.aload_n 1, 1) := by decide +kernel
theorem dX5_takePart_19 : decode cX5_takePart 19 = .ok (.iconst 0, 1) := by decide +kernel
theorem dX5_takePart_20 : decode cX5_takePart 20 = .ok (.iaload, 1) := by decide +kernel
theorem dX5_takePart_21 : decode cX5_takePart 21 = .ok (.aload_n 1, 1) := by decide +kernel
theorem dX5_takePart_22 : decode cX5_takePart 22 = .ok (.iconst 3, 1) := by decide +kernel
theorem dX5_takePart_23 : decode cX5_takePart 23 = .ok (.iaload, 1) := by decide +kernel
theorem dX5_takePart_24 : decode cX5_takePart 24 = .ok (.aload_n 1, 1) := by decide +kernel
theorem dX5_takePart_25 : decode cX5_takePart 25 = .ok (.iconst 4, 1) := by decide +kernel
theorem dX5_takePart_26 : decode cX5_takePart 26 = .ok (.iaload, 1) := by decide +kernel
theorem dX5_takePart_27 : decode cX5_takePart 27 = .ok (.invokevirtual 115, 3) := by decide +kernel
theorem dX5_takePart_30 : decode cX5_takePart 30 = .ok (.pop, 1) := by decide +kernel
theorem dX5_takePart_31 : decode cX5_takePart 31 = .ok (.return_, 1) := by decide +kernel
theorem dX5_counted_0 : decode cX5_counted 0 = .ok (.iload_n 1, 1) := by decide +kernel
theorem dX5_counted_1 : decode cX5_counted 1 = .ok (.bipush 11, 2) := by decide +kernel
theorem dX5_counted_3 : decode cX5_counted 3 = .ok (.if_icmp .ne 10, 3) := by decide +kernel
theorem dX5_counted_6 : decode cX5_counted 6 = .ok (.aload_n 0, 1) := by decide +kernel
theorem dX5_counted_7 : decode cX5_counted 7 = .ok (.getfield 180, 3) := by decide +kernel
theorem dX5_counted_10 : decode cX5_counted 10 = .ok (.goto 11, 3) := by decide +kernel
theorem dX5_counted_13 : decode cX5_counted 13 = .ok (.aload_n 0, 1) := by decide +kernel
theorem dX5_counted_14 : decode cX5_counted 14 = .ok (.getfield 10, 3) := by decide +kernel
theorem dX5_counted_17 : decode cX5_counted 17 = .ok (.iload_n 1, 1) := by decide +kernel
theorem dX5_counted_18 : decode cX5_counted 18 = .ok (.invokevirtual 281, 3) := by decide +kernel
theorem dX5_counted_21 : decode cX5_counted 21 = .ok (.ireturn, 1) := by decide +kernel
theorem dX5_foreseen_0 : decode cX5_foreseen 0 = .ok (.aload_n 0, 1) := by decide +kernel
theorem dX5_foreseen_1 : decode cX5_foreseen 1 = .ok (.getfield 16, 3) := by decide +kernel
theorem dX5_foreseen_4 : decode cX5_foreseen 4 = .ok (.aload_n 0, 1) := by decide +kernel
theorem dX5_foreseen_5 : decode cX5_foreseen 5 = .ok (.getfield 10, 3) := by decide +kernel
theorem dX5_foreseen_8 : decode cX5_foreseen 8 = .ok (.invokevirtual 185, 3) := by decide +kernel
theorem dX5_foreseen_11 : decode cX5_foreseen 11 = .ok (.aload_n 0, 1) := by decide +kernel
theorem dX5_foreseen_12 : decode cX5_foreseen 12 = .ok (.getfield 16, 3) := by decide +kernel
theorem dX5_foreseen_15 : decode cX5_foreseen 15 = .ok (.iload_n 1, 1) := by decide +kernel
theorem dX5_foreseen_16 : decode cX5_foreseen 16 = .ok (.invokevirtual 284, 3) := by decide +kernel
theorem dX5_foreseen_19 : decode cX5_foreseen 19 = .ok (.iload_n 2, 1) := by decide +kernel
theorem dX5_foreseen_20 : decode cX5_foreseen 20 = .ok (.tableswitch 93 0 3 #[32, 48, 64, 84], 32) := by decide +kernel
theorem dX5_foreseen_52 : decode cX5_foreseen 52 = .ok (.aload_n 0, 1) := by decide +kernel
theorem dX5_foreseen_53 : decode cX5_foreseen 53 = .ok (.getfield 16, 3) := by decide +kernel
theorem dX5_foreseen_56 : decode cX5_foreseen 56 = .ok (.getfield 151, 3) := by decide +kernel
theorem dX5_foreseen_59 : decode cX5_foreseen 59 = .ok (.aload_n 0, 1) := by decide +kernel
theorem dX5_foreseen_60 : decode cX5_foreseen 60 = .ok (.getfield 10, 3) := by decide +kernel
theorem dX5_foreseen_63 : decode cX5_foreseen 63 = .ok (.getfield 151, 3) := by decide +kernel
theorem dX5_foreseen_66 : decode cX5_foreseen 66 = .ok (.isub, 1) := by decide +kernel
theorem dX5_foreseen_67 : decode cX5_foreseen 67 = .ok (.ireturn, 1) := by decide +kernel
theorem dX5_foreseen_68 : decode cX5_foreseen 68 = .ok (.aload_n 0, 1) := by decide +kernel
theorem dX5_foreseen_69 : decode cX5_foreseen 69 = .ok (.getfield 16, 3) := by decide +kernel
theorem dX5_foreseen_72 : decode cX5_foreseen 72 = .ok (.getfield 288, 3) := by decide +kernel
theorem dX5_foreseen_75 : decode cX5_foreseen 75 = .ok (.aload_n 0, 1) := by decide +kernel
theorem dX5_foreseen_76 : decode cX5_foreseen 76 = .ok (.getfield 10, 3) := by decide +kernel
theorem dX5_foreseen_79 : decode cX5_foreseen 79 = .ok (.getfield 288, 3) := by decide +kernel
theorem dX5_foreseen_82 : decode cX5_foreseen 82 = .ok (.isub, 1) := by decide +kernel
theorem dX5_foreseen_83 : decode cX5_foreseen 83 = .ok (.ireturn, 1) := by decide +kernel
theorem dX5_foreseen_84 : decode cX5_foreseen 84 = .ok (.aload_n 0, 1) := by decide +kernel
theorem dX5_foreseen_85 : decode cX5_foreseen 85 = .ok (.getfield 16, 3) := by decide +kernel
theorem dX5_foreseen_88 : decode cX5_foreseen 88 = .ok (.bipush 6, 2) := by decide +kernel
theorem dX5_foreseen_90 : decode cX5_foreseen 90 = .ok (.invokevirtual 291, 3) := by decide +kernel
theorem dX5_foreseen_93 : decode cX5_foreseen 93 = .ok (.aload_n 0, 1) := by decide +kernel
theorem dX5_foreseen_94 : decode cX5_foreseen 94 = .ok (.getfield 10, 3) := by decide +kernel
theorem dX5_foreseen_97 : decode cX5_foreseen 97 = .ok (.bipush 6, 2) := by decide +kernel
theorem dX5_foreseen_99 : decode cX5_foreseen 99 = .ok (.invokevirtual 291, 3) := by decide +kernel
theorem dX5_foreseen_102 : decode cX5_foreseen 102 = .ok (.isub, 1) := by decide +kernel
theorem dX5_foreseen_103 : decode cX5_foreseen 103 = .ok (.ireturn, 1) := by decide +kernel
theorem dX5_foreseen_104 : decode cX5_foreseen 104 = .ok (.aload_n 0, 1) := by decide +kernel
theorem dX5_foreseen_105 : decode cX5_foreseen 105 = .ok (.getfield 16, 3) := by decide +kernel
theorem dX5_foreseen_108 : decode cX5_foreseen 108 = .ok (.iconst 3, 1) := by decide +kernel
theorem dX5_foreseen_109 : decode cX5_foreseen 109 = .ok (.invokevirtual 291, 3) := by decide +kernel
theorem dX5_foreseen_112 : decode cX5_foreseen 112 = .ok (.ireturn, 1) := by decide +kernel
theorem dX5_foreseen_113 : decode cX5_foreseen 113 = .ok (.aload_n 0, 1) := by decide +kernel
theorem dX5_foreseen_114 : decode cX5_foreseen 114 = .ok (.getfield 16, 3) := by decide +kernel
theorem dX5_foreseen_117 : decode cX5_foreseen 117 = .ok (.getfield 294, 3) := by decide +kernel
theorem dX5_foreseen_120 : decode cX5_foreseen 120 = .ok (.aload_n 0, 1) := by decide +kernel
theorem dX5_foreseen_121 : decode cX5_foreseen 121 = .ok (.getfield 10, 3) := by decide +kernel
theorem dX5_foreseen_124 : decode cX5_foreseen 124 = .ok (.getfield 294, 3) := by decide +kernel
theorem dX5_foreseen_127 : decode cX5_foreseen 127 = .ok (.isub, 1) := by decide +kernel
theorem dX5_foreseen_128 : decode cX5_foreseen 128 = .ok (.ireturn, 1) := by decide +kernel
theorem dX5_foreseeEnds_0 : decode cX5_foreseeEnds 0 = .ok (.aload_n 0, 1) := by decide +kernel
theorem dX5_foreseeEnds_1 : decode cX5_foreseeEnds 1 = .ok (.getfield 16, 3) := by decide +kernel
theorem dX5_foreseeEnds_4 : decode cX5_foreseeEnds 4 = .ok (.aload_n 0, 1) := by decide +kernel
theorem dX5_foreseeEnds_5 : decode cX5_foreseeEnds 5 = .ok (.getfield 10, 3) := by decide +kernel
theorem dX5_foreseeEnds_8 : decode cX5_foreseeEnds 8 = .ok (.invokevirtual 185, 3) := by decide +kernel
theorem dX5_foreseeEnds_11 : decode cX5_foreseeEnds 11 = .ok (.iconst 0, 1) := by decide +kernel
theorem dX5_foreseeEnds_12 : decode cX5_foreseeEnds 12 = .ok (.istore_n 1, 1) := by decide +kernel
theorem dX5_foreseeEnds_13 : decode cX5_foreseeEnds 13 = .ok (.iload_n 1, 1) := by decide +kernel
theorem dX5_foreseeEnds_14 : decode cX5_foreseeEnds 14 = .ok (.aload_n 0, 1) := by decide +kernel
theorem dX5_foreseeEnds_15 : decode cX5_foreseeEnds 15 = .ok (.getfield 34, 3) := by decide +kernel
theorem dX5_foreseeEnds_18 : decode cX5_foreseeEnds 18 = .ok (.arraylength, 1) := by decide +kernel
theorem dX5_foreseeEnds_19 : decode cX5_foreseeEnds 19 = .ok (.if_icmp .ge 16, 3) := by decide +kernel
theorem dX5_foreseeEnds_22 : decode cX5_foreseeEnds 22 = .ok (.aload_n 0, 1) := by decide +kernel
theorem dX5_foreseeEnds_23 : decode cX5_foreseeEnds 23 = .ok (.getfield 34, 3) := by decide +kernel
theorem dX5_foreseeEnds_26 : decode cX5_foreseeEnds 26 = .ok (.iload_n 1, 1) := by decide +kernel
theorem dX5_foreseeEnds_27 : decode cX5_foreseeEnds 27 = .ok (.iconst (-1), 1) := by decide +kernel
theorem dX5_foreseeEnds_28 : decode cX5_foreseeEnds 28 = .ok (.iastore, 1) := by decide +kernel
theorem dX5_foreseeEnds_29 : decode cX5_foreseeEnds 29 = .ok (.iinc 1 1, 3) := by decide +kernel
theorem dX5_foreseeEnds_32 : decode cX5_foreseeEnds 32 = .ok (.goto (-19), 3) := by decide +kernel
theorem dX5_foreseeEnds_35 : decode cX5_foreseeEnds 35 = .ok (.iconst 1, 1) := by decide +kernel
theorem dX5_foreseeEnds_36 : decode cX5_foreseeEnds 36 = .ok (.istore_n 1, 1) := by decide +kernel
theorem dX5_foreseeEnds_37 : decode cX5_foreseeEnds 37 = .ok (.iconst 1, 1) := by decide +kernel
theorem dX5_foreseeEnds_38 : decode cX5_foreseeEnds 38 = .ok (.istore_n 2, 1) := by decide +kernel
theorem dX5_foreseeEnds_39 : decode cX5_foreseeEnds 39 = .ok (.iload_n 2, 1) := by decide +kernel
theorem dX5_foreseeEnds_40 : decode cX5_foreseeEnds 40 = .ok (.sipush 200, 3) := by decide +kernel
theorem dX5_foreseeEnds_43 : decode cX5_foreseeEnds 43 = .ok (.if_icmp .gt 53, 3) := by decide +kernel
theorem dX5_foreseeEnds_46 : decode cX5_foreseeEnds 46 = .ok (.iload_n 1, 1) := by decide +kernel
theorem dX5_foreseeEnds_47 : decode cX5_foreseeEnds 47 = .ok (.ifCond .eq 49, 3) := by decide +kernel
theorem dX5_foreseeEnds_50 : decode cX5_foreseeEnds 50 = .ok (.aload_n 0, 1) := by decide +kernel
theorem dX5_foreseeEnds_51 : decode cX5_foreseeEnds 51 = .ok (.getfield 16, 3) := by decide +kernel
theorem dX5_foreseeEnds_54 : decode cX5_foreseeEnds 54 = .ok (.getfield 151, 3) := by decide +kernel
theorem dX5_foreseeEnds_57 : decode cX5_foreseeEnds 57 = .ok (.istore_n 3, 1) := by decide +kernel
theorem dX5_foreseeEnds_58 : decode cX5_foreseeEnds 58 = .ok (.aload_n 0, 1) := by decide +kernel
theorem dX5_foreseeEnds_59 : decode cX5_foreseeEnds 59 = .ok (.getfield 16, 3) := by decide +kernel
theorem dX5_foreseeEnds_62 : decode cX5_foreseeEnds 62 = .ok (.invokevirtual 154, 3) := by decide +kernel
theorem dX5_foreseeEnds_65 : decode cX5_foreseeEnds 65 = .ok (.ifCond .le 7, 3) := by decide +kernel
theorem dX5_foreseeEnds_68 : decode cX5_foreseeEnds 68 = .ok (.iconst 1, 1) := by decide +kernel
theorem dX5_foreseeEnds_69 : decode cX5_foreseeEnds 69 = .ok (.goto 4, 3) := by decide +kernel
theorem dX5_foreseeEnds_72 : decode cX5_foreseeEnds 72 = .ok (.iconst 0, 1) := by decide +kernel
theorem dX5_foreseeEnds_73 : decode cX5_foreseeEnds 73 = .ok (.istore_n 1, 1) := by decide +kernel
theorem dX5_foreseeEnds_74 : decode cX5_foreseeEnds 74 = .ok (.aload_n 0, 1) := by decide +kernel
theorem dX5_foreseeEnds_75 : decode cX5_foreseeEnds 75 = .ok (.getfield 16, 3) := by decide +kernel
theorem dX5_foreseeEnds_78 : decode cX5_foreseeEnds 78 = .ok (.getfield 151, 3) := by decide +kernel
theorem dX5_foreseeEnds_81 : decode cX5_foreseeEnds 81 = .ok (.iload_n 3, 1) := by decide +kernel
theorem dX5_foreseeEnds_82 : decode cX5_foreseeEnds 82 = .ok (.if_icmp .eq 8, 3) := by decide +kernel
theorem dX5_foreseeEnds_85 : decode cX5_foreseeEnds 85 = .ok (.aload_n 0, 1) := by decide +kernel
theorem dX5_foreseeEnds_86 : decode cX5_foreseeEnds 86 = .ok (.iload_n 2, 1) := by decide +kernel
theorem dX5_foreseeEnds_87 : decode cX5_foreseeEnds 87 = .ok (.invokevirtual 297, 3) := by decide +kernel
theorem dX5_foreseeEnds_90 : decode cX5_foreseeEnds 90 = .ok (.iinc 2 1, 3) := by decide +kernel
theorem dX5_foreseeEnds_93 : decode cX5_foreseeEnds 93 = .ok (.goto (-54), 3) := by decide +kernel
theorem dX5_foreseeEnds_96 : decode cX5_foreseeEnds 96 = .ok (.return_, 1) := by decide +kernel
theorem dX5_noteEnds_0 : decode cX5_noteEnds 0 = .ok (.iconst 0, 1) := by decide +kernel
theorem dX5_noteEnds_1 : decode cX5_noteEnds 1 = .ok (.istore_n 2, 1) := by decide +kernel
theorem dX5_noteEnds_2 : decode cX5_noteEnds 2 = .ok (.iload_n 2, 1) := by decide +kernel
theorem dX5_noteEnds_3 : decode cX5_noteEnds 3 = .ok (.aload_n 0, 1) := by decide +kernel
theorem dX5_noteEnds_4 : decode cX5_noteEnds 4 = .ok (.getfield 34, 3) := by decide +kernel
theorem dX5_noteEnds_7 : decode cX5_noteEnds 7 = .ok (.arraylength, 1) := by decide +kernel
theorem dX5_noteEnds_8 : decode cX5_noteEnds 8 = .ok (.if_icmp .ge 54, 3) := by decide +kernel
theorem dX5_noteEnds_11 : decode cX5_noteEnds 11 = .ok (.aload_n 0, 1) := by decide +kernel
theorem dX5_noteEnds_12 : decode cX5_noteEnds 12 = .ok (.getfield 10, 3) := by decide +kernel
theorem dX5_noteEnds_15 : decode cX5_noteEnds 15 = .ok (.iload_n 2, 1) := by decide +kernel
theorem dX5_noteEnds_16 : decode cX5_noteEnds 16 = .ok (.invokevirtual 201, 3) := by decide +kernel
theorem dX5_noteEnds_19 : decode cX5_noteEnds 19 = .ok (.astore_n 3, 1) := by decide +kernel
theorem dX5_noteEnds_20 : decode cX5_noteEnds 20 = .ok (.aload_n 3, 1) := by decide +kernel
theorem dX5_noteEnds_21 : decode cX5_noteEnds 21 = .ok (.ifnull 35, 3) := by decide +kernel
theorem dX5_noteEnds_24 : decode cX5_noteEnds 24 = .ok (.aload_n 0, 1) := by decide +kernel
theorem dX5_noteEnds_25 : decode cX5_noteEnds 25 = .ok (.getfield 34, 3) := by decide +kernel
theorem dX5_noteEnds_28 : decode cX5_noteEnds 28 = .ok (.iload_n 2, 1) := by decide +kernel
theorem dX5_noteEnds_29 : decode cX5_noteEnds 29 = .ok (.iaload, 1) := by decide +kernel
theorem dX5_noteEnds_30 : decode cX5_noteEnds 30 = .ok (.iconst (-1), 1) := by decide +kernel
theorem dX5_noteEnds_31 : decode cX5_noteEnds 31 = .ok (.if_icmp .ne 25, 3) := by decide +kernel
theorem dX5_noteEnds_34 : decode cX5_noteEnds 34 = .ok (.aload_n 0, 1) := by decide +kernel
theorem dX5_noteEnds_35 : decode cX5_noteEnds 35 = .ok (.getfield 16, 3) := by decide +kernel
theorem dX5_noteEnds_38 : decode cX5_noteEnds 38 = .ok (.aload_n 3, 1) := by decide +kernel
theorem dX5_noteEnds_39 : decode cX5_noteEnds 39 = .ok (.getfield 300, 3) := by decide +kernel
theorem dX5_noteEnds_42 : decode cX5_noteEnds 42 = .ok (.invokevirtual 226, 3) := by decide +kernel
theorem dX5_noteEnds_45 : decode cX5_noteEnds 45 = .ok (.iconst (-1), 1) := by decide +kernel
theorem dX5_noteEnds_46 : decode cX5_noteEnds 46 = .ok (.if_icmp .ne 10, 3) := by decide +kernel
theorem dX5_noteEnds_49 : decode cX5_noteEnds 49 = .ok (.aload_n 0, 1) := by decide +kernel
theorem dX5_noteEnds_50 : decode cX5_noteEnds 50 = .ok (.getfield 34, 3) := by decide +kernel
theorem dX5_noteEnds_53 : decode cX5_noteEnds 53 = .ok (.iload_n 2, 1) := by decide +kernel
theorem dX5_noteEnds_54 : decode cX5_noteEnds 54 = .ok (.iload_n 1, 1) := by decide +kernel
theorem dX5_noteEnds_55 : decode cX5_noteEnds 55 = .ok (.iastore, 1) := by decide +kernel
theorem dX5_noteEnds_56 : decode cX5_noteEnds 56 = .ok (.iinc 2 1, 3) := by decide +kernel
theorem dX5_noteEnds_59 : decode cX5_noteEnds 59 = .ok (.goto (-57), 3) := by decide +kernel
theorem dX5_noteEnds_62 : decode cX5_noteEnds 62 = .ok (.return_, 1) := by decide +kernel
theorem dX5_bestRuleFor_0 : decode cX5_bestRuleFor 0 = .ok (.iconst (-1), 1) := by decide +kernel
theorem dX5_bestRuleFor_1 : decode cX5_bestRuleFor 1 = .ok (.istore_n 2, 1) := by decide +kernel
theorem dX5_bestRuleFor_2 : decode cX5_bestRuleFor 2 = .ok (.iconst 0, 1) := by decide +kernel
theorem dX5_bestRuleFor_3 : decode cX5_bestRuleFor 3 = .ok (.istore_n 3, 1) := by decide +kernel
theorem dX5_bestRuleFor_4 : decode cX5_bestRuleFor 4 = .ok (.iconst 0, 1) := by decide +kernel
theorem dX5_bestRuleFor_5 : decode cX5_bestRuleFor 5 = .ok (.istore 4, 2) := by decide +kernel
theorem dX5_bestRuleFor_7 : decode cX5_bestRuleFor 7 = .ok (.iconst 0, 1) := by decide +kernel
theorem dX5_bestRuleFor_8 : decode cX5_bestRuleFor 8 = .ok (.istore 5, 2) := by decide +kernel
theorem dX5_bestRuleFor_10 : decode cX5_bestRuleFor 10 = .ok (.iload 5, 2) := by decide +kernel
theorem dX5_bestRuleFor_12 : decode cX5_bestRuleFor 12 = .ok (.getstatic 136, 3) := by decide +kernel
theorem dX5_bestRuleFor_15 : decode cX5_bestRuleFor 15 = .ok (.iconst 0, 1) := by decide +kernel
theorem dX5_bestRuleFor_16 : decode cX5_bestRuleFor 16 = .ok (.iaload, 1) := by decide +kernel
theorem dX5_bestRuleFor_17 : decode cX5_bestRuleFor 17 = .ok (.if_icmp .gt 110, 3) := by decide +kernel
theorem dX5_bestRuleFor_20 : decode cX5_bestRuleFor 20 = .ok (.aload_n 0, 1) := by decide +kernel
theorem dX5_bestRuleFor_21 : decode cX5_bestRuleFor 21 = .ok (.getfield 16, 3) := by decide +kernel
theorem dX5_bestRuleFor_24 : decode cX5_bestRuleFor 24 = .ok (.aload_n 0, 1) := by decide +kernel
theorem dX5_bestRuleFor_25 : decode cX5_bestRuleFor 25 = .ok (.getfield 10, 3) := by decide +kernel
theorem dX5_bestRuleFor_28 : decode cX5_bestRuleFor 28 = .ok (.invokevirtual 185, 3) := by decide +kernel
theorem dX5_bestRuleFor_31 : decode cX5_bestRuleFor 31 = .ok (.aload_n 0, 1) := by decide +kernel
theorem dX5_bestRuleFor_32 : decode cX5_bestRuleFor 32 = .ok (.getfield 16, 3) := by decide +kernel
theorem dX5_bestRuleFor_35 : decode cX5_bestRuleFor 35 = .ok (.getfield 141, 3) := by decide +kernel
theorem dX5_bestRuleFor_38 : decode cX5_bestRuleFor 38 = .ok (.iconst 0, 1) := by decide +kernel
theorem dX5_bestRuleFor_39 : decode cX5_bestRuleFor 39 = .ok (.iload 5, 2) := by decide +kernel
theorem dX5_bestRuleFor_41 : decode cX5_bestRuleFor 41 = .ok (.iastore, 1) := by decide +kernel
theorem dX5_bestRuleFor_42 : decode cX5_bestRuleFor 42 = .ok (.aload_n 0, 1) := by decide +kernel
theorem dX5_bestRuleFor_43 : decode cX5_bestRuleFor 43 = .ok (.getfield 16, 3) := by decide +kernel
theorem dX5_bestRuleFor_46 : decode cX5_bestRuleFor 46 = .ok (.iload_n 1, 1) := by decide +kernel
theorem dX5_bestRuleFor_47 : decode cX5_bestRuleFor 47 = .ok (.invokevirtual 284, 3) := by decide +kernel
theorem dX5_bestRuleFor_50 : decode cX5_bestRuleFor 50 = .ok (.aload_n 0, 1) := by decide +kernel
theorem dX5_bestRuleFor_51 : decode cX5_bestRuleFor 51 = .ok (.getfield 16, 3) := by decide +kernel
theorem dX5_bestRuleFor_54 : decode cX5_bestRuleFor 54 = .ok (.getfield 288, 3) := by decide +kernel
theorem dX5_bestRuleFor_57 : decode cX5_bestRuleFor 57 = .ok (.iload_n 3, 1) := by decide +kernel
theorem dX5_bestRuleFor_58 : decode cX5_bestRuleFor 58 = .ok (.if_icmp .gt 26, 3) := by decide +kernel
theorem dX5_bestRuleFor_61 : decode cX5_bestRuleFor 61 = .ok (.aload_n 0, 1) := by decide +kernel
theorem dX5_bestRuleFor_62 : decode cX5_bestRuleFor 62 = .ok (.getfield 16, 3) := by decide +kernel
theorem dX5_bestRuleFor_65 : decode cX5_bestRuleFor 65 = .ok (.getfield 288, 3) := by decide +kernel
theorem dX5_bestRuleFor_68 : decode cX5_bestRuleFor 68 = .ok (.iload_n 3, 1) := by decide +kernel
theorem dX5_bestRuleFor_69 : decode cX5_bestRuleFor 69 = .ok (.if_icmp .ne 19, 3) := by decide +kernel
theorem dX5_bestRuleFor_72 : decode cX5_bestRuleFor 72 = .ok (.aload_n 0, 1) := by decide +kernel
theorem dX5_bestRuleFor_73 : decode cX5_bestRuleFor 73 = .ok (.getfield 16, 3) := by decide +kernel
theorem dX5_bestRuleFor_76 : decode cX5_bestRuleFor 76 = .ok (.getfield 294, 3) := by decide +kernel
theorem dX5_bestRuleFor_79 : decode cX5_bestRuleFor 79 = .ok (.iload 4, 2) := by decide +kernel
theorem dX5_bestRuleFor_81 : decode cX5_bestRuleFor 81 = .ok (.if_icmp .ge 7, 3) := by decide +kernel
theorem dX5_bestRuleFor_84 : decode cX5_bestRuleFor 84 = .ok (.iconst 1, 1) := by decide +kernel
theorem dX5_bestRuleFor_85 : decode cX5_bestRuleFor 85 = .ok (.goto 4, 3) := by decide +kernel
theorem dX5_bestRuleFor_88 : decode cX5_bestRuleFor 88 = .ok (.iconst 0, 1) := by decide +kernel
theorem dX5_bestRuleFor_89 : decode cX5_bestRuleFor 89 = .ok (.istore 6, 2) := by decide +kernel
theorem dX5_bestRuleFor_91 : decode cX5_bestRuleFor 91 = .ok (.iload_n 2, 1) := by decide +kernel
theorem dX5_bestRuleFor_92 : decode cX5_bestRuleFor 92 = .ok (.iconst (-1), 1) := by decide +kernel
theorem dX5_bestRuleFor_93 : decode cX5_bestRuleFor 93 = .ok (.if_icmp .eq 8, 3) := by decide +kernel
theorem dX5_bestRuleFor_96 : decode cX5_bestRuleFor 96 = .ok (.iload 6, 2) := by decide +kernel
theorem dX5_bestRuleFor_98 : decode cX5_bestRuleFor 98 = .ok (.ifCond .eq 23, 3) := by decide +kernel
theorem dX5_bestRuleFor_101 : decode cX5_bestRuleFor 101 = .ok (.iload 5, 2) := by decide +kernel
theorem dX5_bestRuleFor_103 : decode cX5_bestRuleFor 103 = .ok (.istore_n 2, 1) := by decide +kernel
theorem dX5_bestRuleFor_104 : decode cX5_bestRuleFor 104 = .ok (.aload_n 0, 1) := by decide +kernel
theorem dX5_bestRuleFor_105 : decode cX5_bestRuleFor 105 = .ok (.getfield 16, 3) := by decide +kernel
theorem dX5_bestRuleFor_108 : decode cX5_bestRuleFor 108 = .ok (.getfield 288, 3) := by decide +kernel
theorem dX5_bestRuleFor_111 : decode cX5_bestRuleFor 111 = .ok (.istore_n 3, 1) := by decide +kernel
theorem dX5_bestRuleFor_112 : decode cX5_bestRuleFor 112 = .ok (.aload_n 0, 1) := by decide +kernel
theorem dX5_bestRuleFor_113 : decode cX5_bestRuleFor 113 = .ok (.getfield 16, 3) := by decide +kernel
theorem dX5_bestRuleFor_116 : decode cX5_bestRuleFor 116 = .ok (.getfield 294, 3) := by decide +kernel
theorem dX5_bestRuleFor_119 : decode cX5_bestRuleFor 119 = .ok (.istore 4, 2) := by decide +kernel
theorem dX5_bestRuleFor_121 : decode cX5_bestRuleFor 121 = .ok (.iinc 5 1, 3) := by decide +kernel
theorem dX5_bestRuleFor_124 : decode cX5_bestRuleFor 124 = .ok (.goto (-114), 3) := by decide +kernel
theorem dX5_bestRuleFor_127 : decode cX5_bestRuleFor 127 = .ok (.iload_n 2, 1) := by decide +kernel
theorem dX5_bestRuleFor_128 : decode cX5_bestRuleFor 128 = .ok (.ireturn, 1) := by decide +kernel
theorem dX5_mixed_0 : decode cX5_mixed 0 = .ok (.ldc2_w 302, 3) := by decide +kernel
theorem dX5_mixed_3 : decode cX5_mixed 3 = .ok (.lload_n 0, 1) := by decide +kernel
theorem dX5_mixed_4 : decode cX5_mixed 4 = .ok (.lmul, 1) := by decide +kernel
theorem dX5_mixed_5 : decode cX5_mixed 5 = .ok (.lload_n 2, 1) := by decide +kernel
theorem dX5_mixed_6 : decode cX5_mixed 6 = .ok (.ladd, 1) := by decide +kernel
theorem dX5_mixed_7 : decode cX5_mixed 7 = .ok (.lreturn, 1) := by decide +kernel
theorem dX5_hashCounts_0 : decode cX5_hashCounts 0 = .ok (.lload_n 1, 1) := by decide +kernel
theorem dX5_hashCounts_1 : decode cX5_hashCounts 1 = .ok (.lstore_n 3, 1) := by decide +kernel
theorem dX5_hashCounts_2 : decode cX5_hashCounts 2 = .ok (.iconst 0, 1) := by decide +kernel
theorem dX5_hashCounts_3 : decode cX5_hashCounts 3 = .ok (.istore 5, 2) := by decide +kernel
theorem dX5_hashCounts_5 : decode cX5_hashCounts 5 = .ok (.iload 5, 2) := by decide +kernel
theorem dX5_hashCounts_7 : decode cX5_hashCounts 7 = .ok (.bipush 12, 2) := by decide +kernel
theorem dX5_hashCounts_9 : decode cX5_hashCounts 9 = .ok (.if_icmp .ge 21, 3) := by decide +kernel
theorem dX5_hashCounts_12 : decode cX5_hashCounts 12 = .ok (.lload_n 3, 1) := by decide +kernel
theorem dX5_hashCounts_13 : decode cX5_hashCounts 13 = .ok (.aload_n 0, 1) := by decide +kernel
theorem dX5_hashCounts_14 : decode cX5_hashCounts 14 = .ok (.iload 5, 2) := by decide +kernel
theorem dX5_hashCounts_16 : decode cX5_hashCounts 16 = .ok (.invokevirtual 218, 3) := by decide +kernel
theorem dX5_hashCounts_19 : decode cX5_hashCounts 19 = .ok (.i2l, 1) := by decide +kernel
theorem dX5_hashCounts_20 : decode cX5_hashCounts 20 = .ok (.invokestatic 254, 3) := by decide +kernel
theorem dX5_hashCounts_23 : decode cX5_hashCounts 23 = .ok (.lstore_n 3, 1) := by decide +kernel
theorem dX5_hashCounts_24 : decode cX5_hashCounts 24 = .ok (.iinc 5 1, 3) := by decide +kernel
theorem dX5_hashCounts_27 : decode cX5_hashCounts 27 = .ok (.goto (-22), 3) := by decide +kernel
theorem dX5_hashCounts_30 : decode cX5_hashCounts 30 = .ok (.iconst 0, 1) := by decide +kernel
theorem dX5_hashCounts_31 : decode cX5_hashCounts 31 = .ok (.istore 5, 2) := by decide +kernel
theorem dX5_hashCounts_33 : decode cX5_hashCounts 33 = .ok (.iload 5, 2) := by decide +kernel
theorem dX5_hashCounts_35 : decode cX5_hashCounts 35 = .ok (.iconst 4, 1) := by decide +kernel
theorem dX5_hashCounts_36 : decode cX5_hashCounts 36 = .ok (.if_icmp .ge 25, 3) := by decide +kernel
theorem dX5_hashCounts_39 : decode cX5_hashCounts 39 = .ok (.lload_n 3, 1) := by decide +kernel
theorem dX5_hashCounts_40 : decode cX5_hashCounts 40 = .ok (.aload_n 0, 1) := by decide +kernel
theorem dX5_hashCounts_41 : decode cX5_hashCounts 41 = .ok (.getfield 10, 3) := by decide +kernel
theorem dX5_hashCounts_44 : decode cX5_hashCounts 44 = .ok (.getfield 141, 3) := by decide +kernel
theorem dX5_hashCounts_47 : decode cX5_hashCounts 47 = .ok (.iload 5, 2) := by decide +kernel
theorem dX5_hashCounts_49 : decode cX5_hashCounts 49 = .ok (.iaload, 1) := by decide +kernel
theorem dX5_hashCounts_50 : decode cX5_hashCounts 50 = .ok (.i2l, 1) := by decide +kernel
theorem dX5_hashCounts_51 : decode cX5_hashCounts 51 = .ok (.invokestatic 254, 3) := by decide +kernel
theorem dX5_hashCounts_54 : decode cX5_hashCounts 54 = .ok (.lstore_n 3, 1) := by decide +kernel
theorem dX5_hashCounts_55 : decode cX5_hashCounts 55 = .ok (.iinc 5 1, 3) := by decide +kernel
theorem dX5_hashCounts_58 : decode cX5_hashCounts 58 = .ok (.goto (-25), 3) := by decide +kernel
theorem dX5_hashCounts_61 : decode cX5_hashCounts 61 = .ok (.lload_n 3, 1) := by decide +kernel
theorem dX5_hashCounts_62 : decode cX5_hashCounts 62 = .ok (.lreturn, 1) := by decide +kernel
theorem dX5_hashWeavers_0 : decode cX5_hashWeavers 0 = .ok (.lload_n 1, 1) := by decide +kernel
theorem dX5_hashWeavers_1 : decode cX5_hashWeavers 1 = .ok (.lstore_n 3, 1) := by decide +kernel
theorem dX5_hashWeavers_2 : decode cX5_hashWeavers 2 = .ok (.iconst 0, 1) := by decide +kernel
theorem dX5_hashWeavers_3 : decode cX5_hashWeavers 3 = .ok (.istore 5, 2) := by decide +kernel
theorem dX5_hashWeavers_5 : decode cX5_hashWeavers 5 = .ok (.iload 5, 2) := by decide +kernel
theorem dX5_hashWeavers_7 : decode cX5_hashWeavers 7 = .ok (.bipush 6, 2) := by decide +kernel
theorem dX5_hashWeavers_9 : decode cX5_hashWeavers 9 = .ok (.if_icmp .ge 111, 3) := by decide +kernel
theorem dX5_hashWeavers_12 : decode cX5_hashWeavers 12 = .ok (.aload_n 0, 1) := by decide +kernel
theorem dX5_hashWeavers_13 : decode cX5_hashWeavers 13 = .ok (.getfield 10, 3) := by decide +kernel
theorem dX5_hashWeavers_16 : decode cX5_hashWeavers 16 = .ok (.getfield 59, 3) := by decide +kernel
theorem dX5_hashWeavers_19 : decode cX5_hashWeavers 19 = .ok (.iload 5, 2) := by decide +kernel
theorem dX5_hashWeavers_21 : decode cX5_hashWeavers 21 = .ok (.aaload, 1) := by decide +kernel
theorem dX5_hashWeavers_22 : decode cX5_hashWeavers 22 = .ok (.astore 6, 2) := by decide +kernel
theorem dX5_hashWeavers_24 : decode cX5_hashWeavers 24 = .ok (.iconst 0, 1) := by decide +kernel
theorem dX5_hashWeavers_25 : decode cX5_hashWeavers 25 = .ok (.istore 7, 2) := by decide +kernel
theorem dX5_hashWeavers_27 : decode cX5_hashWeavers 27 = .ok (.iload 7, 2) := by decide +kernel
theorem dX5_hashWeavers_29 : decode cX5_hashWeavers 29 = .ok (.bipush 8, 2) := by decide +kernel
theorem dX5_hashWeavers_31 : decode cX5_hashWeavers 31 = .ok (.if_icmp .ge 22, 3) := by decide +kernel
theorem dX5_hashWeavers_34 : decode cX5_hashWeavers 34 = .ok (.lload_n 3, 1) := by decide +kernel
theorem dX5_hashWeavers_35 : decode cX5_hashWeavers 35 = .ok (.aload 6, 2) := by decide +kernel
theorem dX5_hashWeavers_37 : decode cX5_hashWeavers 37 = .ok (.iload 7, 2) := by decide +kernel
theorem dX5_hashWeavers_39 : decode cX5_hashWeavers 39 = .ok (.invokevirtual 191, 3) := by decide +kernel
theorem dX5_hashWeavers_42 : decode cX5_hashWeavers 42 = .ok (.i2l, 1) := by decide +kernel
theorem dX5_hashWeavers_43 : decode cX5_hashWeavers 43 = .ok (.invokestatic 254, 3) := by decide +kernel
theorem dX5_hashWeavers_46 : decode cX5_hashWeavers 46 = .ok (.lstore_n 3, 1) := by decide +kernel
theorem dX5_hashWeavers_47 : decode cX5_hashWeavers 47 = .ok (.iinc 7 1, 3) := by decide +kernel
theorem dX5_hashWeavers_50 : decode cX5_hashWeavers 50 = .ok (.goto (-23), 3) := by decide +kernel
theorem dX5_hashWeavers_53 : decode cX5_hashWeavers 53 = .ok (.iconst 0, 1) := by decide +kernel
theorem dX5_hashWeavers_54 : decode cX5_hashWeavers 54 = .ok (.istore 7, 2) := by decide +kernel
theorem dX5_hashWeavers_56 : decode cX5_hashWeavers 56 = .ok (.iload 7, 2) := by decide +kernel
theorem dX5_hashWeavers_58 : decode cX5_hashWeavers 58 = .ok (.iconst 4, 1) := by decide +kernel
theorem dX5_hashWeavers_59 : decode cX5_hashWeavers 59 = .ok (.if_icmp .ge 25, 3) := by decide +kernel
theorem dX5_hashWeavers_62 : decode cX5_hashWeavers 62 = .ok (.lload_n 3, 1) := by decide +kernel
theorem dX5_hashWeavers_63 : decode cX5_hashWeavers 63 = .ok (.aload 6, 2) := by decide +kernel
theorem dX5_hashWeavers_65 : decode cX5_hashWeavers 65 = .ok (.getfield 79, 3) := by decide +kernel
theorem dX5_hashWeavers_68 : decode cX5_hashWeavers 68 = .ok (.iload 7, 2) := by decide +kernel
theorem dX5_hashWeavers_70 : decode cX5_hashWeavers 70 = .ok (.invokevirtual 83, 3) := by decide +kernel
theorem dX5_hashWeavers_73 : decode cX5_hashWeavers 73 = .ok (.i2l, 1) := by decide +kernel
theorem dX5_hashWeavers_74 : decode cX5_hashWeavers 74 = .ok (.invokestatic 254, 3) := by decide +kernel
theorem dX5_hashWeavers_77 : decode cX5_hashWeavers 77 = .ok (.lstore_n 3, 1) := by decide +kernel
theorem dX5_hashWeavers_78 : decode cX5_hashWeavers 78 = .ok (.iinc 7 1, 3) := by decide +kernel
theorem dX5_hashWeavers_81 : decode cX5_hashWeavers 81 = .ok (.goto (-25), 3) := by decide +kernel
theorem dX5_hashWeavers_84 : decode cX5_hashWeavers 84 = .ok (.lload_n 3, 1) := by decide +kernel
theorem dX5_hashWeavers_85 : decode cX5_hashWeavers 85 = .ok (.aload_n 0, 1) := by decide +kernel
theorem dX5_hashWeavers_86 : decode cX5_hashWeavers 86 = .ok (.getfield 10, 3) := by decide +kernel
theorem dX5_hashWeavers_89 : decode cX5_hashWeavers 89 = .ok (.aload 6, 2) := by decide +kernel
theorem dX5_hashWeavers_91 : decode cX5_hashWeavers 91 = .ok (.invokevirtual 209, 3) := by decide +kernel
theorem dX5_hashWeavers_94 : decode cX5_hashWeavers 94 = .ok (.i2l, 1) := by decide +kernel
theorem dX5_hashWeavers_95 : decode cX5_hashWeavers 95 = .ok (.invokestatic 254, 3) := by decide +kernel
theorem dX5_hashWeavers_98 : decode cX5_hashWeavers 98 = .ok (.lstore_n 3, 1) := by decide +kernel
theorem dX5_hashWeavers_99 : decode cX5_hashWeavers 99 = .ok (.lload_n 3, 1) := by decide +kernel
theorem dX5_hashWeavers_100 : decode cX5_hashWeavers 100 = .ok (.aload_n 0, 1) := by decide +kernel
theorem dX5_hashWeavers_101 : decode cX5_hashWeavers 101 = .ok (.getfield 10, 3) := by decide +kernel
theorem dX5_hashWeavers_104 : decode cX5_hashWeavers 104 = .ok (.aload 6, 2) := by decide +kernel
theorem dX5_hashWeavers_106 : decode cX5_hashWeavers 106 = .ok (.invokevirtual 213, 3) := by decide +kernel
theorem dX5_hashWeavers_109 : decode cX5_hashWeavers 109 = .ok (.i2l, 1) := by decide +kernel
theorem dX5_hashWeavers_110 : decode cX5_hashWeavers 110 = .ok (.invokestatic 254, 3) := by decide +kernel
theorem dX5_hashWeavers_113 : decode cX5_hashWeavers 113 = .ok (.lstore_n 3, 1) := by decide +kernel
theorem dX5_hashWeavers_114 : decode cX5_hashWeavers 114 = .ok (.iinc 5 1, 3) := by decide +kernel
theorem dX5_hashWeavers_117 : decode cX5_hashWeavers 117 = .ok (.goto (-112), 3) := by decide +kernel
theorem dX5_hashWeavers_120 : decode cX5_hashWeavers 120 = .ok (.lload_n 3, 1) := by decide +kernel
theorem dX5_hashWeavers_121 : decode cX5_hashWeavers 121 = .ok (.lreturn, 1) := by decide +kernel
theorem dX5_hashOrders_0 : decode cX5_hashOrders 0 = .ok (.lload_n 1, 1) := by decide +kernel
theorem dX5_hashOrders_1 : decode cX5_hashOrders 1 = .ok (.lstore_n 3, 1) := by decide +kernel
theorem dX5_hashOrders_2 : decode cX5_hashOrders 2 = .ok (.aload_n 0, 1) := by decide +kernel
theorem dX5_hashOrders_3 : decode cX5_hashOrders 3 = .ok (.invokevirtual 229, 3) := by decide +kernel
theorem dX5_hashOrders_6 : decode cX5_hashOrders 6 = .ok (.iconst 0, 1) := by decide +kernel
theorem dX5_hashOrders_7 : decode cX5_hashOrders 7 = .ok (.istore 5, 2) := by decide +kernel
theorem dX5_hashOrders_9 : decode cX5_hashOrders 9 = .ok (.iload 5, 2) := by decide +kernel
theorem dX5_hashOrders_11 : decode cX5_hashOrders 11 = .ok (.aload_n 0, 1) := by decide +kernel
theorem dX5_hashOrders_12 : decode cX5_hashOrders 12 = .ok (.getfield 10, 3) := by decide +kernel
theorem dX5_hashOrders_15 : decode cX5_hashOrders 15 = .ok (.getfield 110, 3) := by decide +kernel
theorem dX5_hashOrders_18 : decode cX5_hashOrders 18 = .ok (.if_icmp .ge 120, 3) := by decide +kernel
theorem dX5_hashOrders_21 : decode cX5_hashOrders 21 = .ok (.iload 5, 2) := by decide +kernel
theorem dX5_hashOrders_23 : decode cX5_hashOrders 23 = .ok (.bipush 10, 2) := by decide +kernel
theorem dX5_hashOrders_25 : decode cX5_hashOrders 25 = .ok (.if_icmp .ge 113, 3) := by decide +kernel
theorem dX5_hashOrders_28 : decode cX5_hashOrders 28 = .ok (.aload_n 0, 1) := by decide +kernel
theorem dX5_hashOrders_29 : decode cX5_hashOrders 29 = .ok (.getfield 10, 3) := by decide +kernel
theorem dX5_hashOrders_32 : decode cX5_hashOrders 32 = .ok (.getfield 304, 3) := by decide +kernel
theorem dX5_hashOrders_35 : decode cX5_hashOrders 35 = .ok (.iload 5, 2) := by decide +kernel
theorem dX5_hashOrders_37 : decode cX5_hashOrders 37 = .ok (.aaload, 1) := by decide +kernel
theorem dX5_hashOrders_38 : decode cX5_hashOrders 38 = .ok (.astore 6, 2) := by decide +kernel
theorem dX5_hashOrders_40 : decode cX5_hashOrders 40 = .ok (.iconst 0, 1) := by decide +kernel
theorem dX5_hashOrders_41 : decode cX5_hashOrders 41 = .ok (.istore 7, 2) := by decide +kernel
theorem dX5_hashOrders_43 : decode cX5_hashOrders 43 = .ok (.iload 7, 2) := by decide +kernel
theorem dX5_hashOrders_45 : decode cX5_hashOrders 45 = .ok (.bipush 9, 2) := by decide +kernel
theorem dX5_hashOrders_47 : decode cX5_hashOrders 47 = .ok (.if_icmp .ge 26, 3) := by decide +kernel
theorem dX5_hashOrders_50 : decode cX5_hashOrders 50 = .ok (.lload_n 3, 1) := by decide +kernel
theorem dX5_hashOrders_51 : decode cX5_hashOrders 51 = .ok (.aload_n 0, 1) := by decide +kernel
theorem dX5_hashOrders_52 : decode cX5_hashOrders 52 = .ok (.getfield 10, 3) := by decide +kernel
theorem dX5_hashOrders_55 : decode cX5_hashOrders 55 = .ok (.iload 5, 2) := by decide +kernel
theorem dX5_hashOrders_57 : decode cX5_hashOrders 57 = .ok (.iload 7, 2) := by decide +kernel
theorem dX5_hashOrders_59 : decode cX5_hashOrders 59 = .ok (.invokevirtual 196, 3) := by decide +kernel
theorem dX5_hashOrders_62 : decode cX5_hashOrders 62 = .ok (.i2l, 1) := by decide +kernel
theorem dX5_hashOrders_63 : decode cX5_hashOrders 63 = .ok (.invokestatic 254, 3) := by decide +kernel
theorem dX5_hashOrders_66 : decode cX5_hashOrders 66 = .ok (.lstore_n 3, 1) := by decide +kernel
theorem dX5_hashOrders_67 : decode cX5_hashOrders 67 = .ok (.iinc 7 1, 3) := by decide +kernel
theorem dX5_hashOrders_70 : decode cX5_hashOrders 70 = .ok (.goto (-27), 3) := by decide +kernel
theorem dX5_hashOrders_73 : decode cX5_hashOrders 73 = .ok (.iconst 0, 1) := by decide +kernel
theorem dX5_hashOrders_74 : decode cX5_hashOrders 74 = .ok (.istore 7, 2) := by decide +kernel
theorem dX5_hashOrders_76 : decode cX5_hashOrders 76 = .ok (.iload 7, 2) := by decide +kernel
theorem dX5_hashOrders_78 : decode cX5_hashOrders 78 = .ok (.bipush 6, 2) := by decide +kernel
theorem dX5_hashOrders_80 : decode cX5_hashOrders 80 = .ok (.if_icmp .ge 23, 3) := by decide +kernel
theorem dX5_hashOrders_83 : decode cX5_hashOrders 83 = .ok (.lload_n 3, 1) := by decide +kernel
theorem dX5_hashOrders_84 : decode cX5_hashOrders 84 = .ok (.aload 6, 2) := by decide +kernel
theorem dX5_hashOrders_86 : decode cX5_hashOrders 86 = .ok (.getfield 204, 3) := by decide +kernel
theorem dX5_hashOrders_89 : decode cX5_hashOrders 89 = .ok (.iload 7, 2) := by decide +kernel
theorem dX5_hashOrders_91 : decode cX5_hashOrders 91 = .ok (.iaload, 1) := by decide +kernel
theorem dX5_hashOrders_92 : decode cX5_hashOrders 92 = .ok (.i2l, 1) := by decide +kernel
theorem dX5_hashOrders_93 : decode cX5_hashOrders 93 = .ok (.invokestatic 254, 3) := by decide +kernel
theorem dX5_hashOrders_96 : decode cX5_hashOrders 96 = .ok (.lstore_n 3, 1) := by decide +kernel
theorem dX5_hashOrders_97 : decode cX5_hashOrders 97 = .ok (.iinc 7 1, 3) := by decide +kernel
theorem dX5_hashOrders_100 : decode cX5_hashOrders 100 = .ok (.goto (-24), 3) := by decide +kernel
theorem dX5_hashOrders_103 : decode cX5_hashOrders 103 = .ok (.lload_n 3, 1) := by decide +kernel
theorem dX5_hashOrders_104 : decode cX5_hashOrders 104 = .ok (.aload_n 0, 1) := by decide +kernel
theorem dX5_hashOrders_105 : decode cX5_hashOrders 105 = .ok (.getfield 34, 3) := by decide +kernel
theorem dX5_hashOrders_108 : decode cX5_hashOrders 108 = .ok (.iload 5, 2) := by decide +kernel
theorem dX5_hashOrders_110 : decode cX5_hashOrders 110 = .ok (.iaload, 1) := by decide +kernel
theorem dX5_hashOrders_111 : decode cX5_hashOrders 111 = .ok (.i2l, 1) := by decide +kernel
theorem dX5_hashOrders_112 : decode cX5_hashOrders 112 = .ok (.invokestatic 254, 3) := by decide +kernel
theorem dX5_hashOrders_115 : decode cX5_hashOrders 115 = .ok (.lstore_n 3, 1) := by decide +kernel
theorem dX5_hashOrders_116 : decode cX5_hashOrders 116 = .ok (.lload_n 3, 1) := by decide +kernel
theorem dX5_hashOrders_117 : decode cX5_hashOrders 117 = .ok (.aload_n 0, 1) := by decide +kernel
theorem dX5_hashOrders_118 : decode cX5_hashOrders 118 = .ok (.getfield 10, 3) := by decide +kernel
theorem dX5_hashOrders_121 : decode cX5_hashOrders 121 = .ok (.aload 6, 2) := by decide +kernel
theorem dX5_hashOrders_123 : decode cX5_hashOrders 123 = .ok (.iconst 0, 1) := by decide +kernel
theorem dX5_hashOrders_124 : decode cX5_hashOrders 124 = .ok (.invokevirtual 237, 3) := by decide +kernel
theorem dX5_hashOrders_127 : decode cX5_hashOrders 127 = .ok (.i2l, 1) := by decide +kernel
theorem dX5_hashOrders_128 : decode cX5_hashOrders 128 = .ok (.invokestatic 254, 3) := by decide +kernel
theorem dX5_hashOrders_131 : decode cX5_hashOrders 131 = .ok (.lstore_n 3, 1) := by decide +kernel
theorem dX5_hashOrders_132 : decode cX5_hashOrders 132 = .ok (.iinc 5 1, 3) := by decide +kernel
theorem dX5_hashOrders_135 : decode cX5_hashOrders 135 = .ok (.goto (-126), 3) := by decide +kernel
theorem dX5_hashOrders_138 : decode cX5_hashOrders 138 = .ok (.lload_n 3, 1) := by decide +kernel
theorem dX5_hashOrders_139 : decode cX5_hashOrders 139 = .ok (.lreturn, 1) := by decide +kernel
theorem dX5_bitsOf_0 : decode cX5_bitsOf 0 = .ok (.dload_n 0, 1) := by decide +kernel
theorem dX5_bitsOf_1 : decode cX5_bitsOf 1 = .ok (.dconst 0, 1) := by decide +kernel
theorem dX5_bitsOf_2 : decode cX5_bitsOf 2 = .ok (.dcmp .g, 1) := by decide +kernel
theorem dX5_bitsOf_3 : decode cX5_bitsOf 3 = .ok (.ifCond .gt 5, 3) := by decide +kernel
theorem dX5_bitsOf_6 : decode cX5_bitsOf 6 = .ok (.lconst 0, 1) := by decide +kernel
theorem dX5_bitsOf_7 : decode cX5_bitsOf 7 = .ok (.lreturn, 1) := by decide +kernel
theorem dX5_bitsOf_8 : decode cX5_bitsOf 8 = .ok (.dload_n 0, 1) := by decide +kernel
theorem dX5_bitsOf_9 : decode cX5_bitsOf 9 = .ok (.dstore_n 2, 1) := by decide +kernel
theorem dX5_bitsOf_10 : decode cX5_bitsOf 10 = .ok (.ldc2_w 308, 3) := by decide +kernel
theorem dX5_bitsOf_13 : decode cX5_bitsOf 13 = .ok (.lstore 4, 2) := by decide +kernel
theorem dX5_bitsOf_15 : decode cX5_bitsOf 15 = .ok (.iconst 0, 1) := by decide +kernel
theorem dX5_bitsOf_16 : decode cX5_bitsOf 16 = .ok (.istore 6, 2) := by decide +kernel
theorem dX5_bitsOf_18 : decode cX5_bitsOf 18 = .ok (.iload 6, 2) := by decide +kernel
theorem dX5_bitsOf_20 : decode cX5_bitsOf 20 = .ok (.sipush 1022, 3) := by decide +kernel
theorem dX5_bitsOf_23 : decode cX5_bitsOf 23 = .ok (.if_icmp .ge 27, 3) := by decide +kernel
theorem dX5_bitsOf_26 : decode cX5_bitsOf 26 = .ok (.dload_n 2, 1) := by decide +kernel
theorem dX5_bitsOf_27 : decode cX5_bitsOf 27 = .ok (.dconst 1, 1) := by decide +kernel
theorem dX5_bitsOf_28 : decode cX5_bitsOf 28 = .ok (.dcmp .g, 1) := by decide +kernel
theorem dX5_bitsOf_29 : decode cX5_bitsOf 29 = .ok (.ifCond .ge 21, 3) := by decide +kernel
theorem dX5_bitsOf_32 : decode cX5_bitsOf 32 = .ok (.dload_n 2, 1) := by decide +kernel
theorem dX5_bitsOf_33 : decode cX5_bitsOf 33 = .ok (.ldc2_w 310, 3) := by decide +kernel
theorem dX5_bitsOf_36 : decode cX5_bitsOf 36 = .ok (.dmul, 1) := by decide +kernel
theorem dX5_bitsOf_37 : decode cX5_bitsOf 37 = .ok (.dstore_n 2, 1) := by decide +kernel
theorem dX5_bitsOf_38 : decode cX5_bitsOf 38 = .ok (.lload 4, 2) := by decide +kernel
theorem dX5_bitsOf_40 : decode cX5_bitsOf 40 = .ok (.lconst 1, 1) := by decide +kernel
theorem dX5_bitsOf_41 : decode cX5_bitsOf 41 = .ok (.lsub, 1) := by decide +kernel
theorem dX5_bitsOf_42 : decode cX5_bitsOf 42 = .ok (.lstore 4, 2) := by decide +kernel
theorem dX5_bitsOf_44 : decode cX5_bitsOf 44 = .ok (.iinc 6 1, 3) := by decide +kernel
theorem dX5_bitsOf_47 : decode cX5_bitsOf 47 = .ok (.goto (-29), 3) := by decide +kernel
theorem dX5_bitsOf_50 : decode cX5_bitsOf 50 = .ok (.lload 4, 2) := by decide +kernel
theorem dX5_bitsOf_52 : decode cX5_bitsOf 52 = .ok (.bipush 52, 2) := by decide +kernel
theorem dX5_bitsOf_54 : decode cX5_bitsOf 54 = .ok (.lshl, 1) := by decide +kernel
theorem dX5_bitsOf_55 : decode cX5_bitsOf 55 = .ok (.dload_n 2, 1) := by decide +kernel
theorem dX5_bitsOf_56 : decode cX5_bitsOf 56 = .ok (.dconst 1, 1) := by decide +kernel
theorem dX5_bitsOf_57 : decode cX5_bitsOf 57 = .ok (.dsub, 1) := by decide +kernel
theorem dX5_bitsOf_58 : decode cX5_bitsOf 58 = .ok (.ldc2_w 312, 3) := by decide +kernel
theorem dX5_bitsOf_61 : decode cX5_bitsOf 61 = .ok (.dmul, 1) := by decide +kernel
theorem dX5_bitsOf_62 : decode cX5_bitsOf 62 = .ok (.d2l, 1) := by decide +kernel
theorem dX5_bitsOf_63 : decode cX5_bitsOf 63 = .ok (.ladd, 1) := by decide +kernel
theorem dX5_bitsOf_64 : decode cX5_bitsOf 64 = .ok (.lreturn, 1) := by decide +kernel
theorem dX6_init_0 : decode cX6_init 0 = .ok (.aload_n 0, 1) := by decide +kernel
theorem dX6_init_1 : decode cX6_init 1 = .ok (.invokespecial 1, 3) := by decide +kernel
theorem dX6_init_4 : decode cX6_init 4 = .ok (.aload_n 0, 1) := by decide +kernel
theorem dX6_init_5 : decode cX6_init 5 = .ok (.sipush 210, 3) := by decide +kernel
theorem dX6_init_8 : decode cX6_init 8 = .ok (.newarray .int, 2) := by decide +kernel
theorem dX6_init_10 : decode cX6_init 10 = .ok (.putfield 7, 3) := by decide +kernel
theorem dX6_init_13 : decode cX6_init 13 = .ok (.aload_n 0, 1) := by decide +kernel
theorem dX6_init_14 : decode cX6_init 14 = .ok (.sipush 210, 3) := by decide +kernel
theorem dX6_init_17 : decode cX6_init 17 = .ok (.newarray .int, 2) := by decide +kernel
theorem dX6_init_19 : decode cX6_init 19 = .ok (.putfield 13, 3) := by decide +kernel
theorem dX6_init_22 : decode cX6_init 22 = .ok (.aload_n 0, 1) := by decide +kernel
theorem dX6_init_23 : decode cX6_init 23 = .ok (.sipush 1260, 3) := by decide +kernel
theorem dX6_init_26 : decode cX6_init 26 = .ok (.newarray .int, 2) := by decide +kernel
theorem dX6_init_28 : decode cX6_init 28 = .ok (.putfield 16, 3) := by decide +kernel
theorem dX6_init_31 : decode cX6_init 31 = .ok (.aload_n 0, 1) := by decide +kernel
theorem dX6_init_32 : decode cX6_init 32 = .ok (.bipush 60, 2) := by decide +kernel
theorem dX6_init_34 : decode cX6_init 34 = .ok (.newarray .int, 2) := by decide +kernel
theorem dX6_init_36 : decode cX6_init 36 = .ok (.putfield 19, 3) := by decide +kernel
theorem dX6_init_39 : decode cX6_init 39 = .ok (.aload_n 0, 1) := by decide +kernel
theorem dX6_init_40 : decode cX6_init 40 = .ok (.bipush 50, 2) := by decide +kernel
theorem dX6_init_42 : decode cX6_init 42 = .ok (.newarray .int, 2) := by decide +kernel
theorem dX6_init_44 : decode cX6_init 44 = .ok (.putfield 22, 3) := by decide +kernel
theorem dX6_init_47 : decode cX6_init 47 = .ok (.aload_n 0, 1) := by decide +kernel
theorem dX6_init_48 : decode cX6_init 48 = .ok (.bipush 6, 2) := by decide +kernel
theorem dX6_init_50 : decode cX6_init 50 = .ok (.newarray .int, 2) := by decide +kernel
theorem dX6_init_52 : decode cX6_init 52 = .ok (.putfield 25, 3) := by decide +kernel
theorem dX6_init_55 : decode cX6_init 55 = .ok (.aload_n 0, 1) := by decide +kernel
theorem dX6_init_56 : decode cX6_init 56 = .ok (.getfield 7, 3) := by decide +kernel
theorem dX6_init_59 : decode cX6_init 59 = .ok (.iconst 1, 1) := by decide +kernel
theorem dX6_init_60 : decode cX6_init 60 = .ok (.iconst 1, 1) := by decide +kernel
theorem dX6_init_61 : decode cX6_init 61 = .ok (.iastore, 1) := by decide +kernel
theorem dX6_init_62 : decode cX6_init 62 = .ok (.aload_n 0, 1) := by decide +kernel
theorem dX6_init_63 : decode cX6_init 63 = .ok (.getfield 7, 3) := by decide +kernel
theorem dX6_init_66 : decode cX6_init 66 = .ok (.iconst 2, 1) := by decide +kernel
theorem dX6_init_67 : decode cX6_init 67 = .ok (.iconst 5, 1) := by decide +kernel
theorem dX6_init_68 : decode cX6_init 68 = .ok (.iastore, 1) := by decide +kernel
theorem dX6_init_69 : decode cX6_init 69 = .ok (.aload_n 0, 1) := by decide +kernel
theorem dX6_init_70 : decode cX6_init 70 = .ok (.getfield 7, 3) := by decide +kernel
theorem dX6_init_73 : decode cX6_init 73 = .ok (.iconst 3, 1) := by decide +kernel
theorem dX6_init_74 : decode cX6_init 74 = .ok (.iconst 1, 1) := by decide +kernel
theorem dX6_init_75 : decode cX6_init 75 = .ok (.iastore, 1) := by decide +kernel
theorem dX6_init_76 : decode cX6_init 76 = .ok (.return_, 1) := by decide +kernel
theorem dX6_thrown_0 : decode cX6_thrown 0 = .ok (.aload_n 0, 1) := by decide +kernel
theorem dX6_thrown_1 : decode cX6_thrown 1 = .ok (.getfield 28, 3) := by decide +kernel
theorem dX6_thrown_4 : decode cX6_thrown 4 = .ok (.ireturn, 1) := by decide +kernel
theorem dX6_fails_0 : decode cX6_fails 0 = .ok (.aload_n 0, 1) := by decide +kernel
theorem dX6_fails_1 : decode cX6_fails 1 = .ok (.iload_n 1, 1) := by decide +kernel
theorem dX6_fails_2 : decode cX6_fails 2 = .ok (.putfield 28, 3) := by decide +kernel
theorem dX6_fails_5 : decode cX6_fails 5 = .ok (.iconst 0, 1) := by decide +kernel
theorem dX6_fails_6 : decode cX6_fails 6 = .ok (.ireturn, 1) := by decide +kernel
theorem dX6_in_0 : decode cX6_in 0 = .ok (.iload_n 0, 1) := by decide +kernel
theorem dX6_in_1 : decode cX6_in 1 = .ok (.iload_n 1, 1) := by decide +kernel
theorem dX6_in_2 : decode cX6_in 2 = .ok (.if_icmp .lt 12, 3) := by decide +kernel
theorem dX6_in_5 : decode cX6_in 5 = .ok (.iload_n 0, 1) := by decide +kernel
theorem dX6_in_6 : decode cX6_in 6 = .ok (.iload_n 2, 1) := by decide +kernel
theorem dX6_in_7 : decode cX6_in 7 = .ok (.if_icmp .gt 7, 3) := by decide +kernel
theorem dX6_in_10 : decode cX6_in 10 = .ok (.iconst 1, 1) := by decide +kernel
theorem dX6_in_11 : decode cX6_in 11 = .ok (.goto 4, 3) := by decide +kernel
theorem dX6_in_14 : decode cX6_in 14 = .ok (.iconst 0, 1) := by decide +kernel
theorem dX6_in_15 : decode cX6_in 15 = .ok (.ireturn, 1) := by decide +kernel
theorem dX6_isWeaver_0 : decode cX6_isWeaver 0 = .ok (.iload_n 0, 1) := by decide +kernel
theorem dX6_isWeaver_1 : decode cX6_isWeaver 1 = .ok (.iconst 0, 1) := by decide +kernel
theorem dX6_isWeaver_2 : decode cX6_isWeaver 2 = .ok (.iconst 5, 1) := by decide +kernel
theorem dX6_isWeaver_3 : decode cX6_isWeaver 3 = .ok (.invokestatic 32, 3) := by decide +kernel
theorem dX6_isWeaver_6 : decode cX6_isWeaver 6 = .ok (.ireturn, 1) := by decide +kernel
theorem dX6_isColour_0 : decode cX6_isColour 0 = .ok (.iload_n 0, 1) := by decide +kernel
theorem dX6_isColour_1 : decode cX6_isColour 1 = .ok (.iconst 0, 1) := by decide +kernel
theorem dX6_isColour_2 : decode cX6_isColour 2 = .ok (.iconst 3, 1) := by decide +kernel
theorem dX6_isColour_3 : decode cX6_isColour 3 = .ok (.invokestatic 32, 3) := by decide +kernel
theorem dX6_isColour_6 : decode cX6_isColour 6 = .ok (.ireturn, 1) := by decide +kernel
theorem dX6_of_0 : decode cX6_of 0 = .ok (.aload_n 0, 1) := by decide +kernel
theorem dX6_of_1 : decode cX6_of 1 = .ok (.bipush 18, 2) := by decide +kernel
theorem dX6_of_3 : decode cX6_of 3 = .ok (.bipush 12, 2) := by decide +kernel
theorem dX6_of_5 : decode cX6_of 5 = .ok (.iload_n 1, 1) := by decide +kernel
theorem dX6_of_6 : decode cX6_of 6 = .ok (.imul, 1) := by decide +kernel
theorem dX6_of_7 : decode cX6_of 7 = .ok (.iadd, 1) := by decide +kernel
theorem dX6_of_8 : decode cX6_of 8 = .ok (.iload_n 2, 1) := by decide +kernel
theorem dX6_of_9 : decode cX6_of 9 = .ok (.iadd, 1) := by decide +kernel
theorem dX6_of_10 : decode cX6_of 10 = .ok (.iaload, 1) := by decide +kernel
theorem dX6_of_11 : decode cX6_of 11 = .ok (.ireturn, 1) := by decide +kernel
theorem dX6_adds_0 : decode cX6_adds 0 = .ok (.aload_n 0, 1) := by decide +kernel
theorem dX6_adds_1 : decode cX6_adds 1 = .ok (.bipush 18, 2) := by decide +kernel
theorem dX6_adds_3 : decode cX6_adds 3 = .ok (.bipush 12, 2) := by decide +kernel
theorem dX6_adds_5 : decode cX6_adds 5 = .ok (.iload_n 1, 1) := by decide +kernel
theorem dX6_adds_6 : decode cX6_adds 6 = .ok (.imul, 1) := by decide +kernel
theorem dX6_adds_7 : decode cX6_adds 7 = .ok (.iadd, 1) := by decide +kernel
theorem dX6_adds_8 : decode cX6_adds 8 = .ok (.iload_n 2, 1) := by decide +kernel
theorem dX6_adds_9 : decode cX6_adds 9 = .ok (.iadd, 1) := by decide +kernel
theorem dX6_adds_10 : decode cX6_adds 10 = .ok (.dup2, 1) := by decide +kernel
theorem dX6_adds_11 : decode cX6_adds 11 = .ok (.iaload, 1) := by decide +kernel
theorem dX6_adds_12 : decode cX6_adds 12 = .ok (.iload_n 3, 1) := by decide +kernel
theorem dX6_adds_13 : decode cX6_adds 13 = .ok (.iadd, 1) := by decide +kernel
theorem dX6_adds_14 : decode cX6_adds 14 = .ok (.iastore, 1) := by decide +kernel
theorem dX6_adds_15 : decode cX6_adds 15 = .ok (.return_, 1) := by decide +kernel
theorem dX6_by_0 : decode cX6_by 0 = .ok (.aload_n 0, 1) := by decide +kernel
theorem dX6_by_1 : decode cX6_by 1 = .ok (.bipush 90, 2) := by decide +kernel
theorem dX6_by_3 : decode cX6_by 3 = .ok (.bipush 12, 2) := by decide +kernel
theorem dX6_by_5 : decode cX6_by 5 = .ok (.iload_n 1, 1) := by decide +kernel
theorem dX6_by_6 : decode cX6_by 6 = .ok (.imul, 1) := by decide +kernel
theorem dX6_by_7 : decode cX6_by 7 = .ok (.iadd, 1) := by decide +kernel
theorem dX6_by_8 : decode cX6_by 8 = .ok (.iload_n 2, 1) := by decide +kernel
theorem dX6_by_9 : decode cX6_by 9 = .ok (.iadd, 1) := by decide +kernel
theorem dX6_by_10 : decode cX6_by 10 = .ok (.iaload, 1) := by decide +kernel
theorem dX6_by_11 : decode cX6_by 11 = .ok (.ireturn, 1) := by decide +kernel
theorem dX6_saves_0 : decode cX6_saves 0 = .ok (.aload_n 0, 1) := by decide +kernel
theorem dX6_saves_1 : decode cX6_saves 1 = .ok (.getfield 36, 3) := by decide +kernel
theorem dX6_saves_4 : decode cX6_saves 4 = .ok (.bipush 6, 2) := by decide +kernel
theorem dX6_saves_6 : decode cX6_saves 6 = .ok (.if_icmp .ne 44, 3) := by decide +kernel
theorem dX6_saves_9 : decode cX6_saves 9 = .ok (.iconst 0, 1) := by decide +kernel
theorem dX6_saves_10 : decode cX6_saves 10 = .ok (.istore_n 1, 1) := by decide +kernel
theorem dX6_saves_11 : decode cX6_saves 11 = .ok (.iload_n 1, 1) := by decide +kernel
theorem dX6_saves_12 : decode cX6_saves 12 = .ok (.sipush 1050, 3) := by decide +kernel
theorem dX6_saves_15 : decode cX6_saves 15 = .ok (.if_icmp .ge 25, 3) := by decide +kernel
theorem dX6_saves_18 : decode cX6_saves 18 = .ok (.aload_n 0, 1) := by decide +kernel
theorem dX6_saves_19 : decode cX6_saves 19 = .ok (.getfield 16, 3) := by decide +kernel
theorem dX6_saves_22 : decode cX6_saves 22 = .ok (.iload_n 1, 1) := by decide +kernel
theorem dX6_saves_23 : decode cX6_saves 23 = .ok (.aload_n 0, 1) := by decide +kernel
theorem dX6_saves_24 : decode cX6_saves 24 = .ok (.getfield 16, 3) := by decide +kernel
theorem dX6_saves_27 : decode cX6_saves 27 = .ok (.iload_n 1, 1) := by decide +kernel
theorem dX6_saves_28 : decode cX6_saves 28 = .ok (.sipush 210, 3) := by decide +kernel
theorem dX6_saves_31 : decode cX6_saves 31 = .ok (.iadd, 1) := by decide +kernel
theorem dX6_saves_32 : decode cX6_saves 32 = .ok (.iaload, 1) := by decide +kernel
theorem dX6_saves_33 : decode cX6_saves 33 = .ok (.iastore, 1) := by decide +kernel
theorem dX6_saves_34 : decode cX6_saves 34 = .ok (.iinc 1 1, 3) := by decide +kernel
theorem dX6_saves_37 : decode cX6_saves 37 = .ok (.goto (-26), 3) := by decide +kernel
theorem dX6_saves_40 : decode cX6_saves 40 = .ok (.aload_n 0, 1) := by decide +kernel
theorem dX6_saves_41 : decode cX6_saves 41 = .ok (.dup, 1) := by decide +kernel
theorem dX6_saves_42 : decode cX6_saves 42 = .ok (.getfield 36, 3) := by decide +kernel
theorem dX6_saves_45 : decode cX6_saves 45 = .ok (.iconst 1, 1) := by decide +kernel
theorem dX6_saves_46 : decode cX6_saves 46 = .ok (.isub, 1) := by decide +kernel
theorem dX6_saves_47 : decode cX6_saves 47 = .ok (.putfield 36, 3) := by decide +kernel
theorem dX6_saves_50 : decode cX6_saves 50 = .ok (.iconst 0, 1) := by decide +kernel
theorem dX6_saves_51 : decode cX6_saves 51 = .ok (.istore_n 1, 1) := by decide +kernel
theorem dX6_saves_52 : decode cX6_saves 52 = .ok (.iload_n 1, 1) := by decide +kernel
theorem dX6_saves_53 : decode cX6_saves 53 = .ok (.sipush 210, 3) := by decide +kernel
theorem dX6_saves_56 : decode cX6_saves 56 = .ok (.if_icmp .ge 30, 3) := by decide +kernel
theorem dX6_saves_59 : decode cX6_saves 59 = .ok (.aload_n 0, 1) := by decide +kernel
theorem dX6_saves_60 : decode cX6_saves 60 = .ok (.getfield 16, 3) := by decide +kernel
theorem dX6_saves_63 : decode cX6_saves 63 = .ok (.sipush 210, 3) := by decide +kernel
theorem dX6_saves_66 : decode cX6_saves 66 = .ok (.aload_n 0, 1) := by decide +kernel
theorem dX6_saves_67 : decode cX6_saves 67 = .ok (.getfield 36, 3) := by decide +kernel
theorem dX6_saves_70 : decode cX6_saves 70 = .ok (.imul, 1) := by decide +kernel
theorem dX6_saves_71 : decode cX6_saves 71 = .ok (.iload_n 1, 1) := by decide +kernel
theorem dX6_saves_72 : decode cX6_saves 72 = .ok (.iadd, 1) := by decide +kernel
theorem dX6_saves_73 : decode cX6_saves 73 = .ok (.aload_n 0, 1) := by decide +kernel
theorem dX6_saves_74 : decode cX6_saves 74 = .ok (.getfield 7, 3) := by decide +kernel
theorem dX6_saves_77 : decode cX6_saves 77 = .ok (.iload_n 1, 1) := by decide +kernel
theorem dX6_saves_78 : decode cX6_saves 78 = .ok (.iaload, 1) := by decide +kernel
theorem dX6_saves_79 : decode cX6_saves 79 = .ok (.iastore, 1) := by decide +kernel
theorem dX6_saves_80 : decode cX6_saves 80 = .ok (.iinc 1 1, 3) := by decide +kernel
theorem dX6_saves_83 : decode cX6_saves 83 = .ok (.goto (-31), 3) := by decide +kernel
theorem dX6_saves_86 : decode cX6_saves 86 = .ok (.aload_n 0, 1) := by decide +kernel
theorem dX6_saves_87 : decode cX6_saves 87 = .ok (.dup, 1) := by decide +kernel
theorem dX6_saves_88 : decode cX6_saves 88 = .ok (.getfield 36, 3) := by decide +kernel
theorem dX6_saves_91 : decode cX6_saves 91 = .ok (.iconst 1, 1) := by decide +kernel
theorem dX6_saves_92 : decode cX6_saves 92 = .ok (.iadd, 1) := by decide +kernel
theorem dX6_saves_93 : decode cX6_saves 93 = .ok (.putfield 36, 3) := by decide +kernel
theorem dX6_saves_96 : decode cX6_saves 96 = .ok (.return_, 1) := by decide +kernel
theorem dX6_undo_0 : decode cX6_undo 0 = .ok (.aload_n 0, 1) := by decide +kernel
theorem dX6_undo_1 : decode cX6_undo 1 = .ok (.iconst 0, 1) := by decide +kernel
theorem dX6_undo_2 : decode cX6_undo 2 = .ok (.putfield 28, 3) := by decide +kernel
theorem dX6_undo_5 : decode cX6_undo 5 = .ok (.aload_n 0, 1) := by decide +kernel
theorem dX6_undo_6 : decode cX6_undo 6 = .ok (.getfield 36, 3) := by decide +kernel
theorem dX6_undo_9 : decode cX6_undo 9 = .ok (.ifCond .ne 9, 3) := by decide +kernel
theorem dX6_undo_12 : decode cX6_undo 12 = .ok (.aload_n 0, 1) := by decide +kernel
theorem dX6_undo_13 : decode cX6_undo 13 = .ok (.iconst 1, 1) := by decide +kernel
theorem dX6_undo_14 : decode cX6_undo 14 = .ok (.invokevirtual 39, 3) := by decide +kernel
theorem dX6_undo_17 : decode cX6_undo 17 = .ok (.ireturn, 1) := by decide +kernel
theorem dX6_undo_18 : decode cX6_undo 18 = .ok (.aload_n 0, 1) := by decide +kernel
theorem dX6_undo_19 : decode cX6_undo 19 = .ok (.dup, 1) := by decide +kernel
theorem dX6_undo_20 : decode cX6_undo 20 = .ok (.getfield 36, 3) := by decide +kernel
theorem dX6_undo_23 : decode cX6_undo 23 = .ok (.iconst 1, 1) := by decide +kernel
theorem dX6_undo_24 : decode cX6_undo 24 = .ok (.isub, 1) := by decide +kernel
theorem dX6_undo_25 : decode cX6_undo 25 = .ok (.putfield 36, 3) := by decide +kernel
theorem dX6_undo_28 : decode cX6_undo 28 = .ok (.iconst 0, 1) := by decide +kernel
theorem dX6_undo_29 : decode cX6_undo 29 = .ok (.istore_n 1, 1) := by decide +kernel
theorem dX6_undo_30 : decode cX6_undo 30 = .ok (.iload_n 1, 1) := by decide +kernel
theorem dX6_undo_31 : decode cX6_undo 31 = .ok (.sipush 210, 3) := by decide +kernel
theorem dX6_undo_34 : decode cX6_undo 34 = .ok (.if_icmp .ge 30, 3) := by decide +kernel
theorem dX6_undo_37 : decode cX6_undo 37 = .ok (.aload_n 0, 1) := by decide +kernel
theorem dX6_undo_38 : decode cX6_undo 38 = .ok (.getfield 7, 3) := by decide +kernel
theorem dX6_undo_41 : decode cX6_undo 41 = .ok (.iload_n 1, 1) := by decide +kernel
theorem dX6_undo_42 : decode cX6_undo 42 = .ok (.aload_n 0, 1) := by decide +kernel
theorem dX6_undo_43 : decode cX6_undo 43 = .ok (.getfield 16, 3) := by decide +kernel
theorem dX6_undo_46 : decode cX6_undo 46 = .ok (.sipush 210, 3) := by decide +kernel
theorem dX6_undo_49 : decode cX6_undo 49 = .ok (.aload_n 0, 1) := by decide +kernel
theorem dX6_undo_50 : decode cX6_undo 50 = .ok (.getfield 36, 3) := by decide +kernel
theorem dX6_undo_53 : decode cX6_undo 53 = .ok (.imul, 1) := by decide +kernel
theorem dX6_undo_54 : decode cX6_undo 54 = .ok (.iload_n 1, 1) := by decide +kernel
theorem dX6_undo_55 : decode cX6_undo 55 = .ok (.iadd, 1) := by decide +kernel
theorem dX6_undo_56 : decode cX6_undo 56 = .ok (.iaload, 1) := by decide +kernel
theorem dX6_undo_57 : decode cX6_undo 57 = .ok (.iastore, 1) := by decide +kernel
theorem dX6_undo_58 : decode cX6_undo 58 = .ok (.iinc 1 1, 3) := by decide +kernel
theorem dX6_undo_61 : decode cX6_undo 61 = .ok (.goto (-31), 3) := by decide +kernel
theorem dX6_undo_64 : decode cX6_undo 64 = .ok (.aload_n 0, 1) := by decide +kernel
theorem dX6_undo_65 : decode cX6_undo 65 = .ok (.getfield 36, 3) := by decide +kernel
theorem dX6_undo_68 : decode cX6_undo 68 = .ok (.ireturn, 1) := by decide +kernel
theorem dX6_tries_0 : decode cX6_tries 0 = .ok (.iconst 0, 1) := by decide +kernel
theorem dX6_tries_1 : decode cX6_tries 1 = .ok (.istore_n 1, 1) := by decide +kernel
theorem dX6_tries_2 : decode cX6_tries 2 = .ok (.iload_n 1, 1) := by decide +kernel
theorem dX6_tries_3 : decode cX6_tries 3 = .ok (.sipush 210, 3) := by decide +kernel
theorem dX6_tries_6 : decode cX6_tries 6 = .ok (.if_icmp .ge 21, 3) := by decide +kernel
theorem dX6_tries_9 : decode cX6_tries 9 = .ok (.aload_n 0, 1) := by decide +kernel
theorem dX6_tries_10 : decode cX6_tries 10 = .ok (.getfield 13, 3) := by decide +kernel
theorem dX6_tries_13 : decode cX6_tries 13 = .ok (.iload_n 1, 1) := by decide +kernel
theorem dX6_tries_14 : decode cX6_tries 14 = .ok (.aload_n 0, 1) := by decide +kernel
theorem dX6_tries_15 : decode cX6_tries 15 = .ok (.getfield 7, 3) := by decide +kernel
theorem dX6_tries_18 : decode cX6_tries 18 = .ok (.iload_n 1, 1) := by decide +kernel
theorem dX6_tries_19 : decode cX6_tries 19 = .ok (.iaload, 1) := by decide +kernel
theorem dX6_tries_20 : decode cX6_tries 20 = .ok (.iastore, 1) := by decide +kernel
theorem dX6_tries_21 : decode cX6_tries 21 = .ok (.iinc 1 1, 3) := by decide +kernel
theorem dX6_tries_24 : decode cX6_tries 24 = .ok (.goto (-22), 3) := by decide +kernel
theorem dX6_tries_27 : decode cX6_tries 27 = .ok (.return_, 1) := by decide +kernel
theorem dX6_grams_0 : decode cX6_grams 0 = .ok (.aload_n 0, 1) := by decide +kernel
theorem dX6_grams_1 : decode cX6_grams 1 = .ok (.iload_n 1, 1) := by decide +kernel
theorem dX6_grams_2 : decode cX6_grams 2 = .ok (.iconst 2, 1) := by decide +kernel
theorem dX6_grams_3 : decode cX6_grams 3 = .ok (.invokestatic 43, 3) := by decide +kernel
theorem dX6_grams_6 : decode cX6_grams 6 = .ok (.bipush 9, 2) := by decide +kernel
theorem dX6_grams_8 : decode cX6_grams 8 = .ok (.iadd, 1) := by decide +kernel
theorem dX6_grams_9 : decode cX6_grams 9 = .ok (.bipush 10, 2) := by decide +kernel
theorem dX6_grams_11 : decode cX6_grams 11 = .ok (.idiv, 1) := by decide +kernel
theorem dX6_grams_12 : decode cX6_grams 12 = .ok (.ireturn, 1) := by decide +kernel
theorem dX6_good_0 : decode cX6_good 0 = .ok (.iconst 0, 1) := by decide +kernel
theorem dX6_good_1 : decode cX6_good 1 = .ok (.istore_n 2, 1) := by decide +kernel
theorem dX6_good_2 : decode cX6_good 2 = .ok (.iconst 0, 1) := by decide +kernel
theorem dX6_good_3 : decode cX6_good 3 = .ok (.istore_n 3, 1) := by decide +kernel
theorem dX6_good_4 : decode cX6_good 4 = .ok (.iload_n 3, 1) := by decide +kernel
theorem dX6_good_5 : decode cX6_good 5 = .ok (.bipush 6, 2) := by decide +kernel
theorem dX6_good_7 : decode cX6_good 7 = .ok (.if_icmp .ge 21, 3) := by decide +kernel
theorem dX6_good_10 : decode cX6_good 10 = .ok (.iload_n 2, 1) := by decide +kernel
theorem dX6_good_11 : decode cX6_good 11 = .ok (.aload_n 0, 1) := by decide +kernel
theorem dX6_good_12 : decode cX6_good 12 = .ok (.iload_n 1, 1) := by decide +kernel
theorem dX6_good_13 : decode cX6_good 13 = .ok (.bipush 6, 2) := by decide +kernel
theorem dX6_good_15 : decode cX6_good 15 = .ok (.iload_n 3, 1) := by decide +kernel
theorem dX6_good_16 : decode cX6_good 16 = .ok (.iadd, 1) := by decide +kernel
theorem dX6_good_17 : decode cX6_good 17 = .ok (.invokestatic 43, 3) := by decide +kernel
theorem dX6_good_20 : decode cX6_good 20 = .ok (.iadd, 1) := by decide +kernel
theorem dX6_good_21 : decode cX6_good 21 = .ok (.istore_n 2, 1) := by decide +kernel
theorem dX6_good_22 : decode cX6_good 22 = .ok (.iinc 3 1, 3) := by decide +kernel
theorem dX6_good_25 : decode cX6_good 25 = .ok (.goto (-21), 3) := by decide +kernel
theorem dX6_good_28 : decode cX6_good 28 = .ok (.iload_n 2, 1) := by decide +kernel
theorem dX6_good_29 : decode cX6_good 29 = .ok (.ireturn, 1) := by decide +kernel
theorem dX6_placeOf_0 : decode cX6_placeOf 0 = .ok (.iconst 0, 1) := by decide +kernel
theorem dX6_placeOf_1 : decode cX6_placeOf 1 = .ok (.istore_n 2, 1) := by decide +kernel
theorem dX6_placeOf_2 : decode cX6_placeOf 2 = .ok (.iload_n 2, 1) := by decide +kernel
theorem dX6_placeOf_3 : decode cX6_placeOf 3 = .ok (.aload_n 0, 1) := by decide +kernel
theorem dX6_placeOf_4 : decode cX6_placeOf 4 = .ok (.iconst 5, 1) := by decide +kernel
theorem dX6_placeOf_5 : decode cX6_placeOf 5 = .ok (.iaload, 1) := by decide +kernel
theorem dX6_placeOf_6 : decode cX6_placeOf 6 = .ok (.if_icmp .ge 21, 3) := by decide +kernel
theorem dX6_placeOf_9 : decode cX6_placeOf 9 = .ok (.aload_n 0, 1) := by decide +kernel
theorem dX6_placeOf_10 : decode cX6_placeOf 10 = .ok (.iload_n 2, 1) := by decide +kernel
theorem dX6_placeOf_11 : decode cX6_placeOf 11 = .ok (.iconst 0, 1) := by decide +kernel
theorem dX6_placeOf_12 : decode cX6_placeOf 12 = .ok (.invokestatic 43, 3) := by decide +kernel
theorem dX6_placeOf_15 : decode cX6_placeOf 15 = .ok (.iload_n 1, 1) := by decide +kernel
theorem dX6_placeOf_16 : decode cX6_placeOf 16 = .ok (.if_icmp .ne 5, 3) := by decide +kernel
theorem dX6_placeOf_19 : decode cX6_placeOf 19 = .ok (.iload_n 2, 1) := by decide +kernel
theorem dX6_placeOf_20 : decode cX6_placeOf 20 = .ok (.ireturn, 1) := by decide +kernel
theorem dX6_placeOf_21 : decode cX6_placeOf 21 = .ok (.iinc 2 1, 3) := by decide +kernel
theorem dX6_placeOf_24 : decode cX6_placeOf 24 = .ok (.goto (-22), 3) := by decide +kernel
theorem dX6_placeOf_27 : decode cX6_placeOf 27 = .ok (.iconst (-1), 1) := by decide +kernel
theorem dX6_placeOf_28 : decode cX6_placeOf 28 = .ok (.ireturn, 1) := by decide +kernel
theorem dX6_goes_0 : decode cX6_goes 0 = .ok (.aload_n 0, 1) := by decide +kernel
theorem dX6_goes_1 : decode cX6_goes 1 = .ok (.iconst 5, 1) := by decide +kernel
theorem dX6_goes_2 : decode cX6_goes 2 = .ok (.dup2, 1) := by decide +kernel
theorem dX6_goes_3 : decode cX6_goes 3 = .ok (.iaload, 1) := by decide +kernel
theorem dX6_goes_4 : decode cX6_goes 4 = .ok (.iconst 1, 1) := by decide +kernel
theorem dX6_goes_5 : decode cX6_goes 5 = .ok (.isub, 1) := by decide +kernel
theorem dX6_goes_6 : decode cX6_goes 6 = .ok (.iastore, 1) := by decide +kernel
theorem dX6_goes_7 : decode cX6_goes 7 = .ok (.bipush 90, 2) := by decide +kernel
theorem dX6_goes_9 : decode cX6_goes 9 = .ok (.bipush 12, 2) := by decide +kernel
theorem dX6_goes_11 : decode cX6_goes 11 = .ok (.iload_n 1, 1) := by decide +kernel
theorem dX6_goes_12 : decode cX6_goes 12 = .ok (.imul, 1) := by decide +kernel
theorem dX6_goes_13 : decode cX6_goes 13 = .ok (.iadd, 1) := by decide +kernel
theorem dX6_goes_14 : decode cX6_goes 14 = .ok (.istore_n 2, 1) := by decide +kernel
theorem dX6_goes_15 : decode cX6_goes 15 = .ok (.iload_n 2, 1) := by decide +kernel
theorem dX6_goes_16 : decode cX6_goes 16 = .ok (.bipush 90, 2) := by decide +kernel
theorem dX6_goes_18 : decode cX6_goes 18 = .ok (.bipush 12, 2) := by decide +kernel
theorem dX6_goes_20 : decode cX6_goes 20 = .ok (.aload_n 0, 1) := by decide +kernel
theorem dX6_goes_21 : decode cX6_goes 21 = .ok (.iconst 5, 1) := by decide +kernel
theorem dX6_goes_22 : decode cX6_goes 22 = .ok (.iaload, 1) := by decide +kernel
theorem dX6_goes_23 : decode cX6_goes 23 = .ok (.imul, 1) := by decide +kernel
theorem dX6_goes_24 : decode cX6_goes 24 = .ok (.iadd, 1) := by decide +kernel
theorem dX6_goes_25 : decode cX6_goes 25 = .ok (.if_icmp .ge 18, 3) := by decide +kernel
theorem dX6_goes_28 : decode cX6_goes 28 = .ok (.aload_n 0, 1) := by decide +kernel
theorem dX6_goes_29 : decode cX6_goes 29 = .ok (.iload_n 2, 1) := by decide +kernel
theorem dX6_goes_30 : decode cX6_goes 30 = .ok (.aload_n 0, 1) := by decide +kernel
theorem dX6_goes_31 : decode cX6_goes 31 = .ok (.iload_n 2, 1) := by decide +kernel
theorem dX6_goes_32 : decode cX6_goes 32 = .ok (.bipush 12, 2) := by decide +kernel
theorem dX6_goes_34 : decode cX6_goes 34 = .ok (.iadd, 1) := by decide +kernel
theorem dX6_goes_35 : decode cX6_goes 35 = .ok (.iaload, 1) := by decide +kernel
theorem dX6_goes_36 : decode cX6_goes 36 = .ok (.iastore, 1) := by decide +kernel
theorem dX6_goes_37 : decode cX6_goes 37 = .ok (.iinc 2 1, 3) := by decide +kernel
theorem dX6_goes_40 : decode cX6_goes 40 = .ok (.goto (-25), 3) := by decide +kernel
theorem dX6_goes_43 : decode cX6_goes 43 = .ok (.return_, 1) := by decide +kernel
theorem dX6_worth_0 : decode cX6_worth 0 = .ok (.aload_n 0, 1) := by decide +kernel
theorem dX6_worth_1 : decode cX6_worth 1 = .ok (.iconst 0, 1) := by decide +kernel
theorem dX6_worth_2 : decode cX6_worth 2 = .ok (.iaload, 1) := by decide +kernel
theorem dX6_worth_3 : decode cX6_worth 3 = .ok (.ifCond .ne 7, 3) := by decide +kernel
theorem dX6_worth_6 : decode cX6_worth 6 = .ok (.iconst 0, 1) := by decide +kernel
theorem dX6_worth_7 : decode cX6_worth 7 = .ok (.goto 20, 3) := by decide +kernel
theorem dX6_worth_10 : decode cX6_worth 10 = .ok (.aload_n 0, 1) := by decide +kernel
theorem dX6_worth_11 : decode cX6_worth 11 = .ok (.iload_n 1, 1) := by decide +kernel
theorem dX6_worth_12 : decode cX6_worth 12 = .ok (.aload_n 0, 1) := by decide +kernel
theorem dX6_worth_13 : decode cX6_worth 13 = .ok (.iconst 0, 1) := by decide +kernel
theorem dX6_worth_14 : decode cX6_worth 14 = .ok (.iaload, 1) := by decide +kernel
theorem dX6_worth_15 : decode cX6_worth 15 = .ok (.iconst 1, 1) := by decide +kernel
theorem dX6_worth_16 : decode cX6_worth 16 = .ok (.if_icmp .ne 7, 3) := by decide +kernel
theorem dX6_worth_19 : decode cX6_worth 19 = .ok (.iconst 2, 1) := by decide +kernel
theorem dX6_worth_20 : decode cX6_worth 20 = .ok (.goto 4, 3) := by decide +kernel
theorem dX6_worth_23 : decode cX6_worth 23 = .ok (.iconst 4, 1) := by decide +kernel
theorem dX6_worth_24 : decode cX6_worth 24 = .ok (.invokestatic 43, 3) := by decide +kernel
theorem dX6_worth_27 : decode cX6_worth 27 = .ok (.ireturn, 1) := by decide +kernel
theorem dX6_chosen_0 : decode cX6_chosen 0 = .ok (.iconst (-1), 1) := by decide +kernel
theorem dX6_chosen_1 : decode cX6_chosen 1 = .ok (.istore_n 2, 1) := by decide +kernel
theorem dX6_chosen_2 : decode cX6_chosen 2 = .ok (.iconst 0, 1) := by decide +kernel
theorem dX6_chosen_3 : decode cX6_chosen 3 = .ok (.istore_n 3, 1) := by decide +kernel
theorem dX6_chosen_4 : decode cX6_chosen 4 = .ok (.iload_n 3, 1) := by decide +kernel
theorem dX6_chosen_5 : decode cX6_chosen 5 = .ok (.aload_n 0, 1) := by decide +kernel
theorem dX6_chosen_6 : decode cX6_chosen 6 = .ok (.iconst 5, 1) := by decide +kernel
theorem dX6_chosen_7 : decode cX6_chosen 7 = .ok (.iaload, 1) := by decide +kernel
theorem dX6_chosen_8 : decode cX6_chosen 8 = .ok (.if_icmp .ge 60, 3) := by decide +kernel
theorem dX6_chosen_11 : decode cX6_chosen 11 = .ok (.aload_n 0, 1) := by decide +kernel
theorem dX6_chosen_12 : decode cX6_chosen 12 = .ok (.iload_n 3, 1) := by decide +kernel
theorem dX6_chosen_13 : decode cX6_chosen 13 = .ok (.iconst 2, 1) := by decide +kernel
theorem dX6_chosen_14 : decode cX6_chosen 14 = .ok (.invokestatic 43, 3) := by decide +kernel
theorem dX6_chosen_17 : decode cX6_chosen 17 = .ok (.aload_n 0, 1) := by decide +kernel
theorem dX6_chosen_18 : decode cX6_chosen 18 = .ok (.iload_n 1, 1) := by decide +kernel
theorem dX6_chosen_19 : decode cX6_chosen 19 = .ok (.iconst 0, 1) := by decide +kernel
theorem dX6_chosen_20 : decode cX6_chosen 20 = .ok (.invokestatic 47, 3) := by decide +kernel
theorem dX6_chosen_23 : decode cX6_chosen 23 = .ok (.if_icmp .gt 7, 3) := by decide +kernel
theorem dX6_chosen_26 : decode cX6_chosen 26 = .ok (.iconst 1, 1) := by decide +kernel
theorem dX6_chosen_27 : decode cX6_chosen 27 = .ok (.goto 4, 3) := by decide +kernel
theorem dX6_chosen_30 : decode cX6_chosen 30 = .ok (.iconst 0, 1) := by decide +kernel
theorem dX6_chosen_31 : decode cX6_chosen 31 = .ok (.istore 4, 2) := by decide +kernel
theorem dX6_chosen_33 : decode cX6_chosen 33 = .ok (.iload 4, 2) := by decide +kernel
theorem dX6_chosen_35 : decode cX6_chosen 35 = .ok (.ifCond .eq 25, 3) := by decide +kernel
theorem dX6_chosen_38 : decode cX6_chosen 38 = .ok (.iload_n 2, 1) := by decide +kernel
theorem dX6_chosen_39 : decode cX6_chosen 39 = .ok (.iconst (-1), 1) := by decide +kernel
theorem dX6_chosen_40 : decode cX6_chosen 40 = .ok (.if_icmp .eq 16, 3) := by decide +kernel
theorem dX6_chosen_43 : decode cX6_chosen 43 = .ok (.aload_n 0, 1) := by decide +kernel
theorem dX6_chosen_44 : decode cX6_chosen 44 = .ok (.iload_n 3, 1) := by decide +kernel
theorem dX6_chosen_45 : decode cX6_chosen 45 = .ok (.invokestatic 50, 3) := by decide +kernel
theorem dX6_chosen_48 : decode cX6_chosen 48 = .ok (.aload_n 0, 1) := by decide +kernel
theorem dX6_chosen_49 : decode cX6_chosen 49 = .ok (.iload_n 2, 1) := by decide +kernel
theorem dX6_chosen_50 : decode cX6_chosen 50 = .ok (.invokestatic 50, 3) := by decide +kernel
theorem dX6_chosen_53 : decode cX6_chosen 53 = .ok (.if_icmp .le 7, 3) := by decide +kernel
theorem dX6_chosen_56 : decode cX6_chosen 56 = .ok (.iload_n 3, 1) := by decide +kernel
theorem dX6_chosen_57 : decode cX6_chosen 57 = .ok (.goto 4, 3) := by decide +kernel
theorem dX6_chosen_60 : decode cX6_chosen 60 = .ok (.iload_n 2, 1) := by decide +kernel
theorem dX6_chosen_61 : decode cX6_chosen 61 = .ok (.istore_n 2, 1) := by decide +kernel
theorem dX6_chosen_62 : decode cX6_chosen 62 = .ok (.iinc 3 1, 3) := by decide +kernel
theorem dX6_chosen_65 : decode cX6_chosen 65 = .ok (.goto (-61), 3) := by decide +kernel
theorem dX6_chosen_68 : decode cX6_chosen 68 = .ok (.iload_n 2, 1) := by decide +kernel
theorem dX6_chosen_69 : decode cX6_chosen 69 = .ok (.ireturn, 1) := by decide +kernel
theorem dX6_late_0 : decode cX6_late 0 = .ok (.aload_n 0, 1) := by decide +kernel
theorem dX6_late_1 : decode cX6_late 1 = .ok (.iconst 4, 1) := by decide +kernel
theorem dX6_late_2 : decode cX6_late 2 = .ok (.iaload, 1) := by decide +kernel
theorem dX6_late_3 : decode cX6_late 3 = .ok (.aload_n 0, 1) := by decide +kernel
theorem dX6_late_4 : decode cX6_late 4 = .ok (.iload_n 1, 1) := by decide +kernel
theorem dX6_late_5 : decode cX6_late 5 = .ok (.iconst 5, 1) := by decide +kernel
theorem dX6_late_6 : decode cX6_late 6 = .ok (.invokestatic 43, 3) := by decide +kernel
theorem dX6_late_9 : decode cX6_late 9 = .ok (.if_icmp .le 16, 3) := by decide +kernel
theorem dX6_late_12 : decode cX6_late 12 = .ok (.aload_n 0, 1) := by decide +kernel
theorem dX6_late_13 : decode cX6_late 13 = .ok (.iconst 4, 1) := by decide +kernel
theorem dX6_late_14 : decode cX6_late 14 = .ok (.iaload, 1) := by decide +kernel
theorem dX6_late_15 : decode cX6_late 15 = .ok (.aload_n 0, 1) := by decide +kernel
theorem dX6_late_16 : decode cX6_late 16 = .ok (.iload_n 1, 1) := by decide +kernel
theorem dX6_late_17 : decode cX6_late 17 = .ok (.iconst 5, 1) := by decide +kernel
theorem dX6_late_18 : decode cX6_late 18 = .ok (.invokestatic 43, 3) := by decide +kernel
theorem dX6_late_21 : decode cX6_late 21 = .ok (.isub, 1) := by decide +kernel
theorem dX6_late_22 : decode cX6_late 22 = .ok (.goto 4, 3) := by decide +kernel
theorem dX6_late_25 : decode cX6_late 25 = .ok (.iconst 0, 1) := by decide +kernel
theorem dX6_late_26 : decode cX6_late 26 = .ok (.ireturn, 1) := by decide +kernel
theorem dX6_whole_0 : decode cX6_whole 0 = .ok (.aload_n 0, 1) := by decide +kernel
theorem dX6_whole_1 : decode cX6_whole 1 = .ok (.iload_n 1, 1) := by decide +kernel
theorem dX6_whole_2 : decode cX6_whole 2 = .ok (.iconst 4, 1) := by decide +kernel
theorem dX6_whole_3 : decode cX6_whole 3 = .ok (.invokestatic 43, 3) := by decide +kernel
theorem dX6_whole_6 : decode cX6_whole 6 = .ok (.i2l, 1) := by decide +kernel
theorem dX6_whole_7 : decode cX6_whole 7 = .ok (.iload_n 2, 1) := by decide +kernel
theorem dX6_whole_8 : decode cX6_whole 8 = .ok (.i2l, 1) := by decide +kernel
theorem dX6_whole_9 : decode cX6_whole 9 = .ok (.lmul, 1) := by decide +kernel
theorem dX6_whole_10 : decode cX6_whole 10 = .ok (.lstore_n 3, 1) := by decide +kernel
theorem dX6_whole_11 : decode cX6_whole 11 = .ok (.lload_n 3, 1) := by decide +kernel
theorem dX6_whole_12 : decode cX6_whole 12 = .ok (.aload_n 0, 1) := by decide +kernel
theorem dX6_whole_13 : decode cX6_whole 13 = .ok (.iload_n 1, 1) := by decide +kernel
theorem dX6_whole_14 : decode cX6_whole 14 = .ok (.invokestatic 54, 3) := by decide +kernel
theorem dX6_whole_17 : decode cX6_whole 17 = .ok (.i2l, 1) := by decide +kernel
theorem dX6_whole_18 : decode cX6_whole 18 = .ok (.lmul, 1) := by decide +kernel
theorem dX6_whole_19 : decode cX6_whole 19 = .ok (.aload_n 0, 1) := by decide +kernel
theorem dX6_whole_20 : decode cX6_whole 20 = .ok (.iconst 2, 1) := by decide +kernel
theorem dX6_whole_21 : decode cX6_whole 21 = .ok (.iaload, 1) := by decide +kernel
theorem dX6_whole_22 : decode cX6_whole 22 = .ok (.i2l, 1) := by decide +kernel
theorem dX6_whole_23 : decode cX6_whole 23 = .ok (.lmul, 1) := by decide +kernel
theorem dX6_whole_24 : decode cX6_whole 24 = .ok (.ldc2_w 57, 3) := by decide +kernel
theorem dX6_whole_27 : decode cX6_whole 27 = .ok (.ldiv, 1) := by decide +kernel
theorem dX6_whole_28 : decode cX6_whole 28 = .ok (.lstore 5, 2) := by decide +kernel
theorem dX6_whole_30 : decode cX6_whole 30 = .ok (.lload 5, 2) := by decide +kernel
theorem dX6_whole_32 : decode cX6_whole 32 = .ok (.lload_n 3, 1) := by decide +kernel
theorem dX6_whole_33 : decode cX6_whole 33 = .ok (.lcmp, 1) := by decide +kernel
theorem dX6_whole_34 : decode cX6_whole 34 = .ok (.ifCond .le 7, 3) := by decide +kernel
theorem dX6_whole_37 : decode cX6_whole 37 = .ok (.iconst 0, 1) := by decide +kernel
theorem dX6_whole_38 : decode cX6_whole 38 = .ok (.goto 8, 3) := by decide +kernel
theorem dX6_whole_41 : decode cX6_whole 41 = .ok (.lload_n 3, 1) := by decide +kernel
theorem dX6_whole_42 : decode cX6_whole 42 = .ok (.lload 5, 2) := by decide +kernel
theorem dX6_whole_44 : decode cX6_whole 44 = .ok (.lsub, 1) := by decide +kernel
theorem dX6_whole_45 : decode cX6_whole 45 = .ok (.l2i, 1) := by decide +kernel
theorem dX6_whole_46 : decode cX6_whole 46 = .ok (.ireturn, 1) := by decide +kernel
theorem dX6_shares_0 : decode cX6_shares 0 = .ok (.iload_n 3, 1) := by decide +kernel
theorem dX6_shares_1 : decode cX6_shares 1 = .ok (.istore 5, 2) := by decide +kernel
theorem dX6_shares_3 : decode cX6_shares 3 = .ok (.iconst 0, 1) := by decide +kernel
theorem dX6_shares_4 : decode cX6_shares 4 = .ok (.istore 6, 2) := by decide +kernel
theorem dX6_shares_6 : decode cX6_shares 6 = .ok (.iconst 0, 1) := by decide +kernel
theorem dX6_shares_7 : decode cX6_shares 7 = .ok (.istore 7, 2) := by decide +kernel
theorem dX6_shares_9 : decode cX6_shares 9 = .ok (.iload 7, 2) := by decide +kernel
theorem dX6_shares_11 : decode cX6_shares 11 = .ok (.bipush 6, 2) := by decide +kernel
theorem dX6_shares_13 : decode cX6_shares 13 = .ok (.if_icmp .ge 84, 3) := by decide +kernel
theorem dX6_shares_16 : decode cX6_shares 16 = .ok (.aload_n 0, 1) := by decide +kernel
theorem dX6_shares_17 : decode cX6_shares 17 = .ok (.getfield 25, 3) := by decide +kernel
theorem dX6_shares_20 : decode cX6_shares 20 = .ok (.iload 7, 2) := by decide +kernel
theorem dX6_shares_22 : decode cX6_shares 22 = .ok (.iload 4, 2) := by decide +kernel
theorem dX6_shares_24 : decode cX6_shares 24 = .ok (.ifCond .ne 7, 3) := by decide +kernel
theorem dX6_shares_27 : decode cX6_shares 27 = .ok (.iconst 0, 1) := by decide +kernel
theorem dX6_shares_28 : decode cX6_shares 28 = .ok (.goto 18, 3) := by decide +kernel
theorem dX6_shares_31 : decode cX6_shares 31 = .ok (.iload_n 3, 1) := by decide +kernel
theorem dX6_shares_32 : decode cX6_shares 32 = .ok (.aload_n 1, 1) := by decide +kernel
theorem dX6_shares_33 : decode cX6_shares 33 = .ok (.iload_n 2, 1) := by decide +kernel
theorem dX6_shares_34 : decode cX6_shares 34 = .ok (.bipush 6, 2) := by decide +kernel
theorem dX6_shares_36 : decode cX6_shares 36 = .ok (.iload 7, 2) := by decide +kernel
theorem dX6_shares_38 : decode cX6_shares 38 = .ok (.iadd, 1) := by decide +kernel
theorem dX6_shares_39 : decode cX6_shares 39 = .ok (.invokestatic 43, 3) := by decide +kernel
theorem dX6_shares_42 : decode cX6_shares 42 = .ok (.imul, 1) := by decide +kernel
theorem dX6_shares_43 : decode cX6_shares 43 = .ok (.iload 4, 2) := by decide +kernel
theorem dX6_shares_45 : decode cX6_shares 45 = .ok (.idiv, 1) := by decide +kernel
theorem dX6_shares_46 : decode cX6_shares 46 = .ok (.iastore, 1) := by decide +kernel
theorem dX6_shares_47 : decode cX6_shares 47 = .ok (.iload 5, 2) := by decide +kernel
theorem dX6_shares_49 : decode cX6_shares 49 = .ok (.aload_n 0, 1) := by decide +kernel
theorem dX6_shares_50 : decode cX6_shares 50 = .ok (.getfield 25, 3) := by decide +kernel
theorem dX6_shares_53 : decode cX6_shares 53 = .ok (.iload 7, 2) := by decide +kernel
theorem dX6_shares_55 : decode cX6_shares 55 = .ok (.iaload, 1) := by decide +kernel
theorem dX6_shares_56 : decode cX6_shares 56 = .ok (.isub, 1) := by decide +kernel
theorem dX6_shares_57 : decode cX6_shares 57 = .ok (.istore 5, 2) := by decide +kernel
theorem dX6_shares_59 : decode cX6_shares 59 = .ok (.aload_n 1, 1) := by decide +kernel
theorem dX6_shares_60 : decode cX6_shares 60 = .ok (.iload_n 2, 1) := by decide +kernel
theorem dX6_shares_61 : decode cX6_shares 61 = .ok (.bipush 6, 2) := by decide +kernel
theorem dX6_shares_63 : decode cX6_shares 63 = .ok (.iload 7, 2) := by decide +kernel
theorem dX6_shares_65 : decode cX6_shares 65 = .ok (.iadd, 1) := by decide +kernel
theorem dX6_shares_66 : decode cX6_shares 66 = .ok (.invokestatic 43, 3) := by decide +kernel
theorem dX6_shares_69 : decode cX6_shares 69 = .ok (.aload_n 1, 1) := by decide +kernel
theorem dX6_shares_70 : decode cX6_shares 70 = .ok (.iload_n 2, 1) := by decide +kernel
theorem dX6_shares_71 : decode cX6_shares 71 = .ok (.bipush 6, 2) := by decide +kernel
theorem dX6_shares_73 : decode cX6_shares 73 = .ok (.iload 6, 2) := by decide +kernel
theorem dX6_shares_75 : decode cX6_shares 75 = .ok (.iadd, 1) := by decide +kernel
theorem dX6_shares_76 : decode cX6_shares 76 = .ok (.invokestatic 43, 3) := by decide +kernel
theorem dX6_shares_79 : decode cX6_shares 79 = .ok (.if_icmp .le 8, 3) := by decide +kernel
theorem dX6_shares_82 : decode cX6_shares 82 = .ok (.iload 7, 2) := by decide +kernel
theorem dX6_shares_84 : decode cX6_shares 84 = .ok (.goto 5, 3) := by decide +kernel
theorem dX6_shares_87 : decode cX6_shares 87 = .ok (.iload 6, 2) := by decide +kernel
theorem dX6_shares_89 : decode cX6_shares 89 = .ok (.istore 6, 2) := by decide +kernel
theorem dX6_shares_91 : decode cX6_shares 91 = .ok (.iinc 7 1, 3) := by decide +kernel
theorem dX6_shares_94 : decode cX6_shares 94 = .ok (.goto (-85), 3) := by decide +kernel
theorem dX6_shares_97 : decode cX6_shares 97 = .ok (.aload_n 0, 1) := by decide +kernel
theorem dX6_shares_98 : decode cX6_shares 98 = .ok (.getfield 25, 3) := by decide +kernel
theorem dX6_shares_101 : decode cX6_shares 101 = .ok (.iload 6, 2) := by decide +kernel
theorem dX6_shares_103 : decode cX6_shares 103 = .ok (.dup2, 1) := by decide +kernel
theorem dX6_shares_104 : decode cX6_shares 104 = .ok (.iaload, 1) := by decide +kernel
theorem dX6_shares_105 : decode cX6_shares 105 = .ok (.iload 4, 2) := by decide +kernel
theorem dX6_shares_107 : decode cX6_shares 107 = .ok (.ifCond .ne 7, 3) := by decide +kernel
theorem dX6_shares_110 : decode cX6_shares 110 = .ok (.iconst 0, 1) := by decide +kernel
theorem dX6_shares_111 : decode cX6_shares 111 = .ok (.goto 5, 3) := by decide +kernel
theorem dX6_shares_114 : decode cX6_shares 114 = .ok (.iload 5, 2) := by decide +kernel
theorem dX6_shares_116 : decode cX6_shares 116 = .ok (.iadd, 1) := by decide +kernel
theorem dX6_shares_117 : decode cX6_shares 117 = .ok (.iastore, 1) := by decide +kernel
theorem dX6_shares_118 : decode cX6_shares 118 = .ok (.return_, 1) := by decide +kernel
theorem dX6_pays_0 : decode cX6_pays 0 = .ok (.aload_n 1, 1) := by decide +kernel
theorem dX6_pays_1 : decode cX6_pays 1 = .ok (.iload_n 2, 1) := by decide +kernel
theorem dX6_pays_2 : decode cX6_pays 2 = .ok (.iconst 3, 1) := by decide +kernel
theorem dX6_pays_3 : decode cX6_pays 3 = .ok (.invokestatic 43, 3) := by decide +kernel
theorem dX6_pays_6 : decode cX6_pays 6 = .ok (.istore_n 3, 1) := by decide +kernel
theorem dX6_pays_7 : decode cX6_pays 7 = .ok (.aload_n 1, 1) := by decide +kernel
theorem dX6_pays_8 : decode cX6_pays 8 = .ok (.iload_n 2, 1) := by decide +kernel
theorem dX6_pays_9 : decode cX6_pays 9 = .ok (.iload_n 3, 1) := by decide +kernel
theorem dX6_pays_10 : decode cX6_pays 10 = .ok (.invokestatic 59, 3) := by decide +kernel
theorem dX6_pays_13 : decode cX6_pays 13 = .ok (.istore 4, 2) := by decide +kernel
theorem dX6_pays_15 : decode cX6_pays 15 = .ok (.aload_n 0, 1) := by decide +kernel
theorem dX6_pays_16 : decode cX6_pays 16 = .ok (.aload_n 1, 1) := by decide +kernel
theorem dX6_pays_17 : decode cX6_pays 17 = .ok (.iload_n 2, 1) := by decide +kernel
theorem dX6_pays_18 : decode cX6_pays 18 = .ok (.iload 4, 2) := by decide +kernel
theorem dX6_pays_20 : decode cX6_pays 20 = .ok (.iload_n 3, 1) := by decide +kernel
theorem dX6_pays_21 : decode cX6_pays 21 = .ok (.invokevirtual 62, 3) := by decide +kernel
theorem dX6_pays_24 : decode cX6_pays 24 = .ok (.iconst 0, 1) := by decide +kernel
theorem dX6_pays_25 : decode cX6_pays 25 = .ok (.istore 5, 2) := by decide +kernel
theorem dX6_pays_27 : decode cX6_pays 27 = .ok (.iload 5, 2) := by decide +kernel
theorem dX6_pays_29 : decode cX6_pays 29 = .ok (.bipush 6, 2) := by decide +kernel
theorem dX6_pays_31 : decode cX6_pays 31 = .ok (.if_icmp .ge 89, 3) := by decide +kernel
theorem dX6_pays_34 : decode cX6_pays 34 = .ok (.aload_n 1, 1) := by decide +kernel
theorem dX6_pays_35 : decode cX6_pays 35 = .ok (.iload 5, 2) := by decide +kernel
theorem dX6_pays_37 : decode cX6_pays 37 = .ok (.iconst 3, 1) := by decide +kernel
theorem dX6_pays_38 : decode cX6_pays 38 = .ok (.invokestatic 47, 3) := by decide +kernel
theorem dX6_pays_41 : decode cX6_pays 41 = .ok (.istore 6, 2) := by decide +kernel
theorem dX6_pays_43 : decode cX6_pays 43 = .ok (.aload_n 1, 1) := by decide +kernel
theorem dX6_pays_44 : decode cX6_pays 44 = .ok (.iconst 3, 1) := by decide +kernel
theorem dX6_pays_45 : decode cX6_pays 45 = .ok (.iaload, 1) := by decide +kernel
theorem dX6_pays_46 : decode cX6_pays 46 = .ok (.ifCond .eq 19, 3) := by decide +kernel
theorem dX6_pays_49 : decode cX6_pays 49 = .ok (.aload_n 0, 1) := by decide +kernel
theorem dX6_pays_50 : decode cX6_pays 50 = .ok (.getfield 25, 3) := by decide +kernel
theorem dX6_pays_53 : decode cX6_pays 53 = .ok (.iload 5, 2) := by decide +kernel
theorem dX6_pays_55 : decode cX6_pays 55 = .ok (.iaload, 1) := by decide +kernel
theorem dX6_pays_56 : decode cX6_pays 56 = .ok (.aload_n 1, 1) := by decide +kernel
theorem dX6_pays_57 : decode cX6_pays 57 = .ok (.iconst 3, 1) := by decide +kernel
theorem dX6_pays_58 : decode cX6_pays 58 = .ok (.iaload, 1) := by decide +kernel
theorem dX6_pays_59 : decode cX6_pays 59 = .ok (.idiv, 1) := by decide +kernel
theorem dX6_pays_60 : decode cX6_pays 60 = .ok (.iload 6, 2) := by decide +kernel
theorem dX6_pays_62 : decode cX6_pays 62 = .ok (.if_icmp .le 8, 3) := by decide +kernel
theorem dX6_pays_65 : decode cX6_pays 65 = .ok (.iload 6, 2) := by decide +kernel
theorem dX6_pays_67 : decode cX6_pays 67 = .ok (.goto 14, 3) := by decide +kernel
theorem dX6_pays_70 : decode cX6_pays 70 = .ok (.aload_n 0, 1) := by decide +kernel
theorem dX6_pays_71 : decode cX6_pays 71 = .ok (.getfield 25, 3) := by decide +kernel
theorem dX6_pays_74 : decode cX6_pays 74 = .ok (.iload 5, 2) := by decide +kernel
theorem dX6_pays_76 : decode cX6_pays 76 = .ok (.iaload, 1) := by decide +kernel
theorem dX6_pays_77 : decode cX6_pays 77 = .ok (.aload_n 1, 1) := by decide +kernel
theorem dX6_pays_78 : decode cX6_pays 78 = .ok (.iconst 3, 1) := by decide +kernel
theorem dX6_pays_79 : decode cX6_pays 79 = .ok (.iaload, 1) := by decide +kernel
theorem dX6_pays_80 : decode cX6_pays 80 = .ok (.idiv, 1) := by decide +kernel
theorem dX6_pays_81 : decode cX6_pays 81 = .ok (.istore 7, 2) := by decide +kernel
theorem dX6_pays_83 : decode cX6_pays 83 = .ok (.aload_n 1, 1) := by decide +kernel
theorem dX6_pays_84 : decode cX6_pays 84 = .ok (.iload 5, 2) := by decide +kernel
theorem dX6_pays_86 : decode cX6_pays 86 = .ok (.iconst 3, 1) := by decide +kernel
theorem dX6_pays_87 : decode cX6_pays 87 = .ok (.iload 7, 2) := by decide +kernel
theorem dX6_pays_89 : decode cX6_pays 89 = .ok (.ineg, 1) := by decide +kernel
theorem dX6_pays_90 : decode cX6_pays 90 = .ok (.invokestatic 66, 3) := by decide +kernel
theorem dX6_pays_93 : decode cX6_pays 93 = .ok (.aload_n 1, 1) := by decide +kernel
theorem dX6_pays_94 : decode cX6_pays 94 = .ok (.iload 5, 2) := by decide +kernel
theorem dX6_pays_96 : decode cX6_pays 96 = .ok (.iconst 4, 1) := by decide +kernel
theorem dX6_pays_97 : decode cX6_pays 97 = .ok (.aload_n 0, 1) := by decide +kernel
theorem dX6_pays_98 : decode cX6_pays 98 = .ok (.getfield 25, 3) := by decide +kernel
theorem dX6_pays_101 : decode cX6_pays 101 = .ok (.iload 5, 2) := by decide +kernel
theorem dX6_pays_103 : decode cX6_pays 103 = .ok (.iaload, 1) := by decide +kernel
theorem dX6_pays_104 : decode cX6_pays 104 = .ok (.iload 7, 2) := by decide +kernel
theorem dX6_pays_106 : decode cX6_pays 106 = .ok (.aload_n 1, 1) := by decide +kernel
theorem dX6_pays_107 : decode cX6_pays 107 = .ok (.iconst 3, 1) := by decide +kernel
theorem dX6_pays_108 : decode cX6_pays 108 = .ok (.iaload, 1) := by decide +kernel
theorem dX6_pays_109 : decode cX6_pays 109 = .ok (.imul, 1) := by decide +kernel
