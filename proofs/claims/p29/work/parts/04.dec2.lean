theorem dX5_yarn_38 : decode cX5_yarn 38 = .ok (.ifCond .ne 13, 3) := by decide +kernel
theorem dX5_yarn_41 : decode cX5_yarn 41 = .ok (.new 51, 3) := by decide +kernel
theorem dX5_yarn_44 : decode cX5_yarn 44 = .ok (.dup, 1) := by decide +kernel
theorem dX5_yarn_45 : decode cX5_yarn 45 = .ok (.ldc 77, 2) := by decide +kernel
theorem dX5_yarn_47 : decode cX5_yarn 47 = .ok (.invokespecial 55, 3) := by decide +kernel
theorem dX5_yarn_50 : decode cX5_yarn 50 = .ok (.athrow, 1) := by decide +kernel
theorem dX5_yarn_51 : decode cX5_yarn 51 = .ok (.aload_n 0, 1) := by decide +kernel
theorem dX5_yarn_52 : decode cX5_yarn 52 = .ok (.getfield 10, 3) := by decide +kernel
theorem dX5_yarn_55 : decode cX5_yarn 55 = .ok (.getfield 59, 3) := by decide +kernel
theorem dX5_yarn_58 : decode cX5_yarn 58 = .ok (.iload_n 1, 1) := by decide +kernel
theorem dX5_yarn_59 : decode cX5_yarn 59 = .ok (.aaload, 1) := by decide +kernel
theorem dX5_yarn_60 : decode cX5_yarn 60 = .ok (.getfield 79, 3) := by decide +kernel
theorem dX5_yarn_63 : decode cX5_yarn 63 = .ok (.astore 4, 2) := by decide +kernel
theorem dX5_yarn_65 : decode cX5_yarn 65 = .ok (.aload 4, 2) := by decide +kernel
theorem dX5_yarn_67 : decode cX5_yarn 67 = .ok (.iload_n 2, 1) := by decide +kernel
theorem dX5_yarn_68 : decode cX5_yarn 68 = .ok (.invokevirtual 83, 3) := by decide +kernel
theorem dX5_yarn_71 : decode cX5_yarn 71 = .ok (.iload_n 3, 1) := by decide +kernel
theorem dX5_yarn_72 : decode cX5_yarn 72 = .ok (.iadd, 1) := by decide +kernel
theorem dX5_yarn_73 : decode cX5_yarn 73 = .ok (.iconst 0, 1) := by decide +kernel
theorem dX5_yarn_74 : decode cX5_yarn 74 = .ok (.sipush 9999, 3) := by decide +kernel
theorem dX5_yarn_77 : decode cX5_yarn 77 = .ok (.invokestatic 37, 3) := by decide +kernel
theorem dX5_yarn_80 : decode cX5_yarn 80 = .ok (.ifCond .ne 13, 3) := by decide +kernel
theorem dX5_yarn_83 : decode cX5_yarn 83 = .ok (.new 89, 3) := by decide +kernel
theorem dX5_yarn_86 : decode cX5_yarn 86 = .ok (.dup, 1) := by decide +kernel
theorem dX5_yarn_87 : decode cX5_yarn 87 = .ok (.ldc 91, 2) := by decide +kernel
theorem dX5_yarn_89 : decode cX5_yarn 89 = .ok (.invokespecial 93, 3) := by decide +kernel
theorem dX5_yarn_92 : decode cX5_yarn 92 = .ok (.athrow, 1) := by decide +kernel
theorem dX5_yarn_93 : decode cX5_yarn 93 = .ok (.aload_n 0, 1) := by decide +kernel
theorem dX5_yarn_94 : decode cX5_yarn 94 = .ok (.invokevirtual 56, 3) := by decide +kernel
theorem dX5_yarn_97 : decode cX5_yarn 97 = .ok (.aload 4, 2) := by decide +kernel
theorem dX5_yarn_99 : decode cX5_yarn 99 = .ok (.iload_n 2, 1) := by decide +kernel
theorem dX5_yarn_100 : decode cX5_yarn 100 = .ok (.iload_n 3, 1) := by decide +kernel
theorem dX5_yarn_101 : decode cX5_yarn 101 = .ok (.invokevirtual 94, 3) := by decide +kernel
theorem dX5_yarn_104 : decode cX5_yarn 104 = .ok (.ireturn, 1) := by decide +kernel
theorem dX5_store_0 : decode cX5_store 0 = .ok (.iload_n 1, 1) := by decide +kernel
theorem dX5_store_1 : decode cX5_store 1 = .ok (.iconst 0, 1) := by decide +kernel
theorem dX5_store_2 : decode cX5_store 2 = .ok (.iconst 3, 1) := by decide +kernel
theorem dX5_store_3 : decode cX5_store 3 = .ok (.invokestatic 37, 3) := by decide +kernel
theorem dX5_store_6 : decode cX5_store 6 = .ok (.ifCond .ne 13, 3) := by decide +kernel
theorem dX5_store_9 : decode cX5_store 9 = .ok (.new 41, 3) := by decide +kernel
theorem dX5_store_12 : decode cX5_store 12 = .ok (.dup, 1) := by decide +kernel
theorem dX5_store_13 : decode cX5_store 13 = .ok (.ldc 98, 2) := by decide +kernel
theorem dX5_store_15 : decode cX5_store 15 = .ok (.invokespecial 45, 3) := by decide +kernel
theorem dX5_store_18 : decode cX5_store 18 = .ok (.athrow, 1) := by decide +kernel
theorem dX5_store_19 : decode cX5_store 19 = .ok (.iload_n 2, 1) := by decide +kernel
theorem dX5_store_20 : decode cX5_store 20 = .ok (.iconst 1, 1) := by decide +kernel
theorem dX5_store_21 : decode cX5_store 21 = .ok (.sipush 9999, 3) := by decide +kernel
theorem dX5_store_24 : decode cX5_store 24 = .ok (.invokestatic 37, 3) := by decide +kernel
theorem dX5_store_27 : decode cX5_store 27 = .ok (.ifCond .ne 13, 3) := by decide +kernel
theorem dX5_store_30 : decode cX5_store 30 = .ok (.new 51, 3) := by decide +kernel
theorem dX5_store_33 : decode cX5_store 33 = .ok (.dup, 1) := by decide +kernel
theorem dX5_store_34 : decode cX5_store 34 = .ok (.ldc 77, 2) := by decide +kernel
theorem dX5_store_36 : decode cX5_store 36 = .ok (.invokespecial 55, 3) := by decide +kernel
theorem dX5_store_39 : decode cX5_store 39 = .ok (.athrow, 1) := by decide +kernel
theorem dX5_store_40 : decode cX5_store 40 = .ok (.aload_n 0, 1) := by decide +kernel
theorem dX5_store_41 : decode cX5_store 41 = .ok (.getfield 10, 3) := by decide +kernel
theorem dX5_store_44 : decode cX5_store 44 = .ok (.getfield 100, 3) := by decide +kernel
theorem dX5_store_47 : decode cX5_store 47 = .ok (.iload_n 1, 1) := by decide +kernel
theorem dX5_store_48 : decode cX5_store 48 = .ok (.invokevirtual 83, 3) := by decide +kernel
theorem dX5_store_51 : decode cX5_store 51 = .ok (.iload_n 2, 1) := by decide +kernel
theorem dX5_store_52 : decode cX5_store 52 = .ok (.iadd, 1) := by decide +kernel
theorem dX5_store_53 : decode cX5_store 53 = .ok (.ldc 103, 2) := by decide +kernel
theorem dX5_store_55 : decode cX5_store 55 = .ok (.if_icmp .le 13, 3) := by decide +kernel
theorem dX5_store_58 : decode cX5_store 58 = .ok (.new 89, 3) := by decide +kernel
theorem dX5_store_61 : decode cX5_store 61 = .ok (.dup, 1) := by decide +kernel
theorem dX5_store_62 : decode cX5_store 62 = .ok (.ldc 104, 2) := by decide +kernel
theorem dX5_store_64 : decode cX5_store 64 = .ok (.invokespecial 93, 3) := by decide +kernel
theorem dX5_store_67 : decode cX5_store 67 = .ok (.athrow, 1) := by decide +kernel
theorem dX5_store_68 : decode cX5_store 68 = .ok (.aload_n 0, 1) := by decide +kernel
theorem dX5_store_69 : decode cX5_store 69 = .ok (.invokevirtual 56, 3) := by decide +kernel
theorem dX5_store_72 : decode cX5_store 72 = .ok (.aload_n 0, 1) := by decide +kernel
theorem dX5_store_73 : decode cX5_store 73 = .ok (.getfield 10, 3) := by decide +kernel
theorem dX5_store_76 : decode cX5_store 76 = .ok (.getfield 100, 3) := by decide +kernel
theorem dX5_store_79 : decode cX5_store 79 = .ok (.iload_n 1, 1) := by decide +kernel
theorem dX5_store_80 : decode cX5_store 80 = .ok (.iload_n 2, 1) := by decide +kernel
theorem dX5_store_81 : decode cX5_store 81 = .ok (.invokevirtual 94, 3) := by decide +kernel
theorem dX5_store_84 : decode cX5_store 84 = .ok (.ireturn, 1) := by decide +kernel
theorem dX5_give_0 : decode cX5_give 0 = .ok (.iload_n 1, 1) := by decide +kernel
theorem dX5_give_1 : decode cX5_give 1 = .ok (.iconst 0, 1) := by decide +kernel
theorem dX5_give_2 : decode cX5_give 2 = .ok (.iconst 5, 1) := by decide +kernel
theorem dX5_give_3 : decode cX5_give 3 = .ok (.invokestatic 37, 3) := by decide +kernel
theorem dX5_give_6 : decode cX5_give 6 = .ok (.ifCond .eq 21, 3) := by decide +kernel
theorem dX5_give_9 : decode cX5_give 9 = .ok (.iload_n 2, 1) := by decide +kernel
theorem dX5_give_10 : decode cX5_give 10 = .ok (.iconst 0, 1) := by decide +kernel
theorem dX5_give_11 : decode cX5_give 11 = .ok (.iconst 5, 1) := by decide +kernel
theorem dX5_give_12 : decode cX5_give 12 = .ok (.invokestatic 37, 3) := by decide +kernel
theorem dX5_give_15 : decode cX5_give 15 = .ok (.ifCond .eq 12, 3) := by decide +kernel
theorem dX5_give_18 : decode cX5_give 18 = .ok (.iload_n 3, 1) := by decide +kernel
theorem dX5_give_19 : decode cX5_give 19 = .ok (.iconst 0, 1) := by decide +kernel
theorem dX5_give_20 : decode cX5_give 20 = .ok (.iconst 3, 1) := by decide +kernel
theorem dX5_give_21 : decode cX5_give 21 = .ok (.invokestatic 37, 3) := by decide +kernel
theorem dX5_give_24 : decode cX5_give 24 = .ok (.ifCond .ne 13, 3) := by decide +kernel
theorem dX5_give_27 : decode cX5_give 27 = .ok (.new 41, 3) := by decide +kernel
theorem dX5_give_30 : decode cX5_give 30 = .ok (.dup, 1) := by decide +kernel
theorem dX5_give_31 : decode cX5_give 31 = .ok (.ldc 75, 2) := by decide +kernel
theorem dX5_give_33 : decode cX5_give 33 = .ok (.invokespecial 45, 3) := by decide +kernel
theorem dX5_give_36 : decode cX5_give 36 = .ok (.athrow, 1) := by decide +kernel
theorem dX5_give_37 : decode cX5_give 37 = .ok (.iload_n 1, 1) := by decide +kernel
theorem dX5_give_38 : decode cX5_give 38 = .ok (.iload_n 2, 1) := by decide +kernel
theorem dX5_give_39 : decode cX5_give 39 = .ok (.if_icmp .eq 15, 3) := by decide +kernel
theorem dX5_give_42 : decode cX5_give 42 = .ok (.iload 4, 2) := by decide +kernel
theorem dX5_give_44 : decode cX5_give 44 = .ok (.iconst 1, 1) := by decide +kernel
theorem dX5_give_45 : decode cX5_give 45 = .ok (.sipush 9999, 3) := by decide +kernel
theorem dX5_give_48 : decode cX5_give 48 = .ok (.invokestatic 37, 3) := by decide +kernel
theorem dX5_give_51 : decode cX5_give 51 = .ok (.ifCond .ne 13, 3) := by decide +kernel
theorem dX5_give_54 : decode cX5_give 54 = .ok (.new 51, 3) := by decide +kernel
theorem dX5_give_57 : decode cX5_give 57 = .ok (.dup, 1) := by decide +kernel
theorem dX5_give_58 : decode cX5_give 58 = .ok (.ldc 106, 2) := by decide +kernel
theorem dX5_give_60 : decode cX5_give 60 = .ok (.invokespecial 55, 3) := by decide +kernel
theorem dX5_give_63 : decode cX5_give 63 = .ok (.athrow, 1) := by decide +kernel
theorem dX5_give_64 : decode cX5_give 64 = .ok (.aload_n 0, 1) := by decide +kernel
theorem dX5_give_65 : decode cX5_give 65 = .ok (.getfield 10, 3) := by decide +kernel
theorem dX5_give_68 : decode cX5_give 68 = .ok (.getfield 59, 3) := by decide +kernel
theorem dX5_give_71 : decode cX5_give 71 = .ok (.iload_n 1, 1) := by decide +kernel
theorem dX5_give_72 : decode cX5_give 72 = .ok (.aaload, 1) := by decide +kernel
theorem dX5_give_73 : decode cX5_give 73 = .ok (.getfield 79, 3) := by decide +kernel
theorem dX5_give_76 : decode cX5_give 76 = .ok (.astore 5, 2) := by decide +kernel
theorem dX5_give_78 : decode cX5_give 78 = .ok (.aload_n 0, 1) := by decide +kernel
theorem dX5_give_79 : decode cX5_give 79 = .ok (.getfield 10, 3) := by decide +kernel
theorem dX5_give_82 : decode cX5_give 82 = .ok (.getfield 59, 3) := by decide +kernel
theorem dX5_give_85 : decode cX5_give 85 = .ok (.iload_n 2, 1) := by decide +kernel
theorem dX5_give_86 : decode cX5_give 86 = .ok (.aaload, 1) := by decide +kernel
theorem dX5_give_87 : decode cX5_give 87 = .ok (.getfield 79, 3) := by decide +kernel
theorem dX5_give_90 : decode cX5_give 90 = .ok (.astore 6, 2) := by decide +kernel
theorem dX5_give_92 : decode cX5_give 92 = .ok (.aload 5, 2) := by decide +kernel
theorem dX5_give_94 : decode cX5_give 94 = .ok (.iload_n 3, 1) := by decide +kernel
theorem dX5_give_95 : decode cX5_give 95 = .ok (.invokevirtual 83, 3) := by decide +kernel
theorem dX5_give_98 : decode cX5_give 98 = .ok (.iload 4, 2) := by decide +kernel
theorem dX5_give_100 : decode cX5_give 100 = .ok (.if_icmp .lt 18, 3) := by decide +kernel
theorem dX5_give_103 : decode cX5_give 103 = .ok (.aload 6, 2) := by decide +kernel
theorem dX5_give_105 : decode cX5_give 105 = .ok (.iload_n 3, 1) := by decide +kernel
theorem dX5_give_106 : decode cX5_give 106 = .ok (.invokevirtual 83, 3) := by decide +kernel
theorem dX5_give_109 : decode cX5_give 109 = .ok (.iload 4, 2) := by decide +kernel
theorem dX5_give_111 : decode cX5_give 111 = .ok (.iadd, 1) := by decide +kernel
theorem dX5_give_112 : decode cX5_give 112 = .ok (.sipush 9999, 3) := by decide +kernel
theorem dX5_give_115 : decode cX5_give 115 = .ok (.if_icmp .le 13, 3) := by decide +kernel
theorem dX5_give_118 : decode cX5_give 118 = .ok (.new 89, 3) := by decide +kernel
theorem dX5_give_121 : decode cX5_give 121 = .ok (.dup, 1) := by decide +kernel
theorem dX5_give_122 : decode cX5_give 122 = .ok (.ldc 91, 2) := by decide +kernel
theorem dX5_give_124 : decode cX5_give 124 = .ok (.invokespecial 93, 3) := by decide +kernel
theorem dX5_give_127 : decode cX5_give 127 = .ok (.athrow, 1) := by decide +kernel
theorem dX5_give_128 : decode cX5_give 128 = .ok (.aload_n 0, 1) := by decide +kernel
theorem dX5_give_129 : decode cX5_give 129 = .ok (.invokevirtual 56, 3) := by decide +kernel
theorem dX5_give_132 : decode cX5_give 132 = .ok (.aload 5, 2) := by decide +kernel
theorem dX5_give_134 : decode cX5_give 134 = .ok (.iload_n 3, 1) := by decide +kernel
theorem dX5_give_135 : decode cX5_give 135 = .ok (.iload 4, 2) := by decide +kernel
theorem dX5_give_137 : decode cX5_give 137 = .ok (.ineg, 1) := by decide +kernel
theorem dX5_give_138 : decode cX5_give 138 = .ok (.invokevirtual 94, 3) := by decide +kernel
theorem dX5_give_141 : decode cX5_give 141 = .ok (.pop, 1) := by decide +kernel
theorem dX5_give_142 : decode cX5_give 142 = .ok (.aload 6, 2) := by decide +kernel
theorem dX5_give_144 : decode cX5_give 144 = .ok (.iload_n 3, 1) := by decide +kernel
theorem dX5_give_145 : decode cX5_give 145 = .ok (.iload 4, 2) := by decide +kernel
theorem dX5_give_147 : decode cX5_give 147 = .ok (.invokevirtual 94, 3) := by decide +kernel
theorem dX5_give_150 : decode cX5_give 150 = .ok (.ireturn, 1) := by decide +kernel
theorem dX5_order_0 : decode cX5_order 0 = .ok (.iload_n 1, 1) := by decide +kernel
theorem dX5_order_1 : decode cX5_order 1 = .ok (.iconst 0, 1) := by decide +kernel
theorem dX5_order_2 : decode cX5_order 2 = .ok (.iconst 3, 1) := by decide +kernel
theorem dX5_order_3 : decode cX5_order 3 = .ok (.invokestatic 37, 3) := by decide +kernel
theorem dX5_order_6 : decode cX5_order 6 = .ok (.ifCond .ne 13, 3) := by decide +kernel
theorem dX5_order_9 : decode cX5_order 9 = .ok (.new 41, 3) := by decide +kernel
theorem dX5_order_12 : decode cX5_order 12 = .ok (.dup, 1) := by decide +kernel
theorem dX5_order_13 : decode cX5_order 13 = .ok (.ldc 98, 2) := by decide +kernel
theorem dX5_order_15 : decode cX5_order 15 = .ok (.invokespecial 45, 3) := by decide +kernel
theorem dX5_order_18 : decode cX5_order 18 = .ok (.athrow, 1) := by decide +kernel
theorem dX5_order_19 : decode cX5_order 19 = .ok (.iload_n 2, 1) := by decide +kernel
theorem dX5_order_20 : decode cX5_order 20 = .ok (.bipush 40, 2) := by decide +kernel
theorem dX5_order_22 : decode cX5_order 22 = .ok (.sipush 200, 3) := by decide +kernel
theorem dX5_order_25 : decode cX5_order 25 = .ok (.invokestatic 37, 3) := by decide +kernel
theorem dX5_order_28 : decode cX5_order 28 = .ok (.ifCond .eq 37, 3) := by decide +kernel
theorem dX5_order_31 : decode cX5_order 31 = .ok (.iload_n 3, 1) := by decide +kernel
theorem dX5_order_32 : decode cX5_order 32 = .ok (.iconst 1, 1) := by decide +kernel
theorem dX5_order_33 : decode cX5_order 33 = .ok (.sipush 200, 3) := by decide +kernel
theorem dX5_order_36 : decode cX5_order 36 = .ok (.invokestatic 37, 3) := by decide +kernel
theorem dX5_order_39 : decode cX5_order 39 = .ok (.ifCond .eq 26, 3) := by decide +kernel
theorem dX5_order_42 : decode cX5_order 42 = .ok (.iload 4, 2) := by decide +kernel
theorem dX5_order_44 : decode cX5_order 44 = .ok (.iconst 1, 1) := by decide +kernel
theorem dX5_order_45 : decode cX5_order 45 = .ok (.bipush 99, 2) := by decide +kernel
theorem dX5_order_47 : decode cX5_order 47 = .ok (.invokestatic 37, 3) := by decide +kernel
theorem dX5_order_50 : decode cX5_order 50 = .ok (.ifCond .eq 15, 3) := by decide +kernel
theorem dX5_order_53 : decode cX5_order 53 = .ok (.iload 5, 2) := by decide +kernel
theorem dX5_order_55 : decode cX5_order 55 = .ok (.iconst 0, 1) := by decide +kernel
theorem dX5_order_56 : decode cX5_order 56 = .ok (.sipush 9999, 3) := by decide +kernel
theorem dX5_order_59 : decode cX5_order 59 = .ok (.invokestatic 37, 3) := by decide +kernel
theorem dX5_order_62 : decode cX5_order 62 = .ok (.ifCond .ne 13, 3) := by decide +kernel
theorem dX5_order_65 : decode cX5_order 65 = .ok (.new 51, 3) := by decide +kernel
theorem dX5_order_68 : decode cX5_order 68 = .ok (.dup, 1) := by decide +kernel
theorem dX5_order_69 : decode cX5_order 69 = .ok (.ldc 108, 2) := by decide +kernel
theorem dX5_order_71 : decode cX5_order 71 = .ok (.invokespecial 55, 3) := by decide +kernel
theorem dX5_order_74 : decode cX5_order 74 = .ok (.athrow, 1) := by decide +kernel
theorem dX5_order_75 : decode cX5_order 75 = .ok (.aload_n 0, 1) := by decide +kernel
theorem dX5_order_76 : decode cX5_order 76 = .ok (.getfield 10, 3) := by decide +kernel
theorem dX5_order_79 : decode cX5_order 79 = .ok (.getfield 110, 3) := by decide +kernel
theorem dX5_order_82 : decode cX5_order 82 = .ok (.bipush 10, 2) := by decide +kernel
theorem dX5_order_84 : decode cX5_order 84 = .ok (.if_icmp .lt 13, 3) := by decide +kernel
theorem dX5_order_87 : decode cX5_order 87 = .ok (.new 89, 3) := by decide +kernel
theorem dX5_order_90 : decode cX5_order 90 = .ok (.dup, 1) := by decide +kernel
theorem dX5_order_91 : decode cX5_order 91 = .ok (.ldc 113, 2) := by decide +kernel
theorem dX5_order_93 : decode cX5_order 93 = .ok (.invokespecial 93, 3) := by decide +kernel
theorem dX5_order_96 : decode cX5_order 96 = .ok (.athrow, 1) := by decide +kernel
theorem dX5_order_97 : decode cX5_order 97 = .ok (.aload_n 0, 1) := by decide +kernel
theorem dX5_order_98 : decode cX5_order 98 = .ok (.invokevirtual 56, 3) := by decide +kernel
theorem dX5_order_101 : decode cX5_order 101 = .ok (.aload_n 0, 1) := by decide +kernel
theorem dX5_order_102 : decode cX5_order 102 = .ok (.getfield 10, 3) := by decide +kernel
theorem dX5_order_105 : decode cX5_order 105 = .ok (.iload_n 1, 1) := by decide +kernel
theorem dX5_order_106 : decode cX5_order 106 = .ok (.iload_n 2, 1) := by decide +kernel
theorem dX5_order_107 : decode cX5_order 107 = .ok (.iload_n 3, 1) := by decide +kernel
theorem dX5_order_108 : decode cX5_order 108 = .ok (.iload 4, 2) := by decide +kernel
theorem dX5_order_110 : decode cX5_order 110 = .ok (.iload 5, 2) := by decide +kernel
theorem dX5_order_112 : decode cX5_order 112 = .ok (.invokevirtual 115, 3) := by decide +kernel
theorem dX5_order_115 : decode cX5_order 115 = .ok (.ireturn, 1) := by decide +kernel
theorem dX5_cancel_0 : decode cX5_cancel 0 = .ok (.aload_n 0, 1) := by decide +kernel
theorem dX5_cancel_1 : decode cX5_cancel 1 = .ok (.getfield 10, 3) := by decide +kernel
theorem dX5_cancel_4 : decode cX5_cancel 4 = .ok (.iload_n 1, 1) := by decide +kernel
theorem dX5_cancel_5 : decode cX5_cancel 5 = .ok (.invokevirtual 119, 3) := by decide +kernel
theorem dX5_cancel_8 : decode cX5_cancel 8 = .ok (.astore_n 2, 1) := by decide +kernel
theorem dX5_cancel_9 : decode cX5_cancel 9 = .ok (.aload_n 2, 1) := by decide +kernel
theorem dX5_cancel_10 : decode cX5_cancel 10 = .ok (.ifnonnull 13, 3) := by decide +kernel
theorem dX5_cancel_13 : decode cX5_cancel 13 = .ok (.new 41, 3) := by decide +kernel
theorem dX5_cancel_16 : decode cX5_cancel 16 = .ok (.dup, 1) := by decide +kernel
theorem dX5_cancel_17 : decode cX5_cancel 17 = .ok (.ldc 123, 2) := by decide +kernel
theorem dX5_cancel_19 : decode cX5_cancel 19 = .ok (.invokespecial 45, 3) := by decide +kernel
theorem dX5_cancel_22 : decode cX5_cancel 22 = .ok (.athrow, 1) := by decide +kernel
theorem dX5_cancel_23 : decode cX5_cancel 23 = .ok (.aload_n 0, 1) := by decide +kernel
theorem dX5_cancel_24 : decode cX5_cancel 24 = .ok (.invokevirtual 56, 3) := by decide +kernel
theorem dX5_cancel_27 : decode cX5_cancel 27 = .ok (.aload_n 2, 1) := by decide +kernel
theorem dX5_cancel_28 : decode cX5_cancel 28 = .ok (.getfield 125, 3) := by decide +kernel
theorem dX5_cancel_31 : decode cX5_cancel 31 = .ok (.istore_n 3, 1) := by decide +kernel
theorem dX5_cancel_32 : decode cX5_cancel 32 = .ok (.aload_n 0, 1) := by decide +kernel
theorem dX5_cancel_33 : decode cX5_cancel 33 = .ok (.getfield 10, 3) := by decide +kernel
theorem dX5_cancel_36 : decode cX5_cancel 36 = .ok (.aload_n 2, 1) := by decide +kernel
theorem dX5_cancel_37 : decode cX5_cancel 37 = .ok (.invokevirtual 130, 3) := by decide +kernel
theorem dX5_cancel_40 : decode cX5_cancel 40 = .ok (.iload_n 3, 1) := by decide +kernel
theorem dX5_cancel_41 : decode cX5_cancel 41 = .ok (.ireturn, 1) := by decide +kernel
theorem dX5_set_0 : decode cX5_set 0 = .ok (.iload_n 1, 1) := by decide +kernel
theorem dX5_set_1 : decode cX5_set 1 = .ok (.iconst 0, 1) := by decide +kernel
theorem dX5_set_2 : decode cX5_set 2 = .ok (.iconst 3, 1) := by decide +kernel
theorem dX5_set_3 : decode cX5_set 3 = .ok (.invokestatic 37, 3) := by decide +kernel
theorem dX5_set_6 : decode cX5_set 6 = .ok (.ifCond .ne 13, 3) := by decide +kernel
theorem dX5_set_9 : decode cX5_set 9 = .ok (.new 41, 3) := by decide +kernel
theorem dX5_set_12 : decode cX5_set 12 = .ok (.dup, 1) := by decide +kernel
theorem dX5_set_13 : decode cX5_set 13 = .ok (.ldc 134, 2) := by decide +kernel
theorem dX5_set_15 : decode cX5_set 15 = .ok (.invokespecial 45, 3) := by decide +kernel
theorem dX5_set_18 : decode cX5_set 18 = .ok (.athrow, 1) := by decide +kernel
theorem dX5_set_19 : decode cX5_set 19 = .ok (.iload_n 2, 1) := by decide +kernel
theorem dX5_set_20 : decode cX5_set 20 = .ok (.iconst 0, 1) := by decide +kernel
theorem dX5_set_21 : decode cX5_set 21 = .ok (.getstatic 136, 3) := by decide +kernel
theorem dX5_set_24 : decode cX5_set 24 = .ok (.iload_n 1, 1) := by decide +kernel
theorem dX5_set_25 : decode cX5_set 25 = .ok (.iaload, 1) := by decide +kernel
theorem dX5_set_26 : decode cX5_set 26 = .ok (.invokestatic 37, 3) := by decide +kernel
theorem dX5_set_29 : decode cX5_set 29 = .ok (.ifCond .ne 13, 3) := by decide +kernel
theorem dX5_set_32 : decode cX5_set 32 = .ok (.new 51, 3) := by decide +kernel
theorem dX5_set_35 : decode cX5_set 35 = .ok (.dup, 1) := by decide +kernel
theorem dX5_set_36 : decode cX5_set 36 = .ok (.ldc 139, 2) := by decide +kernel
theorem dX5_set_38 : decode cX5_set 38 = .ok (.invokespecial 55, 3) := by decide +kernel
theorem dX5_set_41 : decode cX5_set 41 = .ok (.athrow, 1) := by decide +kernel
theorem dX5_set_42 : decode cX5_set 42 = .ok (.aload_n 0, 1) := by decide +kernel
theorem dX5_set_43 : decode cX5_set 43 = .ok (.invokevirtual 56, 3) := by decide +kernel
theorem dX5_set_46 : decode cX5_set 46 = .ok (.aload_n 0, 1) := by decide +kernel
theorem dX5_set_47 : decode cX5_set 47 = .ok (.getfield 10, 3) := by decide +kernel
theorem dX5_set_50 : decode cX5_set 50 = .ok (.getfield 141, 3) := by decide +kernel
theorem dX5_set_53 : decode cX5_set 53 = .ok (.iload_n 1, 1) := by decide +kernel
theorem dX5_set_54 : decode cX5_set 54 = .ok (.iaload, 1) := by decide +kernel
theorem dX5_set_55 : decode cX5_set 55 = .ok (.istore_n 3, 1) := by decide +kernel
theorem dX5_set_56 : decode cX5_set 56 = .ok (.aload_n 0, 1) := by decide +kernel
theorem dX5_set_57 : decode cX5_set 57 = .ok (.getfield 10, 3) := by decide +kernel
theorem dX5_set_60 : decode cX5_set 60 = .ok (.getfield 141, 3) := by decide +kernel
theorem dX5_set_63 : decode cX5_set 63 = .ok (.iload_n 1, 1) := by decide +kernel
theorem dX5_set_64 : decode cX5_set 64 = .ok (.iload_n 2, 1) := by decide +kernel
theorem dX5_set_65 : decode cX5_set 65 = .ok (.iastore, 1) := by decide +kernel
theorem dX5_set_66 : decode cX5_set 66 = .ok (.iload_n 3, 1) := by decide +kernel
theorem dX5_set_67 : decode cX5_set 67 = .ok (.ireturn, 1) := by decide +kernel
theorem dX5_pass_0 : decode cX5_pass 0 = .ok (.iload_n 1, 1) := by decide +kernel
theorem dX5_pass_1 : decode cX5_pass 1 = .ok (.iconst 1, 1) := by decide +kernel
theorem dX5_pass_2 : decode cX5_pass 2 = .ok (.bipush 99, 2) := by decide +kernel
theorem dX5_pass_4 : decode cX5_pass 4 = .ok (.invokestatic 37, 3) := by decide +kernel
theorem dX5_pass_7 : decode cX5_pass 7 = .ok (.ifCond .ne 13, 3) := by decide +kernel
theorem dX5_pass_10 : decode cX5_pass 10 = .ok (.new 51, 3) := by decide +kernel
theorem dX5_pass_13 : decode cX5_pass 13 = .ok (.dup, 1) := by decide +kernel
theorem dX5_pass_14 : decode cX5_pass 14 = .ok (.ldc 144, 2) := by decide +kernel
theorem dX5_pass_16 : decode cX5_pass 16 = .ok (.invokespecial 55, 3) := by decide +kernel
theorem dX5_pass_19 : decode cX5_pass 19 = .ok (.athrow, 1) := by decide +kernel
theorem dX5_pass_20 : decode cX5_pass 20 = .ok (.aload_n 0, 1) := by decide +kernel
theorem dX5_pass_21 : decode cX5_pass 21 = .ok (.getfield 10, 3) := by decide +kernel
theorem dX5_pass_24 : decode cX5_pass 24 = .ok (.getfield 146, 3) := by decide +kernel
theorem dX5_pass_27 : decode cX5_pass 27 = .ok (.iload_n 1, 1) := by decide +kernel
theorem dX5_pass_28 : decode cX5_pass 28 = .ok (.iadd, 1) := by decide +kernel
theorem dX5_pass_29 : decode cX5_pass 29 = .ok (.sipush 9999, 3) := by decide +kernel
theorem dX5_pass_32 : decode cX5_pass 32 = .ok (.if_icmp .le 13, 3) := by decide +kernel
theorem dX5_pass_35 : decode cX5_pass 35 = .ok (.new 89, 3) := by decide +kernel
theorem dX5_pass_38 : decode cX5_pass 38 = .ok (.dup, 1) := by decide +kernel
theorem dX5_pass_39 : decode cX5_pass 39 = .ok (.ldc 149, 2) := by decide +kernel
theorem dX5_pass_41 : decode cX5_pass 41 = .ok (.invokespecial 93, 3) := by decide +kernel
theorem dX5_pass_44 : decode cX5_pass 44 = .ok (.athrow, 1) := by decide +kernel
theorem dX5_pass_45 : decode cX5_pass 45 = .ok (.aload_n 0, 1) := by decide +kernel
theorem dX5_pass_46 : decode cX5_pass 46 = .ok (.invokevirtual 56, 3) := by decide +kernel
theorem dX5_pass_49 : decode cX5_pass 49 = .ok (.aload_n 0, 1) := by decide +kernel
theorem dX5_pass_50 : decode cX5_pass 50 = .ok (.getfield 10, 3) := by decide +kernel
theorem dX5_pass_53 : decode cX5_pass 53 = .ok (.getfield 151, 3) := by decide +kernel
theorem dX5_pass_56 : decode cX5_pass 56 = .ok (.istore_n 2, 1) := by decide +kernel
theorem dX5_pass_57 : decode cX5_pass 57 = .ok (.iconst 0, 1) := by decide +kernel
theorem dX5_pass_58 : decode cX5_pass 58 = .ok (.istore_n 3, 1) := by decide +kernel
theorem dX5_pass_59 : decode cX5_pass 59 = .ok (.iload_n 3, 1) := by decide +kernel
theorem dX5_pass_60 : decode cX5_pass 60 = .ok (.iload_n 1, 1) := by decide +kernel
theorem dX5_pass_61 : decode cX5_pass 61 = .ok (.if_icmp .ge 17, 3) := by decide +kernel
theorem dX5_pass_64 : decode cX5_pass 64 = .ok (.aload_n 0, 1) := by decide +kernel
theorem dX5_pass_65 : decode cX5_pass 65 = .ok (.getfield 10, 3) := by decide +kernel
theorem dX5_pass_68 : decode cX5_pass 68 = .ok (.invokevirtual 154, 3) := by decide +kernel
theorem dX5_pass_71 : decode cX5_pass 71 = .ok (.pop, 1) := by decide +kernel
theorem dX5_pass_72 : decode cX5_pass 72 = .ok (.iinc 3 1, 3) := by decide +kernel
theorem dX5_pass_75 : decode cX5_pass 75 = .ok (.goto (-16), 3) := by decide +kernel
theorem dX5_pass_78 : decode cX5_pass 78 = .ok (.aload_n 0, 1) := by decide +kernel
theorem dX5_pass_79 : decode cX5_pass 79 = .ok (.getfield 10, 3) := by decide +kernel
theorem dX5_pass_82 : decode cX5_pass 82 = .ok (.getfield 151, 3) := by decide +kernel
theorem dX5_pass_85 : decode cX5_pass 85 = .ok (.iload_n 2, 1) := by decide +kernel
theorem dX5_pass_86 : decode cX5_pass 86 = .ok (.isub, 1) := by decide +kernel
theorem dX5_pass_87 : decode cX5_pass 87 = .ok (.ireturn, 1) := by decide +kernel
theorem dX5_undo_0 : decode cX5_undo 0 = .ok (.aload_n 0, 1) := by decide +kernel
theorem dX5_undo_1 : decode cX5_undo 1 = .ok (.getfield 180, 3) := by decide +kernel
theorem dX5_undo_4 : decode cX5_undo 4 = .ok (.iconst 1, 1) := by decide +kernel
theorem dX5_undo_5 : decode cX5_undo 5 = .ok (.aload_n 0, 1) := by decide +kernel
theorem dX5_undo_6 : decode cX5_undo 6 = .ok (.getfield 19, 3) := by decide +kernel
theorem dX5_undo_9 : decode cX5_undo 9 = .ok (.arraylength, 1) := by decide +kernel
theorem dX5_undo_10 : decode cX5_undo 10 = .ok (.invokestatic 37, 3) := by decide +kernel
theorem dX5_undo_13 : decode cX5_undo 13 = .ok (.ifCond .ne 13, 3) := by decide +kernel
theorem dX5_undo_16 : decode cX5_undo 16 = .ok (.new 89, 3) := by decide +kernel
theorem dX5_undo_19 : decode cX5_undo 19 = .ok (.dup, 1) := by decide +kernel
theorem dX5_undo_20 : decode cX5_undo 20 = .ok (.ldc 183, 2) := by decide +kernel
theorem dX5_undo_22 : decode cX5_undo 22 = .ok (.invokespecial 93, 3) := by decide +kernel
theorem dX5_undo_25 : decode cX5_undo 25 = .ok (.athrow, 1) := by decide +kernel
theorem dX5_undo_26 : decode cX5_undo 26 = .ok (.aload_n 0, 1) := by decide +kernel
theorem dX5_undo_27 : decode cX5_undo 27 = .ok (.dup, 1) := by decide +kernel
theorem dX5_undo_28 : decode cX5_undo 28 = .ok (.getfield 180, 3) := by decide +kernel
theorem dX5_undo_31 : decode cX5_undo 31 = .ok (.iconst 1, 1) := by decide +kernel
theorem dX5_undo_32 : decode cX5_undo 32 = .ok (.isub, 1) := by decide +kernel
theorem dX5_undo_33 : decode cX5_undo 33 = .ok (.putfield 180, 3) := by decide +kernel
theorem dX5_undo_36 : decode cX5_undo 36 = .ok (.aload_n 0, 1) := by decide +kernel
theorem dX5_undo_37 : decode cX5_undo 37 = .ok (.getfield 10, 3) := by decide +kernel
theorem dX5_undo_40 : decode cX5_undo 40 = .ok (.aload_n 0, 1) := by decide +kernel
theorem dX5_undo_41 : decode cX5_undo 41 = .ok (.getfield 19, 3) := by decide +kernel
theorem dX5_undo_44 : decode cX5_undo 44 = .ok (.aload_n 0, 1) := by decide +kernel
theorem dX5_undo_45 : decode cX5_undo 45 = .ok (.getfield 180, 3) := by decide +kernel
theorem dX5_undo_48 : decode cX5_undo 48 = .ok (.aaload, 1) := by decide +kernel
theorem dX5_undo_49 : decode cX5_undo 49 = .ok (.invokevirtual 185, 3) := by decide +kernel
theorem dX5_undo_52 : decode cX5_undo 52 = .ok (.aload_n 0, 1) := by decide +kernel
theorem dX5_undo_53 : decode cX5_undo 53 = .ok (.getfield 180, 3) := by decide +kernel
theorem dX5_undo_56 : decode cX5_undo 56 = .ok (.ireturn, 1) := by decide +kernel
theorem dX5_weaver_0 : decode cX5_weaver 0 = .ok (.iload_n 1, 1) := by decide +kernel
theorem dX5_weaver_1 : decode cX5_weaver 1 = .ok (.iconst 0, 1) := by decide +kernel
theorem dX5_weaver_2 : decode cX5_weaver 2 = .ok (.iconst 5, 1) := by decide +kernel
theorem dX5_weaver_3 : decode cX5_weaver 3 = .ok (.invokestatic 37, 3) := by decide +kernel
theorem dX5_weaver_6 : decode cX5_weaver 6 = .ok (.ifCond .ne 13, 3) := by decide +kernel
theorem dX5_weaver_9 : decode cX5_weaver 9 = .ok (.new 41, 3) := by decide +kernel
theorem dX5_weaver_12 : decode cX5_weaver 12 = .ok (.dup, 1) := by decide +kernel
theorem dX5_weaver_13 : decode cX5_weaver 13 = .ok (.ldc 43, 2) := by decide +kernel
theorem dX5_weaver_15 : decode cX5_weaver 15 = .ok (.invokespecial 45, 3) := by decide +kernel
theorem dX5_weaver_18 : decode cX5_weaver 18 = .ok (.athrow, 1) := by decide +kernel
theorem dX5_weaver_19 : decode cX5_weaver 19 = .ok (.iload_n 2, 1) := by decide +kernel
theorem dX5_weaver_20 : decode cX5_weaver 20 = .ok (.iconst 0, 1) := by decide +kernel
theorem dX5_weaver_21 : decode cX5_weaver 21 = .ok (.bipush 7, 2) := by decide +kernel
theorem dX5_weaver_23 : decode cX5_weaver 23 = .ok (.invokestatic 37, 3) := by decide +kernel
theorem dX5_weaver_26 : decode cX5_weaver 26 = .ok (.ifCond .ne 13, 3) := by decide +kernel
theorem dX5_weaver_29 : decode cX5_weaver 29 = .ok (.new 51, 3) := by decide +kernel
theorem dX5_weaver_32 : decode cX5_weaver 32 = .ok (.dup, 1) := by decide +kernel
theorem dX5_weaver_33 : decode cX5_weaver 33 = .ok (.ldc 189, 2) := by decide +kernel
theorem dX5_weaver_35 : decode cX5_weaver 35 = .ok (.invokespecial 55, 3) := by decide +kernel
theorem dX5_weaver_38 : decode cX5_weaver 38 = .ok (.athrow, 1) := by decide +kernel
theorem dX5_weaver_39 : decode cX5_weaver 39 = .ok (.aload_n 0, 1) := by decide +kernel
theorem dX5_weaver_40 : decode cX5_weaver 40 = .ok (.getfield 10, 3) := by decide +kernel
theorem dX5_weaver_43 : decode cX5_weaver 43 = .ok (.getfield 59, 3) := by decide +kernel
theorem dX5_weaver_46 : decode cX5_weaver 46 = .ok (.iload_n 1, 1) := by decide +kernel
theorem dX5_weaver_47 : decode cX5_weaver 47 = .ok (.aaload, 1) := by decide +kernel
theorem dX5_weaver_48 : decode cX5_weaver 48 = .ok (.iload_n 2, 1) := by decide +kernel
theorem dX5_weaver_49 : decode cX5_weaver 49 = .ok (.invokevirtual 191, 3) := by decide +kernel
theorem dX5_weaver_52 : decode cX5_weaver 52 = .ok (.ireturn, 1) := by decide +kernel
theorem dX5_share_0 : decode cX5_share 0 = .ok (.iload_n 1, 1) := by decide +kernel
theorem dX5_share_1 : decode cX5_share 1 = .ok (.iconst (-1), 1) := by decide +kernel
theorem dX5_share_2 : decode cX5_share 2 = .ok (.iconst 5, 1) := by decide +kernel
theorem dX5_share_3 : decode cX5_share 3 = .ok (.invokestatic 37, 3) := by decide +kernel
theorem dX5_share_6 : decode cX5_share 6 = .ok (.ifCond .eq 12, 3) := by decide +kernel
theorem dX5_share_9 : decode cX5_share 9 = .ok (.iload_n 2, 1) := by decide +kernel
theorem dX5_share_10 : decode cX5_share 10 = .ok (.iconst 0, 1) := by decide +kernel
theorem dX5_share_11 : decode cX5_share 11 = .ok (.iconst 3, 1) := by decide +kernel
theorem dX5_share_12 : decode cX5_share 12 = .ok (.invokestatic 37, 3) := by decide +kernel
theorem dX5_share_15 : decode cX5_share 15 = .ok (.ifCond .ne 13, 3) := by decide +kernel
theorem dX5_share_18 : decode cX5_share 18 = .ok (.new 41, 3) := by decide +kernel
theorem dX5_share_21 : decode cX5_share 21 = .ok (.dup, 1) := by decide +kernel
theorem dX5_share_22 : decode cX5_share 22 = .ok (.ldc 75, 2) := by decide +kernel
theorem dX5_share_24 : decode cX5_share 24 = .ok (.invokespecial 45, 3) := by decide +kernel
theorem dX5_share_27 : decode cX5_share 27 = .ok (.athrow, 1) := by decide +kernel
theorem dX5_share_28 : decode cX5_share 28 = .ok (.iload_n 1, 1) := by decide +kernel
theorem dX5_share_29 : decode cX5_share 29 = .ok (.iconst (-1), 1) := by decide +kernel
theorem dX5_share_30 : decode cX5_share 30 = .ok (.if_icmp .ne 17, 3) := by decide +kernel
theorem dX5_share_33 : decode cX5_share 33 = .ok (.aload_n 0, 1) := by decide +kernel
theorem dX5_share_34 : decode cX5_share 34 = .ok (.getfield 10, 3) := by decide +kernel
theorem dX5_share_37 : decode cX5_share 37 = .ok (.getfield 100, 3) := by decide +kernel
theorem dX5_share_40 : decode cX5_share 40 = .ok (.iload_n 2, 1) := by decide +kernel
theorem dX5_share_41 : decode cX5_share 41 = .ok (.invokevirtual 83, 3) := by decide +kernel
theorem dX5_share_44 : decode cX5_share 44 = .ok (.goto 19, 3) := by decide +kernel
theorem dX5_share_47 : decode cX5_share 47 = .ok (.aload_n 0, 1) := by decide +kernel
theorem dX5_share_48 : decode cX5_share 48 = .ok (.getfield 10, 3) := by decide +kernel
theorem dX5_share_51 : decode cX5_share 51 = .ok (.getfield 59, 3) := by decide +kernel
theorem dX5_share_54 : decode cX5_share 54 = .ok (.iload_n 1, 1) := by decide +kernel
theorem dX5_share_55 : decode cX5_share 55 = .ok (.aaload, 1) := by decide +kernel
theorem dX5_share_56 : decode cX5_share 56 = .ok (.getfield 79, 3) := by decide +kernel
theorem dX5_share_59 : decode cX5_share 59 = .ok (.iload_n 2, 1) := by decide +kernel
theorem dX5_share_60 : decode cX5_share 60 = .ok (.invokevirtual 83, 3) := by decide +kernel
theorem dX5_share_63 : decode cX5_share 63 = .ok (.ireturn, 1) := by decide +kernel
theorem dX5_orderOf_0 : decode cX5_orderOf 0 = .ok (.iload_n 1, 1) := by decide +kernel
theorem dX5_orderOf_1 : decode cX5_orderOf 1 = .ok (.ifCond .lt 13, 3) := by decide +kernel
theorem dX5_orderOf_4 : decode cX5_orderOf 4 = .ok (.iload_n 2, 1) := by decide +kernel
theorem dX5_orderOf_5 : decode cX5_orderOf 5 = .ok (.iconst 0, 1) := by decide +kernel
theorem dX5_orderOf_6 : decode cX5_orderOf 6 = .ok (.bipush 8, 2) := by decide +kernel
theorem dX5_orderOf_8 : decode cX5_orderOf 8 = .ok (.invokestatic 37, 3) := by decide +kernel
theorem dX5_orderOf_11 : decode cX5_orderOf 11 = .ok (.ifCond .ne 13, 3) := by decide +kernel
theorem dX5_orderOf_14 : decode cX5_orderOf 14 = .ok (.new 51, 3) := by decide +kernel
theorem dX5_orderOf_17 : decode cX5_orderOf 17 = .ok (.dup, 1) := by decide +kernel
theorem dX5_orderOf_18 : decode cX5_orderOf 18 = .ok (.ldc 194, 2) := by decide +kernel
theorem dX5_orderOf_20 : decode cX5_orderOf 20 = .ok (.invokespecial 55, 3) := by decide +kernel
theorem dX5_orderOf_23 : decode cX5_orderOf 23 = .ok (.athrow, 1) := by decide +kernel
theorem dX5_orderOf_24 : decode cX5_orderOf 24 = .ok (.aload_n 0, 1) := by decide +kernel
theorem dX5_orderOf_25 : decode cX5_orderOf 25 = .ok (.getfield 10, 3) := by decide +kernel
theorem dX5_orderOf_28 : decode cX5_orderOf 28 = .ok (.iload_n 1, 1) := by decide +kernel
theorem dX5_orderOf_29 : decode cX5_orderOf 29 = .ok (.iload_n 2, 1) := by decide +kernel
theorem dX5_orderOf_30 : decode cX5_orderOf 30 = .ok (.invokevirtual 196, 3) := by decide +kernel
theorem dX5_orderOf_33 : decode cX5_orderOf 33 = .ok (.ireturn, 1) := by decide +kernel
theorem dX5_wovenBy_0 : decode cX5_wovenBy 0 = .ok (.iload_n 1, 1) := by decide +kernel
theorem dX5_wovenBy_1 : decode cX5_wovenBy 1 = .ok (.ifCond .ge 13, 3) := by decide +kernel
theorem dX5_wovenBy_4 : decode cX5_wovenBy 4 = .ok (.new 51, 3) := by decide +kernel
theorem dX5_wovenBy_7 : decode cX5_wovenBy 7 = .ok (.dup, 1) := by decide +kernel
theorem dX5_wovenBy_8 : decode cX5_wovenBy 8 = .ok (.ldc 199, 2) := by decide +kernel
theorem dX5_wovenBy_10 : decode cX5_wovenBy 10 = .ok (.invokespecial 55, 3) := by decide +kernel
theorem dX5_wovenBy_13 : decode cX5_wovenBy 13 = .ok (.athrow, 1) := by decide +kernel
theorem dX5_wovenBy_14 : decode cX5_wovenBy 14 = .ok (.iload_n 2, 1) := by decide +kernel
theorem dX5_wovenBy_15 : decode cX5_wovenBy 15 = .ok (.iconst 0, 1) := by decide +kernel
theorem dX5_wovenBy_16 : decode cX5_wovenBy 16 = .ok (.iconst 5, 1) := by decide +kernel
theorem dX5_wovenBy_17 : decode cX5_wovenBy 17 = .ok (.invokestatic 37, 3) := by decide +kernel
theorem dX5_wovenBy_20 : decode cX5_wovenBy 20 = .ok (.ifCond .ne 13, 3) := by decide +kernel
theorem dX5_wovenBy_23 : decode cX5_wovenBy 23 = .ok (.new 41, 3) := by decide +kernel
theorem dX5_wovenBy_26 : decode cX5_wovenBy 26 = .ok (.dup, 1) := by decide +kernel
theorem dX5_wovenBy_27 : decode cX5_wovenBy 27 = .ok (.ldc 43, 2) := by decide +kernel
theorem dX5_wovenBy_29 : decode cX5_wovenBy 29 = .ok (.invokespecial 45, 3) := by decide +kernel
theorem dX5_wovenBy_32 : decode cX5_wovenBy 32 = .ok (.athrow, 1) := by decide +kernel
theorem dX5_wovenBy_33 : decode cX5_wovenBy 33 = .ok (.aload_n 0, 1) := by decide +kernel
theorem dX5_wovenBy_34 : decode cX5_wovenBy 34 = .ok (.getfield 10, 3) := by decide +kernel
theorem dX5_wovenBy_37 : decode cX5_wovenBy 37 = .ok (.iload_n 1, 1) := by decide +kernel
theorem dX5_wovenBy_38 : decode cX5_wovenBy 38 = .ok (.invokevirtual 201, 3) := by decide +kernel
theorem dX5_wovenBy_41 : decode cX5_wovenBy 41 = .ok (.astore_n 3, 1) := by decide +kernel
theorem dX5_wovenBy_42 : decode cX5_wovenBy 42 = .ok (.aload_n 3, 1) := by decide +kernel
theorem dX5_wovenBy_43 : decode cX5_wovenBy 43 = .ok (.ifnonnull 7, 3) := by decide +kernel
theorem dX5_wovenBy_46 : decode cX5_wovenBy 46 = .ok (.iconst (-1), 1) := by decide +kernel
theorem dX5_wovenBy_47 : decode cX5_wovenBy 47 = .ok (.goto 9, 3) := by decide +kernel
theorem dX5_wovenBy_50 : decode cX5_wovenBy 50 = .ok (.aload_n 3, 1) := by decide +kernel
theorem dX5_wovenBy_51 : decode cX5_wovenBy 51 = .ok (.getfield 204, 3) := by decide +kernel
theorem dX5_wovenBy_54 : decode cX5_wovenBy 54 = .ok (.iload_n 2, 1) := by decide +kernel
theorem dX5_wovenBy_55 : decode cX5_wovenBy 55 = .ok (.iaload, 1) := by decide +kernel
theorem dX5_wovenBy_56 : decode cX5_wovenBy 56 = .ok (.ireturn, 1) := by decide +kernel
theorem dX5_next_0 : decode cX5_next 0 = .ok (.iload_n 1, 1) := by decide +kernel
theorem dX5_next_1 : decode cX5_next 1 = .ok (.iconst 0, 1) := by decide +kernel
theorem dX5_next_2 : decode cX5_next 2 = .ok (.iconst 5, 1) := by decide +kernel
theorem dX5_next_3 : decode cX5_next 3 = .ok (.invokestatic 37, 3) := by decide +kernel
theorem dX5_next_6 : decode cX5_next 6 = .ok (.ifCond .ne 13, 3) := by decide +kernel
theorem dX5_next_9 : decode cX5_next 9 = .ok (.new 41, 3) := by decide +kernel
theorem dX5_next_12 : decode cX5_next 12 = .ok (.dup, 1) := by decide +kernel
theorem dX5_next_13 : decode cX5_next 13 = .ok (.ldc 43, 2) := by decide +kernel
theorem dX5_next_15 : decode cX5_next 15 = .ok (.invokespecial 45, 3) := by decide +kernel
theorem dX5_next_18 : decode cX5_next 18 = .ok (.athrow, 1) := by decide +kernel
theorem dX5_next_19 : decode cX5_next 19 = .ok (.iload_n 2, 1) := by decide +kernel
theorem dX5_next_20 : decode cX5_next 20 = .ok (.iconst 0, 1) := by decide +kernel
theorem dX5_next_21 : decode cX5_next 21 = .ok (.iconst 1, 1) := by decide +kernel
theorem dX5_next_22 : decode cX5_next 22 = .ok (.invokestatic 37, 3) := by decide +kernel
theorem dX5_next_25 : decode cX5_next 25 = .ok (.ifCond .ne 13, 3) := by decide +kernel
theorem dX5_next_28 : decode cX5_next 28 = .ok (.new 51, 3) := by decide +kernel
theorem dX5_next_31 : decode cX5_next 31 = .ok (.dup, 1) := by decide +kernel
theorem dX5_next_32 : decode cX5_next 32 = .ok (.ldc 207, 2) := by decide +kernel
theorem dX5_next_34 : decode cX5_next 34 = .ok (.invokespecial 55, 3) := by decide +kernel
theorem dX5_next_37 : decode cX5_next 37 = .ok (.athrow, 1) := by decide +kernel
theorem dX5_next_38 : decode cX5_next 38 = .ok (.aload_n 0, 1) := by decide +kernel
theorem dX5_next_39 : decode cX5_next 39 = .ok (.getfield 10, 3) := by decide +kernel
theorem dX5_next_42 : decode cX5_next 42 = .ok (.getfield 59, 3) := by decide +kernel
theorem dX5_next_45 : decode cX5_next 45 = .ok (.iload_n 1, 1) := by decide +kernel
theorem dX5_next_46 : decode cX5_next 46 = .ok (.aaload, 1) := by decide +kernel
theorem dX5_next_47 : decode cX5_next 47 = .ok (.astore_n 3, 1) := by decide +kernel
theorem dX5_next_48 : decode cX5_next 48 = .ok (.iload_n 2, 1) := by decide +kernel
theorem dX5_next_49 : decode cX5_next 49 = .ok (.ifCond .ne 14, 3) := by decide +kernel
theorem dX5_next_52 : decode cX5_next 52 = .ok (.aload_n 0, 1) := by decide +kernel
theorem dX5_next_53 : decode cX5_next 53 = .ok (.getfield 10, 3) := by decide +kernel
theorem dX5_next_56 : decode cX5_next 56 = .ok (.aload_n 3, 1) := by decide +kernel
theorem dX5_next_57 : decode cX5_next 57 = .ok (.invokevirtual 209, 3) := by decide +kernel
theorem dX5_next_60 : decode cX5_next 60 = .ok (.goto 11, 3) := by decide +kernel
theorem dX5_next_63 : decode cX5_next 63 = .ok (.aload_n 0, 1) := by decide +kernel
theorem dX5_next_64 : decode cX5_next 64 = .ok (.getfield 10, 3) := by decide +kernel
theorem dX5_next_67 : decode cX5_next 67 = .ok (.aload_n 3, 1) := by decide +kernel
theorem dX5_next_68 : decode cX5_next 68 = .ok (.invokevirtual 213, 3) := by decide +kernel
theorem dX5_next_71 : decode cX5_next 71 = .ok (.ireturn, 1) := by decide +kernel
theorem dX5_count_0 : decode cX5_count 0 = .ok (.iload_n 1, 1) := by decide +kernel
theorem dX5_count_1 : decode cX5_count 1 = .ok (.iconst 0, 1) := by decide +kernel
theorem dX5_count_2 : decode cX5_count 2 = .ok (.bipush 11, 2) := by decide +kernel
theorem dX5_count_4 : decode cX5_count 4 = .ok (.invokestatic 37, 3) := by decide +kernel
theorem dX5_count_7 : decode cX5_count 7 = .ok (.ifCond .ne 13, 3) := by decide +kernel
theorem dX5_count_10 : decode cX5_count 10 = .ok (.new 51, 3) := by decide +kernel
theorem dX5_count_13 : decode cX5_count 13 = .ok (.dup, 1) := by decide +kernel
theorem dX5_count_14 : decode cX5_count 14 = .ok (.ldc 216, 2) := by decide +kernel
theorem dX5_count_16 : decode cX5_count 16 = .ok (.invokespecial 55, 3) := by decide +kernel
theorem dX5_count_19 : decode cX5_count 19 = .ok (.athrow, 1) := by decide +kernel
theorem dX5_count_20 : decode cX5_count 20 = .ok (.aload_n 0, 1) := by decide +kernel
theorem dX5_count_21 : decode cX5_count 21 = .ok (.iload_n 1, 1) := by decide +kernel
theorem dX5_count_22 : decode cX5_count 22 = .ok (.invokevirtual 218, 3) := by decide +kernel
theorem dX5_count_25 : decode cX5_count 25 = .ok (.ireturn, 1) := by decide +kernel
theorem dX5_dueNow_0 : decode cX5_dueNow 0 = .ok (.aload_n 0, 1) := by decide +kernel
theorem dX5_dueNow_1 : decode cX5_dueNow 1 = .ok (.getfield 10, 3) := by decide +kernel
theorem dX5_dueNow_4 : decode cX5_dueNow 4 = .ok (.iload_n 1, 1) := by decide +kernel
theorem dX5_dueNow_5 : decode cX5_dueNow 5 = .ok (.invokevirtual 119, 3) := by decide +kernel
theorem dX5_dueNow_8 : decode cX5_dueNow 8 = .ok (.astore_n 3, 1) := by decide +kernel
theorem dX5_dueNow_9 : decode cX5_dueNow 9 = .ok (.aload_n 3, 1) := by decide +kernel
theorem dX5_dueNow_10 : decode cX5_dueNow 10 = .ok (.ifnull 12, 3) := by decide +kernel
theorem dX5_dueNow_13 : decode cX5_dueNow 13 = .ok (.iload_n 2, 1) := by decide +kernel
theorem dX5_dueNow_14 : decode cX5_dueNow 14 = .ok (.iconst 0, 1) := by decide +kernel
theorem dX5_dueNow_15 : decode cX5_dueNow 15 = .ok (.iconst 5, 1) := by decide +kernel
theorem dX5_dueNow_16 : decode cX5_dueNow 16 = .ok (.invokestatic 37, 3) := by decide +kernel
theorem dX5_dueNow_19 : decode cX5_dueNow 19 = .ok (.ifCond .ne 13, 3) := by decide +kernel
theorem dX5_dueNow_22 : decode cX5_dueNow 22 = .ok (.new 41, 3) := by decide +kernel
theorem dX5_dueNow_25 : decode cX5_dueNow 25 = .ok (.dup, 1) := by decide +kernel
theorem dX5_dueNow_26 : decode cX5_dueNow 26 = .ok (.ldc 235, 2) := by decide +kernel
theorem dX5_dueNow_28 : decode cX5_dueNow 28 = .ok (.invokespecial 45, 3) := by decide +kernel
theorem dX5_dueNow_31 : decode cX5_dueNow 31 = .ok (.athrow, 1) := by decide +kernel
theorem dX5_dueNow_32 : decode cX5_dueNow 32 = .ok (.aload_n 0, 1) := by decide +kernel
theorem dX5_dueNow_33 : decode cX5_dueNow 33 = .ok (.getfield 10, 3) := by decide +kernel
theorem dX5_dueNow_36 : decode cX5_dueNow 36 = .ok (.aload_n 3, 1) := by decide +kernel
theorem dX5_dueNow_37 : decode cX5_dueNow 37 = .ok (.iload_n 2, 1) := by decide +kernel
theorem dX5_dueNow_38 : decode cX5_dueNow 38 = .ok (.invokevirtual 237, 3) := by decide +kernel
theorem dX5_dueNow_41 : decode cX5_dueNow 41 = .ok (.ireturn, 1) := by decide +kernel
theorem dX5_evenness_0 : decode cX5_evenness 0 = .ok (.aload_n 0, 1) := by decide +kernel
theorem dX5_evenness_1 : decode cX5_evenness 1 = .ok (.getfield 10, 3) := by decide +kernel
theorem dX5_evenness_4 : decode cX5_evenness 4 = .ok (.invokevirtual 241, 3) := by decide +kernel
theorem dX5_evenness_7 : decode cX5_evenness 7 = .ok (.dreturn, 1) := by decide +kernel
theorem dX5_isWithin_0 : decode cX5_isWithin 0 = .ok (.iload_n 0, 1) := by decide +kernel
theorem dX5_isWithin_1 : decode cX5_isWithin 1 = .ok (.iload_n 1, 1) := by decide +kernel
theorem dX5_isWithin_2 : decode cX5_isWithin 2 = .ok (.if_icmp .lt 12, 3) := by decide +kernel
theorem dX5_isWithin_5 : decode cX5_isWithin 5 = .ok (.iload_n 0, 1) := by decide +kernel
theorem dX5_isWithin_6 : decode cX5_isWithin 6 = .ok (.iload_n 2, 1) := by decide +kernel
theorem dX5_isWithin_7 : decode cX5_isWithin 7 = .ok (.if_icmp .gt 7, 3) := by decide +kernel
theorem dX5_isWithin_10 : decode cX5_isWithin 10 = .ok (.iconst 1, 1) := by decide +kernel
theorem dX5_isWithin_11 : decode cX5_isWithin 11 = .ok (.goto 4, 3) := by decide +kernel
theorem dX5_isWithin_14 : decode cX5_isWithin 14 = .ok (.iconst 0, 1) := by decide +kernel
theorem dX5_isWithin_15 : decode cX5_isWithin 15 = .ok (.ireturn, 1) := by decide +kernel
theorem dX5_isLoom_0 : decode cX5_isLoom 0 = .ok (.iload_n 0, 1) := by decide +kernel
theorem dX5_isLoom_1 : decode cX5_isLoom 1 = .ok (.bipush 40, 2) := by decide +kernel
theorem dX5_isLoom_3 : decode cX5_isLoom 3 = .ok (.sipush 200, 3) := by decide +kernel
theorem dX5_isLoom_6 : decode cX5_isLoom 6 = .ok (.invokestatic 37, 3) := by decide +kernel
theorem dX5_isLoom_9 : decode cX5_isLoom 9 = .ok (.ifCond .eq 27, 3) := by decide +kernel
theorem dX5_isLoom_12 : decode cX5_isLoom 12 = .ok (.iload_n 1, 1) := by decide +kernel
theorem dX5_isLoom_13 : decode cX5_isLoom 13 = .ok (.iconst 1, 1) := by decide +kernel
theorem dX5_isLoom_14 : decode cX5_isLoom 14 = .ok (.bipush 9, 2) := by decide +kernel
theorem dX5_isLoom_16 : decode cX5_isLoom 16 = .ok (.invokestatic 37, 3) := by decide +kernel
theorem dX5_isLoom_19 : decode cX5_isLoom 19 = .ok (.ifCond .eq 17, 3) := by decide +kernel
theorem dX5_isLoom_22 : decode cX5_isLoom 22 = .ok (.iload_n 2, 1) := by decide +kernel
theorem dX5_isLoom_23 : decode cX5_isLoom 23 = .ok (.iconst 0, 1) := by decide +kernel
theorem dX5_isLoom_24 : decode cX5_isLoom 24 = .ok (.bipush 99, 2) := by decide +kernel
theorem dX5_isLoom_26 : decode cX5_isLoom 26 = .ok (.invokestatic 37, 3) := by decide +kernel
theorem dX5_isLoom_29 : decode cX5_isLoom 29 = .ok (.ifCond .eq 7, 3) := by decide +kernel
theorem dX5_isLoom_32 : decode cX5_isLoom 32 = .ok (.iconst 1, 1) := by decide +kernel
theorem dX5_isLoom_33 : decode cX5_isLoom 33 = .ok (.goto 4, 3) := by decide +kernel
theorem dX5_isLoom_36 : decode cX5_isLoom 36 = .ok (.iconst 0, 1) := by decide +kernel
theorem dX5_isLoom_37 : decode cX5_isLoom 37 = .ok (.ireturn, 1) := by decide +kernel
theorem dX5_saveState_0 : decode cX5_saveState 0 = .ok (.aload_n 0, 1) := by decide +kernel
theorem dX5_saveState_1 : decode cX5_saveState 1 = .ok (.getfield 180, 3) := by decide +kernel
theorem dX5_saveState_4 : decode cX5_saveState 4 = .ok (.aload_n 0, 1) := by decide +kernel
theorem dX5_saveState_5 : decode cX5_saveState 5 = .ok (.getfield 19, 3) := by decide +kernel
theorem dX5_saveState_8 : decode cX5_saveState 8 = .ok (.arraylength, 1) := by decide +kernel
theorem dX5_saveState_9 : decode cX5_saveState 9 = .ok (.if_icmp .lt 7, 3) := by decide +kernel
theorem dX5_saveState_12 : decode cX5_saveState 12 = .ok (.aload_n 0, 1) := by decide +kernel
theorem dX5_saveState_13 : decode cX5_saveState 13 = .ok (.invokevirtual 265, 3) := by decide +kernel
theorem dX5_saveState_16 : decode cX5_saveState 16 = .ok (.aload_n 0, 1) := by decide +kernel
theorem dX5_saveState_17 : decode cX5_saveState 17 = .ok (.getfield 180, 3) := by decide +kernel
theorem dX5_saveState_20 : decode cX5_saveState 20 = .ok (.iconst 0, 1) := by decide +kernel
theorem dX5_saveState_21 : decode cX5_saveState 21 = .ok (.aload_n 0, 1) := by decide +kernel
theorem dX5_saveState_22 : decode cX5_saveState 22 = .ok (.getfield 19, 3) := by decide +kernel
theorem dX5_saveState_25 : decode cX5_saveState 25 = .ok (.arraylength, 1) := by decide +kernel
theorem dX5_saveState_26 : decode cX5_saveState 26 = .ok (.iconst 1, 1) := by decide +kernel
theorem dX5_saveState_27 : decode cX5_saveState 27 = .ok (.isub, 1) := by decide +kernel
theorem dX5_saveState_28 : decode cX5_saveState 28 = .ok (.invokestatic 37, 3) := by decide +kernel
theorem dX5_saveState_31 : decode cX5_saveState 31 = .ok (.ifCond .eq 29, 3) := by decide +kernel
theorem dX5_saveState_34 : decode cX5_saveState 34 = .ok (.aload_n 0, 1) := by decide +kernel
theorem dX5_saveState_35 : decode cX5_saveState 35 = .ok (.getfield 19, 3) := by decide +kernel
theorem dX5_saveState_38 : decode cX5_saveState 38 = .ok (.aload_n 0, 1) := by decide +kernel
theorem dX5_saveState_39 : decode cX5_saveState 39 = .ok (.getfield 180, 3) := by decide +kernel
theorem dX5_saveState_42 : decode cX5_saveState 42 = .ok (.aaload, 1) := by decide +kernel
theorem dX5_saveState_43 : decode cX5_saveState 43 = .ok (.aload_n 0, 1) := by decide +kernel
theorem dX5_saveState_44 : decode cX5_saveState 44 = .ok (.getfield 10, 3) := by decide +kernel
theorem dX5_saveState_47 : decode cX5_saveState 47 = .ok (.invokevirtual 185, 3) := by decide +kernel
theorem dX5_saveState_50 : decode cX5_saveState 50 = .ok (.aload_n 0, 1) := by decide +kernel
theorem dX5_saveState_51 : decode cX5_saveState 51 = .ok (.dup, 1) := by decide +kernel
theorem dX5_saveState_52 : decode cX5_saveState 52 = .ok (.getfield 180, 3) := by decide +kernel
theorem dX5_saveState_55 : decode cX5_saveState 55 = .ok (.iconst 1, 1) := by decide +kernel
theorem dX5_saveState_56 : decode cX5_saveState 56 = .ok (.iadd, 1) := by decide +kernel
theorem dX5_saveState_57 : decode cX5_saveState 57 = .ok (.putfield 180, 3) := by decide +kernel
theorem dX5_saveState_60 : decode cX5_saveState 60 = .ok (.return_, 1) := by decide +kernel
theorem dX5_dropOldest_0 : decode cX5_dropOldest 0 = .ok (.aload_n 0, 1) := by decide +kernel
theorem dX5_dropOldest_1 : decode cX5_dropOldest 1 = .ok (.getfield 19, 3) := by decide +kernel
theorem dX5_dropOldest_4 : decode cX5_dropOldest 4 = .ok (.iconst 0, 1) := by decide +kernel
theorem dX5_dropOldest_5 : decode cX5_dropOldest 5 = .ok (.aaload, 1) := by decide +kernel
theorem dX5_dropOldest_6 : decode cX5_dropOldest 6 = .ok (.astore_n 1, 1) := by decide +kernel
theorem dX5_dropOldest_7 : decode cX5_dropOldest 7 = .ok (.iconst 0, 1) := by decide +kernel
theorem dX5_dropOldest_8 : decode cX5_dropOldest 8 = .ok (.istore_n 2, 1) := by decide +kernel
theorem dX5_dropOldest_9 : decode cX5_dropOldest 9 = .ok (.iload_n 2, 1) := by decide +kernel
theorem dX5_dropOldest_10 : decode cX5_dropOldest 10 = .ok (.iconst 1, 1) := by decide +kernel
theorem dX5_dropOldest_11 : decode cX5_dropOldest 11 = .ok (.iadd, 1) := by decide +kernel
theorem dX5_dropOldest_12 : decode cX5_dropOldest 12 = .ok (.aload_n 0, 1) := by decide +kernel
theorem dX5_dropOldest_13 : decode cX5_dropOldest 13 = .ok (.getfield 19, 3) := by decide +kernel
theorem dX5_dropOldest_16 : decode cX5_dropOldest 16 = .ok (.arraylength, 1) := by decide +kernel
theorem dX5_dropOldest_17 : decode cX5_dropOldest 17 = .ok (.if_icmp .ge 23, 3) := by decide +kernel
theorem dX5_dropOldest_20 : decode cX5_dropOldest 20 = .ok (.aload_n 0, 1) := by decide +kernel
theorem dX5_dropOldest_21 : decode cX5_dropOldest 21 = .ok (.getfield 19, 3) := by decide +kernel
theorem dX5_dropOldest_24 : decode cX5_dropOldest 24 = .ok (.iload_n 2, 1) := by decide +kernel
theorem dX5_dropOldest_25 : decode cX5_dropOldest 25 = .ok (.aload_n 0, 1) := by decide +kernel
theorem dX5_dropOldest_26 : decode cX5_dropOldest 26 = .ok (.getfield 19, 3) := by decide +kernel
theorem dX5_dropOldest_29 : decode cX5_dropOldest 29 = .ok (.iload_n 2, 1) := by decide +kernel
theorem dX5_dropOldest_30 : decode cX5_dropOldest 30 = .ok (.iconst 1, 1) := by decide +kernel
theorem dX5_dropOldest_31 : decode cX5_dropOldest 31 = .ok (.iadd, 1) := by decide +kernel
theorem dX5_dropOldest_32 : decode cX5_dropOldest 32 = .ok (.aaload, 1) := by decide +kernel
theorem dX5_dropOldest_33 : decode cX5_dropOldest 33 = .ok (.aastore, 1) := by decide +kernel
theorem dX5_dropOldest_34 : decode cX5_dropOldest 34 = .ok (.iinc 2 1, 3) := by decide +kernel
theorem dX5_dropOldest_37 : decode cX5_dropOldest 37 = .ok (.goto (-28), 3) := by decide +kernel
theorem dX5_dropOldest_40 : decode cX5_dropOldest 40 = .ok (.aload_n 0, 1) := by decide +kernel
theorem dX5_dropOldest_41 : decode cX5_dropOldest 41 = .ok (.getfield 19, 3) := by decide +kernel
theorem dX5_dropOldest_44 : decode cX5_dropOldest 44 = .ok (.aload_n 0, 1) := by decide +kernel
theorem dX5_dropOldest_45 : decode cX5_dropOldest 45 = .ok (.getfield 19, 3) := by decide +kernel
theorem dX5_dropOldest_48 : decode cX5_dropOldest 48 = .ok (.arraylength, 1) := by decide +kernel
theorem dX5_dropOldest_49 : decode cX5_dropOldest 49 = .ok (.iconst 1, 1) := by decide +kernel
theorem dX5_dropOldest_50 : decode cX5_dropOldest 50 = .ok (.isub, 1) := by decide +kernel
theorem dX5_dropOldest_51 : decode cX5_dropOldest 51 = .ok (.aload_n 1, 1) := by decide +kernel
theorem dX5_dropOldest_52 : decode cX5_dropOldest 52 = .ok (.aastore, 1) := by decide +kernel
theorem dX5_dropOldest_53 : decode cX5_dropOldest 53 = .ok (.aload_n 0, 1) := by decide +kernel
theorem dX5_dropOldest_54 : decode cX5_dropOldest 54 = .ok (.aload_n 0, 1) := by decide +kernel
theorem dX5_dropOldest_55 : decode cX5_dropOldest 55 = .ok (.getfield 19, 3) := by decide +kernel
theorem dX5_dropOldest_58 : decode cX5_dropOldest 58 = .ok (.arraylength, 1) := by decide +kernel
theorem dX5_dropOldest_59 : decode cX5_dropOldest 59 = .ok (.iconst 1, 1) := by decide +kernel
theorem dX5_dropOldest_60 : decode cX5_dropOldest 60 = .ok (.isub, 1) := by decide +kernel
theorem dX5_dropOldest_61 : decode cX5_dropOldest 61 = .ok (.putfield 180, 3) := by decide +kernel
theorem dX5_dropOldest_64 : decode cX5_dropOldest 64 = .ok (.return_, 1) := by decide +kernel
theorem dX5_counted_0 : decode cX5_counted 0 = .ok (.iload_n 1, 1) := by decide +kernel
theorem dX5_counted_1 : decode cX5_counted 1 = .ok (.bipush 11, 2) := by decide +kernel
theorem dX5_counted_3 : decode cX5_counted 3 = .ok (.if_icmp .ne 10, 3) := by decide +kernel
theorem dX5_counted_6 : decode cX5_counted 6 = .ok (.aload_n 0, 1) := by decide +kernel
theorem dX5_counted_7 : decode cX5_counted 7 = .ok (.getfield 180, 3) := by decide +kernel
theorem dX5_counted_10 : decode cX5_counted 10 = .ok (.goto 11, 3) := by decide +kernel
theorem dX5_counted_13 : decode cX5_counted 13 = .ok (.aload_n 0, 1) := by decide +kernel
theorem dX5_counted_14 : decode cX5_counted 14 = .ok (.getfield 10, 3) := by decide +kernel
theorem dX5_counted_17 : decode cX5_counted 17 = .ok (.iload_n 1, 1) := by decide +kernel
theorem dX5_counted_18 : decode cX5_counted 18 = .ok (.invokevirtual 281, 3) := by decide +kernel
theorem dX5_counted_21 : decode cX5_counted 21 = .ok (.ireturn, 1) := by decide +kernel
theorem dJ9_max_7cf53_0 : decode cJ9_max_7cf53 0 = .ok (.iload_n 0, 1) := by decide +kernel
theorem dJ9_max_7cf53_1 : decode cJ9_max_7cf53 1 = .ok (.iload_n 1, 1) := by decide +kernel
theorem dJ9_max_7cf53_2 : decode cJ9_max_7cf53 2 = .ok (.if_icmp .lt 7, 3) := by decide +kernel
theorem dJ9_max_7cf53_5 : decode cJ9_max_7cf53 5 = .ok (.iload_n 0, 1) := by decide +kernel
theorem dJ9_max_7cf53_6 : decode cJ9_max_7cf53 6 = .ok (.goto 4, 3) := by decide +kernel
theorem dJ9_max_7cf53_9 : decode cJ9_max_7cf53 9 = .ok (.iload_n 1, 1) := by decide +kernel
theorem dJ9_max_7cf53_10 : decode cJ9_max_7cf53 10 = .ok (.ireturn, 1) := by decide +kernel
theorem dJ9_min_7cf53_0 : decode cJ9_min_7cf53 0 = .ok (.iload_n 0, 1) := by decide +kernel
theorem dJ9_min_7cf53_1 : decode cJ9_min_7cf53 1 = .ok (.iload_n 1, 1) := by decide +kernel
theorem dJ9_min_7cf53_2 : decode cJ9_min_7cf53 2 = .ok (.if_icmp .gt 7, 3) := by decide +kernel
theorem dJ9_min_7cf53_5 : decode cJ9_min_7cf53 5 = .ok (.iload_n 0, 1) := by decide +kernel
theorem dJ9_min_7cf53_6 : decode cJ9_min_7cf53 6 = .ok (.goto 4, 3) := by decide +kernel
theorem dJ9_min_7cf53_9 : decode cJ9_min_7cf53 9 = .ok (.iload_n 1, 1) := by decide +kernel
theorem dJ9_min_7cf53_10 : decode cJ9_min_7cf53 10 = .ok (.ireturn, 1) := by decide +kernel
theorem dL_low_0 : decode cL_low 0 = .ok (.iload_n 0, 1) := by decide +kernel
theorem dL_low_1 : decode cL_low 1 = .ok (.ldc 7, 2) := by decide +kernel
theorem dL_low_3 : decode cL_low 3 = .ok (.iand, 1) := by decide +kernel
theorem dL_low_4 : decode cL_low 4 = .ok (.iload_n 1, 1) := by decide +kernel
theorem dL_low_5 : decode cL_low 5 = .ok (.irem, 1) := by decide +kernel
theorem dL_low_6 : decode cL_low 6 = .ok (.ireturn, 1) := by decide +kernel
theorem dL_cell_0 : decode cL_cell 0 = .ok (.iload_n 1, 1) := by decide +kernel
theorem dL_cell_1 : decode cL_cell 1 = .ok (.aload_n 0, 1) := by decide +kernel
theorem dL_cell_2 : decode cL_cell 2 = .ok (.arraylength, 1) := by decide +kernel
theorem dL_cell_3 : decode cL_cell 3 = .ok (.if_icmp .ge 9, 3) := by decide +kernel
theorem dL_cell_6 : decode cL_cell 6 = .ok (.aload_n 0, 1) := by decide +kernel
theorem dL_cell_7 : decode cL_cell 7 = .ok (.iload_n 1, 1) := by decide +kernel
theorem dL_cell_8 : decode cL_cell 8 = .ok (.iaload, 1) := by decide +kernel
theorem dL_cell_9 : decode cL_cell 9 = .ok (.goto 11, 3) := by decide +kernel
theorem dL_cell_12 : decode cL_cell 12 = .ok (.ldc 8, 2) := by decide +kernel
theorem dL_cell_14 : decode cL_cell 14 = .ok (.iload_n 1, 1) := by decide +kernel
theorem dL_cell_15 : decode cL_cell 15 = .ok (.imul, 1) := by decide +kernel
theorem dL_cell_16 : decode cL_cell 16 = .ok (.sipush 977, 3) := by decide +kernel
theorem dL_cell_19 : decode cL_cell 19 = .ok (.iadd, 1) := by decide +kernel
theorem dL_cell_20 : decode cL_cell 20 = .ok (.ireturn, 1) := by decide +kernel
theorem dL_placeOf_0 : decode cL_placeOf 0 = .ok (.iconst (-1), 1) := by decide +kernel
theorem dL_placeOf_1 : decode cL_placeOf 1 = .ok (.istore_n 2, 1) := by decide +kernel
theorem dL_placeOf_2 : decode cL_placeOf 2 = .ok (.iconst 0, 1) := by decide +kernel
theorem dL_placeOf_3 : decode cL_placeOf 3 = .ok (.istore_n 3, 1) := by decide +kernel
theorem dL_placeOf_4 : decode cL_placeOf 4 = .ok (.iload_n 3, 1) := by decide +kernel
theorem dL_placeOf_5 : decode cL_placeOf 5 = .ok (.aload_n 0, 1) := by decide +kernel
theorem dL_placeOf_6 : decode cL_placeOf 6 = .ok (.iconst 1, 1) := by decide +kernel
theorem dL_placeOf_7 : decode cL_placeOf 7 = .ok (.invokevirtual 9, 3) := by decide +kernel
theorem dL_placeOf_10 : decode cL_placeOf 10 = .ok (.if_icmp .ge 25, 3) := by decide +kernel
theorem dL_placeOf_13 : decode cL_placeOf 13 = .ok (.aload_n 0, 1) := by decide +kernel
theorem dL_placeOf_14 : decode cL_placeOf 14 = .ok (.iload_n 3, 1) := by decide +kernel
theorem dL_placeOf_15 : decode cL_placeOf 15 = .ok (.iconst 0, 1) := by decide +kernel
theorem dL_placeOf_16 : decode cL_placeOf 16 = .ok (.invokevirtual 15, 3) := by decide +kernel
theorem dL_placeOf_19 : decode cL_placeOf 19 = .ok (.iload_n 1, 1) := by decide +kernel
theorem dL_placeOf_20 : decode cL_placeOf 20 = .ok (.if_icmp .ne 7, 3) := by decide +kernel
theorem dL_placeOf_23 : decode cL_placeOf 23 = .ok (.iload_n 3, 1) := by decide +kernel
theorem dL_placeOf_24 : decode cL_placeOf 24 = .ok (.goto 4, 3) := by decide +kernel
theorem dL_placeOf_27 : decode cL_placeOf 27 = .ok (.iload_n 2, 1) := by decide +kernel
theorem dL_placeOf_28 : decode cL_placeOf 28 = .ok (.istore_n 2, 1) := by decide +kernel
theorem dL_placeOf_29 : decode cL_placeOf 29 = .ok (.iinc 3 1, 3) := by decide +kernel
theorem dL_placeOf_32 : decode cL_placeOf 32 = .ok (.goto (-28), 3) := by decide +kernel
theorem dL_placeOf_35 : decode cL_placeOf 35 = .ok (.iload_n 2, 1) := by decide +kernel
theorem dL_placeOf_36 : decode cL_placeOf 36 = .ok (.ireturn, 1) := by decide +kernel
theorem dL_order_0 : decode cL_order 0 = .ok (.aload_n 0, 1) := by decide +kernel
theorem dL_order_1 : decode cL_order 1 = .ok (.iload_n 1, 1) := by decide +kernel
theorem dL_order_2 : decode cL_order 2 = .ok (.iload_n 2, 1) := by decide +kernel
theorem dL_order_3 : decode cL_order 3 = .ok (.iload_n 3, 1) := by decide +kernel
theorem dL_order_4 : decode cL_order 4 = .ok (.iload 4, 2) := by decide +kernel
theorem dL_order_6 : decode cL_order 6 = .ok (.iload 5, 2) := by decide +kernel
theorem dL_order_8 : decode cL_order 8 = .ok (.invokevirtual 19, 3) := by decide +kernel
theorem dL_order_11 : decode cL_order 11 = .ok (.ireturn, 1) := by decide +kernel
theorem dL_order_12 : decode cL_order 12 = .ok (.astore 6, 2) := by decide +kernel
theorem dL_order_14 : decode cL_order 14 = .ok (.bipush (-3), 2) := by decide +kernel
theorem dL_order_16 : decode cL_order 16 = .ok (.ireturn, 1) := by decide +kernel
theorem dL_yarn_0 : decode cL_yarn 0 = .ok (.aload_n 0, 1) := by decide +kernel
theorem dL_yarn_1 : decode cL_yarn 1 = .ok (.iload_n 1, 1) := by decide +kernel
theorem dL_yarn_2 : decode cL_yarn 2 = .ok (.iload_n 2, 1) := by decide +kernel
theorem dL_yarn_3 : decode cL_yarn 3 = .ok (.iload_n 3, 1) := by decide +kernel
theorem dL_yarn_4 : decode cL_yarn 4 = .ok (.invokevirtual 25, 3) := by decide +kernel
theorem dL_yarn_7 : decode cL_yarn 7 = .ok (.ireturn, 1) := by decide +kernel
theorem dL_yarn_8 : decode cL_yarn 8 = .ok (.astore 4, 2) := by decide +kernel
theorem dL_yarn_10 : decode cL_yarn 10 = .ok (.bipush (-3), 2) := by decide +kernel
theorem dL_yarn_12 : decode cL_yarn 12 = .ok (.ireturn, 1) := by decide +kernel
theorem dL_give_0 : decode cL_give 0 = .ok (.aload_n 0, 1) := by decide +kernel
theorem dL_give_1 : decode cL_give 1 = .ok (.iload_n 1, 1) := by decide +kernel
theorem dL_give_2 : decode cL_give 2 = .ok (.iload_n 2, 1) := by decide +kernel
theorem dL_give_3 : decode cL_give 3 = .ok (.iload_n 3, 1) := by decide +kernel
theorem dL_give_4 : decode cL_give 4 = .ok (.iload 4, 2) := by decide +kernel
theorem dL_give_6 : decode cL_give 6 = .ok (.invokevirtual 29, 3) := by decide +kernel
theorem dL_give_9 : decode cL_give 9 = .ok (.ireturn, 1) := by decide +kernel
theorem dL_give_10 : decode cL_give 10 = .ok (.astore 5, 2) := by decide +kernel
theorem dL_give_12 : decode cL_give 12 = .ok (.bipush (-2), 2) := by decide +kernel
theorem dL_give_14 : decode cL_give 14 = .ok (.ireturn, 1) := by decide +kernel
theorem dL_give_15 : decode cL_give 15 = .ok (.astore 5, 2) := by decide +kernel
theorem dL_give_17 : decode cL_give 17 = .ok (.bipush (-3), 2) := by decide +kernel
theorem dL_give_19 : decode cL_give 19 = .ok (.ireturn, 1) := by decide +kernel
theorem dL_undo_0 : decode cL_undo 0 = .ok (.aload_n 0, 1) := by decide +kernel
theorem dL_undo_1 : decode cL_undo 1 = .ok (.invokevirtual 35, 3) := by decide +kernel
theorem dL_undo_4 : decode cL_undo 4 = .ok (.ireturn, 1) := by decide +kernel
theorem dL_undo_5 : decode cL_undo 5 = .ok (.astore_n 1, 1) := by decide +kernel
theorem dL_undo_6 : decode cL_undo 6 = .ok (.bipush (-3), 2) := by decide +kernel
theorem dL_undo_8 : decode cL_undo 8 = .ok (.ireturn, 1) := by decide +kernel
theorem dL_yarns_0 : decode cL_yarns 0 = .ok (.iconst 0, 1) := by decide +kernel
theorem dL_yarns_1 : decode cL_yarns 1 = .ok (.istore_n 1, 1) := by decide +kernel
theorem dL_yarns_2 : decode cL_yarns 2 = .ok (.iconst 0, 1) := by decide +kernel
theorem dL_yarns_3 : decode cL_yarns 3 = .ok (.istore_n 2, 1) := by decide +kernel
theorem dL_yarns_4 : decode cL_yarns 4 = .ok (.iload_n 2, 1) := by decide +kernel
theorem dL_yarns_5 : decode cL_yarns 5 = .ok (.iconst 4, 1) := by decide +kernel
theorem dL_yarns_6 : decode cL_yarns 6 = .ok (.if_icmp .ge 32, 3) := by decide +kernel
theorem dL_yarns_9 : decode cL_yarns 9 = .ok (.iconst (-1), 1) := by decide +kernel
theorem dL_yarns_10 : decode cL_yarns 10 = .ok (.istore_n 3, 1) := by decide +kernel
theorem dL_yarns_11 : decode cL_yarns 11 = .ok (.iload_n 3, 1) := by decide +kernel
theorem dL_yarns_12 : decode cL_yarns 12 = .ok (.bipush 6, 2) := by decide +kernel
theorem dL_yarns_14 : decode cL_yarns 14 = .ok (.if_icmp .ge 18, 3) := by decide +kernel
theorem dL_yarns_17 : decode cL_yarns 17 = .ok (.iload_n 1, 1) := by decide +kernel
theorem dL_yarns_18 : decode cL_yarns 18 = .ok (.aload_n 0, 1) := by decide +kernel
theorem dL_yarns_19 : decode cL_yarns 19 = .ok (.iload_n 3, 1) := by decide +kernel
theorem dL_yarns_20 : decode cL_yarns 20 = .ok (.iload_n 2, 1) := by decide +kernel
theorem dL_yarns_21 : decode cL_yarns 21 = .ok (.invokevirtual 39, 3) := by decide +kernel
theorem dL_yarns_24 : decode cL_yarns 24 = .ok (.iadd, 1) := by decide +kernel
theorem dL_yarns_25 : decode cL_yarns 25 = .ok (.istore_n 1, 1) := by decide +kernel
theorem dL_yarns_26 : decode cL_yarns 26 = .ok (.iinc 3 1, 3) := by decide +kernel
theorem dL_yarns_29 : decode cL_yarns 29 = .ok (.goto (-18), 3) := by decide +kernel
theorem dL_yarns_32 : decode cL_yarns 32 = .ok (.iinc 2 1, 3) := by decide +kernel
theorem dL_yarns_35 : decode cL_yarns 35 = .ok (.goto (-31), 3) := by decide +kernel
theorem dL_yarns_38 : decode cL_yarns 38 = .ok (.iload_n 1, 1) := by decide +kernel
theorem dL_yarns_39 : decode cL_yarns 39 = .ok (.ireturn, 1) := by decide +kernel
theorem dL_hall_0 : decode cL_hall 0 = .ok (.iconst 0, 1) := by decide +kernel
theorem dL_hall_1 : decode cL_hall 1 = .ok (.istore_n 1, 1) := by decide +kernel
theorem dL_hall_2 : decode cL_hall 2 = .ok (.iconst 0, 1) := by decide +kernel
theorem dL_hall_3 : decode cL_hall 3 = .ok (.istore_n 2, 1) := by decide +kernel
theorem dL_hall_4 : decode cL_hall 4 = .ok (.iconst 0, 1) := by decide +kernel
theorem dL_hall_5 : decode cL_hall 5 = .ok (.istore_n 3, 1) := by decide +kernel
theorem dL_hall_6 : decode cL_hall 6 = .ok (.iconst 0, 1) := by decide +kernel
theorem dL_hall_7 : decode cL_hall 7 = .ok (.istore 4, 2) := by decide +kernel
theorem dL_hall_9 : decode cL_hall 9 = .ok (.iconst 0, 1) := by decide +kernel
theorem dL_hall_10 : decode cL_hall 10 = .ok (.istore 5, 2) := by decide +kernel
theorem dL_hall_12 : decode cL_hall 12 = .ok (.iconst 1, 1) := by decide +kernel
theorem dL_hall_13 : decode cL_hall 13 = .ok (.istore 6, 2) := by decide +kernel
theorem dL_hall_15 : decode cL_hall 15 = .ok (.iconst 0, 1) := by decide +kernel
theorem dL_hall_16 : decode cL_hall 16 = .ok (.istore 7, 2) := by decide +kernel
theorem dL_hall_18 : decode cL_hall 18 = .ok (.iload 7, 2) := by decide +kernel
theorem dL_hall_20 : decode cL_hall 20 = .ok (.bipush 6, 2) := by decide +kernel
theorem dL_hall_22 : decode cL_hall 22 = .ok (.if_icmp .ge 294, 3) := by decide +kernel
theorem dL_hall_25 : decode cL_hall 25 = .ok (.iload 6, 2) := by decide +kernel
theorem dL_hall_27 : decode cL_hall 27 = .ok (.ifCond .eq 289, 3) := by decide +kernel
theorem dL_hall_30 : decode cL_hall 30 = .ok (.aload_n 0, 1) := by decide +kernel
theorem dL_hall_31 : decode cL_hall 31 = .ok (.iload 7, 2) := by decide +kernel
theorem dL_hall_33 : decode cL_hall 33 = .ok (.iconst 1, 1) := by decide +kernel
theorem dL_hall_34 : decode cL_hall 34 = .ok (.invokevirtual 42, 3) := by decide +kernel
theorem dL_hall_37 : decode cL_hall 37 = .ok (.istore 8, 2) := by decide +kernel
theorem dL_hall_39 : decode cL_hall 39 = .ok (.iload_n 1, 1) := by decide +kernel
theorem dL_hall_40 : decode cL_hall 40 = .ok (.aload_n 0, 1) := by decide +kernel
theorem dL_hall_41 : decode cL_hall 41 = .ok (.iload 7, 2) := by decide +kernel
theorem dL_hall_43 : decode cL_hall 43 = .ok (.iconst 5, 1) := by decide +kernel
theorem dL_hall_44 : decode cL_hall 44 = .ok (.invokevirtual 45, 3) := by decide +kernel
theorem dL_hall_47 : decode cL_hall 47 = .ok (.iadd, 1) := by decide +kernel
theorem dL_hall_48 : decode cL_hall 48 = .ok (.istore_n 1, 1) := by decide +kernel
theorem dL_hall_49 : decode cL_hall 49 = .ok (.iload_n 2, 1) := by decide +kernel
theorem dL_hall_50 : decode cL_hall 50 = .ok (.aload_n 0, 1) := by decide +kernel
theorem dL_hall_51 : decode cL_hall 51 = .ok (.iload 7, 2) := by decide +kernel
theorem dL_hall_53 : decode cL_hall 53 = .ok (.bipush 6, 2) := by decide +kernel
theorem dL_hall_55 : decode cL_hall 55 = .ok (.invokevirtual 45, 3) := by decide +kernel
theorem dL_hall_58 : decode cL_hall 58 = .ok (.iadd, 1) := by decide +kernel
theorem dL_hall_59 : decode cL_hall 59 = .ok (.istore_n 2, 1) := by decide +kernel
theorem dL_hall_60 : decode cL_hall 60 = .ok (.iload_n 3, 1) := by decide +kernel
theorem dL_hall_61 : decode cL_hall 61 = .ok (.aload_n 0, 1) := by decide +kernel
theorem dL_hall_62 : decode cL_hall 62 = .ok (.iload 7, 2) := by decide +kernel
theorem dL_hall_64 : decode cL_hall 64 = .ok (.iconst 3, 1) := by decide +kernel
theorem dL_hall_65 : decode cL_hall 65 = .ok (.invokevirtual 45, 3) := by decide +kernel
theorem dL_hall_68 : decode cL_hall 68 = .ok (.iadd, 1) := by decide +kernel
theorem dL_hall_69 : decode cL_hall 69 = .ok (.istore_n 3, 1) := by decide +kernel
theorem dL_hall_70 : decode cL_hall 70 = .ok (.iload 4, 2) := by decide +kernel
theorem dL_hall_72 : decode cL_hall 72 = .ok (.aload_n 0, 1) := by decide +kernel
theorem dL_hall_73 : decode cL_hall 73 = .ok (.iload 7, 2) := by decide +kernel
theorem dL_hall_75 : decode cL_hall 75 = .ok (.iconst 4, 1) := by decide +kernel
theorem dL_hall_76 : decode cL_hall 76 = .ok (.invokevirtual 45, 3) := by decide +kernel
theorem dL_hall_79 : decode cL_hall 79 = .ok (.iadd, 1) := by decide +kernel
theorem dL_hall_80 : decode cL_hall 80 = .ok (.istore 4, 2) := by decide +kernel
theorem dL_hall_82 : decode cL_hall 82 = .ok (.iload 5, 2) := by decide +kernel
theorem dL_hall_84 : decode cL_hall 84 = .ok (.aload_n 0, 1) := by decide +kernel
theorem dL_hall_85 : decode cL_hall 85 = .ok (.iload 7, 2) := by decide +kernel
theorem dL_hall_87 : decode cL_hall 87 = .ok (.iconst 0, 1) := by decide +kernel
theorem dL_hall_88 : decode cL_hall 88 = .ok (.invokevirtual 45, 3) := by decide +kernel
theorem dL_hall_91 : decode cL_hall 91 = .ok (.ifCond .le 7, 3) := by decide +kernel
theorem dL_hall_94 : decode cL_hall 94 = .ok (.iconst 1, 1) := by decide +kernel
theorem dL_hall_95 : decode cL_hall 95 = .ok (.goto 4, 3) := by decide +kernel
theorem dL_hall_98 : decode cL_hall 98 = .ok (.iconst 0, 1) := by decide +kernel
theorem dL_hall_99 : decode cL_hall 99 = .ok (.iadd, 1) := by decide +kernel
theorem dL_hall_100 : decode cL_hall 100 = .ok (.istore 5, 2) := by decide +kernel
theorem dL_hall_102 : decode cL_hall 102 = .ok (.aload_n 0, 1) := by decide +kernel
theorem dL_hall_103 : decode cL_hall 103 = .ok (.iload 7, 2) := by decide +kernel
theorem dL_hall_105 : decode cL_hall 105 = .ok (.bipush 6, 2) := by decide +kernel
theorem dL_hall_107 : decode cL_hall 107 = .ok (.invokevirtual 45, 3) := by decide +kernel
theorem dL_hall_110 : decode cL_hall 110 = .ok (.aload_n 0, 1) := by decide +kernel
theorem dL_hall_111 : decode cL_hall 111 = .ok (.iload 7, 2) := by decide +kernel
theorem dL_hall_113 : decode cL_hall 113 = .ok (.iconst 5, 1) := by decide +kernel
theorem dL_hall_114 : decode cL_hall 114 = .ok (.invokevirtual 45, 3) := by decide +kernel
theorem dL_hall_117 : decode cL_hall 117 = .ok (.if_icmp .gt 140, 3) := by decide +kernel
theorem dL_hall_120 : decode cL_hall 120 = .ok (.aload_n 0, 1) := by decide +kernel
theorem dL_hall_121 : decode cL_hall 121 = .ok (.iload 7, 2) := by decide +kernel
theorem dL_hall_123 : decode cL_hall 123 = .ok (.iconst 3, 1) := by decide +kernel
theorem dL_hall_124 : decode cL_hall 124 = .ok (.invokevirtual 45, 3) := by decide +kernel
theorem dL_hall_127 : decode cL_hall 127 = .ok (.ifCond .lt 130, 3) := by decide +kernel
theorem dL_hall_130 : decode cL_hall 130 = .ok (.aload_n 0, 1) := by decide +kernel
theorem dL_hall_131 : decode cL_hall 131 = .ok (.iload 7, 2) := by decide +kernel
theorem dL_hall_133 : decode cL_hall 133 = .ok (.iconst 3, 1) := by decide +kernel
theorem dL_hall_134 : decode cL_hall 134 = .ok (.invokevirtual 45, 3) := by decide +kernel
theorem dL_hall_137 : decode cL_hall 137 = .ok (.aload_n 0, 1) := by decide +kernel
theorem dL_hall_138 : decode cL_hall 138 = .ok (.iload 7, 2) := by decide +kernel
theorem dL_hall_140 : decode cL_hall 140 = .ok (.bipush 7, 2) := by decide +kernel
theorem dL_hall_142 : decode cL_hall 142 = .ok (.invokevirtual 45, 3) := by decide +kernel
theorem dL_hall_145 : decode cL_hall 145 = .ok (.if_icmp .gt 112, 3) := by decide +kernel
theorem dL_hall_148 : decode cL_hall 148 = .ok (.aload_n 0, 1) := by decide +kernel
theorem dL_hall_149 : decode cL_hall 149 = .ok (.iload 7, 2) := by decide +kernel
theorem dL_hall_151 : decode cL_hall 151 = .ok (.iconst 4, 1) := by decide +kernel
theorem dL_hall_152 : decode cL_hall 152 = .ok (.invokevirtual 45, 3) := by decide +kernel
theorem dL_hall_155 : decode cL_hall 155 = .ok (.ifCond .lt 102, 3) := by decide +kernel
theorem dL_hall_158 : decode cL_hall 158 = .ok (.aload_n 0, 1) := by decide +kernel
theorem dL_hall_159 : decode cL_hall 159 = .ok (.iload 7, 2) := by decide +kernel
theorem dL_hall_161 : decode cL_hall 161 = .ok (.iconst 0, 1) := by decide +kernel
theorem dL_hall_162 : decode cL_hall 162 = .ok (.invokevirtual 45, 3) := by decide +kernel
theorem dL_hall_165 : decode cL_hall 165 = .ok (.ifCond .ne 7, 3) := by decide +kernel
theorem dL_hall_168 : decode cL_hall 168 = .ok (.iconst 1, 1) := by decide +kernel
theorem dL_hall_169 : decode cL_hall 169 = .ok (.goto 4, 3) := by decide +kernel
theorem dL_hall_172 : decode cL_hall 172 = .ok (.iconst 0, 1) := by decide +kernel
theorem dL_hall_173 : decode cL_hall 173 = .ok (.iload 8, 2) := by decide +kernel
theorem dL_hall_175 : decode cL_hall 175 = .ok (.iconst 1, 1) := by decide +kernel
theorem dL_hall_176 : decode cL_hall 176 = .ok (.if_icmp .ne 7, 3) := by decide +kernel
theorem dL_hall_179 : decode cL_hall 179 = .ok (.iconst 1, 1) := by decide +kernel
theorem dL_hall_180 : decode cL_hall 180 = .ok (.goto 4, 3) := by decide +kernel
theorem dL_hall_183 : decode cL_hall 183 = .ok (.iconst 0, 1) := by decide +kernel
theorem dL_hall_184 : decode cL_hall 184 = .ok (.if_icmp .ne 73, 3) := by decide +kernel
theorem dL_hall_187 : decode cL_hall 187 = .ok (.iload 8, 2) := by decide +kernel
theorem dL_hall_189 : decode cL_hall 189 = .ok (.iconst 1, 1) := by decide +kernel
theorem dL_hall_190 : decode cL_hall 190 = .ok (.if_icmp .eq 9, 3) := by decide +kernel
theorem dL_hall_193 : decode cL_hall 193 = .ok (.iload 8, 2) := by decide +kernel
theorem dL_hall_195 : decode cL_hall 195 = .ok (.iconst 2, 1) := by decide +kernel
theorem dL_hall_196 : decode cL_hall 196 = .ok (.if_icmp .ne 7, 3) := by decide +kernel
theorem dL_hall_199 : decode cL_hall 199 = .ok (.iconst 1, 1) := by decide +kernel
theorem dL_hall_200 : decode cL_hall 200 = .ok (.goto 4, 3) := by decide +kernel
theorem dL_hall_203 : decode cL_hall 203 = .ok (.iconst 0, 1) := by decide +kernel
theorem dL_hall_204 : decode cL_hall 204 = .ok (.aload_n 0, 1) := by decide +kernel
theorem dL_hall_205 : decode cL_hall 205 = .ok (.iload 7, 2) := by decide +kernel
theorem dL_hall_207 : decode cL_hall 207 = .ok (.iconst 0, 1) := by decide +kernel
theorem dL_hall_208 : decode cL_hall 208 = .ok (.invokevirtual 42, 3) := by decide +kernel
theorem dL_hall_211 : decode cL_hall 211 = .ok (.iconst (-1), 1) := by decide +kernel
theorem dL_hall_212 : decode cL_hall 212 = .ok (.if_icmp .ne 7, 3) := by decide +kernel
theorem dL_hall_215 : decode cL_hall 215 = .ok (.iconst 1, 1) := by decide +kernel
theorem dL_hall_216 : decode cL_hall 216 = .ok (.goto 4, 3) := by decide +kernel
theorem dL_hall_219 : decode cL_hall 219 = .ok (.iconst 0, 1) := by decide +kernel
theorem dL_hall_220 : decode cL_hall 220 = .ok (.if_icmp .ne 37, 3) := by decide +kernel
theorem dL_hall_223 : decode cL_hall 223 = .ok (.aload_n 0, 1) := by decide +kernel
theorem dL_hall_224 : decode cL_hall 224 = .ok (.iload 7, 2) := by decide +kernel
theorem dL_hall_226 : decode cL_hall 226 = .ok (.iconst 0, 1) := by decide +kernel
theorem dL_hall_227 : decode cL_hall 227 = .ok (.invokevirtual 45, 3) := by decide +kernel
theorem dL_hall_230 : decode cL_hall 230 = .ok (.ifCond .gt 23, 3) := by decide +kernel
theorem dL_hall_233 : decode cL_hall 233 = .ok (.aload_n 0, 1) := by decide +kernel
theorem dL_hall_234 : decode cL_hall 234 = .ok (.iload 7, 2) := by decide +kernel
theorem dL_hall_236 : decode cL_hall 236 = .ok (.iconst 1, 1) := by decide +kernel
theorem dL_hall_237 : decode cL_hall 237 = .ok (.invokevirtual 45, 3) := by decide +kernel
theorem dL_hall_240 : decode cL_hall 240 = .ok (.ifCond .ne 17, 3) := by decide +kernel
theorem dL_hall_243 : decode cL_hall 243 = .ok (.aload_n 0, 1) := by decide +kernel
theorem dL_hall_244 : decode cL_hall 244 = .ok (.iload 7, 2) := by decide +kernel
theorem dL_hall_246 : decode cL_hall 246 = .ok (.iconst 2, 1) := by decide +kernel
theorem dL_hall_247 : decode cL_hall 247 = .ok (.invokevirtual 45, 3) := by decide +kernel
theorem dL_hall_250 : decode cL_hall 250 = .ok (.ifCond .ne 7, 3) := by decide +kernel
theorem dL_hall_253 : decode cL_hall 253 = .ok (.iconst 1, 1) := by decide +kernel
theorem dL_hall_254 : decode cL_hall 254 = .ok (.goto 4, 3) := by decide +kernel
theorem dL_hall_257 : decode cL_hall 257 = .ok (.iconst 0, 1) := by decide +kernel
theorem dL_hall_258 : decode cL_hall 258 = .ok (.istore 6, 2) := by decide +kernel
theorem dL_hall_260 : decode cL_hall 260 = .ok (.iload 6, 2) := by decide +kernel
theorem dL_hall_262 : decode cL_hall 262 = .ok (.ifCond .eq 45, 3) := by decide +kernel
theorem dL_hall_265 : decode cL_hall 265 = .ok (.iload 8, 2) := by decide +kernel
theorem dL_hall_267 : decode cL_hall 267 = .ok (.iconst 1, 1) := by decide +kernel
theorem dL_hall_268 : decode cL_hall 268 = .ok (.if_icmp .eq 35, 3) := by decide +kernel
theorem dL_hall_271 : decode cL_hall 271 = .ok (.iload 8, 2) := by decide +kernel
theorem dL_hall_273 : decode cL_hall 273 = .ok (.iconst 2, 1) := by decide +kernel
theorem dL_hall_274 : decode cL_hall 274 = .ok (.if_icmp .eq 29, 3) := by decide +kernel
theorem dL_hall_277 : decode cL_hall 277 = .ok (.aload_n 0, 1) := by decide +kernel
theorem dL_hall_278 : decode cL_hall 278 = .ok (.aload_n 0, 1) := by decide +kernel
theorem dL_hall_279 : decode cL_hall 279 = .ok (.aload_n 0, 1) := by decide +kernel
theorem dL_hall_280 : decode cL_hall 280 = .ok (.iload 7, 2) := by decide +kernel
theorem dL_hall_282 : decode cL_hall 282 = .ok (.iconst 0, 1) := by decide +kernel
theorem dL_hall_283 : decode cL_hall 283 = .ok (.invokevirtual 42, 3) := by decide +kernel
theorem dL_hall_286 : decode cL_hall 286 = .ok (.invokestatic 48, 3) := by decide +kernel
theorem dL_hall_289 : decode cL_hall 289 = .ok (.iconst 2, 1) := by decide +kernel
theorem dL_hall_290 : decode cL_hall 290 = .ok (.invokevirtual 15, 3) := by decide +kernel
theorem dL_hall_293 : decode cL_hall 293 = .ok (.aload_n 0, 1) := by decide +kernel
theorem dL_hall_294 : decode cL_hall 294 = .ok (.iload 7, 2) := by decide +kernel
theorem dL_hall_296 : decode cL_hall 296 = .ok (.iconst 0, 1) := by decide +kernel
theorem dL_hall_297 : decode cL_hall 297 = .ok (.invokevirtual 45, 3) := by decide +kernel
theorem dL_hall_300 : decode cL_hall 300 = .ok (.if_icmp .gt 7, 3) := by decide +kernel
theorem dL_hall_303 : decode cL_hall 303 = .ok (.iconst 1, 1) := by decide +kernel
theorem dL_hall_304 : decode cL_hall 304 = .ok (.goto 4, 3) := by decide +kernel
theorem dL_hall_307 : decode cL_hall 307 = .ok (.iconst 0, 1) := by decide +kernel
theorem dL_hall_308 : decode cL_hall 308 = .ok (.istore 6, 2) := by decide +kernel
theorem dL_hall_310 : decode cL_hall 310 = .ok (.iinc 7 1, 3) := by decide +kernel
theorem dL_hall_313 : decode cL_hall 313 = .ok (.goto (-295), 3) := by decide +kernel
theorem dL_hall_316 : decode cL_hall 316 = .ok (.iload 6, 2) := by decide +kernel
theorem dL_hall_318 : decode cL_hall 318 = .ok (.ifCond .eq 88, 3) := by decide +kernel
theorem dL_hall_321 : decode cL_hall 321 = .ok (.iload_n 1, 1) := by decide +kernel
theorem dL_hall_322 : decode cL_hall 322 = .ok (.aload_n 0, 1) := by decide +kernel
theorem dL_hall_323 : decode cL_hall 323 = .ok (.iconst 5, 1) := by decide +kernel
theorem dL_hall_324 : decode cL_hall 324 = .ok (.invokevirtual 9, 3) := by decide +kernel
theorem dL_hall_327 : decode cL_hall 327 = .ok (.if_icmp .ne 79, 3) := by decide +kernel
theorem dL_hall_330 : decode cL_hall 330 = .ok (.iload_n 2, 1) := by decide +kernel
theorem dL_hall_331 : decode cL_hall 331 = .ok (.aload_n 0, 1) := by decide +kernel
theorem dL_hall_332 : decode cL_hall 332 = .ok (.bipush 6, 2) := by decide +kernel
theorem dL_hall_334 : decode cL_hall 334 = .ok (.invokevirtual 9, 3) := by decide +kernel
theorem dL_hall_337 : decode cL_hall 337 = .ok (.if_icmp .ne 69, 3) := by decide +kernel
theorem dL_hall_340 : decode cL_hall 340 = .ok (.iload_n 3, 1) := by decide +kernel
theorem dL_hall_341 : decode cL_hall 341 = .ok (.aload_n 0, 1) := by decide +kernel
theorem dL_hall_342 : decode cL_hall 342 = .ok (.bipush 8, 2) := by decide +kernel
theorem dL_hall_344 : decode cL_hall 344 = .ok (.invokevirtual 9, 3) := by decide +kernel
theorem dL_hall_347 : decode cL_hall 347 = .ok (.if_icmp .ne 59, 3) := by decide +kernel
theorem dL_hall_350 : decode cL_hall 350 = .ok (.iload 4, 2) := by decide +kernel
theorem dL_hall_352 : decode cL_hall 352 = .ok (.aload_n 0, 1) := by decide +kernel
theorem dL_hall_353 : decode cL_hall 353 = .ok (.iconst 4, 1) := by decide +kernel
theorem dL_hall_354 : decode cL_hall 354 = .ok (.invokevirtual 9, 3) := by decide +kernel
theorem dL_hall_357 : decode cL_hall 357 = .ok (.if_icmp .gt 49, 3) := by decide +kernel
theorem dL_hall_360 : decode cL_hall 360 = .ok (.iload 5, 2) := by decide +kernel
theorem dL_hall_362 : decode cL_hall 362 = .ok (.aload_n 0, 1) := by decide +kernel
theorem dL_hall_363 : decode cL_hall 363 = .ok (.bipush 9, 2) := by decide +kernel
theorem dL_hall_365 : decode cL_hall 365 = .ok (.invokevirtual 9, 3) := by decide +kernel
theorem dL_hall_368 : decode cL_hall 368 = .ok (.if_icmp .ne 38, 3) := by decide +kernel
theorem dL_hall_371 : decode cL_hall 371 = .ok (.aload_n 0, 1) := by decide +kernel
theorem dL_hall_372 : decode cL_hall 372 = .ok (.iconst 3, 1) := by decide +kernel
theorem dL_hall_373 : decode cL_hall 373 = .ok (.invokevirtual 9, 3) := by decide +kernel
theorem dL_hall_376 : decode cL_hall 376 = .ok (.aload_n 0, 1) := by decide +kernel
theorem dL_hall_377 : decode cL_hall 377 = .ok (.iconst 2, 1) := by decide +kernel
theorem dL_hall_378 : decode cL_hall 378 = .ok (.invokevirtual 9, 3) := by decide +kernel
theorem dL_hall_381 : decode cL_hall 381 = .ok (.if_icmp .gt 25, 3) := by decide +kernel
theorem dL_hall_384 : decode cL_hall 384 = .ok (.aload_n 0, 1) := by decide +kernel
theorem dL_hall_385 : decode cL_hall 385 = .ok (.invokevirtual 54, 3) := by decide +kernel
theorem dL_hall_388 : decode cL_hall 388 = .ok (.dconst 0, 1) := by decide +kernel
theorem dL_hall_389 : decode cL_hall 389 = .ok (.dcmp .l, 1) := by decide +kernel
theorem dL_hall_390 : decode cL_hall 390 = .ok (.ifCond .lt 16, 3) := by decide +kernel
theorem dL_hall_393 : decode cL_hall 393 = .ok (.aload_n 0, 1) := by decide +kernel
theorem dL_hall_394 : decode cL_hall 394 = .ok (.invokevirtual 54, 3) := by decide +kernel
theorem dL_hall_397 : decode cL_hall 397 = .ok (.dconst 1, 1) := by decide +kernel
theorem dL_hall_398 : decode cL_hall 398 = .ok (.dcmp .g, 1) := by decide +kernel
theorem dL_hall_399 : decode cL_hall 399 = .ok (.ifCond .gt 7, 3) := by decide +kernel
theorem dL_hall_402 : decode cL_hall 402 = .ok (.iconst 1, 1) := by decide +kernel
theorem dL_hall_403 : decode cL_hall 403 = .ok (.goto 4, 3) := by decide +kernel
theorem dL_hall_406 : decode cL_hall 406 = .ok (.iconst 0, 1) := by decide +kernel
theorem dL_hall_407 : decode cL_hall 407 = .ok (.istore 6, 2) := by decide +kernel
theorem dL_hall_409 : decode cL_hall 409 = .ok (.iconst 0, 1) := by decide +kernel
theorem dL_hall_410 : decode cL_hall 410 = .ok (.istore 7, 2) := by decide +kernel
theorem dL_hall_412 : decode cL_hall 412 = .ok (.iload 7, 2) := by decide +kernel
theorem dL_hall_414 : decode cL_hall 414 = .ok (.aload_n 0, 1) := by decide +kernel
theorem dL_hall_415 : decode cL_hall 415 = .ok (.iconst 1, 1) := by decide +kernel
theorem dL_hall_416 : decode cL_hall 416 = .ok (.invokevirtual 9, 3) := by decide +kernel
theorem dL_hall_419 : decode cL_hall 419 = .ok (.if_icmp .ge 271, 3) := by decide +kernel
theorem dL_hall_422 : decode cL_hall 422 = .ok (.iload 6, 2) := by decide +kernel
theorem dL_hall_424 : decode cL_hall 424 = .ok (.ifCond .eq 266, 3) := by decide +kernel
theorem dL_hall_427 : decode cL_hall 427 = .ok (.iconst 0, 1) := by decide +kernel
theorem dL_hall_428 : decode cL_hall 428 = .ok (.istore 8, 2) := by decide +kernel
theorem dL_hall_430 : decode cL_hall 430 = .ok (.iconst 0, 1) := by decide +kernel
theorem dL_hall_431 : decode cL_hall 431 = .ok (.istore 9, 2) := by decide +kernel
theorem dL_hall_433 : decode cL_hall 433 = .ok (.iconst 0, 1) := by decide +kernel
theorem dL_hall_434 : decode cL_hall 434 = .ok (.istore 10, 2) := by decide +kernel
theorem dL_hall_436 : decode cL_hall 436 = .ok (.iconst 0, 1) := by decide +kernel
theorem dL_hall_437 : decode cL_hall 437 = .ok (.istore 11, 2) := by decide +kernel
theorem dL_hall_439 : decode cL_hall 439 = .ok (.iload 11, 2) := by decide +kernel
theorem dL_hall_441 : decode cL_hall 441 = .ok (.bipush 6, 2) := by decide +kernel
theorem dL_hall_443 : decode cL_hall 443 = .ok (.if_icmp .ge 67, 3) := by decide +kernel
theorem dL_hall_446 : decode cL_hall 446 = .ok (.iload 8, 2) := by decide +kernel
theorem dL_hall_448 : decode cL_hall 448 = .ok (.aload_n 0, 1) := by decide +kernel
theorem dL_hall_449 : decode cL_hall 449 = .ok (.iload 7, 2) := by decide +kernel
theorem dL_hall_451 : decode cL_hall 451 = .ok (.iload 11, 2) := by decide +kernel
theorem dL_hall_453 : decode cL_hall 453 = .ok (.invokevirtual 58, 3) := by decide +kernel
theorem dL_hall_456 : decode cL_hall 456 = .ok (.iadd, 1) := by decide +kernel
theorem dL_hall_457 : decode cL_hall 457 = .ok (.istore 8, 2) := by decide +kernel
theorem dL_hall_459 : decode cL_hall 459 = .ok (.iload 9, 2) := by decide +kernel
theorem dL_hall_461 : decode cL_hall 461 = .ok (.aload_n 0, 1) := by decide +kernel
theorem dL_hall_462 : decode cL_hall 462 = .ok (.iload 11, 2) := by decide +kernel
theorem dL_hall_464 : decode cL_hall 464 = .ok (.iconst 0, 1) := by decide +kernel
theorem dL_hall_465 : decode cL_hall 465 = .ok (.invokevirtual 45, 3) := by decide +kernel
theorem dL_hall_468 : decode cL_hall 468 = .ok (.aload_n 0, 1) := by decide +kernel
theorem dL_hall_469 : decode cL_hall 469 = .ok (.iload 7, 2) := by decide +kernel
theorem dL_hall_471 : decode cL_hall 471 = .ok (.iconst 2, 1) := by decide +kernel
theorem dL_hall_472 : decode cL_hall 472 = .ok (.invokevirtual 15, 3) := by decide +kernel
theorem dL_hall_475 : decode cL_hall 475 = .ok (.if_icmp .lt 7, 3) := by decide +kernel
theorem dL_hall_478 : decode cL_hall 478 = .ok (.iconst 1, 1) := by decide +kernel
theorem dL_hall_479 : decode cL_hall 479 = .ok (.goto 4, 3) := by decide +kernel
theorem dL_hall_482 : decode cL_hall 482 = .ok (.iconst 0, 1) := by decide +kernel
theorem dL_hall_483 : decode cL_hall 483 = .ok (.iadd, 1) := by decide +kernel
theorem dL_hall_484 : decode cL_hall 484 = .ok (.istore 9, 2) := by decide +kernel
theorem dL_hall_486 : decode cL_hall 486 = .ok (.iload 10, 2) := by decide +kernel
theorem dL_hall_488 : decode cL_hall 488 = .ok (.aload_n 0, 1) := by decide +kernel
theorem dL_hall_489 : decode cL_hall 489 = .ok (.aload_n 0, 1) := by decide +kernel
theorem dL_hall_490 : decode cL_hall 490 = .ok (.iload 7, 2) := by decide +kernel
theorem dL_hall_492 : decode cL_hall 492 = .ok (.iconst 0, 1) := by decide +kernel
theorem dL_hall_493 : decode cL_hall 493 = .ok (.invokevirtual 15, 3) := by decide +kernel
theorem dL_hall_496 : decode cL_hall 496 = .ok (.iload 11, 2) := by decide +kernel
theorem dL_hall_498 : decode cL_hall 498 = .ok (.invokevirtual 61, 3) := by decide +kernel
theorem dL_hall_501 : decode cL_hall 501 = .ok (.iadd, 1) := by decide +kernel
theorem dL_hall_502 : decode cL_hall 502 = .ok (.istore 10, 2) := by decide +kernel
theorem dL_hall_504 : decode cL_hall 504 = .ok (.iinc 11 1, 3) := by decide +kernel
theorem dL_hall_507 : decode cL_hall 507 = .ok (.goto (-68), 3) := by decide +kernel
theorem dL_hall_510 : decode cL_hall 510 = .ok (.iload 8, 2) := by decide +kernel
theorem dL_hall_512 : decode cL_hall 512 = .ok (.aload_n 0, 1) := by decide +kernel
theorem dL_hall_513 : decode cL_hall 513 = .ok (.iload 7, 2) := by decide +kernel
theorem dL_hall_515 : decode cL_hall 515 = .ok (.bipush 6, 2) := by decide +kernel
theorem dL_hall_517 : decode cL_hall 517 = .ok (.invokevirtual 15, 3) := by decide +kernel
theorem dL_hall_520 : decode cL_hall 520 = .ok (.if_icmp .ne 87, 3) := by decide +kernel
theorem dL_hall_523 : decode cL_hall 523 = .ok (.iload 8, 2) := by decide +kernel
theorem dL_hall_525 : decode cL_hall 525 = .ok (.aload_n 0, 1) := by decide +kernel
theorem dL_hall_526 : decode cL_hall 526 = .ok (.iload 7, 2) := by decide +kernel
theorem dL_hall_528 : decode cL_hall 528 = .ok (.iconst 3, 1) := by decide +kernel
theorem dL_hall_529 : decode cL_hall 529 = .ok (.invokevirtual 15, 3) := by decide +kernel
theorem dL_hall_532 : decode cL_hall 532 = .ok (.if_icmp .ge 75, 3) := by decide +kernel
theorem dL_hall_535 : decode cL_hall 535 = .ok (.aload_n 0, 1) := by decide +kernel
theorem dL_hall_536 : decode cL_hall 536 = .ok (.iload 7, 2) := by decide +kernel
theorem dL_hall_538 : decode cL_hall 538 = .ok (.bipush 7, 2) := by decide +kernel
theorem dL_hall_540 : decode cL_hall 540 = .ok (.invokevirtual 15, 3) := by decide +kernel
theorem dL_hall_543 : decode cL_hall 543 = .ok (.aload_n 0, 1) := by decide +kernel
theorem dL_hall_544 : decode cL_hall 544 = .ok (.iload 7, 2) := by decide +kernel
theorem dL_hall_546 : decode cL_hall 546 = .ok (.iconst 3, 1) := by decide +kernel
theorem dL_hall_547 : decode cL_hall 547 = .ok (.invokevirtual 15, 3) := by decide +kernel
theorem dL_hall_550 : decode cL_hall 550 = .ok (.iload 8, 2) := by decide +kernel
theorem dL_hall_552 : decode cL_hall 552 = .ok (.isub, 1) := by decide +kernel
theorem dL_hall_553 : decode cL_hall 553 = .ok (.aload_n 0, 1) := by decide +kernel
theorem dL_hall_554 : decode cL_hall 554 = .ok (.iload 7, 2) := by decide +kernel
theorem dL_hall_556 : decode cL_hall 556 = .ok (.iconst 2, 1) := by decide +kernel
theorem dL_hall_557 : decode cL_hall 557 = .ok (.invokevirtual 15, 3) := by decide +kernel
theorem dL_hall_560 : decode cL_hall 560 = .ok (.bipush 9, 2) := by decide +kernel
theorem dL_hall_562 : decode cL_hall 562 = .ok (.iadd, 1) := by decide +kernel
theorem dL_hall_563 : decode cL_hall 563 = .ok (.bipush 10, 2) := by decide +kernel
theorem dL_hall_565 : decode cL_hall 565 = .ok (.idiv, 1) := by decide +kernel
theorem dL_hall_566 : decode cL_hall 566 = .ok (.imul, 1) := by decide +kernel
theorem dL_hall_567 : decode cL_hall 567 = .ok (.if_icmp .ne 40, 3) := by decide +kernel
theorem dL_hall_570 : decode cL_hall 570 = .ok (.aload_n 0, 1) := by decide +kernel
theorem dL_hall_571 : decode cL_hall 571 = .ok (.iload 7, 2) := by decide +kernel
theorem dL_hall_573 : decode cL_hall 573 = .ok (.bipush 8, 2) := by decide +kernel
theorem dL_hall_575 : decode cL_hall 575 = .ok (.invokevirtual 15, 3) := by decide +kernel
theorem dL_hall_578 : decode cL_hall 578 = .ok (.iload 9, 2) := by decide +kernel
theorem dL_hall_580 : decode cL_hall 580 = .ok (.if_icmp .ne 27, 3) := by decide +kernel
theorem dL_hall_583 : decode cL_hall 583 = .ok (.iload 10, 2) := by decide +kernel
theorem dL_hall_585 : decode cL_hall 585 = .ok (.ifCond .lt 22, 3) := by decide +kernel
theorem dL_hall_588 : decode cL_hall 588 = .ok (.iload 10, 2) := by decide +kernel
theorem dL_hall_590 : decode cL_hall 590 = .ok (.iload 8, 2) := by decide +kernel
theorem dL_hall_592 : decode cL_hall 592 = .ok (.aload_n 0, 1) := by decide +kernel
theorem dL_hall_593 : decode cL_hall 593 = .ok (.iload 7, 2) := by decide +kernel
theorem dL_hall_595 : decode cL_hall 595 = .ok (.iconst 4, 1) := by decide +kernel
theorem dL_hall_596 : decode cL_hall 596 = .ok (.invokevirtual 15, 3) := by decide +kernel
theorem dL_hall_599 : decode cL_hall 599 = .ok (.imul, 1) := by decide +kernel
theorem dL_hall_600 : decode cL_hall 600 = .ok (.if_icmp .gt 7, 3) := by decide +kernel
theorem dL_hall_603 : decode cL_hall 603 = .ok (.iconst 1, 1) := by decide +kernel
theorem dL_hall_604 : decode cL_hall 604 = .ok (.goto 4, 3) := by decide +kernel
theorem dL_hall_607 : decode cL_hall 607 = .ok (.iconst 0, 1) := by decide +kernel
theorem dL_hall_608 : decode cL_hall 608 = .ok (.istore 6, 2) := by decide +kernel
theorem dL_hall_610 : decode cL_hall 610 = .ok (.iload 6, 2) := by decide +kernel
theorem dL_hall_612 : decode cL_hall 612 = .ok (.ifCond .eq 69, 3) := by decide +kernel
theorem dL_hall_615 : decode cL_hall 615 = .ok (.iload 7, 2) := by decide +kernel
theorem dL_hall_617 : decode cL_hall 617 = .ok (.ifCond .eq 60, 3) := by decide +kernel
theorem dL_hall_620 : decode cL_hall 620 = .ok (.aload_n 0, 1) := by decide +kernel
theorem dL_hall_621 : decode cL_hall 621 = .ok (.iload 7, 2) := by decide +kernel
theorem dL_hall_623 : decode cL_hall 623 = .ok (.iconst 1, 1) := by decide +kernel
theorem dL_hall_624 : decode cL_hall 624 = .ok (.isub, 1) := by decide +kernel
theorem dL_hall_625 : decode cL_hall 625 = .ok (.iconst 5, 1) := by decide +kernel
theorem dL_hall_626 : decode cL_hall 626 = .ok (.invokevirtual 15, 3) := by decide +kernel
theorem dL_hall_629 : decode cL_hall 629 = .ok (.aload_n 0, 1) := by decide +kernel
theorem dL_hall_630 : decode cL_hall 630 = .ok (.iload 7, 2) := by decide +kernel
theorem dL_hall_632 : decode cL_hall 632 = .ok (.iconst 5, 1) := by decide +kernel
theorem dL_hall_633 : decode cL_hall 633 = .ok (.invokevirtual 15, 3) := by decide +kernel
theorem dL_hall_636 : decode cL_hall 636 = .ok (.if_icmp .lt 41, 3) := by decide +kernel
theorem dL_hall_639 : decode cL_hall 639 = .ok (.aload_n 0, 1) := by decide +kernel
theorem dL_hall_640 : decode cL_hall 640 = .ok (.iload 7, 2) := by decide +kernel
theorem dL_hall_642 : decode cL_hall 642 = .ok (.iconst 1, 1) := by decide +kernel
theorem dL_hall_643 : decode cL_hall 643 = .ok (.isub, 1) := by decide +kernel
theorem dL_hall_644 : decode cL_hall 644 = .ok (.iconst 5, 1) := by decide +kernel
theorem dL_hall_645 : decode cL_hall 645 = .ok (.invokevirtual 15, 3) := by decide +kernel
theorem dL_hall_648 : decode cL_hall 648 = .ok (.aload_n 0, 1) := by decide +kernel
theorem dL_hall_649 : decode cL_hall 649 = .ok (.iload 7, 2) := by decide +kernel
theorem dL_hall_651 : decode cL_hall 651 = .ok (.iconst 5, 1) := by decide +kernel
theorem dL_hall_652 : decode cL_hall 652 = .ok (.invokevirtual 15, 3) := by decide +kernel
theorem dL_hall_655 : decode cL_hall 655 = .ok (.if_icmp .ne 26, 3) := by decide +kernel
theorem dL_hall_658 : decode cL_hall 658 = .ok (.aload_n 0, 1) := by decide +kernel
theorem dL_hall_659 : decode cL_hall 659 = .ok (.iload 7, 2) := by decide +kernel
theorem dL_hall_661 : decode cL_hall 661 = .ok (.iconst 1, 1) := by decide +kernel
theorem dL_hall_662 : decode cL_hall 662 = .ok (.isub, 1) := by decide +kernel
theorem dL_hall_663 : decode cL_hall 663 = .ok (.iconst 0, 1) := by decide +kernel
theorem dL_hall_664 : decode cL_hall 664 = .ok (.invokevirtual 15, 3) := by decide +kernel
theorem dL_hall_667 : decode cL_hall 667 = .ok (.aload_n 0, 1) := by decide +kernel
theorem dL_hall_668 : decode cL_hall 668 = .ok (.iload 7, 2) := by decide +kernel
theorem dL_hall_670 : decode cL_hall 670 = .ok (.iconst 0, 1) := by decide +kernel
theorem dL_hall_671 : decode cL_hall 671 = .ok (.invokevirtual 15, 3) := by decide +kernel
theorem dL_hall_674 : decode cL_hall 674 = .ok (.if_icmp .ge 7, 3) := by decide +kernel
theorem dL_hall_677 : decode cL_hall 677 = .ok (.iconst 1, 1) := by decide +kernel
theorem dL_hall_678 : decode cL_hall 678 = .ok (.goto 4, 3) := by decide +kernel
theorem dL_hall_681 : decode cL_hall 681 = .ok (.iconst 0, 1) := by decide +kernel
theorem dL_hall_682 : decode cL_hall 682 = .ok (.istore 6, 2) := by decide +kernel
theorem dL_hall_684 : decode cL_hall 684 = .ok (.iinc 7 1, 3) := by decide +kernel
theorem dL_hall_687 : decode cL_hall 687 = .ok (.goto (-275), 3) := by decide +kernel
theorem dL_hall_690 : decode cL_hall 690 = .ok (.iload 6, 2) := by decide +kernel
theorem dL_hall_692 : decode cL_hall 692 = .ok (.ifCond .eq 21, 3) := by decide +kernel
theorem dL_hall_695 : decode cL_hall 695 = .ok (.aload_n 0, 1) := by decide +kernel
theorem dL_hall_696 : decode cL_hall 696 = .ok (.aload_n 0, 1) := by decide +kernel
theorem dL_hall_697 : decode cL_hall 697 = .ok (.iconst 1, 1) := by decide +kernel
theorem dL_hall_698 : decode cL_hall 698 = .ok (.invokevirtual 9, 3) := by decide +kernel
theorem dL_hall_701 : decode cL_hall 701 = .ok (.iconst 0, 1) := by decide +kernel
theorem dL_hall_702 : decode cL_hall 702 = .ok (.invokevirtual 15, 3) := by decide +kernel
theorem dL_hall_705 : decode cL_hall 705 = .ok (.iconst (-1), 1) := by decide +kernel
theorem dL_hall_706 : decode cL_hall 706 = .ok (.if_icmp .ne 7, 3) := by decide +kernel
theorem dL_hall_709 : decode cL_hall 709 = .ok (.iconst 1, 1) := by decide +kernel
theorem dL_hall_710 : decode cL_hall 710 = .ok (.goto 4, 3) := by decide +kernel
theorem dL_hall_713 : decode cL_hall 713 = .ok (.iconst 0, 1) := by decide +kernel
theorem dL_hall_714 : decode cL_hall 714 = .ok (.ireturn, 1) := by decide +kernel
theorem dL_act_0 : decode cL_act 0 = .ok (.aload_n 1, 1) := by decide +kernel
theorem dL_act_1 : decode cL_act 1 = .ok (.iload_n 2, 1) := by decide +kernel
theorem dL_act_2 : decode cL_act 2 = .ok (.iconst 1, 1) := by decide +kernel
theorem dL_act_3 : decode cL_act 3 = .ok (.iadd, 1) := by decide +kernel
theorem dL_act_4 : decode cL_act 4 = .ok (.invokestatic 64, 3) := by decide +kernel
theorem dL_act_7 : decode cL_act 7 = .ok (.istore_n 3, 1) := by decide +kernel
theorem dL_act_8 : decode cL_act 8 = .ok (.aload_n 1, 1) := by decide +kernel
theorem dL_act_9 : decode cL_act 9 = .ok (.iload_n 2, 1) := by decide +kernel
theorem dL_act_10 : decode cL_act 10 = .ok (.iconst 2, 1) := by decide +kernel
theorem dL_act_11 : decode cL_act 11 = .ok (.iadd, 1) := by decide +kernel
theorem dL_act_12 : decode cL_act 12 = .ok (.invokestatic 64, 3) := by decide +kernel
theorem dL_act_15 : decode cL_act 15 = .ok (.istore 4, 2) := by decide +kernel
theorem dL_act_17 : decode cL_act 17 = .ok (.aload_n 1, 1) := by decide +kernel
theorem dL_act_18 : decode cL_act 18 = .ok (.iload_n 2, 1) := by decide +kernel
theorem dL_act_19 : decode cL_act 19 = .ok (.iconst 3, 1) := by decide +kernel
theorem dL_act_20 : decode cL_act 20 = .ok (.iadd, 1) := by decide +kernel
theorem dL_act_21 : decode cL_act 21 = .ok (.invokestatic 64, 3) := by decide +kernel
theorem dL_act_24 : decode cL_act 24 = .ok (.istore 5, 2) := by decide +kernel
theorem dL_act_26 : decode cL_act 26 = .ok (.aload_n 1, 1) := by decide +kernel
theorem dL_act_27 : decode cL_act 27 = .ok (.iload_n 2, 1) := by decide +kernel
theorem dL_act_28 : decode cL_act 28 = .ok (.invokestatic 64, 3) := by decide +kernel
theorem dL_act_31 : decode cL_act 31 = .ok (.bipush 18, 2) := by decide +kernel
theorem dL_act_33 : decode cL_act 33 = .ok (.invokestatic 68, 3) := by decide +kernel
theorem dL_act_36 : decode cL_act 36 = .ok (.tableswitch 324 0 14 #[76, 76, 127, 127, 127, 127, 171, 171, 199, 199, 219, 252, 284, 300, 319], 76) := by decide +kernel
theorem dL_act_112 : decode cL_act 112 = .ok (.aload_n 0, 1) := by decide +kernel
theorem dL_act_113 : decode cL_act 113 = .ok (.iload_n 3, 1) := by decide +kernel
theorem dL_act_114 : decode cL_act 114 = .ok (.bipush 6, 2) := by decide +kernel
theorem dL_act_116 : decode cL_act 116 = .ok (.invokestatic 68, 3) := by decide +kernel
theorem dL_act_119 : decode cL_act 119 = .ok (.iload 4, 2) := by decide +kernel
theorem dL_act_121 : decode cL_act 121 = .ok (.iconst 5, 1) := by decide +kernel
theorem dL_act_122 : decode cL_act 122 = .ok (.invokestatic 68, 3) := by decide +kernel
theorem dL_act_125 : decode cL_act 125 = .ok (.ifCond .ne 7, 3) := by decide +kernel
theorem dL_act_128 : decode cL_act 128 = .ok (.iconst 0, 1) := by decide +kernel
theorem dL_act_129 : decode cL_act 129 = .ok (.goto 14, 3) := by decide +kernel
theorem dL_act_132 : decode cL_act 132 = .ok (.bipush 40, 2) := by decide +kernel
theorem dL_act_134 : decode cL_act 134 = .ok (.iload 4, 2) := by decide +kernel
theorem dL_act_136 : decode cL_act 136 = .ok (.sipush 161, 3) := by decide +kernel
theorem dL_act_139 : decode cL_act 139 = .ok (.invokestatic 68, 3) := by decide +kernel
theorem dL_act_142 : decode cL_act 142 = .ok (.iadd, 1) := by decide +kernel
theorem dL_act_143 : decode cL_act 143 = .ok (.iconst 1, 1) := by decide +kernel
theorem dL_act_144 : decode cL_act 144 = .ok (.iload 5, 2) := by decide +kernel
theorem dL_act_146 : decode cL_act 146 = .ok (.bipush 9, 2) := by decide +kernel
theorem dL_act_148 : decode cL_act 148 = .ok (.invokestatic 68, 3) := by decide +kernel
theorem dL_act_151 : decode cL_act 151 = .ok (.iadd, 1) := by decide +kernel
theorem dL_act_152 : decode cL_act 152 = .ok (.iload 5, 2) := by decide +kernel
theorem dL_act_154 : decode cL_act 154 = .ok (.bipush 7, 2) := by decide +kernel
theorem dL_act_156 : decode cL_act 156 = .ok (.invokestatic 68, 3) := by decide +kernel
theorem dL_act_159 : decode cL_act 159 = .ok (.invokevirtual 71, 3) := by decide +kernel
theorem dL_act_162 : decode cL_act 162 = .ok (.ireturn, 1) := by decide +kernel
theorem dL_act_163 : decode cL_act 163 = .ok (.aload_n 0, 1) := by decide +kernel
theorem dL_act_164 : decode cL_act 164 = .ok (.iload_n 3, 1) := by decide +kernel
theorem dL_act_165 : decode cL_act 165 = .ok (.iconst 4, 1) := by decide +kernel
theorem dL_act_166 : decode cL_act 166 = .ok (.invokestatic 68, 3) := by decide +kernel
theorem dL_act_169 : decode cL_act 169 = .ok (.bipush 40, 2) := by decide +kernel
theorem dL_act_171 : decode cL_act 171 = .ok (.iload 4, 2) := by decide +kernel
theorem dL_act_173 : decode cL_act 173 = .ok (.bipush 100, 2) := by decide +kernel
theorem dL_act_175 : decode cL_act 175 = .ok (.invokestatic 68, 3) := by decide +kernel
theorem dL_act_178 : decode cL_act 178 = .ok (.iadd, 1) := by decide +kernel
theorem dL_act_179 : decode cL_act 179 = .ok (.iconst 1, 1) := by decide +kernel
theorem dL_act_180 : decode cL_act 180 = .ok (.iload 5, 2) := by decide +kernel
theorem dL_act_182 : decode cL_act 182 = .ok (.bipush 30, 2) := by decide +kernel
theorem dL_act_184 : decode cL_act 184 = .ok (.invokestatic 68, 3) := by decide +kernel
theorem dL_act_187 : decode cL_act 187 = .ok (.iadd, 1) := by decide +kernel
theorem dL_act_188 : decode cL_act 188 = .ok (.iconst 1, 1) := by decide +kernel
theorem dL_act_189 : decode cL_act 189 = .ok (.iload_n 3, 1) := by decide +kernel
theorem dL_act_190 : decode cL_act 190 = .ok (.bipush 99, 2) := by decide +kernel
theorem dL_act_192 : decode cL_act 192 = .ok (.invokestatic 68, 3) := by decide +kernel
theorem dL_act_195 : decode cL_act 195 = .ok (.iadd, 1) := by decide +kernel
theorem dL_act_196 : decode cL_act 196 = .ok (.iload 4, 2) := by decide +kernel
theorem dL_act_198 : decode cL_act 198 = .ok (.bipush 60, 2) := by decide +kernel
theorem dL_act_200 : decode cL_act 200 = .ok (.invokestatic 68, 3) := by decide +kernel
theorem dL_act_203 : decode cL_act 203 = .ok (.invokestatic 74, 3) := by decide +kernel
theorem dL_act_206 : decode cL_act 206 = .ok (.ireturn, 1) := by decide +kernel
theorem dL_act_207 : decode cL_act 207 = .ok (.aload_n 0, 1) := by decide +kernel
theorem dL_act_208 : decode cL_act 208 = .ok (.iload_n 3, 1) := by decide +kernel
theorem dL_act_209 : decode cL_act 209 = .ok (.bipush 6, 2) := by decide +kernel
theorem dL_act_211 : decode cL_act 211 = .ok (.invokestatic 68, 3) := by decide +kernel
theorem dL_act_214 : decode cL_act 214 = .ok (.iload 4, 2) := by decide +kernel
theorem dL_act_216 : decode cL_act 216 = .ok (.iconst 4, 1) := by decide +kernel
theorem dL_act_217 : decode cL_act 217 = .ok (.invokestatic 68, 3) := by decide +kernel
theorem dL_act_220 : decode cL_act 220 = .ok (.iload 5, 2) := by decide +kernel
theorem dL_act_222 : decode cL_act 222 = .ok (.sipush 900, 3) := by decide +kernel
theorem dL_act_225 : decode cL_act 225 = .ok (.invokestatic 68, 3) := by decide +kernel
theorem dL_act_228 : decode cL_act 228 = .ok (.bipush 100, 2) := by decide +kernel
theorem dL_act_230 : decode cL_act 230 = .ok (.isub, 1) := by decide +kernel
theorem dL_act_231 : decode cL_act 231 = .ok (.invokestatic 77, 3) := by decide +kernel
theorem dL_act_234 : decode cL_act 234 = .ok (.ireturn, 1) := by decide +kernel
theorem dL_act_235 : decode cL_act 235 = .ok (.aload_n 0, 1) := by decide +kernel
theorem dL_act_236 : decode cL_act 236 = .ok (.iload_n 3, 1) := by decide +kernel
theorem dL_act_237 : decode cL_act 237 = .ok (.iconst 4, 1) := by decide +kernel
theorem dL_act_238 : decode cL_act 238 = .ok (.invokestatic 68, 3) := by decide +kernel
theorem dL_act_241 : decode cL_act 241 = .ok (.iconst 1, 1) := by decide +kernel
theorem dL_act_242 : decode cL_act 242 = .ok (.iload 4, 2) := by decide +kernel
theorem dL_act_244 : decode cL_act 244 = .ok (.sipush 800, 3) := by decide +kernel
theorem dL_act_247 : decode cL_act 247 = .ok (.invokestatic 68, 3) := by decide +kernel
theorem dL_act_250 : decode cL_act 250 = .ok (.iadd, 1) := by decide +kernel
theorem dL_act_251 : decode cL_act 251 = .ok (.invokevirtual 80, 3) := by decide +kernel
theorem dL_act_254 : decode cL_act 254 = .ok (.ireturn, 1) := by decide +kernel
theorem dL_act_255 : decode cL_act 255 = .ok (.aload_n 0, 1) := by decide +kernel
theorem dL_act_256 : decode cL_act 256 = .ok (.iload_n 3, 1) := by decide +kernel
theorem dL_act_257 : decode cL_act 257 = .ok (.bipush 6, 2) := by decide +kernel
theorem dL_act_259 : decode cL_act 259 = .ok (.invokestatic 68, 3) := by decide +kernel
theorem dL_act_262 : decode cL_act 262 = .ok (.iload 4, 2) := by decide +kernel
theorem dL_act_264 : decode cL_act 264 = .ok (.bipush 6, 2) := by decide +kernel
theorem dL_act_266 : decode cL_act 266 = .ok (.invokestatic 68, 3) := by decide +kernel
theorem dL_act_269 : decode cL_act 269 = .ok (.iload_n 3, 1) := by decide +kernel
theorem dL_act_270 : decode cL_act 270 = .ok (.iconst 4, 1) := by decide +kernel
theorem dL_act_271 : decode cL_act 271 = .ok (.invokestatic 68, 3) := by decide +kernel
theorem dL_act_274 : decode cL_act 274 = .ok (.iconst 1, 1) := by decide +kernel
theorem dL_act_275 : decode cL_act 275 = .ok (.iload 5, 2) := by decide +kernel
theorem dL_act_277 : decode cL_act 277 = .ok (.sipush 200, 3) := by decide +kernel
theorem dL_act_280 : decode cL_act 280 = .ok (.invokestatic 68, 3) := by decide +kernel
theorem dL_act_283 : decode cL_act 283 = .ok (.iadd, 1) := by decide +kernel
theorem dL_act_284 : decode cL_act 284 = .ok (.invokestatic 83, 3) := by decide +kernel
theorem dL_act_287 : decode cL_act 287 = .ok (.ireturn, 1) := by decide +kernel
theorem dL_act_288 : decode cL_act 288 = .ok (.aload_n 0, 1) := by decide +kernel
theorem dL_act_289 : decode cL_act 289 = .ok (.iconst 1, 1) := by decide +kernel
theorem dL_act_290 : decode cL_act 290 = .ok (.invokevirtual 9, 3) := by decide +kernel
theorem dL_act_293 : decode cL_act 293 = .ok (.ifCond .ne 8, 3) := by decide +kernel
theorem dL_act_296 : decode cL_act 296 = .ok (.bipush (-3), 2) := by decide +kernel
theorem dL_act_298 : decode cL_act 298 = .ok (.goto 21, 3) := by decide +kernel
theorem dL_act_301 : decode cL_act 301 = .ok (.aload_n 0, 1) := by decide +kernel
theorem dL_act_302 : decode cL_act 302 = .ok (.aload_n 0, 1) := by decide +kernel
theorem dL_act_303 : decode cL_act 303 = .ok (.iload_n 3, 1) := by decide +kernel
theorem dL_act_304 : decode cL_act 304 = .ok (.aload_n 0, 1) := by decide +kernel
theorem dL_act_305 : decode cL_act 305 = .ok (.iconst 1, 1) := by decide +kernel
theorem dL_act_306 : decode cL_act 306 = .ok (.invokevirtual 9, 3) := by decide +kernel
theorem dL_act_309 : decode cL_act 309 = .ok (.invokestatic 68, 3) := by decide +kernel
theorem dL_act_312 : decode cL_act 312 = .ok (.iconst 0, 1) := by decide +kernel
theorem dL_act_313 : decode cL_act 313 = .ok (.invokevirtual 15, 3) := by decide +kernel
theorem dL_act_316 : decode cL_act 316 = .ok (.invokevirtual 86, 3) := by decide +kernel
theorem dL_act_319 : decode cL_act 319 = .ok (.ireturn, 1) := by decide +kernel
theorem dL_act_320 : decode cL_act 320 = .ok (.aload_n 0, 1) := by decide +kernel
theorem dL_act_321 : decode cL_act 321 = .ok (.iload_n 3, 1) := by decide +kernel
theorem dL_act_322 : decode cL_act 322 = .ok (.iconst 2, 1) := by decide +kernel
theorem dL_act_323 : decode cL_act 323 = .ok (.invokestatic 68, 3) := by decide +kernel
theorem dL_act_326 : decode cL_act 326 = .ok (.iload 4, 2) := by decide +kernel
theorem dL_act_328 : decode cL_act 328 = .ok (.iconst 2, 1) := by decide +kernel
theorem dL_act_329 : decode cL_act 329 = .ok (.invokestatic 68, 3) := by decide +kernel
theorem dL_act_332 : decode cL_act 332 = .ok (.invokevirtual 89, 3) := by decide +kernel
theorem dL_act_335 : decode cL_act 335 = .ok (.ireturn, 1) := by decide +kernel
theorem dL_act_336 : decode cL_act 336 = .ok (.aload_n 0, 1) := by decide +kernel
theorem dL_act_337 : decode cL_act 337 = .ok (.iconst 2, 1) := by decide +kernel
theorem dL_act_338 : decode cL_act 338 = .ok (.iload_n 3, 1) := by decide +kernel
theorem dL_act_339 : decode cL_act 339 = .ok (.iconst 2, 1) := by decide +kernel
theorem dL_act_340 : decode cL_act 340 = .ok (.invokestatic 68, 3) := by decide +kernel
theorem dL_act_343 : decode cL_act 343 = .ok (.iadd, 1) := by decide +kernel
theorem dL_act_344 : decode cL_act 344 = .ok (.iload 4, 2) := by decide +kernel
theorem dL_act_346 : decode cL_act 346 = .ok (.bipush 10, 2) := by decide +kernel
theorem dL_act_348 : decode cL_act 348 = .ok (.invokestatic 68, 3) := by decide +kernel
theorem dL_act_351 : decode cL_act 351 = .ok (.invokevirtual 89, 3) := by decide +kernel
theorem dL_act_354 : decode cL_act 354 = .ok (.ireturn, 1) := by decide +kernel
theorem dL_act_355 : decode cL_act 355 = .ok (.aload_n 0, 1) := by decide +kernel
theorem dL_act_356 : decode cL_act 356 = .ok (.invokestatic 92, 3) := by decide +kernel
theorem dL_act_359 : decode cL_act 359 = .ok (.ireturn, 1) := by decide +kernel
theorem dL_act_360 : decode cL_act 360 = .ok (.aload_n 0, 1) := by decide +kernel
theorem dL_act_361 : decode cL_act 361 = .ok (.iconst 1, 1) := by decide +kernel
theorem dL_act_362 : decode cL_act 362 = .ok (.iload 4, 2) := by decide +kernel
theorem dL_act_364 : decode cL_act 364 = .ok (.bipush 9, 2) := by decide +kernel
theorem dL_act_366 : decode cL_act 366 = .ok (.invokestatic 68, 3) := by decide +kernel
theorem dL_act_369 : decode cL_act 369 = .ok (.iadd, 1) := by decide +kernel
theorem dL_act_370 : decode cL_act 370 = .ok (.invokevirtual 95, 3) := by decide +kernel
theorem dL_act_373 : decode cL_act 373 = .ok (.ireturn, 1) := by decide +kernel
theorem dL_law_0 : decode cL_law 0 = .ok (.new 10, 3) := by decide +kernel
theorem dL_law_3 : decode cL_law 3 = .ok (.dup, 1) := by decide +kernel
theorem dL_law_4 : decode cL_law 4 = .ok (.invokespecial 98, 3) := by decide +kernel
theorem dL_law_7 : decode cL_law 7 = .ok (.astore_n 1, 1) := by decide +kernel
theorem dL_law_8 : decode cL_law 8 = .ok (.iconst 1, 1) := by decide +kernel
theorem dL_law_9 : decode cL_law 9 = .ok (.istore_n 2, 1) := by decide +kernel
theorem dL_law_10 : decode cL_law 10 = .ok (.aload_n 0, 1) := by decide +kernel
theorem dL_law_11 : decode cL_law 11 = .ok (.arraylength, 1) := by decide +kernel
theorem dL_law_12 : decode cL_law 12 = .ok (.iconst 4, 1) := by decide +kernel
theorem dL_law_13 : decode cL_law 13 = .ok (.idiv, 1) := by decide +kernel
theorem dL_law_14 : decode cL_law 14 = .ok (.bipush 36, 2) := by decide +kernel
theorem dL_law_16 : decode cL_law 16 = .ok (.if_icmp .le 8, 3) := by decide +kernel
theorem dL_law_19 : decode cL_law 19 = .ok (.bipush 36, 2) := by decide +kernel
theorem dL_law_21 : decode cL_law 21 = .ok (.goto 7, 3) := by decide +kernel
theorem dL_law_24 : decode cL_law 24 = .ok (.aload_n 0, 1) := by decide +kernel
theorem dL_law_25 : decode cL_law 25 = .ok (.arraylength, 1) := by decide +kernel
theorem dL_law_26 : decode cL_law 26 = .ok (.iconst 4, 1) := by decide +kernel
theorem dL_law_27 : decode cL_law 27 = .ok (.idiv, 1) := by decide +kernel
theorem dL_law_28 : decode cL_law 28 = .ok (.istore_n 3, 1) := by decide +kernel
theorem dL_law_29 : decode cL_law 29 = .ok (.iconst 0, 1) := by decide +kernel
theorem dL_law_30 : decode cL_law 30 = .ok (.istore 4, 2) := by decide +kernel
theorem dL_law_32 : decode cL_law 32 = .ok (.iload 4, 2) := by decide +kernel
theorem dL_law_34 : decode cL_law 34 = .ok (.iload_n 3, 1) := by decide +kernel
theorem dL_law_35 : decode cL_law 35 = .ok (.if_icmp .ge 186, 3) := by decide +kernel
theorem dL_law_38 : decode cL_law 38 = .ok (.iload_n 2, 1) := by decide +kernel
theorem dL_law_39 : decode cL_law 39 = .ok (.ifCond .eq 182, 3) := by decide +kernel
theorem dL_law_42 : decode cL_law 42 = .ok (.aload_n 1, 1) := by decide +kernel
theorem dL_law_43 : decode cL_law 43 = .ok (.bipush 11, 2) := by decide +kernel
theorem dL_law_45 : decode cL_law 45 = .ok (.invokevirtual 9, 3) := by decide +kernel
theorem dL_law_48 : decode cL_law 48 = .ok (.istore 5, 2) := by decide +kernel
theorem dL_law_50 : decode cL_law 50 = .ok (.aload_n 1, 1) := by decide +kernel
theorem dL_law_51 : decode cL_law 51 = .ok (.iconst 1, 1) := by decide +kernel
theorem dL_law_52 : decode cL_law 52 = .ok (.invokevirtual 9, 3) := by decide +kernel
theorem dL_law_55 : decode cL_law 55 = .ok (.istore 6, 2) := by decide +kernel
theorem dL_law_57 : decode cL_law 57 = .ok (.aload_n 1, 1) := by decide +kernel
theorem dL_law_58 : decode cL_law 58 = .ok (.iconst 0, 1) := by decide +kernel
theorem dL_law_59 : decode cL_law 59 = .ok (.invokevirtual 9, 3) := by decide +kernel
theorem dL_law_62 : decode cL_law 62 = .ok (.istore 7, 2) := by decide +kernel
theorem dL_law_64 : decode cL_law 64 = .ok (.aload_n 1, 1) := by decide +kernel
theorem dL_law_65 : decode cL_law 65 = .ok (.invokestatic 99, 3) := by decide +kernel
theorem dL_law_68 : decode cL_law 68 = .ok (.aload_n 1, 1) := by decide +kernel
theorem dL_law_69 : decode cL_law 69 = .ok (.bipush 7, 2) := by decide +kernel
theorem dL_law_71 : decode cL_law 71 = .ok (.invokevirtual 9, 3) := by decide +kernel
theorem dL_law_74 : decode cL_law 74 = .ok (.iadd, 1) := by decide +kernel
theorem dL_law_75 : decode cL_law 75 = .ok (.istore 8, 2) := by decide +kernel
theorem dL_law_77 : decode cL_law 77 = .ok (.aload_n 1, 1) := by decide +kernel
theorem dL_law_78 : decode cL_law 78 = .ok (.iconst 2, 1) := by decide +kernel
theorem dL_law_79 : decode cL_law 79 = .ok (.invokevirtual 9, 3) := by decide +kernel
theorem dL_law_82 : decode cL_law 82 = .ok (.istore 9, 2) := by decide +kernel
theorem dL_law_84 : decode cL_law 84 = .ok (.aload_n 0, 1) := by decide +kernel
theorem dL_law_85 : decode cL_law 85 = .ok (.iconst 4, 1) := by decide +kernel
theorem dL_law_86 : decode cL_law 86 = .ok (.iload 4, 2) := by decide +kernel
theorem dL_law_88 : decode cL_law 88 = .ok (.imul, 1) := by decide +kernel
theorem dL_law_89 : decode cL_law 89 = .ok (.invokestatic 64, 3) := by decide +kernel
theorem dL_law_92 : decode cL_law 92 = .ok (.bipush 18, 2) := by decide +kernel
theorem dL_law_94 : decode cL_law 94 = .ok (.invokestatic 68, 3) := by decide +kernel
theorem dL_law_97 : decode cL_law 97 = .ok (.istore 10, 2) := by decide +kernel
theorem dL_law_99 : decode cL_law 99 = .ok (.aload_n 1, 1) := by decide +kernel
theorem dL_law_100 : decode cL_law 100 = .ok (.aload_n 0, 1) := by decide +kernel
theorem dL_law_101 : decode cL_law 101 = .ok (.iconst 4, 1) := by decide +kernel
theorem dL_law_102 : decode cL_law 102 = .ok (.iload 4, 2) := by decide +kernel
theorem dL_law_104 : decode cL_law 104 = .ok (.imul, 1) := by decide +kernel
theorem dL_law_105 : decode cL_law 105 = .ok (.invokestatic 102, 3) := by decide +kernel
theorem dL_law_108 : decode cL_law 108 = .ok (.istore 11, 2) := by decide +kernel
theorem dL_law_110 : decode cL_law 110 = .ok (.iload 11, 2) := by decide +kernel
theorem dL_law_112 : decode cL_law 112 = .ok (.ifCond .ge 34, 3) := by decide +kernel
theorem dL_law_115 : decode cL_law 115 = .ok (.aload_n 1, 1) := by decide +kernel
theorem dL_law_116 : decode cL_law 116 = .ok (.bipush 11, 2) := by decide +kernel
theorem dL_law_118 : decode cL_law 118 = .ok (.invokevirtual 9, 3) := by decide +kernel
theorem dL_law_121 : decode cL_law 121 = .ok (.iload 5, 2) := by decide +kernel
theorem dL_law_123 : decode cL_law 123 = .ok (.if_icmp .ne 90, 3) := by decide +kernel
theorem dL_law_126 : decode cL_law 126 = .ok (.aload_n 1, 1) := by decide +kernel
theorem dL_law_127 : decode cL_law 127 = .ok (.iconst 1, 1) := by decide +kernel
theorem dL_law_128 : decode cL_law 128 = .ok (.invokevirtual 9, 3) := by decide +kernel
theorem dL_law_131 : decode cL_law 131 = .ok (.iload 6, 2) := by decide +kernel
theorem dL_law_133 : decode cL_law 133 = .ok (.if_icmp .ne 80, 3) := by decide +kernel
theorem dL_law_136 : decode cL_law 136 = .ok (.aload_n 1, 1) := by decide +kernel
theorem dL_law_137 : decode cL_law 137 = .ok (.iconst 0, 1) := by decide +kernel
theorem dL_law_138 : decode cL_law 138 = .ok (.invokevirtual 9, 3) := by decide +kernel
theorem dL_law_141 : decode cL_law 141 = .ok (.iload 7, 2) := by decide +kernel
theorem dL_law_143 : decode cL_law 143 = .ok (.if_icmp .ne 70, 3) := by decide +kernel
theorem dL_law_146 : decode cL_law 146 = .ok (.iload 10, 2) := by decide +kernel
theorem dL_law_148 : decode cL_law 148 = .ok (.iconst 5, 1) := by decide +kernel
theorem dL_law_149 : decode cL_law 149 = .ok (.if_icmp .le 10, 3) := by decide +kernel
theorem dL_law_152 : decode cL_law 152 = .ok (.iload 10, 2) := by decide +kernel
theorem dL_law_154 : decode cL_law 154 = .ok (.bipush 10, 2) := by decide +kernel
theorem dL_law_156 : decode cL_law 156 = .ok (.if_icmp .lt 26, 3) := by decide +kernel
theorem dL_law_159 : decode cL_law 159 = .ok (.iload 10, 2) := by decide +kernel
theorem dL_law_161 : decode cL_law 161 = .ok (.bipush 14, 2) := by decide +kernel
theorem dL_law_163 : decode cL_law 163 = .ok (.if_icmp .eq 19, 3) := by decide +kernel
theorem dL_law_166 : decode cL_law 166 = .ok (.aload_n 1, 1) := by decide +kernel
theorem dL_law_167 : decode cL_law 167 = .ok (.invokestatic 99, 3) := by decide +kernel
theorem dL_law_170 : decode cL_law 170 = .ok (.aload_n 1, 1) := by decide +kernel
theorem dL_law_171 : decode cL_law 171 = .ok (.bipush 7, 2) := by decide +kernel
theorem dL_law_173 : decode cL_law 173 = .ok (.invokevirtual 9, 3) := by decide +kernel
theorem dL_law_176 : decode cL_law 176 = .ok (.iadd, 1) := by decide +kernel
theorem dL_law_177 : decode cL_law 177 = .ok (.iload 8, 2) := by decide +kernel
theorem dL_law_179 : decode cL_law 179 = .ok (.if_icmp .ne 34, 3) := by decide +kernel
theorem dL_law_182 : decode cL_law 182 = .ok (.iload 10, 2) := by decide +kernel
theorem dL_law_184 : decode cL_law 184 = .ok (.bipush 15, 2) := by decide +kernel
theorem dL_law_186 : decode cL_law 186 = .ok (.if_icmp .lt 16, 3) := by decide +kernel
theorem dL_law_189 : decode cL_law 189 = .ok (.aload_n 1, 1) := by decide +kernel
theorem dL_law_190 : decode cL_law 190 = .ok (.iconst 2, 1) := by decide +kernel
theorem dL_law_191 : decode cL_law 191 = .ok (.invokevirtual 9, 3) := by decide +kernel
theorem dL_law_194 : decode cL_law 194 = .ok (.iload 9, 2) := by decide +kernel
theorem dL_law_196 : decode cL_law 196 = .ok (.iload 11, 2) := by decide +kernel
theorem dL_law_198 : decode cL_law 198 = .ok (.iadd, 1) := by decide +kernel
theorem dL_law_199 : decode cL_law 199 = .ok (.if_icmp .ne 14, 3) := by decide +kernel
theorem dL_law_202 : decode cL_law 202 = .ok (.aload_n 1, 1) := by decide +kernel
theorem dL_law_203 : decode cL_law 203 = .ok (.invokestatic 106, 3) := by decide +kernel
theorem dL_law_206 : decode cL_law 206 = .ok (.ifCond .eq 7, 3) := by decide +kernel
theorem dL_law_209 : decode cL_law 209 = .ok (.iconst 1, 1) := by decide +kernel
theorem dL_law_210 : decode cL_law 210 = .ok (.goto 4, 3) := by decide +kernel
theorem dL_law_213 : decode cL_law 213 = .ok (.iconst 0, 1) := by decide +kernel
theorem dL_law_214 : decode cL_law 214 = .ok (.istore_n 2, 1) := by decide +kernel
theorem dL_law_215 : decode cL_law 215 = .ok (.iinc 4 1, 3) := by decide +kernel
theorem dL_law_218 : decode cL_law 218 = .ok (.goto (-186), 3) := by decide +kernel
theorem dL_law_221 : decode cL_law 221 = .ok (.iload_n 2, 1) := by decide +kernel
theorem dL_law_222 : decode cL_law 222 = .ok (.ireturn, 1) := by decide +kernel
