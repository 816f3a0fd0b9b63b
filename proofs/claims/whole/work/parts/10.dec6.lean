theorem d_X12_best_22 : decode (px_cc M_X12_best) 22 = .ok (.iinc 2 1, 3) := by decide +kernel
theorem d_X12_best_25 : decode (px_cc M_X12_best) 25 = .ok (.goto (-16), 3) := by decide +kernel
theorem d_X12_best_28 : decode (px_cc M_X12_best) 28 = .ok (.iconst (-1), 1) := by decide +kernel
theorem d_X12_best_29 : decode (px_cc M_X12_best) 29 = .ok (.istore_n 2, 1) := by decide +kernel
theorem d_X12_best_30 : decode (px_cc M_X12_best) 30 = .ok (.iload_n 1, 1) := by decide +kernel
theorem d_X12_best_31 : decode (px_cc M_X12_best) 31 = .ok (.iconst 1, 1) := by decide +kernel
theorem d_X12_best_32 : decode (px_cc M_X12_best) 32 = .ok (.isub, 1) := by decide +kernel
theorem d_X12_best_33 : decode (px_cc M_X12_best) 33 = .ok (.istore_n 3, 1) := by decide +kernel
theorem d_X12_best_34 : decode (px_cc M_X12_best) 34 = .ok (.iload_n 3, 1) := by decide +kernel
theorem d_X12_best_35 : decode (px_cc M_X12_best) 35 = .ok (.ifCond .lt 105, 3) := by decide +kernel
theorem d_X12_best_38 : decode (px_cc M_X12_best) 38 = .ok (.iload_n 3, 1) := by decide +kernel
theorem d_X12_best_39 : decode (px_cc M_X12_best) 39 = .ok (.istore 4, 2) := by decide +kernel
theorem d_X12_best_41 : decode (px_cc M_X12_best) 41 = .ok (.aload_n 0, 1) := by decide +kernel
theorem d_X12_best_42 : decode (px_cc M_X12_best) 42 = .ok (.getfield 309, 3) := by decide +kernel
theorem d_X12_best_45 : decode (px_cc M_X12_best) 45 = .ok (.iconst 1, 1) := by decide +kernel
theorem d_X12_best_46 : decode (px_cc M_X12_best) 46 = .ok (.isub, 1) := by decide +kernel
theorem d_X12_best_47 : decode (px_cc M_X12_best) 47 = .ok (.istore 5, 2) := by decide +kernel
theorem d_X12_best_49 : decode (px_cc M_X12_best) 49 = .ok (.iload 5, 2) := by decide +kernel
theorem d_X12_best_51 : decode (px_cc M_X12_best) 51 = .ok (.ifCond .lt 28, 3) := by decide +kernel
theorem d_X12_best_54 : decode (px_cc M_X12_best) 54 = .ok (.aload_n 0, 1) := by decide +kernel
theorem d_X12_best_55 : decode (px_cc M_X12_best) 55 = .ok (.getfield 144, 3) := by decide +kernel
theorem d_X12_best_58 : decode (px_cc M_X12_best) 58 = .ok (.iload 5, 2) := by decide +kernel
theorem d_X12_best_60 : decode (px_cc M_X12_best) 60 = .ok (.iload 4, 2) := by decide +kernel
theorem d_X12_best_62 : decode (px_cc M_X12_best) 62 = .ok (.bipush 7, 2) := by decide +kernel
theorem d_X12_best_64 : decode (px_cc M_X12_best) 64 = .ok (.irem, 1) := by decide +kernel
theorem d_X12_best_65 : decode (px_cc M_X12_best) 65 = .ok (.iastore, 1) := by decide +kernel
theorem d_X12_best_66 : decode (px_cc M_X12_best) 66 = .ok (.iload 4, 2) := by decide +kernel
theorem d_X12_best_68 : decode (px_cc M_X12_best) 68 = .ok (.bipush 7, 2) := by decide +kernel
theorem d_X12_best_70 : decode (px_cc M_X12_best) 70 = .ok (.idiv, 1) := by decide +kernel
theorem d_X12_best_71 : decode (px_cc M_X12_best) 71 = .ok (.istore 4, 2) := by decide +kernel
theorem d_X12_best_73 : decode (px_cc M_X12_best) 73 = .ok (.iinc 5 (-1), 3) := by decide +kernel
theorem d_X12_best_76 : decode (px_cc M_X12_best) 76 = .ok (.goto (-27), 3) := by decide +kernel
theorem d_X12_best_79 : decode (px_cc M_X12_best) 79 = .ok (.aload_n 0, 1) := by decide +kernel
theorem d_X12_best_80 : decode (px_cc M_X12_best) 80 = .ok (.invokevirtual 315, 3) := by decide +kernel
theorem d_X12_best_83 : decode (px_cc M_X12_best) 83 = .ok (.istore 5, 2) := by decide +kernel
theorem d_X12_best_85 : decode (px_cc M_X12_best) 85 = .ok (.iload 5, 2) := by decide +kernel
theorem d_X12_best_87 : decode (px_cc M_X12_best) 87 = .ok (.iload_n 2, 1) := by decide +kernel
theorem d_X12_best_88 : decode (px_cc M_X12_best) 88 = .ok (.if_icmp .le 46, 3) := by decide +kernel
theorem d_X12_best_91 : decode (px_cc M_X12_best) 91 = .ok (.iload 5, 2) := by decide +kernel
theorem d_X12_best_93 : decode (px_cc M_X12_best) 93 = .ok (.istore_n 2, 1) := by decide +kernel
theorem d_X12_best_94 : decode (px_cc M_X12_best) 94 = .ok (.iconst 0, 1) := by decide +kernel
theorem d_X12_best_95 : decode (px_cc M_X12_best) 95 = .ok (.istore 6, 2) := by decide +kernel
theorem d_X12_best_97 : decode (px_cc M_X12_best) 97 = .ok (.iload 6, 2) := by decide +kernel
theorem d_X12_best_99 : decode (px_cc M_X12_best) 99 = .ok (.aload_n 0, 1) := by decide +kernel
theorem d_X12_best_100 : decode (px_cc M_X12_best) 100 = .ok (.getfield 309, 3) := by decide +kernel
theorem d_X12_best_103 : decode (px_cc M_X12_best) 103 = .ok (.if_icmp .ge 23, 3) := by decide +kernel
theorem d_X12_best_106 : decode (px_cc M_X12_best) 106 = .ok (.aload_n 0, 1) := by decide +kernel
theorem d_X12_best_107 : decode (px_cc M_X12_best) 107 = .ok (.getfield 147, 3) := by decide +kernel
theorem d_X12_best_110 : decode (px_cc M_X12_best) 110 = .ok (.iload 6, 2) := by decide +kernel
theorem d_X12_best_112 : decode (px_cc M_X12_best) 112 = .ok (.aload_n 0, 1) := by decide +kernel
theorem d_X12_best_113 : decode (px_cc M_X12_best) 113 = .ok (.getfield 144, 3) := by decide +kernel
theorem d_X12_best_116 : decode (px_cc M_X12_best) 116 = .ok (.iload 6, 2) := by decide +kernel
theorem d_X12_best_118 : decode (px_cc M_X12_best) 118 = .ok (.iaload, 1) := by decide +kernel
theorem d_X12_best_119 : decode (px_cc M_X12_best) 119 = .ok (.iastore, 1) := by decide +kernel
theorem d_X12_best_120 : decode (px_cc M_X12_best) 120 = .ok (.iinc 6 1, 3) := by decide +kernel
theorem d_X12_best_123 : decode (px_cc M_X12_best) 123 = .ok (.goto (-26), 3) := by decide +kernel
theorem d_X12_best_126 : decode (px_cc M_X12_best) 126 = .ok (.aload_n 0, 1) := by decide +kernel
theorem d_X12_best_127 : decode (px_cc M_X12_best) 127 = .ok (.aload_n 0, 1) := by decide +kernel
theorem d_X12_best_128 : decode (px_cc M_X12_best) 128 = .ok (.getfield 309, 3) := by decide +kernel
theorem d_X12_best_131 : decode (px_cc M_X12_best) 131 = .ok (.putfield 318, 3) := by decide +kernel
theorem d_X12_best_134 : decode (px_cc M_X12_best) 134 = .ok (.iinc 3 (-1), 3) := by decide +kernel
theorem d_X12_best_137 : decode (px_cc M_X12_best) 137 = .ok (.goto (-103), 3) := by decide +kernel
theorem d_X12_best_140 : decode (px_cc M_X12_best) 140 = .ok (.iload_n 2, 1) := by decide +kernel
theorem d_X12_best_141 : decode (px_cc M_X12_best) 141 = .ok (.ireturn, 1) := by decide +kernel
theorem d_X12_sold_0 : decode (px_cc M_X12_sold) 0 = .ok (.aload_n 0, 1) := by decide +kernel
theorem d_X12_sold_1 : decode (px_cc M_X12_sold) 1 = .ok (.iconst 0, 1) := by decide +kernel
theorem d_X12_sold_2 : decode (px_cc M_X12_sold) 2 = .ok (.putfield 150, 3) := by decide +kernel
theorem d_X12_sold_5 : decode (px_cc M_X12_sold) 5 = .ok (.iload_n 1, 1) := by decide +kernel
theorem d_X12_sold_6 : decode (px_cc M_X12_sold) 6 = .ok (.ifCond .lt 11, 3) := by decide +kernel
theorem d_X12_sold_9 : decode (px_cc M_X12_sold) 9 = .ok (.iload_n 1, 1) := by decide +kernel
theorem d_X12_sold_10 : decode (px_cc M_X12_sold) 10 = .ok (.aload_n 0, 1) := by decide +kernel
theorem d_X12_sold_11 : decode (px_cc M_X12_sold) 11 = .ok (.getfield 318, 3) := by decide +kernel
theorem d_X12_sold_14 : decode (px_cc M_X12_sold) 14 = .ok (.if_icmp .lt 7, 3) := by decide +kernel
theorem d_X12_sold_17 : decode (px_cc M_X12_sold) 17 = .ok (.iconst (-1), 1) := by decide +kernel
theorem d_X12_sold_18 : decode (px_cc M_X12_sold) 18 = .ok (.goto 9, 3) := by decide +kernel
theorem d_X12_sold_21 : decode (px_cc M_X12_sold) 21 = .ok (.aload_n 0, 1) := by decide +kernel
theorem d_X12_sold_22 : decode (px_cc M_X12_sold) 22 = .ok (.getfield 147, 3) := by decide +kernel
theorem d_X12_sold_25 : decode (px_cc M_X12_sold) 25 = .ok (.iload_n 1, 1) := by decide +kernel
theorem d_X12_sold_26 : decode (px_cc M_X12_sold) 26 = .ok (.iaload, 1) := by decide +kernel
theorem d_X12_sold_27 : decode (px_cc M_X12_sold) 27 = .ok (.ireturn, 1) := by decide +kernel
theorem d_X12_count_0 : decode (px_cc M_X12_count) 0 = .ok (.aload_n 0, 1) := by decide +kernel
theorem d_X12_count_1 : decode (px_cc M_X12_count) 1 = .ok (.iconst 0, 1) := by decide +kernel
theorem d_X12_count_2 : decode (px_cc M_X12_count) 2 = .ok (.putfield 150, 3) := by decide +kernel
theorem d_X12_count_5 : decode (px_cc M_X12_count) 5 = .ok (.iload_n 1, 1) := by decide +kernel
theorem d_X12_count_6 : decode (px_cc M_X12_count) 6 = .ok (.tableswitch 86 0 7 #[46, 51, 56, 61, 66, 71, 76, 81], 46) := by decide +kernel
theorem d_X12_count_52 : decode (px_cc M_X12_count) 52 = .ok (.aload_n 0, 1) := by decide +kernel
theorem d_X12_count_53 : decode (px_cc M_X12_count) 53 = .ok (.getfield 256, 3) := by decide +kernel
theorem d_X12_count_56 : decode (px_cc M_X12_count) 56 = .ok (.ireturn, 1) := by decide +kernel
theorem d_X12_count_57 : decode (px_cc M_X12_count) 57 = .ok (.aload_n 0, 1) := by decide +kernel
theorem d_X12_count_58 : decode (px_cc M_X12_count) 58 = .ok (.getfield 259, 3) := by decide +kernel
theorem d_X12_count_61 : decode (px_cc M_X12_count) 61 = .ok (.ireturn, 1) := by decide +kernel
theorem d_X12_count_62 : decode (px_cc M_X12_count) 62 = .ok (.aload_n 0, 1) := by decide +kernel
theorem d_X12_count_63 : decode (px_cc M_X12_count) 63 = .ok (.getfield 218, 3) := by decide +kernel
theorem d_X12_count_66 : decode (px_cc M_X12_count) 66 = .ok (.ireturn, 1) := by decide +kernel
theorem d_X12_count_67 : decode (px_cc M_X12_count) 67 = .ok (.aload_n 0, 1) := by decide +kernel
theorem d_X12_count_68 : decode (px_cc M_X12_count) 68 = .ok (.getfield 206, 3) := by decide +kernel
theorem d_X12_count_71 : decode (px_cc M_X12_count) 71 = .ok (.ireturn, 1) := by decide +kernel
theorem d_X12_count_72 : decode (px_cc M_X12_count) 72 = .ok (.aload_n 0, 1) := by decide +kernel
theorem d_X12_count_73 : decode (px_cc M_X12_count) 73 = .ok (.getfield 285, 3) := by decide +kernel
theorem d_X12_count_76 : decode (px_cc M_X12_count) 76 = .ok (.ireturn, 1) := by decide +kernel
theorem d_X12_count_77 : decode (px_cc M_X12_count) 77 = .ok (.aload_n 0, 1) := by decide +kernel
theorem d_X12_count_78 : decode (px_cc M_X12_count) 78 = .ok (.getfield 309, 3) := by decide +kernel
theorem d_X12_count_81 : decode (px_cc M_X12_count) 81 = .ok (.ireturn, 1) := by decide +kernel
theorem d_X12_count_82 : decode (px_cc M_X12_count) 82 = .ok (.aload_n 0, 1) := by decide +kernel
theorem d_X12_count_83 : decode (px_cc M_X12_count) 83 = .ok (.getfield 158, 3) := by decide +kernel
theorem d_X12_count_86 : decode (px_cc M_X12_count) 86 = .ok (.ireturn, 1) := by decide +kernel
theorem d_X12_count_87 : decode (px_cc M_X12_count) 87 = .ok (.aload_n 0, 1) := by decide +kernel
theorem d_X12_count_88 : decode (px_cc M_X12_count) 88 = .ok (.getfield 306, 3) := by decide +kernel
theorem d_X12_count_91 : decode (px_cc M_X12_count) 91 = .ok (.ireturn, 1) := by decide +kernel
theorem d_X12_count_92 : decode (px_cc M_X12_count) 92 = .ok (.iconst (-1), 1) := by decide +kernel
theorem d_X12_count_93 : decode (px_cc M_X12_count) 93 = .ok (.ireturn, 1) := by decide +kernel
theorem d_J6_bitCount_0f7a4_0 : decode (px_cc M_J6_bitCount_0f7a4) 0 = .ok (.iload_n 0, 1) := by decide +kernel
theorem d_J6_bitCount_0f7a4_1 : decode (px_cc M_J6_bitCount_0f7a4) 1 = .ok (.iload_n 0, 1) := by decide +kernel
theorem d_J6_bitCount_0f7a4_2 : decode (px_cc M_J6_bitCount_0f7a4) 2 = .ok (.iconst 1, 1) := by decide +kernel
theorem d_J6_bitCount_0f7a4_3 : decode (px_cc M_J6_bitCount_0f7a4) 3 = .ok (.iushr, 1) := by decide +kernel
theorem d_J6_bitCount_0f7a4_4 : decode (px_cc M_J6_bitCount_0f7a4) 4 = .ok (.ldc_w 265, 3) := by decide +kernel
theorem d_J6_bitCount_0f7a4_7 : decode (px_cc M_J6_bitCount_0f7a4) 7 = .ok (.iand, 1) := by decide +kernel
theorem d_J6_bitCount_0f7a4_8 : decode (px_cc M_J6_bitCount_0f7a4) 8 = .ok (.isub, 1) := by decide +kernel
theorem d_J6_bitCount_0f7a4_9 : decode (px_cc M_J6_bitCount_0f7a4) 9 = .ok (.istore_n 0, 1) := by decide +kernel
theorem d_J6_bitCount_0f7a4_10 : decode (px_cc M_J6_bitCount_0f7a4) 10 = .ok (.iload_n 0, 1) := by decide +kernel
theorem d_J6_bitCount_0f7a4_11 : decode (px_cc M_J6_bitCount_0f7a4) 11 = .ok (.ldc_w 266, 3) := by decide +kernel
theorem d_J6_bitCount_0f7a4_14 : decode (px_cc M_J6_bitCount_0f7a4) 14 = .ok (.iand, 1) := by decide +kernel
theorem d_J6_bitCount_0f7a4_15 : decode (px_cc M_J6_bitCount_0f7a4) 15 = .ok (.iload_n 0, 1) := by decide +kernel
theorem d_J6_bitCount_0f7a4_16 : decode (px_cc M_J6_bitCount_0f7a4) 16 = .ok (.iconst 2, 1) := by decide +kernel
theorem d_J6_bitCount_0f7a4_17 : decode (px_cc M_J6_bitCount_0f7a4) 17 = .ok (.iushr, 1) := by decide +kernel
theorem d_J6_bitCount_0f7a4_18 : decode (px_cc M_J6_bitCount_0f7a4) 18 = .ok (.ldc_w 266, 3) := by decide +kernel
theorem d_J6_bitCount_0f7a4_21 : decode (px_cc M_J6_bitCount_0f7a4) 21 = .ok (.iand, 1) := by decide +kernel
theorem d_J6_bitCount_0f7a4_22 : decode (px_cc M_J6_bitCount_0f7a4) 22 = .ok (.iadd, 1) := by decide +kernel
theorem d_J6_bitCount_0f7a4_23 : decode (px_cc M_J6_bitCount_0f7a4) 23 = .ok (.istore_n 0, 1) := by decide +kernel
theorem d_J6_bitCount_0f7a4_24 : decode (px_cc M_J6_bitCount_0f7a4) 24 = .ok (.iload_n 0, 1) := by decide +kernel
theorem d_J6_bitCount_0f7a4_25 : decode (px_cc M_J6_bitCount_0f7a4) 25 = .ok (.iload_n 0, 1) := by decide +kernel
theorem d_J6_bitCount_0f7a4_26 : decode (px_cc M_J6_bitCount_0f7a4) 26 = .ok (.iconst 4, 1) := by decide +kernel
theorem d_J6_bitCount_0f7a4_27 : decode (px_cc M_J6_bitCount_0f7a4) 27 = .ok (.iushr, 1) := by decide +kernel
theorem d_J6_bitCount_0f7a4_28 : decode (px_cc M_J6_bitCount_0f7a4) 28 = .ok (.iadd, 1) := by decide +kernel
theorem d_J6_bitCount_0f7a4_29 : decode (px_cc M_J6_bitCount_0f7a4) 29 = .ok (.ldc_w 267, 3) := by decide +kernel
theorem d_J6_bitCount_0f7a4_32 : decode (px_cc M_J6_bitCount_0f7a4) 32 = .ok (.iand, 1) := by decide +kernel
theorem d_J6_bitCount_0f7a4_33 : decode (px_cc M_J6_bitCount_0f7a4) 33 = .ok (.istore_n 0, 1) := by decide +kernel
theorem d_J6_bitCount_0f7a4_34 : decode (px_cc M_J6_bitCount_0f7a4) 34 = .ok (.iload_n 0, 1) := by decide +kernel
theorem d_J6_bitCount_0f7a4_35 : decode (px_cc M_J6_bitCount_0f7a4) 35 = .ok (.iload_n 0, 1) := by decide +kernel
theorem d_J6_bitCount_0f7a4_36 : decode (px_cc M_J6_bitCount_0f7a4) 36 = .ok (.bipush 8, 2) := by decide +kernel
theorem d_J6_bitCount_0f7a4_38 : decode (px_cc M_J6_bitCount_0f7a4) 38 = .ok (.iushr, 1) := by decide +kernel
theorem d_J6_bitCount_0f7a4_39 : decode (px_cc M_J6_bitCount_0f7a4) 39 = .ok (.iadd, 1) := by decide +kernel
theorem d_J6_bitCount_0f7a4_40 : decode (px_cc M_J6_bitCount_0f7a4) 40 = .ok (.istore_n 0, 1) := by decide +kernel
theorem d_J6_bitCount_0f7a4_41 : decode (px_cc M_J6_bitCount_0f7a4) 41 = .ok (.iload_n 0, 1) := by decide +kernel
theorem d_J6_bitCount_0f7a4_42 : decode (px_cc M_J6_bitCount_0f7a4) 42 = .ok (.iload_n 0, 1) := by decide +kernel
theorem d_J6_bitCount_0f7a4_43 : decode (px_cc M_J6_bitCount_0f7a4) 43 = .ok (.bipush 16, 2) := by decide +kernel
theorem d_J6_bitCount_0f7a4_45 : decode (px_cc M_J6_bitCount_0f7a4) 45 = .ok (.iushr, 1) := by decide +kernel
theorem d_J6_bitCount_0f7a4_46 : decode (px_cc M_J6_bitCount_0f7a4) 46 = .ok (.iadd, 1) := by decide +kernel
theorem d_J6_bitCount_0f7a4_47 : decode (px_cc M_J6_bitCount_0f7a4) 47 = .ok (.istore_n 0, 1) := by decide +kernel
theorem d_J6_bitCount_0f7a4_48 : decode (px_cc M_J6_bitCount_0f7a4) 48 = .ok (.iload_n 0, 1) := by decide +kernel
theorem d_J6_bitCount_0f7a4_49 : decode (px_cc M_J6_bitCount_0f7a4) 49 = .ok (.bipush 63, 2) := by decide +kernel
theorem d_J6_bitCount_0f7a4_51 : decode (px_cc M_J6_bitCount_0f7a4) 51 = .ok (.iand, 1) := by decide +kernel
theorem d_J6_bitCount_0f7a4_52 : decode (px_cc M_J6_bitCount_0f7a4) 52 = .ok (.ireturn, 1) := by decide +kernel
theorem d_J9_max_7cf53_0 : decode (px_cc M_J9_max_7cf53) 0 = .ok (.iload_n 0, 1) := by decide +kernel
theorem d_J9_max_7cf53_1 : decode (px_cc M_J9_max_7cf53) 1 = .ok (.iload_n 1, 1) := by decide +kernel
theorem d_J9_max_7cf53_2 : decode (px_cc M_J9_max_7cf53) 2 = .ok (.if_icmp .lt 7, 3) := by decide +kernel
theorem d_J9_max_7cf53_5 : decode (px_cc M_J9_max_7cf53) 5 = .ok (.iload_n 0, 1) := by decide +kernel
theorem d_J9_max_7cf53_6 : decode (px_cc M_J9_max_7cf53) 6 = .ok (.goto 4, 3) := by decide +kernel
theorem d_J9_max_7cf53_9 : decode (px_cc M_J9_max_7cf53) 9 = .ok (.iload_n 1, 1) := by decide +kernel
theorem d_J9_max_7cf53_10 : decode (px_cc M_J9_max_7cf53) 10 = .ok (.ireturn, 1) := by decide +kernel
theorem d_J9_max_f86c9_0 : decode (px_cc M_J9_max_f86c9) 0 = .ok (.lload_n 0, 1) := by decide +kernel
theorem d_J9_max_f86c9_1 : decode (px_cc M_J9_max_f86c9) 1 = .ok (.lload_n 2, 1) := by decide +kernel
theorem d_J9_max_f86c9_2 : decode (px_cc M_J9_max_f86c9) 2 = .ok (.lcmp, 1) := by decide +kernel
theorem d_J9_max_f86c9_3 : decode (px_cc M_J9_max_f86c9) 3 = .ok (.ifCond .lt 7, 3) := by decide +kernel
theorem d_J9_max_f86c9_6 : decode (px_cc M_J9_max_f86c9) 6 = .ok (.lload_n 0, 1) := by decide +kernel
theorem d_J9_max_f86c9_7 : decode (px_cc M_J9_max_f86c9) 7 = .ok (.goto 4, 3) := by decide +kernel
theorem d_J9_max_f86c9_10 : decode (px_cc M_J9_max_f86c9) 10 = .ok (.lload_n 2, 1) := by decide +kernel
theorem d_J9_max_f86c9_11 : decode (px_cc M_J9_max_f86c9) 11 = .ok (.lreturn, 1) := by decide +kernel
theorem d_J9_min_7cf53_0 : decode (px_cc M_J9_min_7cf53) 0 = .ok (.iload_n 0, 1) := by decide +kernel
theorem d_J9_min_7cf53_1 : decode (px_cc M_J9_min_7cf53) 1 = .ok (.iload_n 1, 1) := by decide +kernel
theorem d_J9_min_7cf53_2 : decode (px_cc M_J9_min_7cf53) 2 = .ok (.if_icmp .gt 7, 3) := by decide +kernel
theorem d_J9_min_7cf53_5 : decode (px_cc M_J9_min_7cf53) 5 = .ok (.iload_n 0, 1) := by decide +kernel
theorem d_J9_min_7cf53_6 : decode (px_cc M_J9_min_7cf53) 6 = .ok (.goto 4, 3) := by decide +kernel
theorem d_J9_min_7cf53_9 : decode (px_cc M_J9_min_7cf53) 9 = .ok (.iload_n 1, 1) := by decide +kernel
theorem d_J9_min_7cf53_10 : decode (px_cc M_J9_min_7cf53) 10 = .ok (.ireturn, 1) := by decide +kernel
theorem d_J0_length_8abf5_0 : decode (px_cc M_J0_length_8abf5) 0 = .ok (.aload_n 0, 1) := by decide +kernel
theorem d_J0_length_8abf5_1 : decode (px_cc M_J0_length_8abf5) 1 = .ok (.getfield 9, 3) := by decide +kernel
theorem d_J0_length_8abf5_4 : decode (px_cc M_J0_length_8abf5) 4 = .ok (.arraylength, 1) := by decide +kernel
theorem d_J0_length_8abf5_5 : decode (px_cc M_J0_length_8abf5) 5 = .ok (.aload_n 0, 1) := by decide +kernel
theorem d_J0_length_8abf5_6 : decode (px_cc M_J0_length_8abf5) 6 = .ok (.invokevirtual 335, 3) := by decide +kernel
theorem d_J0_length_8abf5_9 : decode (px_cc M_J0_length_8abf5) 9 = .ok (.ishr, 1) := by decide +kernel
theorem d_J0_length_8abf5_10 : decode (px_cc M_J0_length_8abf5) 10 = .ok (.ireturn, 1) := by decide +kernel
theorem d_J0_charAt_5068e_0 : decode (px_cc M_J0_charAt_5068e) 0 = .ok (.aload_n 0, 1) := by decide +kernel
theorem d_J0_charAt_5068e_1 : decode (px_cc M_J0_charAt_5068e) 1 = .ok (.invokevirtual 492, 3) := by decide +kernel
theorem d_J0_charAt_5068e_4 : decode (px_cc M_J0_charAt_5068e) 4 = .ok (.ifCond .eq 12, 3) := by decide +kernel
theorem d_J0_charAt_5068e_7 : decode (px_cc M_J0_charAt_5068e) 7 = .ok (.aload_n 0, 1) := by decide +kernel
theorem d_J0_charAt_5068e_8 : decode (px_cc M_J0_charAt_5068e) 8 = .ok (.getfield 9, 3) := by decide +kernel
theorem d_J0_charAt_5068e_11 : decode (px_cc M_J0_charAt_5068e) 11 = .ok (.iload_n 1, 1) := by decide +kernel
theorem d_J0_charAt_5068e_12 : decode (px_cc M_J0_charAt_5068e) 12 = .ok (.invokestatic 495, 3) := by decide +kernel
theorem d_J0_charAt_5068e_15 : decode (px_cc M_J0_charAt_5068e) 15 = .ok (.ireturn, 1) := by decide +kernel
theorem d_J0_charAt_5068e_16 : decode (px_cc M_J0_charAt_5068e) 16 = .ok (.aload_n 0, 1) := by decide +kernel
theorem d_J0_charAt_5068e_17 : decode (px_cc M_J0_charAt_5068e) 17 = .ok (.getfield 9, 3) := by decide +kernel
theorem d_J0_charAt_5068e_20 : decode (px_cc M_J0_charAt_5068e) 20 = .ok (.iload_n 1, 1) := by decide +kernel
theorem d_J0_charAt_5068e_21 : decode (px_cc M_J0_charAt_5068e) 21 = .ok (.invokestatic 498, 3) := by decide +kernel
theorem d_J0_charAt_5068e_24 : decode (px_cc M_J0_charAt_5068e) 24 = .ok (.ireturn, 1) := by decide +kernel
theorem d_J0_coder_7d493_0 : decode (px_cc M_J0_coder_7d493) 0 = .ok (.getstatic 38, 3) := by decide +kernel
theorem d_J0_coder_7d493_3 : decode (px_cc M_J0_coder_7d493) 3 = .ok (.ifCond .eq 10, 3) := by decide +kernel
theorem d_J0_coder_7d493_6 : decode (px_cc M_J0_coder_7d493) 6 = .ok (.aload_n 0, 1) := by decide +kernel
theorem d_J0_coder_7d493_7 : decode (px_cc M_J0_coder_7d493) 7 = .ok (.getfield 15, 3) := by decide +kernel
theorem d_J0_coder_7d493_10 : decode (px_cc M_J0_coder_7d493) 10 = .ok (.goto 4, 3) := by decide +kernel
theorem d_J0_coder_7d493_13 : decode (px_cc M_J0_coder_7d493) 13 = .ok (.iconst 1, 1) := by decide +kernel
theorem d_J0_coder_7d493_14 : decode (px_cc M_J0_coder_7d493) 14 = .ok (.ireturn, 1) := by decide +kernel
theorem d_J0_isLatin1_aae02_0 : decode (px_cc M_J0_isLatin1_aae02) 0 = .ok (.getstatic 38, 3) := by decide +kernel
theorem d_J0_isLatin1_aae02_3 : decode (px_cc M_J0_isLatin1_aae02) 3 = .ok (.ifCond .eq 14, 3) := by decide +kernel
theorem d_J0_isLatin1_aae02_6 : decode (px_cc M_J0_isLatin1_aae02) 6 = .ok (.aload_n 0, 1) := by decide +kernel
theorem d_J0_isLatin1_aae02_7 : decode (px_cc M_J0_isLatin1_aae02) 7 = .ok (.getfield 15, 3) := by decide +kernel
theorem d_J0_isLatin1_aae02_10 : decode (px_cc M_J0_isLatin1_aae02) 10 = .ok (.ifCond .ne 7, 3) := by decide +kernel
theorem d_J0_isLatin1_aae02_13 : decode (px_cc M_J0_isLatin1_aae02) 13 = .ok (.iconst 1, 1) := by decide +kernel
theorem d_J0_isLatin1_aae02_14 : decode (px_cc M_J0_isLatin1_aae02) 14 = .ok (.goto 4, 3) := by decide +kernel
theorem d_J0_isLatin1_aae02_17 : decode (px_cc M_J0_isLatin1_aae02) 17 = .ok (.iconst 0, 1) := by decide +kernel
theorem d_J0_isLatin1_aae02_18 : decode (px_cc M_J0_isLatin1_aae02) 18 = .ok (.ireturn, 1) := by decide +kernel
theorem d_J1_charAt_3b067_0 : decode (px_cc M_J1_charAt_3b067) 0 = .ok (.iload_n 1, 1) := by decide +kernel
theorem d_J1_charAt_3b067_1 : decode (px_cc M_J1_charAt_3b067) 1 = .ok (.aload_n 0, 1) := by decide +kernel
theorem d_J1_charAt_3b067_2 : decode (px_cc M_J1_charAt_3b067) 2 = .ok (.arraylength, 1) := by decide +kernel
theorem d_J1_charAt_3b067_3 : decode (px_cc M_J1_charAt_3b067) 3 = .ok (.invokestatic 9, 3) := by decide +kernel
theorem d_J1_charAt_3b067_6 : decode (px_cc M_J1_charAt_3b067) 6 = .ok (.aload_n 0, 1) := by decide +kernel
theorem d_J1_charAt_3b067_7 : decode (px_cc M_J1_charAt_3b067) 7 = .ok (.iload_n 1, 1) := by decide +kernel
theorem d_J1_charAt_3b067_8 : decode (px_cc M_J1_charAt_3b067) 8 = .ok (.baload, 1) := by decide +kernel
theorem d_J1_charAt_3b067_9 : decode (px_cc M_J1_charAt_3b067) 9 = .ok (.sipush 255, 3) := by decide +kernel
theorem d_J1_charAt_3b067_12 : decode (px_cc M_J1_charAt_3b067) 12 = .ok (.iand, 1) := by decide +kernel
theorem d_J1_charAt_3b067_13 : decode (px_cc M_J1_charAt_3b067) 13 = .ok (.i2c, 1) := by decide +kernel
theorem d_J1_charAt_3b067_14 : decode (px_cc M_J1_charAt_3b067) 14 = .ok (.ireturn, 1) := by decide +kernel
theorem d_J7_fill_d0a16_0 : decode (px_cc M_J7_fill_d0a16) 0 = .ok (.iconst 0, 1) := by decide +kernel
theorem d_J7_fill_d0a16_1 : decode (px_cc M_J7_fill_d0a16) 1 = .ok (.istore_n 3, 1) := by decide +kernel
theorem d_J7_fill_d0a16_2 : decode (px_cc M_J7_fill_d0a16) 2 = .ok (.aload_n 0, 1) := by decide +kernel
theorem d_J7_fill_d0a16_3 : decode (px_cc M_J7_fill_d0a16) 3 = .ok (.arraylength, 1) := by decide +kernel
theorem d_J7_fill_d0a16_4 : decode (px_cc M_J7_fill_d0a16) 4 = .ok (.istore 4, 2) := by decide +kernel
theorem d_J7_fill_d0a16_6 : decode (px_cc M_J7_fill_d0a16) 6 = .ok (.iload_n 3, 1) := by decide +kernel
theorem d_J7_fill_d0a16_7 : decode (px_cc M_J7_fill_d0a16) 7 = .ok (.iload 4, 2) := by decide +kernel
theorem d_J7_fill_d0a16_9 : decode (px_cc M_J7_fill_d0a16) 9 = .ok (.if_icmp .ge 13, 3) := by decide +kernel
theorem d_J7_fill_d0a16_12 : decode (px_cc M_J7_fill_d0a16) 12 = .ok (.aload_n 0, 1) := by decide +kernel
theorem d_J7_fill_d0a16_13 : decode (px_cc M_J7_fill_d0a16) 13 = .ok (.iload_n 3, 1) := by decide +kernel
theorem d_J7_fill_d0a16_14 : decode (px_cc M_J7_fill_d0a16) 14 = .ok (.lload_n 1, 1) := by decide +kernel
theorem d_J7_fill_d0a16_15 : decode (px_cc M_J7_fill_d0a16) 15 = .ok (.lastore, 1) := by decide +kernel
theorem d_J7_fill_d0a16_16 : decode (px_cc M_J7_fill_d0a16) 16 = .ok (.iinc 3 1, 3) := by decide +kernel
theorem d_J7_fill_d0a16_19 : decode (px_cc M_J7_fill_d0a16) 19 = .ok (.goto (-13), 3) := by decide +kernel
theorem d_J7_fill_d0a16_22 : decode (px_cc M_J7_fill_d0a16) 22 = .ok (.return_, 1) := by decide +kernel
theorem d_J7_fill_53178_0 : decode (px_cc M_J7_fill_53178) 0 = .ok (.iconst 0, 1) := by decide +kernel
theorem d_J7_fill_53178_1 : decode (px_cc M_J7_fill_53178) 1 = .ok (.istore_n 2, 1) := by decide +kernel
theorem d_J7_fill_53178_2 : decode (px_cc M_J7_fill_53178) 2 = .ok (.aload_n 0, 1) := by decide +kernel
theorem d_J7_fill_53178_3 : decode (px_cc M_J7_fill_53178) 3 = .ok (.arraylength, 1) := by decide +kernel
theorem d_J7_fill_53178_4 : decode (px_cc M_J7_fill_53178) 4 = .ok (.istore_n 3, 1) := by decide +kernel
theorem d_J7_fill_53178_5 : decode (px_cc M_J7_fill_53178) 5 = .ok (.iload_n 2, 1) := by decide +kernel
theorem d_J7_fill_53178_6 : decode (px_cc M_J7_fill_53178) 6 = .ok (.iload_n 3, 1) := by decide +kernel
theorem d_J7_fill_53178_7 : decode (px_cc M_J7_fill_53178) 7 = .ok (.if_icmp .ge 13, 3) := by decide +kernel
theorem d_J7_fill_53178_10 : decode (px_cc M_J7_fill_53178) 10 = .ok (.aload_n 0, 1) := by decide +kernel
theorem d_J7_fill_53178_11 : decode (px_cc M_J7_fill_53178) 11 = .ok (.iload_n 2, 1) := by decide +kernel
theorem d_J7_fill_53178_12 : decode (px_cc M_J7_fill_53178) 12 = .ok (.iload_n 1, 1) := by decide +kernel
theorem d_J7_fill_53178_13 : decode (px_cc M_J7_fill_53178) 13 = .ok (.iastore, 1) := by decide +kernel
theorem d_J7_fill_53178_14 : decode (px_cc M_J7_fill_53178) 14 = .ok (.iinc 2 1, 3) := by decide +kernel
theorem d_J7_fill_53178_17 : decode (px_cc M_J7_fill_53178) 17 = .ok (.goto (-12), 3) := by decide +kernel
theorem d_J7_fill_53178_20 : decode (px_cc M_J7_fill_53178) 20 = .ok (.return_, 1) := by decide +kernel
theorem d_J7_copyOf_59c91_0 : decode (px_cc M_J7_copyOf_59c91) 0 = .ok (.iload_n 1, 1) := by decide +kernel
theorem d_J7_copyOf_59c91_1 : decode (px_cc M_J7_copyOf_59c91) 1 = .ok (.aload_n 0, 1) := by decide +kernel
theorem d_J7_copyOf_59c91_2 : decode (px_cc M_J7_copyOf_59c91) 2 = .ok (.arraylength, 1) := by decide +kernel
theorem d_J7_copyOf_59c91_3 : decode (px_cc M_J7_copyOf_59c91) 3 = .ok (.if_icmp .ne 11, 3) := by decide +kernel
theorem d_J7_copyOf_59c91_6 : decode (px_cc M_J7_copyOf_59c91) 6 = .ok (.aload_n 0, 1) := by decide +kernel
theorem d_J7_copyOf_59c91_7 : decode (px_cc M_J7_copyOf_59c91) 7 = .ok (.invokevirtual 316, 3) := by decide +kernel
theorem d_J7_copyOf_59c91_10 : decode (px_cc M_J7_copyOf_59c91) 10 = .ok (.checkcast 317, 3) := by decide +kernel
theorem d_J7_copyOf_59c91_13 : decode (px_cc M_J7_copyOf_59c91) 13 = .ok (.areturn, 1) := by decide +kernel
theorem d_J7_copyOf_59c91_14 : decode (px_cc M_J7_copyOf_59c91) 14 = .ok (.iload_n 1, 1) := by decide +kernel
theorem d_J7_copyOf_59c91_15 : decode (px_cc M_J7_copyOf_59c91) 15 = .ok (.newarray .int, 2) := by decide +kernel
theorem d_J7_copyOf_59c91_17 : decode (px_cc M_J7_copyOf_59c91) 17 = .ok (.astore_n 2, 1) := by decide +kernel
theorem d_J7_copyOf_59c91_18 : decode (px_cc M_J7_copyOf_59c91) 18 = .ok (.aload_n 0, 1) := by decide +kernel
theorem d_J7_copyOf_59c91_19 : decode (px_cc M_J7_copyOf_59c91) 19 = .ok (.iconst 0, 1) := by decide +kernel
theorem d_J7_copyOf_59c91_20 : decode (px_cc M_J7_copyOf_59c91) 20 = .ok (.aload_n 2, 1) := by decide +kernel
theorem d_J7_copyOf_59c91_21 : decode (px_cc M_J7_copyOf_59c91) 21 = .ok (.iconst 0, 1) := by decide +kernel
theorem d_J7_copyOf_59c91_22 : decode (px_cc M_J7_copyOf_59c91) 22 = .ok (.aload_n 0, 1) := by decide +kernel
theorem d_J7_copyOf_59c91_23 : decode (px_cc M_J7_copyOf_59c91) 23 = .ok (.arraylength, 1) := by decide +kernel
theorem d_J7_copyOf_59c91_24 : decode (px_cc M_J7_copyOf_59c91) 24 = .ok (.iload_n 1, 1) := by decide +kernel
theorem d_J7_copyOf_59c91_25 : decode (px_cc M_J7_copyOf_59c91) 25 = .ok (.invokestatic 304, 3) := by decide +kernel
theorem d_J7_copyOf_59c91_28 : decode (px_cc M_J7_copyOf_59c91) 28 = .ok (.invokestatic 150, 3) := by decide +kernel
theorem d_J7_copyOf_59c91_31 : decode (px_cc M_J7_copyOf_59c91) 31 = .ok (.aload_n 2, 1) := by decide +kernel
theorem d_J7_copyOf_59c91_32 : decode (px_cc M_J7_copyOf_59c91) 32 = .ok (.areturn, 1) := by decide +kernel
theorem d_L_balance_0 : decode (px_cc M_L_balance) 0 = .ok (.aload 4, 2) := by decide +kernel
theorem d_L_balance_2 : decode (px_cc M_L_balance) 2 = .ok (.iconst 0, 1) := by decide +kernel
theorem d_L_balance_3 : decode (px_cc M_L_balance) 3 = .ok (.aload_n 0, 1) := by decide +kernel
theorem d_L_balance_4 : decode (px_cc M_L_balance) 4 = .ok (.iload_n 1, 1) := by decide +kernel
theorem d_L_balance_5 : decode (px_cc M_L_balance) 5 = .ok (.iload_n 2, 1) := by decide +kernel
theorem d_L_balance_6 : decode (px_cc M_L_balance) 6 = .ok (.iload_n 3, 1) := by decide +kernel
theorem d_L_balance_7 : decode (px_cc M_L_balance) 7 = .ok (.invokevirtual 7, 3) := by decide +kernel
theorem d_L_balance_10 : decode (px_cc M_L_balance) 10 = .ok (.i2l, 1) := by decide +kernel
theorem d_L_balance_11 : decode (px_cc M_L_balance) 11 = .ok (.lastore, 1) := by decide +kernel
theorem d_L_balance_12 : decode (px_cc M_L_balance) 12 = .ok (.goto 7, 3) := by decide +kernel
theorem d_L_balance_15 : decode (px_cc M_L_balance) 15 = .ok (.astore 5, 2) := by decide +kernel
theorem d_L_balance_17 : decode (px_cc M_L_balance) 17 = .ok (.iconst 1, 1) := by decide +kernel
theorem d_L_balance_18 : decode (px_cc M_L_balance) 18 = .ok (.ireturn, 1) := by decide +kernel
theorem d_L_balance_19 : decode (px_cc M_L_balance) 19 = .ok (.iconst 0, 1) := by decide +kernel
theorem d_L_balance_20 : decode (px_cc M_L_balance) 20 = .ok (.ireturn, 1) := by decide +kernel
theorem d_L_interest_0 : decode (px_cc M_L_interest) 0 = .ok (.aload 4, 2) := by decide +kernel
theorem d_L_interest_2 : decode (px_cc M_L_interest) 2 = .ok (.iconst 0, 1) := by decide +kernel
theorem d_L_interest_3 : decode (px_cc M_L_interest) 3 = .ok (.aload_n 0, 1) := by decide +kernel
theorem d_L_interest_4 : decode (px_cc M_L_interest) 4 = .ok (.iload_n 1, 1) := by decide +kernel
theorem d_L_interest_5 : decode (px_cc M_L_interest) 5 = .ok (.iload_n 2, 1) := by decide +kernel
theorem d_L_interest_6 : decode (px_cc M_L_interest) 6 = .ok (.iload_n 3, 1) := by decide +kernel
theorem d_L_interest_7 : decode (px_cc M_L_interest) 7 = .ok (.invokevirtual 15, 3) := by decide +kernel
theorem d_L_interest_10 : decode (px_cc M_L_interest) 10 = .ok (.i2l, 1) := by decide +kernel
theorem d_L_interest_11 : decode (px_cc M_L_interest) 11 = .ok (.lastore, 1) := by decide +kernel
theorem d_L_interest_12 : decode (px_cc M_L_interest) 12 = .ok (.goto 7, 3) := by decide +kernel
theorem d_L_interest_15 : decode (px_cc M_L_interest) 15 = .ok (.astore 5, 2) := by decide +kernel
theorem d_L_interest_17 : decode (px_cc M_L_interest) 17 = .ok (.iconst 1, 1) := by decide +kernel
theorem d_L_interest_18 : decode (px_cc M_L_interest) 18 = .ok (.ireturn, 1) := by decide +kernel
theorem d_L_interest_19 : decode (px_cc M_L_interest) 19 = .ok (.iconst 0, 1) := by decide +kernel
theorem d_L_interest_20 : decode (px_cc M_L_interest) 20 = .ok (.ireturn, 1) := by decide +kernel
theorem d_L_settle_0 : decode (px_cc M_L_settle) 0 = .ok (.aload_n 2, 1) := by decide +kernel
theorem d_L_settle_1 : decode (px_cc M_L_settle) 1 = .ok (.iconst 0, 1) := by decide +kernel
theorem d_L_settle_2 : decode (px_cc M_L_settle) 2 = .ok (.aload_n 0, 1) := by decide +kernel
theorem d_L_settle_3 : decode (px_cc M_L_settle) 3 = .ok (.iload_n 1, 1) := by decide +kernel
theorem d_L_settle_4 : decode (px_cc M_L_settle) 4 = .ok (.invokevirtual 18, 3) := by decide +kernel
theorem d_L_settle_7 : decode (px_cc M_L_settle) 7 = .ok (.i2l, 1) := by decide +kernel
theorem d_L_settle_8 : decode (px_cc M_L_settle) 8 = .ok (.lastore, 1) := by decide +kernel
theorem d_L_settle_9 : decode (px_cc M_L_settle) 9 = .ok (.goto 6, 3) := by decide +kernel
theorem d_L_settle_12 : decode (px_cc M_L_settle) 12 = .ok (.astore_n 3, 1) := by decide +kernel
theorem d_L_settle_13 : decode (px_cc M_L_settle) 13 = .ok (.iconst 1, 1) := by decide +kernel
theorem d_L_settle_14 : decode (px_cc M_L_settle) 14 = .ok (.ireturn, 1) := by decide +kernel
theorem d_L_settle_15 : decode (px_cc M_L_settle) 15 = .ok (.iconst 0, 1) := by decide +kernel
theorem d_L_settle_16 : decode (px_cc M_L_settle) 16 = .ok (.ireturn, 1) := by decide +kernel
theorem d_L_night_0 : decode (px_cc M_L_night) 0 = .ok (.aload_n 3, 1) := by decide +kernel
theorem d_L_night_1 : decode (px_cc M_L_night) 1 = .ok (.iconst 0, 1) := by decide +kernel
theorem d_L_night_2 : decode (px_cc M_L_night) 2 = .ok (.aload_n 0, 1) := by decide +kernel
theorem d_L_night_3 : decode (px_cc M_L_night) 3 = .ok (.iload_n 1, 1) := by decide +kernel
theorem d_L_night_4 : decode (px_cc M_L_night) 4 = .ok (.iload_n 2, 1) := by decide +kernel
theorem d_L_night_5 : decode (px_cc M_L_night) 5 = .ok (.invokevirtual 22, 3) := by decide +kernel
theorem d_L_night_8 : decode (px_cc M_L_night) 8 = .ok (.i2l, 1) := by decide +kernel
theorem d_L_night_9 : decode (px_cc M_L_night) 9 = .ok (.lastore, 1) := by decide +kernel
theorem d_L_night_10 : decode (px_cc M_L_night) 10 = .ok (.goto 7, 3) := by decide +kernel
theorem d_L_night_13 : decode (px_cc M_L_night) 13 = .ok (.astore 4, 2) := by decide +kernel
theorem d_L_night_15 : decode (px_cc M_L_night) 15 = .ok (.iconst 1, 1) := by decide +kernel
theorem d_L_night_16 : decode (px_cc M_L_night) 16 = .ok (.ireturn, 1) := by decide +kernel
theorem d_L_night_17 : decode (px_cc M_L_night) 17 = .ok (.iconst 0, 1) := by decide +kernel
theorem d_L_night_18 : decode (px_cc M_L_night) 18 = .ok (.ireturn, 1) := by decide +kernel
theorem d_L_coin_0 : decode (px_cc M_L_coin) 0 = .ok (.aload_n 2, 1) := by decide +kernel
theorem d_L_coin_1 : decode (px_cc M_L_coin) 1 = .ok (.iconst 0, 1) := by decide +kernel
theorem d_L_coin_2 : decode (px_cc M_L_coin) 2 = .ok (.aload_n 0, 1) := by decide +kernel
theorem d_L_coin_3 : decode (px_cc M_L_coin) 3 = .ok (.iload_n 1, 1) := by decide +kernel
theorem d_L_coin_4 : decode (px_cc M_L_coin) 4 = .ok (.invokevirtual 26, 3) := by decide +kernel
theorem d_L_coin_7 : decode (px_cc M_L_coin) 7 = .ok (.i2l, 1) := by decide +kernel
theorem d_L_coin_8 : decode (px_cc M_L_coin) 8 = .ok (.lastore, 1) := by decide +kernel
theorem d_L_coin_9 : decode (px_cc M_L_coin) 9 = .ok (.goto 6, 3) := by decide +kernel
theorem d_L_coin_12 : decode (px_cc M_L_coin) 12 = .ok (.astore_n 3, 1) := by decide +kernel
theorem d_L_coin_13 : decode (px_cc M_L_coin) 13 = .ok (.iconst 1, 1) := by decide +kernel
theorem d_L_coin_14 : decode (px_cc M_L_coin) 14 = .ok (.ireturn, 1) := by decide +kernel
theorem d_L_coin_15 : decode (px_cc M_L_coin) 15 = .ok (.iconst 0, 1) := by decide +kernel
theorem d_L_coin_16 : decode (px_cc M_L_coin) 16 = .ok (.ireturn, 1) := by decide +kernel
theorem d_L_law_0 : decode (px_cc M_L_law) 0 = .ok (.new 8, 3) := by decide +kernel
theorem d_L_law_3 : decode (px_cc M_L_law) 3 = .ok (.dup, 1) := by decide +kernel
theorem d_L_law_4 : decode (px_cc M_L_law) 4 = .ok (.invokespecial 29, 3) := by decide +kernel
theorem d_L_law_7 : decode (px_cc M_L_law) 7 = .ok (.astore_n 1, 1) := by decide +kernel
theorem d_L_law_8 : decode (px_cc M_L_law) 8 = .ok (.new 30, 3) := by decide +kernel
theorem d_L_law_11 : decode (px_cc M_L_law) 11 = .ok (.dup, 1) := by decide +kernel
theorem d_L_law_12 : decode (px_cc M_L_law) 12 = .ok (.invokespecial 32, 3) := by decide +kernel
theorem d_L_law_15 : decode (px_cc M_L_law) 15 = .ok (.astore_n 2, 1) := by decide +kernel
theorem d_L_law_16 : decode (px_cc M_L_law) 16 = .ok (.iconst 1, 1) := by decide +kernel
theorem d_L_law_17 : decode (px_cc M_L_law) 17 = .ok (.newarray .long, 2) := by decide +kernel
theorem d_L_law_19 : decode (px_cc M_L_law) 19 = .ok (.astore_n 3, 1) := by decide +kernel
theorem d_L_law_20 : decode (px_cc M_L_law) 20 = .ok (.iconst 0, 1) := by decide +kernel
theorem d_L_law_21 : decode (px_cc M_L_law) 21 = .ok (.istore 4, 2) := by decide +kernel
theorem d_L_law_23 : decode (px_cc M_L_law) 23 = .ok (.iload 4, 2) := by decide +kernel
theorem d_L_law_25 : decode (px_cc M_L_law) 25 = .ok (.aload_n 0, 1) := by decide +kernel
theorem d_L_law_26 : decode (px_cc M_L_law) 26 = .ok (.arraylength, 1) := by decide +kernel
theorem d_L_law_27 : decode (px_cc M_L_law) 27 = .ok (.bipush 7, 2) := by decide +kernel
theorem d_L_law_29 : decode (px_cc M_L_law) 29 = .ok (.isub, 1) := by decide +kernel
theorem d_L_law_30 : decode (px_cc M_L_law) 30 = .ok (.if_icmp .gt 1117, 3) := by decide +kernel
theorem d_L_law_33 : decode (px_cc M_L_law) 33 = .ok (.aload_n 0, 1) := by decide +kernel
theorem d_L_law_34 : decode (px_cc M_L_law) 34 = .ok (.iload 4, 2) := by decide +kernel
theorem d_L_law_36 : decode (px_cc M_L_law) 36 = .ok (.iaload, 1) := by decide +kernel
theorem d_L_law_37 : decode (px_cc M_L_law) 37 = .ok (.bipush 31, 2) := by decide +kernel
theorem d_L_law_39 : decode (px_cc M_L_law) 39 = .ok (.iand, 1) := by decide +kernel
theorem d_L_law_40 : decode (px_cc M_L_law) 40 = .ok (.tableswitch 1101 0 19 #[96, 133, 158, 219, 366, 391, 471, 551, 600, 661, 698, 747, 784, 840, 908, 964, 1001, 1038, 1051, 1076], 96) := by decide +kernel
theorem d_L_law_136 : decode (px_cc M_L_law) 136 = .ok (.aload_n 1, 1) := by decide +kernel
theorem d_L_law_137 : decode (px_cc M_L_law) 137 = .ok (.aload_n 0, 1) := by decide +kernel
theorem d_L_law_138 : decode (px_cc M_L_law) 138 = .ok (.iload 4, 2) := by decide +kernel
theorem d_L_law_140 : decode (px_cc M_L_law) 140 = .ok (.iconst 1, 1) := by decide +kernel
theorem d_L_law_141 : decode (px_cc M_L_law) 141 = .ok (.iadd, 1) := by decide +kernel
theorem d_L_law_142 : decode (px_cc M_L_law) 142 = .ok (.iaload, 1) := by decide +kernel
theorem d_L_law_143 : decode (px_cc M_L_law) 143 = .ok (.aload_n 0, 1) := by decide +kernel
theorem d_L_law_144 : decode (px_cc M_L_law) 144 = .ok (.iload 4, 2) := by decide +kernel
theorem d_L_law_146 : decode (px_cc M_L_law) 146 = .ok (.iconst 2, 1) := by decide +kernel
theorem d_L_law_147 : decode (px_cc M_L_law) 147 = .ok (.iadd, 1) := by decide +kernel
theorem d_L_law_148 : decode (px_cc M_L_law) 148 = .ok (.iaload, 1) := by decide +kernel
theorem d_L_law_149 : decode (px_cc M_L_law) 149 = .ok (.invokevirtual 33, 3) := by decide +kernel
theorem d_L_law_152 : decode (px_cc M_L_law) 152 = .ok (.aload_n 2, 1) := by decide +kernel
theorem d_L_law_153 : decode (px_cc M_L_law) 153 = .ok (.aload_n 0, 1) := by decide +kernel
theorem d_L_law_154 : decode (px_cc M_L_law) 154 = .ok (.iload 4, 2) := by decide +kernel
theorem d_L_law_156 : decode (px_cc M_L_law) 156 = .ok (.iconst 1, 1) := by decide +kernel
theorem d_L_law_157 : decode (px_cc M_L_law) 157 = .ok (.iadd, 1) := by decide +kernel
theorem d_L_law_158 : decode (px_cc M_L_law) 158 = .ok (.iaload, 1) := by decide +kernel
theorem d_L_law_159 : decode (px_cc M_L_law) 159 = .ok (.aload_n 0, 1) := by decide +kernel
theorem d_L_law_160 : decode (px_cc M_L_law) 160 = .ok (.iload 4, 2) := by decide +kernel
theorem d_L_law_162 : decode (px_cc M_L_law) 162 = .ok (.iconst 2, 1) := by decide +kernel
theorem d_L_law_163 : decode (px_cc M_L_law) 163 = .ok (.iadd, 1) := by decide +kernel
theorem d_L_law_164 : decode (px_cc M_L_law) 164 = .ok (.iaload, 1) := by decide +kernel
theorem d_L_law_165 : decode (px_cc M_L_law) 165 = .ok (.invokevirtual 36, 3) := by decide +kernel
theorem d_L_law_168 : decode (px_cc M_L_law) 168 = .ok (.if_icmp .eq 973, 3) := by decide +kernel
theorem d_L_law_171 : decode (px_cc M_L_law) 171 = .ok (.iconst 0, 1) := by decide +kernel
theorem d_L_law_172 : decode (px_cc M_L_law) 172 = .ok (.ireturn, 1) := by decide +kernel
theorem d_L_law_173 : decode (px_cc M_L_law) 173 = .ok (.aload_n 1, 1) := by decide +kernel
theorem d_L_law_174 : decode (px_cc M_L_law) 174 = .ok (.aload_n 0, 1) := by decide +kernel
theorem d_L_law_175 : decode (px_cc M_L_law) 175 = .ok (.iload 4, 2) := by decide +kernel
theorem d_L_law_177 : decode (px_cc M_L_law) 177 = .ok (.iconst 1, 1) := by decide +kernel
theorem d_L_law_178 : decode (px_cc M_L_law) 178 = .ok (.iadd, 1) := by decide +kernel
theorem d_L_law_179 : decode (px_cc M_L_law) 179 = .ok (.iaload, 1) := by decide +kernel
theorem d_L_law_180 : decode (px_cc M_L_law) 180 = .ok (.invokevirtual 37, 3) := by decide +kernel
theorem d_L_law_183 : decode (px_cc M_L_law) 183 = .ok (.aload_n 2, 1) := by decide +kernel
theorem d_L_law_184 : decode (px_cc M_L_law) 184 = .ok (.aload_n 0, 1) := by decide +kernel
theorem d_L_law_185 : decode (px_cc M_L_law) 185 = .ok (.iload 4, 2) := by decide +kernel
theorem d_L_law_187 : decode (px_cc M_L_law) 187 = .ok (.iconst 1, 1) := by decide +kernel
theorem d_L_law_188 : decode (px_cc M_L_law) 188 = .ok (.iadd, 1) := by decide +kernel
theorem d_L_law_189 : decode (px_cc M_L_law) 189 = .ok (.iaload, 1) := by decide +kernel
theorem d_L_law_190 : decode (px_cc M_L_law) 190 = .ok (.invokevirtual 40, 3) := by decide +kernel
theorem d_L_law_193 : decode (px_cc M_L_law) 193 = .ok (.if_icmp .eq 948, 3) := by decide +kernel
theorem d_L_law_196 : decode (px_cc M_L_law) 196 = .ok (.iconst 0, 1) := by decide +kernel
theorem d_L_law_197 : decode (px_cc M_L_law) 197 = .ok (.ireturn, 1) := by decide +kernel
theorem d_L_law_198 : decode (px_cc M_L_law) 198 = .ok (.aload_n 1, 1) := by decide +kernel
theorem d_L_law_199 : decode (px_cc M_L_law) 199 = .ok (.aload_n 0, 1) := by decide +kernel
theorem d_L_law_200 : decode (px_cc M_L_law) 200 = .ok (.iload 4, 2) := by decide +kernel
theorem d_L_law_202 : decode (px_cc M_L_law) 202 = .ok (.iconst 1, 1) := by decide +kernel
theorem d_L_law_203 : decode (px_cc M_L_law) 203 = .ok (.iadd, 1) := by decide +kernel
theorem d_L_law_204 : decode (px_cc M_L_law) 204 = .ok (.iaload, 1) := by decide +kernel
theorem d_L_law_205 : decode (px_cc M_L_law) 205 = .ok (.aload_n 0, 1) := by decide +kernel
theorem d_L_law_206 : decode (px_cc M_L_law) 206 = .ok (.iload 4, 2) := by decide +kernel
theorem d_L_law_208 : decode (px_cc M_L_law) 208 = .ok (.iconst 2, 1) := by decide +kernel
theorem d_L_law_209 : decode (px_cc M_L_law) 209 = .ok (.iadd, 1) := by decide +kernel
theorem d_L_law_210 : decode (px_cc M_L_law) 210 = .ok (.iaload, 1) := by decide +kernel
theorem d_L_law_211 : decode (px_cc M_L_law) 211 = .ok (.aload_n 0, 1) := by decide +kernel
theorem d_L_law_212 : decode (px_cc M_L_law) 212 = .ok (.iload 4, 2) := by decide +kernel
theorem d_L_law_214 : decode (px_cc M_L_law) 214 = .ok (.iconst 3, 1) := by decide +kernel
theorem d_L_law_215 : decode (px_cc M_L_law) 215 = .ok (.iadd, 1) := by decide +kernel
theorem d_L_law_216 : decode (px_cc M_L_law) 216 = .ok (.iaload, 1) := by decide +kernel
theorem d_L_law_217 : decode (px_cc M_L_law) 217 = .ok (.aload_n 0, 1) := by decide +kernel
theorem d_L_law_218 : decode (px_cc M_L_law) 218 = .ok (.iload 4, 2) := by decide +kernel
theorem d_L_law_220 : decode (px_cc M_L_law) 220 = .ok (.iconst 4, 1) := by decide +kernel
theorem d_L_law_221 : decode (px_cc M_L_law) 221 = .ok (.iadd, 1) := by decide +kernel
theorem d_L_law_222 : decode (px_cc M_L_law) 222 = .ok (.iaload, 1) := by decide +kernel
theorem d_L_law_223 : decode (px_cc M_L_law) 223 = .ok (.invokevirtual 41, 3) := by decide +kernel
theorem d_L_law_226 : decode (px_cc M_L_law) 226 = .ok (.aload_n 2, 1) := by decide +kernel
theorem d_L_law_227 : decode (px_cc M_L_law) 227 = .ok (.aload_n 0, 1) := by decide +kernel
theorem d_L_law_228 : decode (px_cc M_L_law) 228 = .ok (.iload 4, 2) := by decide +kernel
theorem d_L_law_230 : decode (px_cc M_L_law) 230 = .ok (.iconst 1, 1) := by decide +kernel
theorem d_L_law_231 : decode (px_cc M_L_law) 231 = .ok (.iadd, 1) := by decide +kernel
theorem d_L_law_232 : decode (px_cc M_L_law) 232 = .ok (.iaload, 1) := by decide +kernel
theorem d_L_law_233 : decode (px_cc M_L_law) 233 = .ok (.aload_n 0, 1) := by decide +kernel
theorem d_L_law_234 : decode (px_cc M_L_law) 234 = .ok (.iload 4, 2) := by decide +kernel
theorem d_L_law_236 : decode (px_cc M_L_law) 236 = .ok (.iconst 2, 1) := by decide +kernel
theorem d_L_law_237 : decode (px_cc M_L_law) 237 = .ok (.iadd, 1) := by decide +kernel
theorem d_L_law_238 : decode (px_cc M_L_law) 238 = .ok (.iaload, 1) := by decide +kernel
theorem d_L_law_239 : decode (px_cc M_L_law) 239 = .ok (.aload_n 0, 1) := by decide +kernel
theorem d_L_law_240 : decode (px_cc M_L_law) 240 = .ok (.iload 4, 2) := by decide +kernel
theorem d_L_law_242 : decode (px_cc M_L_law) 242 = .ok (.iconst 3, 1) := by decide +kernel
theorem d_L_law_243 : decode (px_cc M_L_law) 243 = .ok (.iadd, 1) := by decide +kernel
theorem d_L_law_244 : decode (px_cc M_L_law) 244 = .ok (.iaload, 1) := by decide +kernel
theorem d_L_law_245 : decode (px_cc M_L_law) 245 = .ok (.aload_n 0, 1) := by decide +kernel
theorem d_L_law_246 : decode (px_cc M_L_law) 246 = .ok (.iload 4, 2) := by decide +kernel
theorem d_L_law_248 : decode (px_cc M_L_law) 248 = .ok (.iconst 4, 1) := by decide +kernel
theorem d_L_law_249 : decode (px_cc M_L_law) 249 = .ok (.iadd, 1) := by decide +kernel
theorem d_L_law_250 : decode (px_cc M_L_law) 250 = .ok (.iaload, 1) := by decide +kernel
theorem d_L_law_251 : decode (px_cc M_L_law) 251 = .ok (.invokevirtual 45, 3) := by decide +kernel
theorem d_L_law_254 : decode (px_cc M_L_law) 254 = .ok (.if_icmp .eq 887, 3) := by decide +kernel
theorem d_L_law_257 : decode (px_cc M_L_law) 257 = .ok (.iconst 0, 1) := by decide +kernel
theorem d_L_law_258 : decode (px_cc M_L_law) 258 = .ok (.ireturn, 1) := by decide +kernel
theorem d_L_law_259 : decode (px_cc M_L_law) 259 = .ok (.aload_n 1, 1) := by decide +kernel
theorem d_L_law_260 : decode (px_cc M_L_law) 260 = .ok (.aload_n 0, 1) := by decide +kernel
theorem d_L_law_261 : decode (px_cc M_L_law) 261 = .ok (.iload 4, 2) := by decide +kernel
theorem d_L_law_263 : decode (px_cc M_L_law) 263 = .ok (.iconst 1, 1) := by decide +kernel
theorem d_L_law_264 : decode (px_cc M_L_law) 264 = .ok (.iadd, 1) := by decide +kernel
theorem d_L_law_265 : decode (px_cc M_L_law) 265 = .ok (.iaload, 1) := by decide +kernel
theorem d_L_law_266 : decode (px_cc M_L_law) 266 = .ok (.i2l, 1) := by decide +kernel
theorem d_L_law_267 : decode (px_cc M_L_law) 267 = .ok (.bipush 32, 2) := by decide +kernel
theorem d_L_law_269 : decode (px_cc M_L_law) 269 = .ok (.lshl, 1) := by decide +kernel
theorem d_L_law_270 : decode (px_cc M_L_law) 270 = .ok (.aload_n 0, 1) := by decide +kernel
theorem d_L_law_271 : decode (px_cc M_L_law) 271 = .ok (.iload 4, 2) := by decide +kernel
theorem d_L_law_273 : decode (px_cc M_L_law) 273 = .ok (.iconst 2, 1) := by decide +kernel
theorem d_L_law_274 : decode (px_cc M_L_law) 274 = .ok (.iadd, 1) := by decide +kernel
theorem d_L_law_275 : decode (px_cc M_L_law) 275 = .ok (.iaload, 1) := by decide +kernel
theorem d_L_law_276 : decode (px_cc M_L_law) 276 = .ok (.i2l, 1) := by decide +kernel
theorem d_L_law_277 : decode (px_cc M_L_law) 277 = .ok (.ldc2_w 46, 3) := by decide +kernel
theorem d_L_law_280 : decode (px_cc M_L_law) 280 = .ok (.land, 1) := by decide +kernel
theorem d_L_law_281 : decode (px_cc M_L_law) 281 = .ok (.lor, 1) := by decide +kernel
theorem d_L_law_282 : decode (px_cc M_L_law) 282 = .ok (.aload_n 0, 1) := by decide +kernel
theorem d_L_law_283 : decode (px_cc M_L_law) 283 = .ok (.iload 4, 2) := by decide +kernel
theorem d_L_law_285 : decode (px_cc M_L_law) 285 = .ok (.iconst 3, 1) := by decide +kernel
theorem d_L_law_286 : decode (px_cc M_L_law) 286 = .ok (.iadd, 1) := by decide +kernel
theorem d_L_law_287 : decode (px_cc M_L_law) 287 = .ok (.iaload, 1) := by decide +kernel
theorem d_L_law_288 : decode (px_cc M_L_law) 288 = .ok (.i2l, 1) := by decide +kernel
theorem d_L_law_289 : decode (px_cc M_L_law) 289 = .ok (.bipush 32, 2) := by decide +kernel
theorem d_L_law_291 : decode (px_cc M_L_law) 291 = .ok (.lshl, 1) := by decide +kernel
theorem d_L_law_292 : decode (px_cc M_L_law) 292 = .ok (.aload_n 0, 1) := by decide +kernel
theorem d_L_law_293 : decode (px_cc M_L_law) 293 = .ok (.iload 4, 2) := by decide +kernel
theorem d_L_law_295 : decode (px_cc M_L_law) 295 = .ok (.iconst 4, 1) := by decide +kernel
theorem d_L_law_296 : decode (px_cc M_L_law) 296 = .ok (.iadd, 1) := by decide +kernel
theorem d_L_law_297 : decode (px_cc M_L_law) 297 = .ok (.iaload, 1) := by decide +kernel
theorem d_L_law_298 : decode (px_cc M_L_law) 298 = .ok (.i2l, 1) := by decide +kernel
theorem d_L_law_299 : decode (px_cc M_L_law) 299 = .ok (.ldc2_w 46, 3) := by decide +kernel
theorem d_L_law_302 : decode (px_cc M_L_law) 302 = .ok (.land, 1) := by decide +kernel
theorem d_L_law_303 : decode (px_cc M_L_law) 303 = .ok (.lor, 1) := by decide +kernel
theorem d_L_law_304 : decode (px_cc M_L_law) 304 = .ok (.aload_n 0, 1) := by decide +kernel
theorem d_L_law_305 : decode (px_cc M_L_law) 305 = .ok (.iload 4, 2) := by decide +kernel
theorem d_L_law_307 : decode (px_cc M_L_law) 307 = .ok (.iconst 5, 1) := by decide +kernel
theorem d_L_law_308 : decode (px_cc M_L_law) 308 = .ok (.iadd, 1) := by decide +kernel
theorem d_L_law_309 : decode (px_cc M_L_law) 309 = .ok (.iaload, 1) := by decide +kernel
theorem d_L_law_310 : decode (px_cc M_L_law) 310 = .ok (.i2l, 1) := by decide +kernel
theorem d_L_law_311 : decode (px_cc M_L_law) 311 = .ok (.bipush 32, 2) := by decide +kernel
theorem d_L_law_313 : decode (px_cc M_L_law) 313 = .ok (.lshl, 1) := by decide +kernel
theorem d_L_law_314 : decode (px_cc M_L_law) 314 = .ok (.aload_n 0, 1) := by decide +kernel
theorem d_L_law_315 : decode (px_cc M_L_law) 315 = .ok (.iload 4, 2) := by decide +kernel
theorem d_L_law_317 : decode (px_cc M_L_law) 317 = .ok (.bipush 6, 2) := by decide +kernel
theorem d_L_law_319 : decode (px_cc M_L_law) 319 = .ok (.iadd, 1) := by decide +kernel
theorem d_L_law_320 : decode (px_cc M_L_law) 320 = .ok (.iaload, 1) := by decide +kernel
theorem d_L_law_321 : decode (px_cc M_L_law) 321 = .ok (.i2l, 1) := by decide +kernel
theorem d_L_law_322 : decode (px_cc M_L_law) 322 = .ok (.ldc2_w 46, 3) := by decide +kernel
theorem d_L_law_325 : decode (px_cc M_L_law) 325 = .ok (.land, 1) := by decide +kernel
theorem d_L_law_326 : decode (px_cc M_L_law) 326 = .ok (.lor, 1) := by decide +kernel
theorem d_L_law_327 : decode (px_cc M_L_law) 327 = .ok (.invokevirtual 48, 3) := by decide +kernel
theorem d_L_law_330 : decode (px_cc M_L_law) 330 = .ok (.aload_n 2, 1) := by decide +kernel
theorem d_L_law_331 : decode (px_cc M_L_law) 331 = .ok (.aload_n 0, 1) := by decide +kernel
theorem d_L_law_332 : decode (px_cc M_L_law) 332 = .ok (.iload 4, 2) := by decide +kernel
theorem d_L_law_334 : decode (px_cc M_L_law) 334 = .ok (.iconst 1, 1) := by decide +kernel
theorem d_L_law_335 : decode (px_cc M_L_law) 335 = .ok (.iadd, 1) := by decide +kernel
theorem d_L_law_336 : decode (px_cc M_L_law) 336 = .ok (.iaload, 1) := by decide +kernel
theorem d_L_law_337 : decode (px_cc M_L_law) 337 = .ok (.i2l, 1) := by decide +kernel
theorem d_L_law_338 : decode (px_cc M_L_law) 338 = .ok (.bipush 32, 2) := by decide +kernel
theorem d_L_law_340 : decode (px_cc M_L_law) 340 = .ok (.lshl, 1) := by decide +kernel
theorem d_L_law_341 : decode (px_cc M_L_law) 341 = .ok (.aload_n 0, 1) := by decide +kernel
theorem d_L_law_342 : decode (px_cc M_L_law) 342 = .ok (.iload 4, 2) := by decide +kernel
theorem d_L_law_344 : decode (px_cc M_L_law) 344 = .ok (.iconst 2, 1) := by decide +kernel
theorem d_L_law_345 : decode (px_cc M_L_law) 345 = .ok (.iadd, 1) := by decide +kernel
theorem d_L_law_346 : decode (px_cc M_L_law) 346 = .ok (.iaload, 1) := by decide +kernel
theorem d_L_law_347 : decode (px_cc M_L_law) 347 = .ok (.i2l, 1) := by decide +kernel
theorem d_L_law_348 : decode (px_cc M_L_law) 348 = .ok (.ldc2_w 46, 3) := by decide +kernel
theorem d_L_law_351 : decode (px_cc M_L_law) 351 = .ok (.land, 1) := by decide +kernel
theorem d_L_law_352 : decode (px_cc M_L_law) 352 = .ok (.lor, 1) := by decide +kernel
theorem d_L_law_353 : decode (px_cc M_L_law) 353 = .ok (.aload_n 0, 1) := by decide +kernel
theorem d_L_law_354 : decode (px_cc M_L_law) 354 = .ok (.iload 4, 2) := by decide +kernel
theorem d_L_law_356 : decode (px_cc M_L_law) 356 = .ok (.iconst 3, 1) := by decide +kernel
theorem d_L_law_357 : decode (px_cc M_L_law) 357 = .ok (.iadd, 1) := by decide +kernel
theorem d_L_law_358 : decode (px_cc M_L_law) 358 = .ok (.iaload, 1) := by decide +kernel
theorem d_L_law_359 : decode (px_cc M_L_law) 359 = .ok (.i2l, 1) := by decide +kernel
theorem d_L_law_360 : decode (px_cc M_L_law) 360 = .ok (.bipush 32, 2) := by decide +kernel
theorem d_L_law_362 : decode (px_cc M_L_law) 362 = .ok (.lshl, 1) := by decide +kernel
theorem d_L_law_363 : decode (px_cc M_L_law) 363 = .ok (.aload_n 0, 1) := by decide +kernel
theorem d_L_law_364 : decode (px_cc M_L_law) 364 = .ok (.iload 4, 2) := by decide +kernel
theorem d_L_law_366 : decode (px_cc M_L_law) 366 = .ok (.iconst 4, 1) := by decide +kernel
theorem d_L_law_367 : decode (px_cc M_L_law) 367 = .ok (.iadd, 1) := by decide +kernel
theorem d_L_law_368 : decode (px_cc M_L_law) 368 = .ok (.iaload, 1) := by decide +kernel
theorem d_L_law_369 : decode (px_cc M_L_law) 369 = .ok (.i2l, 1) := by decide +kernel
theorem d_L_law_370 : decode (px_cc M_L_law) 370 = .ok (.ldc2_w 46, 3) := by decide +kernel
theorem d_L_law_373 : decode (px_cc M_L_law) 373 = .ok (.land, 1) := by decide +kernel
theorem d_L_law_374 : decode (px_cc M_L_law) 374 = .ok (.lor, 1) := by decide +kernel
theorem d_L_law_375 : decode (px_cc M_L_law) 375 = .ok (.aload_n 0, 1) := by decide +kernel
theorem d_L_law_376 : decode (px_cc M_L_law) 376 = .ok (.iload 4, 2) := by decide +kernel
theorem d_L_law_378 : decode (px_cc M_L_law) 378 = .ok (.iconst 5, 1) := by decide +kernel
theorem d_L_law_379 : decode (px_cc M_L_law) 379 = .ok (.iadd, 1) := by decide +kernel
theorem d_L_law_380 : decode (px_cc M_L_law) 380 = .ok (.iaload, 1) := by decide +kernel
theorem d_L_law_381 : decode (px_cc M_L_law) 381 = .ok (.i2l, 1) := by decide +kernel
theorem d_L_law_382 : decode (px_cc M_L_law) 382 = .ok (.bipush 32, 2) := by decide +kernel
theorem d_L_law_384 : decode (px_cc M_L_law) 384 = .ok (.lshl, 1) := by decide +kernel
theorem d_L_law_385 : decode (px_cc M_L_law) 385 = .ok (.aload_n 0, 1) := by decide +kernel
theorem d_L_law_386 : decode (px_cc M_L_law) 386 = .ok (.iload 4, 2) := by decide +kernel
theorem d_L_law_388 : decode (px_cc M_L_law) 388 = .ok (.bipush 6, 2) := by decide +kernel
theorem d_L_law_390 : decode (px_cc M_L_law) 390 = .ok (.iadd, 1) := by decide +kernel
theorem d_L_law_391 : decode (px_cc M_L_law) 391 = .ok (.iaload, 1) := by decide +kernel
theorem d_L_law_392 : decode (px_cc M_L_law) 392 = .ok (.i2l, 1) := by decide +kernel
theorem d_L_law_393 : decode (px_cc M_L_law) 393 = .ok (.ldc2_w 46, 3) := by decide +kernel
theorem d_L_law_396 : decode (px_cc M_L_law) 396 = .ok (.land, 1) := by decide +kernel
theorem d_L_law_397 : decode (px_cc M_L_law) 397 = .ok (.lor, 1) := by decide +kernel
theorem d_L_law_398 : decode (px_cc M_L_law) 398 = .ok (.invokevirtual 52, 3) := by decide +kernel
theorem d_L_law_401 : decode (px_cc M_L_law) 401 = .ok (.if_icmp .eq 740, 3) := by decide +kernel
theorem d_L_law_404 : decode (px_cc M_L_law) 404 = .ok (.iconst 0, 1) := by decide +kernel
theorem d_L_law_405 : decode (px_cc M_L_law) 405 = .ok (.ireturn, 1) := by decide +kernel
theorem d_L_law_406 : decode (px_cc M_L_law) 406 = .ok (.aload_n 1, 1) := by decide +kernel
theorem d_L_law_407 : decode (px_cc M_L_law) 407 = .ok (.aload_n 0, 1) := by decide +kernel
theorem d_L_law_408 : decode (px_cc M_L_law) 408 = .ok (.iload 4, 2) := by decide +kernel
theorem d_L_law_410 : decode (px_cc M_L_law) 410 = .ok (.iconst 1, 1) := by decide +kernel
theorem d_L_law_411 : decode (px_cc M_L_law) 411 = .ok (.iadd, 1) := by decide +kernel
theorem d_L_law_412 : decode (px_cc M_L_law) 412 = .ok (.iaload, 1) := by decide +kernel
theorem d_L_law_413 : decode (px_cc M_L_law) 413 = .ok (.invokevirtual 53, 3) := by decide +kernel
theorem d_L_law_416 : decode (px_cc M_L_law) 416 = .ok (.aload_n 2, 1) := by decide +kernel
theorem d_L_law_417 : decode (px_cc M_L_law) 417 = .ok (.aload_n 0, 1) := by decide +kernel
theorem d_L_law_418 : decode (px_cc M_L_law) 418 = .ok (.iload 4, 2) := by decide +kernel
theorem d_L_law_420 : decode (px_cc M_L_law) 420 = .ok (.iconst 1, 1) := by decide +kernel
theorem d_L_law_421 : decode (px_cc M_L_law) 421 = .ok (.iadd, 1) := by decide +kernel
theorem d_L_law_422 : decode (px_cc M_L_law) 422 = .ok (.iaload, 1) := by decide +kernel
theorem d_L_law_423 : decode (px_cc M_L_law) 423 = .ok (.invokevirtual 56, 3) := by decide +kernel
theorem d_L_law_426 : decode (px_cc M_L_law) 426 = .ok (.if_icmp .eq 715, 3) := by decide +kernel
theorem d_L_law_429 : decode (px_cc M_L_law) 429 = .ok (.iconst 0, 1) := by decide +kernel
theorem d_L_law_430 : decode (px_cc M_L_law) 430 = .ok (.ireturn, 1) := by decide +kernel
theorem d_L_law_431 : decode (px_cc M_L_law) 431 = .ok (.aload_n 1, 1) := by decide +kernel
theorem d_L_law_432 : decode (px_cc M_L_law) 432 = .ok (.aload_n 0, 1) := by decide +kernel
theorem d_L_law_433 : decode (px_cc M_L_law) 433 = .ok (.iload 4, 2) := by decide +kernel
theorem d_L_law_435 : decode (px_cc M_L_law) 435 = .ok (.iconst 1, 1) := by decide +kernel
theorem d_L_law_436 : decode (px_cc M_L_law) 436 = .ok (.iadd, 1) := by decide +kernel
theorem d_L_law_437 : decode (px_cc M_L_law) 437 = .ok (.iaload, 1) := by decide +kernel
theorem d_L_law_438 : decode (px_cc M_L_law) 438 = .ok (.aload_n 0, 1) := by decide +kernel
theorem d_L_law_439 : decode (px_cc M_L_law) 439 = .ok (.iload 4, 2) := by decide +kernel
theorem d_L_law_441 : decode (px_cc M_L_law) 441 = .ok (.iconst 2, 1) := by decide +kernel
theorem d_L_law_442 : decode (px_cc M_L_law) 442 = .ok (.iadd, 1) := by decide +kernel
theorem d_L_law_443 : decode (px_cc M_L_law) 443 = .ok (.iaload, 1) := by decide +kernel
theorem d_L_law_444 : decode (px_cc M_L_law) 444 = .ok (.aload_n 0, 1) := by decide +kernel
theorem d_L_law_445 : decode (px_cc M_L_law) 445 = .ok (.iload 4, 2) := by decide +kernel
theorem d_L_law_447 : decode (px_cc M_L_law) 447 = .ok (.iconst 3, 1) := by decide +kernel
theorem d_L_law_448 : decode (px_cc M_L_law) 448 = .ok (.iadd, 1) := by decide +kernel
theorem d_L_law_449 : decode (px_cc M_L_law) 449 = .ok (.iaload, 1) := by decide +kernel
theorem d_L_law_450 : decode (px_cc M_L_law) 450 = .ok (.aload_n 3, 1) := by decide +kernel
theorem d_L_law_451 : decode (px_cc M_L_law) 451 = .ok (.invokestatic 57, 3) := by decide +kernel
theorem d_L_law_454 : decode (px_cc M_L_law) 454 = .ok (.istore 5, 2) := by decide +kernel
theorem d_L_law_456 : decode (px_cc M_L_law) 456 = .ok (.aload_n 2, 1) := by decide +kernel
theorem d_L_law_457 : decode (px_cc M_L_law) 457 = .ok (.aload_n 0, 1) := by decide +kernel
theorem d_L_law_458 : decode (px_cc M_L_law) 458 = .ok (.iload 4, 2) := by decide +kernel
theorem d_L_law_460 : decode (px_cc M_L_law) 460 = .ok (.iconst 1, 1) := by decide +kernel
theorem d_L_law_461 : decode (px_cc M_L_law) 461 = .ok (.iadd, 1) := by decide +kernel
theorem d_L_law_462 : decode (px_cc M_L_law) 462 = .ok (.iaload, 1) := by decide +kernel
theorem d_L_law_463 : decode (px_cc M_L_law) 463 = .ok (.aload_n 0, 1) := by decide +kernel
theorem d_L_law_464 : decode (px_cc M_L_law) 464 = .ok (.iload 4, 2) := by decide +kernel
theorem d_L_law_466 : decode (px_cc M_L_law) 466 = .ok (.iconst 2, 1) := by decide +kernel
theorem d_L_law_467 : decode (px_cc M_L_law) 467 = .ok (.iadd, 1) := by decide +kernel
theorem d_L_law_468 : decode (px_cc M_L_law) 468 = .ok (.iaload, 1) := by decide +kernel
theorem d_L_law_469 : decode (px_cc M_L_law) 469 = .ok (.aload_n 0, 1) := by decide +kernel
theorem d_L_law_470 : decode (px_cc M_L_law) 470 = .ok (.iload 4, 2) := by decide +kernel
theorem d_L_law_472 : decode (px_cc M_L_law) 472 = .ok (.iconst 3, 1) := by decide +kernel
theorem d_L_law_473 : decode (px_cc M_L_law) 473 = .ok (.iadd, 1) := by decide +kernel
theorem d_L_law_474 : decode (px_cc M_L_law) 474 = .ok (.iaload, 1) := by decide +kernel
theorem d_L_law_475 : decode (px_cc M_L_law) 475 = .ok (.invokevirtual 62, 3) := by decide +kernel
theorem d_L_law_478 : decode (px_cc M_L_law) 478 = .ok (.istore 6, 2) := by decide +kernel
theorem d_L_law_480 : decode (px_cc M_L_law) 480 = .ok (.aload_n 2, 1) := by decide +kernel
theorem d_L_law_481 : decode (px_cc M_L_law) 481 = .ok (.invokevirtual 63, 3) := by decide +kernel
theorem d_L_law_484 : decode (px_cc M_L_law) 484 = .ok (.iload 5, 2) := by decide +kernel
theorem d_L_law_486 : decode (px_cc M_L_law) 486 = .ok (.if_icmp .eq 5, 3) := by decide +kernel
theorem d_L_law_489 : decode (px_cc M_L_law) 489 = .ok (.iconst 0, 1) := by decide +kernel
theorem d_L_law_490 : decode (px_cc M_L_law) 490 = .ok (.ireturn, 1) := by decide +kernel
theorem d_L_law_491 : decode (px_cc M_L_law) 491 = .ok (.iload 5, 2) := by decide +kernel
theorem d_L_law_493 : decode (px_cc M_L_law) 493 = .ok (.ifCond .ne 15, 3) := by decide +kernel
theorem d_L_law_496 : decode (px_cc M_L_law) 496 = .ok (.aload_n 3, 1) := by decide +kernel
theorem d_L_law_497 : decode (px_cc M_L_law) 497 = .ok (.iconst 0, 1) := by decide +kernel
theorem d_L_law_498 : decode (px_cc M_L_law) 498 = .ok (.laload, 1) := by decide +kernel
theorem d_L_law_499 : decode (px_cc M_L_law) 499 = .ok (.iload 6, 2) := by decide +kernel
theorem d_L_law_501 : decode (px_cc M_L_law) 501 = .ok (.i2l, 1) := by decide +kernel
theorem d_L_law_502 : decode (px_cc M_L_law) 502 = .ok (.lcmp, 1) := by decide +kernel
theorem d_L_law_503 : decode (px_cc M_L_law) 503 = .ok (.ifCond .eq 5, 3) := by decide +kernel
theorem d_L_law_506 : decode (px_cc M_L_law) 506 = .ok (.iconst 0, 1) := by decide +kernel
theorem d_L_law_507 : decode (px_cc M_L_law) 507 = .ok (.ireturn, 1) := by decide +kernel
theorem d_L_law_508 : decode (px_cc M_L_law) 508 = .ok (.goto 633, 3) := by decide +kernel
theorem d_L_law_511 : decode (px_cc M_L_law) 511 = .ok (.aload_n 1, 1) := by decide +kernel
theorem d_L_law_512 : decode (px_cc M_L_law) 512 = .ok (.aload_n 0, 1) := by decide +kernel
theorem d_L_law_513 : decode (px_cc M_L_law) 513 = .ok (.iload 4, 2) := by decide +kernel
theorem d_L_law_515 : decode (px_cc M_L_law) 515 = .ok (.iconst 1, 1) := by decide +kernel
theorem d_L_law_516 : decode (px_cc M_L_law) 516 = .ok (.iadd, 1) := by decide +kernel
theorem d_L_law_517 : decode (px_cc M_L_law) 517 = .ok (.iaload, 1) := by decide +kernel
theorem d_L_law_518 : decode (px_cc M_L_law) 518 = .ok (.aload_n 0, 1) := by decide +kernel
theorem d_L_law_519 : decode (px_cc M_L_law) 519 = .ok (.iload 4, 2) := by decide +kernel
theorem d_L_law_521 : decode (px_cc M_L_law) 521 = .ok (.iconst 2, 1) := by decide +kernel
theorem d_L_law_522 : decode (px_cc M_L_law) 522 = .ok (.iadd, 1) := by decide +kernel
theorem d_L_law_523 : decode (px_cc M_L_law) 523 = .ok (.iaload, 1) := by decide +kernel
theorem d_L_law_524 : decode (px_cc M_L_law) 524 = .ok (.aload_n 0, 1) := by decide +kernel
theorem d_L_law_525 : decode (px_cc M_L_law) 525 = .ok (.iload 4, 2) := by decide +kernel
theorem d_L_law_527 : decode (px_cc M_L_law) 527 = .ok (.iconst 3, 1) := by decide +kernel
theorem d_L_law_528 : decode (px_cc M_L_law) 528 = .ok (.iadd, 1) := by decide +kernel
theorem d_L_law_529 : decode (px_cc M_L_law) 529 = .ok (.iaload, 1) := by decide +kernel
theorem d_L_law_530 : decode (px_cc M_L_law) 530 = .ok (.aload_n 3, 1) := by decide +kernel
theorem d_L_law_531 : decode (px_cc M_L_law) 531 = .ok (.invokestatic 67, 3) := by decide +kernel
theorem d_L_law_534 : decode (px_cc M_L_law) 534 = .ok (.istore 5, 2) := by decide +kernel
theorem d_L_law_536 : decode (px_cc M_L_law) 536 = .ok (.aload_n 2, 1) := by decide +kernel
theorem d_L_law_537 : decode (px_cc M_L_law) 537 = .ok (.aload_n 0, 1) := by decide +kernel
theorem d_L_law_538 : decode (px_cc M_L_law) 538 = .ok (.iload 4, 2) := by decide +kernel
theorem d_L_law_540 : decode (px_cc M_L_law) 540 = .ok (.iconst 1, 1) := by decide +kernel
theorem d_L_law_541 : decode (px_cc M_L_law) 541 = .ok (.iadd, 1) := by decide +kernel
theorem d_L_law_542 : decode (px_cc M_L_law) 542 = .ok (.iaload, 1) := by decide +kernel
theorem d_L_law_543 : decode (px_cc M_L_law) 543 = .ok (.aload_n 0, 1) := by decide +kernel
theorem d_L_law_544 : decode (px_cc M_L_law) 544 = .ok (.iload 4, 2) := by decide +kernel
theorem d_L_law_546 : decode (px_cc M_L_law) 546 = .ok (.iconst 2, 1) := by decide +kernel
theorem d_L_law_547 : decode (px_cc M_L_law) 547 = .ok (.iadd, 1) := by decide +kernel
theorem d_L_law_548 : decode (px_cc M_L_law) 548 = .ok (.iaload, 1) := by decide +kernel
theorem d_L_law_549 : decode (px_cc M_L_law) 549 = .ok (.aload_n 0, 1) := by decide +kernel
theorem d_L_law_550 : decode (px_cc M_L_law) 550 = .ok (.iload 4, 2) := by decide +kernel
theorem d_L_law_552 : decode (px_cc M_L_law) 552 = .ok (.iconst 3, 1) := by decide +kernel
theorem d_L_law_553 : decode (px_cc M_L_law) 553 = .ok (.iadd, 1) := by decide +kernel
theorem d_L_law_554 : decode (px_cc M_L_law) 554 = .ok (.iaload, 1) := by decide +kernel
theorem d_L_law_555 : decode (px_cc M_L_law) 555 = .ok (.invokevirtual 69, 3) := by decide +kernel
theorem d_L_law_558 : decode (px_cc M_L_law) 558 = .ok (.istore 6, 2) := by decide +kernel
theorem d_L_law_560 : decode (px_cc M_L_law) 560 = .ok (.aload_n 2, 1) := by decide +kernel
theorem d_L_law_561 : decode (px_cc M_L_law) 561 = .ok (.invokevirtual 63, 3) := by decide +kernel
theorem d_L_law_564 : decode (px_cc M_L_law) 564 = .ok (.iload 5, 2) := by decide +kernel
theorem d_L_law_566 : decode (px_cc M_L_law) 566 = .ok (.if_icmp .eq 5, 3) := by decide +kernel
theorem d_L_law_569 : decode (px_cc M_L_law) 569 = .ok (.iconst 0, 1) := by decide +kernel
theorem d_L_law_570 : decode (px_cc M_L_law) 570 = .ok (.ireturn, 1) := by decide +kernel
theorem d_L_law_571 : decode (px_cc M_L_law) 571 = .ok (.iload 5, 2) := by decide +kernel
theorem d_L_law_573 : decode (px_cc M_L_law) 573 = .ok (.ifCond .ne 15, 3) := by decide +kernel
theorem d_L_law_576 : decode (px_cc M_L_law) 576 = .ok (.aload_n 3, 1) := by decide +kernel
theorem d_L_law_577 : decode (px_cc M_L_law) 577 = .ok (.iconst 0, 1) := by decide +kernel
theorem d_L_law_578 : decode (px_cc M_L_law) 578 = .ok (.laload, 1) := by decide +kernel
theorem d_L_law_579 : decode (px_cc M_L_law) 579 = .ok (.iload 6, 2) := by decide +kernel
theorem d_L_law_581 : decode (px_cc M_L_law) 581 = .ok (.i2l, 1) := by decide +kernel
theorem d_L_law_582 : decode (px_cc M_L_law) 582 = .ok (.lcmp, 1) := by decide +kernel
theorem d_L_law_583 : decode (px_cc M_L_law) 583 = .ok (.ifCond .eq 5, 3) := by decide +kernel
theorem d_L_law_586 : decode (px_cc M_L_law) 586 = .ok (.iconst 0, 1) := by decide +kernel
theorem d_L_law_587 : decode (px_cc M_L_law) 587 = .ok (.ireturn, 1) := by decide +kernel
theorem d_L_law_588 : decode (px_cc M_L_law) 588 = .ok (.goto 553, 3) := by decide +kernel
theorem d_L_law_591 : decode (px_cc M_L_law) 591 = .ok (.aload_n 1, 1) := by decide +kernel
theorem d_L_law_592 : decode (px_cc M_L_law) 592 = .ok (.aload_n 0, 1) := by decide +kernel
theorem d_L_law_593 : decode (px_cc M_L_law) 593 = .ok (.iload 4, 2) := by decide +kernel
theorem d_L_law_595 : decode (px_cc M_L_law) 595 = .ok (.iconst 1, 1) := by decide +kernel
theorem d_L_law_596 : decode (px_cc M_L_law) 596 = .ok (.iadd, 1) := by decide +kernel
theorem d_L_law_597 : decode (px_cc M_L_law) 597 = .ok (.iaload, 1) := by decide +kernel
theorem d_L_law_598 : decode (px_cc M_L_law) 598 = .ok (.aload_n 0, 1) := by decide +kernel
theorem d_L_law_599 : decode (px_cc M_L_law) 599 = .ok (.iload 4, 2) := by decide +kernel
theorem d_L_law_601 : decode (px_cc M_L_law) 601 = .ok (.iconst 2, 1) := by decide +kernel
theorem d_L_law_602 : decode (px_cc M_L_law) 602 = .ok (.iadd, 1) := by decide +kernel
theorem d_L_law_603 : decode (px_cc M_L_law) 603 = .ok (.iaload, 1) := by decide +kernel
theorem d_L_law_604 : decode (px_cc M_L_law) 604 = .ok (.aload_n 0, 1) := by decide +kernel
theorem d_L_law_605 : decode (px_cc M_L_law) 605 = .ok (.iload 4, 2) := by decide +kernel
theorem d_L_law_607 : decode (px_cc M_L_law) 607 = .ok (.iconst 3, 1) := by decide +kernel
theorem d_L_law_608 : decode (px_cc M_L_law) 608 = .ok (.iadd, 1) := by decide +kernel
theorem d_L_law_609 : decode (px_cc M_L_law) 609 = .ok (.iaload, 1) := by decide +kernel
theorem d_L_law_610 : decode (px_cc M_L_law) 610 = .ok (.invokevirtual 70, 3) := by decide +kernel
theorem d_L_law_613 : decode (px_cc M_L_law) 613 = .ok (.aload_n 2, 1) := by decide +kernel
theorem d_L_law_614 : decode (px_cc M_L_law) 614 = .ok (.aload_n 0, 1) := by decide +kernel
theorem d_L_law_615 : decode (px_cc M_L_law) 615 = .ok (.iload 4, 2) := by decide +kernel
theorem d_L_law_617 : decode (px_cc M_L_law) 617 = .ok (.iconst 1, 1) := by decide +kernel
theorem d_L_law_618 : decode (px_cc M_L_law) 618 = .ok (.iadd, 1) := by decide +kernel
theorem d_L_law_619 : decode (px_cc M_L_law) 619 = .ok (.iaload, 1) := by decide +kernel
theorem d_L_law_620 : decode (px_cc M_L_law) 620 = .ok (.aload_n 0, 1) := by decide +kernel
theorem d_L_law_621 : decode (px_cc M_L_law) 621 = .ok (.iload 4, 2) := by decide +kernel
theorem d_L_law_623 : decode (px_cc M_L_law) 623 = .ok (.iconst 2, 1) := by decide +kernel
theorem d_L_law_624 : decode (px_cc M_L_law) 624 = .ok (.iadd, 1) := by decide +kernel
theorem d_L_law_625 : decode (px_cc M_L_law) 625 = .ok (.iaload, 1) := by decide +kernel
theorem d_L_law_626 : decode (px_cc M_L_law) 626 = .ok (.aload_n 0, 1) := by decide +kernel
theorem d_L_law_627 : decode (px_cc M_L_law) 627 = .ok (.iload 4, 2) := by decide +kernel
theorem d_L_law_629 : decode (px_cc M_L_law) 629 = .ok (.iconst 3, 1) := by decide +kernel
theorem d_L_law_630 : decode (px_cc M_L_law) 630 = .ok (.iadd, 1) := by decide +kernel
theorem d_L_law_631 : decode (px_cc M_L_law) 631 = .ok (.iaload, 1) := by decide +kernel
theorem d_L_law_632 : decode (px_cc M_L_law) 632 = .ok (.invokevirtual 73, 3) := by decide +kernel
theorem d_L_law_635 : decode (px_cc M_L_law) 635 = .ok (.if_icmp .eq 506, 3) := by decide +kernel
theorem d_L_law_638 : decode (px_cc M_L_law) 638 = .ok (.iconst 0, 1) := by decide +kernel
theorem d_L_law_639 : decode (px_cc M_L_law) 639 = .ok (.ireturn, 1) := by decide +kernel
theorem d_L_law_640 : decode (px_cc M_L_law) 640 = .ok (.aload_n 1, 1) := by decide +kernel
theorem d_L_law_641 : decode (px_cc M_L_law) 641 = .ok (.aload_n 0, 1) := by decide +kernel
theorem d_L_law_642 : decode (px_cc M_L_law) 642 = .ok (.iload 4, 2) := by decide +kernel
theorem d_L_law_644 : decode (px_cc M_L_law) 644 = .ok (.iconst 1, 1) := by decide +kernel
theorem d_L_law_645 : decode (px_cc M_L_law) 645 = .ok (.iadd, 1) := by decide +kernel
theorem d_L_law_646 : decode (px_cc M_L_law) 646 = .ok (.iaload, 1) := by decide +kernel
theorem d_L_law_647 : decode (px_cc M_L_law) 647 = .ok (.aload_n 0, 1) := by decide +kernel
theorem d_L_law_648 : decode (px_cc M_L_law) 648 = .ok (.iload 4, 2) := by decide +kernel
theorem d_L_law_650 : decode (px_cc M_L_law) 650 = .ok (.iconst 2, 1) := by decide +kernel
theorem d_L_law_651 : decode (px_cc M_L_law) 651 = .ok (.iadd, 1) := by decide +kernel
theorem d_L_law_652 : decode (px_cc M_L_law) 652 = .ok (.iaload, 1) := by decide +kernel
theorem d_L_law_653 : decode (px_cc M_L_law) 653 = .ok (.aload_n 0, 1) := by decide +kernel
theorem d_L_law_654 : decode (px_cc M_L_law) 654 = .ok (.iload 4, 2) := by decide +kernel
theorem d_L_law_656 : decode (px_cc M_L_law) 656 = .ok (.iconst 3, 1) := by decide +kernel
theorem d_L_law_657 : decode (px_cc M_L_law) 657 = .ok (.iadd, 1) := by decide +kernel
theorem d_L_law_658 : decode (px_cc M_L_law) 658 = .ok (.iaload, 1) := by decide +kernel
theorem d_L_law_659 : decode (px_cc M_L_law) 659 = .ok (.aload_n 0, 1) := by decide +kernel
theorem d_L_law_660 : decode (px_cc M_L_law) 660 = .ok (.iload 4, 2) := by decide +kernel
theorem d_L_law_662 : decode (px_cc M_L_law) 662 = .ok (.iconst 4, 1) := by decide +kernel
theorem d_L_law_663 : decode (px_cc M_L_law) 663 = .ok (.iadd, 1) := by decide +kernel
theorem d_L_law_664 : decode (px_cc M_L_law) 664 = .ok (.iaload, 1) := by decide +kernel
theorem d_L_law_665 : decode (px_cc M_L_law) 665 = .ok (.invokevirtual 74, 3) := by decide +kernel
theorem d_L_law_668 : decode (px_cc M_L_law) 668 = .ok (.aload_n 2, 1) := by decide +kernel
theorem d_L_law_669 : decode (px_cc M_L_law) 669 = .ok (.aload_n 0, 1) := by decide +kernel
theorem d_L_law_670 : decode (px_cc M_L_law) 670 = .ok (.iload 4, 2) := by decide +kernel
theorem d_L_law_672 : decode (px_cc M_L_law) 672 = .ok (.iconst 1, 1) := by decide +kernel
theorem d_L_law_673 : decode (px_cc M_L_law) 673 = .ok (.iadd, 1) := by decide +kernel
theorem d_L_law_674 : decode (px_cc M_L_law) 674 = .ok (.iaload, 1) := by decide +kernel
theorem d_L_law_675 : decode (px_cc M_L_law) 675 = .ok (.aload_n 0, 1) := by decide +kernel
theorem d_L_law_676 : decode (px_cc M_L_law) 676 = .ok (.iload 4, 2) := by decide +kernel
theorem d_L_law_678 : decode (px_cc M_L_law) 678 = .ok (.iconst 2, 1) := by decide +kernel
theorem d_L_law_679 : decode (px_cc M_L_law) 679 = .ok (.iadd, 1) := by decide +kernel
theorem d_L_law_680 : decode (px_cc M_L_law) 680 = .ok (.iaload, 1) := by decide +kernel
theorem d_L_law_681 : decode (px_cc M_L_law) 681 = .ok (.aload_n 0, 1) := by decide +kernel
theorem d_L_law_682 : decode (px_cc M_L_law) 682 = .ok (.iload 4, 2) := by decide +kernel
theorem d_L_law_684 : decode (px_cc M_L_law) 684 = .ok (.iconst 3, 1) := by decide +kernel
theorem d_L_law_685 : decode (px_cc M_L_law) 685 = .ok (.iadd, 1) := by decide +kernel
theorem d_L_law_686 : decode (px_cc M_L_law) 686 = .ok (.iaload, 1) := by decide +kernel
theorem d_L_law_687 : decode (px_cc M_L_law) 687 = .ok (.aload_n 0, 1) := by decide +kernel
theorem d_L_law_688 : decode (px_cc M_L_law) 688 = .ok (.iload 4, 2) := by decide +kernel
theorem d_L_law_690 : decode (px_cc M_L_law) 690 = .ok (.iconst 4, 1) := by decide +kernel
theorem d_L_law_691 : decode (px_cc M_L_law) 691 = .ok (.iadd, 1) := by decide +kernel
theorem d_L_law_692 : decode (px_cc M_L_law) 692 = .ok (.iaload, 1) := by decide +kernel
theorem d_L_law_693 : decode (px_cc M_L_law) 693 = .ok (.invokevirtual 77, 3) := by decide +kernel
theorem d_L_law_696 : decode (px_cc M_L_law) 696 = .ok (.if_icmp .eq 445, 3) := by decide +kernel
theorem d_L_law_699 : decode (px_cc M_L_law) 699 = .ok (.iconst 0, 1) := by decide +kernel
theorem d_L_law_700 : decode (px_cc M_L_law) 700 = .ok (.ireturn, 1) := by decide +kernel
theorem d_L_law_701 : decode (px_cc M_L_law) 701 = .ok (.aload_n 1, 1) := by decide +kernel
theorem d_L_law_702 : decode (px_cc M_L_law) 702 = .ok (.aload_n 0, 1) := by decide +kernel
theorem d_L_law_703 : decode (px_cc M_L_law) 703 = .ok (.iload 4, 2) := by decide +kernel
theorem d_L_law_705 : decode (px_cc M_L_law) 705 = .ok (.iconst 1, 1) := by decide +kernel
theorem d_L_law_706 : decode (px_cc M_L_law) 706 = .ok (.iadd, 1) := by decide +kernel
theorem d_L_law_707 : decode (px_cc M_L_law) 707 = .ok (.iaload, 1) := by decide +kernel
theorem d_L_law_708 : decode (px_cc M_L_law) 708 = .ok (.aload_n 0, 1) := by decide +kernel
theorem d_L_law_709 : decode (px_cc M_L_law) 709 = .ok (.iload 4, 2) := by decide +kernel
theorem d_L_law_711 : decode (px_cc M_L_law) 711 = .ok (.iconst 2, 1) := by decide +kernel
theorem d_L_law_712 : decode (px_cc M_L_law) 712 = .ok (.iadd, 1) := by decide +kernel
theorem d_L_law_713 : decode (px_cc M_L_law) 713 = .ok (.iaload, 1) := by decide +kernel
theorem d_L_law_714 : decode (px_cc M_L_law) 714 = .ok (.invokevirtual 78, 3) := by decide +kernel
theorem d_L_law_717 : decode (px_cc M_L_law) 717 = .ok (.aload_n 2, 1) := by decide +kernel
theorem d_L_law_718 : decode (px_cc M_L_law) 718 = .ok (.aload_n 0, 1) := by decide +kernel
theorem d_L_law_719 : decode (px_cc M_L_law) 719 = .ok (.iload 4, 2) := by decide +kernel
theorem d_L_law_721 : decode (px_cc M_L_law) 721 = .ok (.iconst 1, 1) := by decide +kernel
theorem d_L_law_722 : decode (px_cc M_L_law) 722 = .ok (.iadd, 1) := by decide +kernel
theorem d_L_law_723 : decode (px_cc M_L_law) 723 = .ok (.iaload, 1) := by decide +kernel
theorem d_L_law_724 : decode (px_cc M_L_law) 724 = .ok (.aload_n 0, 1) := by decide +kernel
theorem d_L_law_725 : decode (px_cc M_L_law) 725 = .ok (.iload 4, 2) := by decide +kernel
theorem d_L_law_727 : decode (px_cc M_L_law) 727 = .ok (.iconst 2, 1) := by decide +kernel
theorem d_L_law_728 : decode (px_cc M_L_law) 728 = .ok (.iadd, 1) := by decide +kernel
theorem d_L_law_729 : decode (px_cc M_L_law) 729 = .ok (.iaload, 1) := by decide +kernel
theorem d_L_law_730 : decode (px_cc M_L_law) 730 = .ok (.invokevirtual 82, 3) := by decide +kernel
theorem d_L_law_733 : decode (px_cc M_L_law) 733 = .ok (.if_icmp .eq 408, 3) := by decide +kernel
theorem d_L_law_736 : decode (px_cc M_L_law) 736 = .ok (.iconst 0, 1) := by decide +kernel
theorem d_L_law_737 : decode (px_cc M_L_law) 737 = .ok (.ireturn, 1) := by decide +kernel
theorem d_L_law_738 : decode (px_cc M_L_law) 738 = .ok (.aload_n 1, 1) := by decide +kernel
theorem d_L_law_739 : decode (px_cc M_L_law) 739 = .ok (.aload_n 0, 1) := by decide +kernel
theorem d_L_law_740 : decode (px_cc M_L_law) 740 = .ok (.iload 4, 2) := by decide +kernel
theorem d_L_law_742 : decode (px_cc M_L_law) 742 = .ok (.iconst 1, 1) := by decide +kernel
theorem d_L_law_743 : decode (px_cc M_L_law) 743 = .ok (.iadd, 1) := by decide +kernel
theorem d_L_law_744 : decode (px_cc M_L_law) 744 = .ok (.iaload, 1) := by decide +kernel
theorem d_L_law_745 : decode (px_cc M_L_law) 745 = .ok (.aload_n 0, 1) := by decide +kernel
theorem d_L_law_746 : decode (px_cc M_L_law) 746 = .ok (.iload 4, 2) := by decide +kernel
theorem d_L_law_748 : decode (px_cc M_L_law) 748 = .ok (.iconst 2, 1) := by decide +kernel
theorem d_L_law_749 : decode (px_cc M_L_law) 749 = .ok (.iadd, 1) := by decide +kernel
theorem d_L_law_750 : decode (px_cc M_L_law) 750 = .ok (.iaload, 1) := by decide +kernel
theorem d_L_law_751 : decode (px_cc M_L_law) 751 = .ok (.aload_n 0, 1) := by decide +kernel
theorem d_L_law_752 : decode (px_cc M_L_law) 752 = .ok (.iload 4, 2) := by decide +kernel
theorem d_L_law_754 : decode (px_cc M_L_law) 754 = .ok (.iconst 3, 1) := by decide +kernel
theorem d_L_law_755 : decode (px_cc M_L_law) 755 = .ok (.iadd, 1) := by decide +kernel
theorem d_L_law_756 : decode (px_cc M_L_law) 756 = .ok (.iaload, 1) := by decide +kernel
theorem d_L_law_757 : decode (px_cc M_L_law) 757 = .ok (.invokevirtual 83, 3) := by decide +kernel
theorem d_L_law_760 : decode (px_cc M_L_law) 760 = .ok (.aload_n 2, 1) := by decide +kernel
theorem d_L_law_761 : decode (px_cc M_L_law) 761 = .ok (.aload_n 0, 1) := by decide +kernel
theorem d_L_law_762 : decode (px_cc M_L_law) 762 = .ok (.iload 4, 2) := by decide +kernel
theorem d_L_law_764 : decode (px_cc M_L_law) 764 = .ok (.iconst 1, 1) := by decide +kernel
theorem d_L_law_765 : decode (px_cc M_L_law) 765 = .ok (.iadd, 1) := by decide +kernel
theorem d_L_law_766 : decode (px_cc M_L_law) 766 = .ok (.iaload, 1) := by decide +kernel
theorem d_L_law_767 : decode (px_cc M_L_law) 767 = .ok (.aload_n 0, 1) := by decide +kernel
theorem d_L_law_768 : decode (px_cc M_L_law) 768 = .ok (.iload 4, 2) := by decide +kernel
theorem d_L_law_770 : decode (px_cc M_L_law) 770 = .ok (.iconst 2, 1) := by decide +kernel
theorem d_L_law_771 : decode (px_cc M_L_law) 771 = .ok (.iadd, 1) := by decide +kernel
theorem d_L_law_772 : decode (px_cc M_L_law) 772 = .ok (.iaload, 1) := by decide +kernel
theorem d_L_law_773 : decode (px_cc M_L_law) 773 = .ok (.aload_n 0, 1) := by decide +kernel
theorem d_L_law_774 : decode (px_cc M_L_law) 774 = .ok (.iload 4, 2) := by decide +kernel
theorem d_L_law_776 : decode (px_cc M_L_law) 776 = .ok (.iconst 3, 1) := by decide +kernel
theorem d_L_law_777 : decode (px_cc M_L_law) 777 = .ok (.iadd, 1) := by decide +kernel
theorem d_L_law_778 : decode (px_cc M_L_law) 778 = .ok (.iaload, 1) := by decide +kernel
theorem d_L_law_779 : decode (px_cc M_L_law) 779 = .ok (.invokevirtual 86, 3) := by decide +kernel
theorem d_L_law_782 : decode (px_cc M_L_law) 782 = .ok (.if_icmp .eq 359, 3) := by decide +kernel
theorem d_L_law_785 : decode (px_cc M_L_law) 785 = .ok (.iconst 0, 1) := by decide +kernel
theorem d_L_law_786 : decode (px_cc M_L_law) 786 = .ok (.ireturn, 1) := by decide +kernel
theorem d_L_law_787 : decode (px_cc M_L_law) 787 = .ok (.aload_n 1, 1) := by decide +kernel
theorem d_L_law_788 : decode (px_cc M_L_law) 788 = .ok (.aload_n 0, 1) := by decide +kernel
theorem d_L_law_789 : decode (px_cc M_L_law) 789 = .ok (.iload 4, 2) := by decide +kernel
theorem d_L_law_791 : decode (px_cc M_L_law) 791 = .ok (.iconst 1, 1) := by decide +kernel
theorem d_L_law_792 : decode (px_cc M_L_law) 792 = .ok (.iadd, 1) := by decide +kernel
theorem d_L_law_793 : decode (px_cc M_L_law) 793 = .ok (.iaload, 1) := by decide +kernel
theorem d_L_law_794 : decode (px_cc M_L_law) 794 = .ok (.aload_n 0, 1) := by decide +kernel
theorem d_L_law_795 : decode (px_cc M_L_law) 795 = .ok (.iload 4, 2) := by decide +kernel
theorem d_L_law_797 : decode (px_cc M_L_law) 797 = .ok (.iconst 2, 1) := by decide +kernel
theorem d_L_law_798 : decode (px_cc M_L_law) 798 = .ok (.iadd, 1) := by decide +kernel
theorem d_L_law_799 : decode (px_cc M_L_law) 799 = .ok (.iaload, 1) := by decide +kernel
theorem d_L_law_800 : decode (px_cc M_L_law) 800 = .ok (.invokevirtual 87, 3) := by decide +kernel
theorem d_L_law_803 : decode (px_cc M_L_law) 803 = .ok (.aload_n 2, 1) := by decide +kernel
theorem d_L_law_804 : decode (px_cc M_L_law) 804 = .ok (.aload_n 0, 1) := by decide +kernel
theorem d_L_law_805 : decode (px_cc M_L_law) 805 = .ok (.iload 4, 2) := by decide +kernel
theorem d_L_law_807 : decode (px_cc M_L_law) 807 = .ok (.iconst 1, 1) := by decide +kernel
theorem d_L_law_808 : decode (px_cc M_L_law) 808 = .ok (.iadd, 1) := by decide +kernel
theorem d_L_law_809 : decode (px_cc M_L_law) 809 = .ok (.iaload, 1) := by decide +kernel
theorem d_L_law_810 : decode (px_cc M_L_law) 810 = .ok (.aload_n 0, 1) := by decide +kernel
theorem d_L_law_811 : decode (px_cc M_L_law) 811 = .ok (.iload 4, 2) := by decide +kernel
theorem d_L_law_813 : decode (px_cc M_L_law) 813 = .ok (.iconst 2, 1) := by decide +kernel
theorem d_L_law_814 : decode (px_cc M_L_law) 814 = .ok (.iadd, 1) := by decide +kernel
theorem d_L_law_815 : decode (px_cc M_L_law) 815 = .ok (.iaload, 1) := by decide +kernel
theorem d_L_law_816 : decode (px_cc M_L_law) 816 = .ok (.invokevirtual 90, 3) := by decide +kernel
theorem d_L_law_819 : decode (px_cc M_L_law) 819 = .ok (.if_icmp .eq 322, 3) := by decide +kernel
theorem d_L_law_822 : decode (px_cc M_L_law) 822 = .ok (.iconst 0, 1) := by decide +kernel
theorem d_L_law_823 : decode (px_cc M_L_law) 823 = .ok (.ireturn, 1) := by decide +kernel
theorem d_L_law_824 : decode (px_cc M_L_law) 824 = .ok (.aload_n 1, 1) := by decide +kernel
theorem d_L_law_825 : decode (px_cc M_L_law) 825 = .ok (.aload_n 0, 1) := by decide +kernel
theorem d_L_law_826 : decode (px_cc M_L_law) 826 = .ok (.iload 4, 2) := by decide +kernel
theorem d_L_law_828 : decode (px_cc M_L_law) 828 = .ok (.iconst 1, 1) := by decide +kernel
theorem d_L_law_829 : decode (px_cc M_L_law) 829 = .ok (.iadd, 1) := by decide +kernel
theorem d_L_law_830 : decode (px_cc M_L_law) 830 = .ok (.iaload, 1) := by decide +kernel
theorem d_L_law_831 : decode (px_cc M_L_law) 831 = .ok (.aload_n 3, 1) := by decide +kernel
theorem d_L_law_832 : decode (px_cc M_L_law) 832 = .ok (.invokestatic 91, 3) := by decide +kernel
theorem d_L_law_835 : decode (px_cc M_L_law) 835 = .ok (.istore 5, 2) := by decide +kernel
theorem d_L_law_837 : decode (px_cc M_L_law) 837 = .ok (.aload_n 2, 1) := by decide +kernel
theorem d_L_law_838 : decode (px_cc M_L_law) 838 = .ok (.aload_n 0, 1) := by decide +kernel
theorem d_L_law_839 : decode (px_cc M_L_law) 839 = .ok (.iload 4, 2) := by decide +kernel
theorem d_L_law_841 : decode (px_cc M_L_law) 841 = .ok (.iconst 1, 1) := by decide +kernel
theorem d_L_law_842 : decode (px_cc M_L_law) 842 = .ok (.iadd, 1) := by decide +kernel
theorem d_L_law_843 : decode (px_cc M_L_law) 843 = .ok (.iaload, 1) := by decide +kernel
theorem d_L_law_844 : decode (px_cc M_L_law) 844 = .ok (.invokevirtual 94, 3) := by decide +kernel
theorem d_L_law_847 : decode (px_cc M_L_law) 847 = .ok (.istore 6, 2) := by decide +kernel
theorem d_L_law_849 : decode (px_cc M_L_law) 849 = .ok (.aload_n 2, 1) := by decide +kernel
theorem d_L_law_850 : decode (px_cc M_L_law) 850 = .ok (.invokevirtual 63, 3) := by decide +kernel
theorem d_L_law_853 : decode (px_cc M_L_law) 853 = .ok (.iload 5, 2) := by decide +kernel
theorem d_L_law_855 : decode (px_cc M_L_law) 855 = .ok (.if_icmp .eq 5, 3) := by decide +kernel
theorem d_L_law_858 : decode (px_cc M_L_law) 858 = .ok (.iconst 0, 1) := by decide +kernel
theorem d_L_law_859 : decode (px_cc M_L_law) 859 = .ok (.ireturn, 1) := by decide +kernel
theorem d_L_law_860 : decode (px_cc M_L_law) 860 = .ok (.iload 5, 2) := by decide +kernel
theorem d_L_law_862 : decode (px_cc M_L_law) 862 = .ok (.ifCond .ne 15, 3) := by decide +kernel
theorem d_L_law_865 : decode (px_cc M_L_law) 865 = .ok (.aload_n 3, 1) := by decide +kernel
theorem d_L_law_866 : decode (px_cc M_L_law) 866 = .ok (.iconst 0, 1) := by decide +kernel
theorem d_L_law_867 : decode (px_cc M_L_law) 867 = .ok (.laload, 1) := by decide +kernel
theorem d_L_law_868 : decode (px_cc M_L_law) 868 = .ok (.iload 6, 2) := by decide +kernel
theorem d_L_law_870 : decode (px_cc M_L_law) 870 = .ok (.i2l, 1) := by decide +kernel
theorem d_L_law_871 : decode (px_cc M_L_law) 871 = .ok (.lcmp, 1) := by decide +kernel
theorem d_L_law_872 : decode (px_cc M_L_law) 872 = .ok (.ifCond .eq 5, 3) := by decide +kernel
theorem d_L_law_875 : decode (px_cc M_L_law) 875 = .ok (.iconst 0, 1) := by decide +kernel
theorem d_L_law_876 : decode (px_cc M_L_law) 876 = .ok (.ireturn, 1) := by decide +kernel
theorem d_L_law_877 : decode (px_cc M_L_law) 877 = .ok (.goto 264, 3) := by decide +kernel
theorem d_L_law_880 : decode (px_cc M_L_law) 880 = .ok (.aload_n 1, 1) := by decide +kernel
theorem d_L_law_881 : decode (px_cc M_L_law) 881 = .ok (.aload_n 0, 1) := by decide +kernel
theorem d_L_law_882 : decode (px_cc M_L_law) 882 = .ok (.iload 4, 2) := by decide +kernel
theorem d_L_law_884 : decode (px_cc M_L_law) 884 = .ok (.iconst 1, 1) := by decide +kernel
theorem d_L_law_885 : decode (px_cc M_L_law) 885 = .ok (.iadd, 1) := by decide +kernel
theorem d_L_law_886 : decode (px_cc M_L_law) 886 = .ok (.iaload, 1) := by decide +kernel
theorem d_L_law_887 : decode (px_cc M_L_law) 887 = .ok (.aload_n 0, 1) := by decide +kernel
theorem d_L_law_888 : decode (px_cc M_L_law) 888 = .ok (.iload 4, 2) := by decide +kernel
theorem d_L_law_890 : decode (px_cc M_L_law) 890 = .ok (.iconst 2, 1) := by decide +kernel
theorem d_L_law_891 : decode (px_cc M_L_law) 891 = .ok (.iadd, 1) := by decide +kernel
theorem d_L_law_892 : decode (px_cc M_L_law) 892 = .ok (.iaload, 1) := by decide +kernel
theorem d_L_law_893 : decode (px_cc M_L_law) 893 = .ok (.aload_n 3, 1) := by decide +kernel
theorem d_L_law_894 : decode (px_cc M_L_law) 894 = .ok (.invokestatic 95, 3) := by decide +kernel
theorem d_L_law_897 : decode (px_cc M_L_law) 897 = .ok (.istore 5, 2) := by decide +kernel
theorem d_L_law_899 : decode (px_cc M_L_law) 899 = .ok (.aload_n 2, 1) := by decide +kernel
theorem d_L_law_900 : decode (px_cc M_L_law) 900 = .ok (.aload_n 0, 1) := by decide +kernel
theorem d_L_law_901 : decode (px_cc M_L_law) 901 = .ok (.iload 4, 2) := by decide +kernel
theorem d_L_law_903 : decode (px_cc M_L_law) 903 = .ok (.iconst 1, 1) := by decide +kernel
theorem d_L_law_904 : decode (px_cc M_L_law) 904 = .ok (.iadd, 1) := by decide +kernel
theorem d_L_law_905 : decode (px_cc M_L_law) 905 = .ok (.iaload, 1) := by decide +kernel
theorem d_L_law_906 : decode (px_cc M_L_law) 906 = .ok (.aload_n 0, 1) := by decide +kernel
theorem d_L_law_907 : decode (px_cc M_L_law) 907 = .ok (.iload 4, 2) := by decide +kernel
theorem d_L_law_909 : decode (px_cc M_L_law) 909 = .ok (.iconst 2, 1) := by decide +kernel
theorem d_L_law_910 : decode (px_cc M_L_law) 910 = .ok (.iadd, 1) := by decide +kernel
theorem d_L_law_911 : decode (px_cc M_L_law) 911 = .ok (.iaload, 1) := by decide +kernel
theorem d_L_law_912 : decode (px_cc M_L_law) 912 = .ok (.invokevirtual 98, 3) := by decide +kernel
theorem d_L_law_915 : decode (px_cc M_L_law) 915 = .ok (.istore 6, 2) := by decide +kernel
theorem d_L_law_917 : decode (px_cc M_L_law) 917 = .ok (.aload_n 2, 1) := by decide +kernel
theorem d_L_law_918 : decode (px_cc M_L_law) 918 = .ok (.invokevirtual 63, 3) := by decide +kernel
theorem d_L_law_921 : decode (px_cc M_L_law) 921 = .ok (.iload 5, 2) := by decide +kernel
theorem d_L_law_923 : decode (px_cc M_L_law) 923 = .ok (.if_icmp .eq 5, 3) := by decide +kernel
theorem d_L_law_926 : decode (px_cc M_L_law) 926 = .ok (.iconst 0, 1) := by decide +kernel
theorem d_L_law_927 : decode (px_cc M_L_law) 927 = .ok (.ireturn, 1) := by decide +kernel
theorem d_L_law_928 : decode (px_cc M_L_law) 928 = .ok (.iload 5, 2) := by decide +kernel
theorem d_L_law_930 : decode (px_cc M_L_law) 930 = .ok (.ifCond .ne 15, 3) := by decide +kernel
theorem d_L_law_933 : decode (px_cc M_L_law) 933 = .ok (.aload_n 3, 1) := by decide +kernel
theorem d_L_law_934 : decode (px_cc M_L_law) 934 = .ok (.iconst 0, 1) := by decide +kernel
theorem d_L_law_935 : decode (px_cc M_L_law) 935 = .ok (.laload, 1) := by decide +kernel
theorem d_L_law_936 : decode (px_cc M_L_law) 936 = .ok (.iload 6, 2) := by decide +kernel
theorem d_L_law_938 : decode (px_cc M_L_law) 938 = .ok (.i2l, 1) := by decide +kernel
theorem d_L_law_939 : decode (px_cc M_L_law) 939 = .ok (.lcmp, 1) := by decide +kernel
theorem d_L_law_940 : decode (px_cc M_L_law) 940 = .ok (.ifCond .eq 5, 3) := by decide +kernel
theorem d_L_law_943 : decode (px_cc M_L_law) 943 = .ok (.iconst 0, 1) := by decide +kernel
theorem d_L_law_944 : decode (px_cc M_L_law) 944 = .ok (.ireturn, 1) := by decide +kernel
theorem d_L_law_945 : decode (px_cc M_L_law) 945 = .ok (.goto 196, 3) := by decide +kernel
theorem d_L_law_948 : decode (px_cc M_L_law) 948 = .ok (.aload_n 1, 1) := by decide +kernel
theorem d_L_law_949 : decode (px_cc M_L_law) 949 = .ok (.aload_n 0, 1) := by decide +kernel
theorem d_L_law_950 : decode (px_cc M_L_law) 950 = .ok (.iload 4, 2) := by decide +kernel
theorem d_L_law_952 : decode (px_cc M_L_law) 952 = .ok (.iconst 1, 1) := by decide +kernel
theorem d_L_law_953 : decode (px_cc M_L_law) 953 = .ok (.iadd, 1) := by decide +kernel
theorem d_L_law_954 : decode (px_cc M_L_law) 954 = .ok (.iaload, 1) := by decide +kernel
theorem d_L_law_955 : decode (px_cc M_L_law) 955 = .ok (.aload_n 3, 1) := by decide +kernel
theorem d_L_law_956 : decode (px_cc M_L_law) 956 = .ok (.invokestatic 99, 3) := by decide +kernel
theorem d_L_law_959 : decode (px_cc M_L_law) 959 = .ok (.istore 5, 2) := by decide +kernel
theorem d_L_law_961 : decode (px_cc M_L_law) 961 = .ok (.aload_n 2, 1) := by decide +kernel
theorem d_L_law_962 : decode (px_cc M_L_law) 962 = .ok (.aload_n 0, 1) := by decide +kernel
theorem d_L_law_963 : decode (px_cc M_L_law) 963 = .ok (.iload 4, 2) := by decide +kernel
theorem d_L_law_965 : decode (px_cc M_L_law) 965 = .ok (.iconst 1, 1) := by decide +kernel
theorem d_L_law_966 : decode (px_cc M_L_law) 966 = .ok (.iadd, 1) := by decide +kernel
theorem d_L_law_967 : decode (px_cc M_L_law) 967 = .ok (.iaload, 1) := by decide +kernel
theorem d_L_law_968 : decode (px_cc M_L_law) 968 = .ok (.invokevirtual 101, 3) := by decide +kernel
theorem d_L_law_971 : decode (px_cc M_L_law) 971 = .ok (.istore 6, 2) := by decide +kernel
theorem d_L_law_973 : decode (px_cc M_L_law) 973 = .ok (.aload_n 2, 1) := by decide +kernel
theorem d_L_law_974 : decode (px_cc M_L_law) 974 = .ok (.invokevirtual 63, 3) := by decide +kernel
theorem d_L_law_977 : decode (px_cc M_L_law) 977 = .ok (.iload 5, 2) := by decide +kernel
theorem d_L_law_979 : decode (px_cc M_L_law) 979 = .ok (.if_icmp .eq 5, 3) := by decide +kernel
theorem d_L_law_982 : decode (px_cc M_L_law) 982 = .ok (.iconst 0, 1) := by decide +kernel
theorem d_L_law_983 : decode (px_cc M_L_law) 983 = .ok (.ireturn, 1) := by decide +kernel
theorem d_L_law_984 : decode (px_cc M_L_law) 984 = .ok (.iload 5, 2) := by decide +kernel
theorem d_L_law_986 : decode (px_cc M_L_law) 986 = .ok (.ifCond .ne 15, 3) := by decide +kernel
theorem d_L_law_989 : decode (px_cc M_L_law) 989 = .ok (.aload_n 3, 1) := by decide +kernel
theorem d_L_law_990 : decode (px_cc M_L_law) 990 = .ok (.iconst 0, 1) := by decide +kernel
theorem d_L_law_991 : decode (px_cc M_L_law) 991 = .ok (.laload, 1) := by decide +kernel
theorem d_L_law_992 : decode (px_cc M_L_law) 992 = .ok (.iload 6, 2) := by decide +kernel
theorem d_L_law_994 : decode (px_cc M_L_law) 994 = .ok (.i2l, 1) := by decide +kernel
theorem d_L_law_995 : decode (px_cc M_L_law) 995 = .ok (.lcmp, 1) := by decide +kernel
theorem d_L_law_996 : decode (px_cc M_L_law) 996 = .ok (.ifCond .eq 5, 3) := by decide +kernel
theorem d_L_law_999 : decode (px_cc M_L_law) 999 = .ok (.iconst 0, 1) := by decide +kernel
theorem d_L_law_1000 : decode (px_cc M_L_law) 1000 = .ok (.ireturn, 1) := by decide +kernel
theorem d_L_law_1001 : decode (px_cc M_L_law) 1001 = .ok (.goto 140, 3) := by decide +kernel
theorem d_L_law_1004 : decode (px_cc M_L_law) 1004 = .ok (.aload_n 1, 1) := by decide +kernel
theorem d_L_law_1005 : decode (px_cc M_L_law) 1005 = .ok (.aload_n 0, 1) := by decide +kernel
theorem d_L_law_1006 : decode (px_cc M_L_law) 1006 = .ok (.iload 4, 2) := by decide +kernel
theorem d_L_law_1008 : decode (px_cc M_L_law) 1008 = .ok (.iconst 1, 1) := by decide +kernel
theorem d_L_law_1009 : decode (px_cc M_L_law) 1009 = .ok (.iadd, 1) := by decide +kernel
theorem d_L_law_1010 : decode (px_cc M_L_law) 1010 = .ok (.iaload, 1) := by decide +kernel
theorem d_L_law_1011 : decode (px_cc M_L_law) 1011 = .ok (.aload_n 0, 1) := by decide +kernel
theorem d_L_law_1012 : decode (px_cc M_L_law) 1012 = .ok (.iload 4, 2) := by decide +kernel
theorem d_L_law_1014 : decode (px_cc M_L_law) 1014 = .ok (.iconst 2, 1) := by decide +kernel
theorem d_L_law_1015 : decode (px_cc M_L_law) 1015 = .ok (.iadd, 1) := by decide +kernel
theorem d_L_law_1016 : decode (px_cc M_L_law) 1016 = .ok (.iaload, 1) := by decide +kernel
theorem d_L_law_1017 : decode (px_cc M_L_law) 1017 = .ok (.invokevirtual 102, 3) := by decide +kernel
theorem d_L_law_1020 : decode (px_cc M_L_law) 1020 = .ok (.aload_n 2, 1) := by decide +kernel
theorem d_L_law_1021 : decode (px_cc M_L_law) 1021 = .ok (.aload_n 0, 1) := by decide +kernel
theorem d_L_law_1022 : decode (px_cc M_L_law) 1022 = .ok (.iload 4, 2) := by decide +kernel
theorem d_L_law_1024 : decode (px_cc M_L_law) 1024 = .ok (.iconst 1, 1) := by decide +kernel
theorem d_L_law_1025 : decode (px_cc M_L_law) 1025 = .ok (.iadd, 1) := by decide +kernel
theorem d_L_law_1026 : decode (px_cc M_L_law) 1026 = .ok (.iaload, 1) := by decide +kernel
theorem d_L_law_1027 : decode (px_cc M_L_law) 1027 = .ok (.aload_n 0, 1) := by decide +kernel
theorem d_L_law_1028 : decode (px_cc M_L_law) 1028 = .ok (.iload 4, 2) := by decide +kernel
theorem d_L_law_1030 : decode (px_cc M_L_law) 1030 = .ok (.iconst 2, 1) := by decide +kernel
theorem d_L_law_1031 : decode (px_cc M_L_law) 1031 = .ok (.iadd, 1) := by decide +kernel
theorem d_L_law_1032 : decode (px_cc M_L_law) 1032 = .ok (.iaload, 1) := by decide +kernel
theorem d_L_law_1033 : decode (px_cc M_L_law) 1033 = .ok (.invokevirtual 105, 3) := by decide +kernel
theorem d_L_law_1036 : decode (px_cc M_L_law) 1036 = .ok (.if_icmp .eq 105, 3) := by decide +kernel
theorem d_L_law_1039 : decode (px_cc M_L_law) 1039 = .ok (.iconst 0, 1) := by decide +kernel
theorem d_L_law_1040 : decode (px_cc M_L_law) 1040 = .ok (.ireturn, 1) := by decide +kernel
theorem d_L_law_1041 : decode (px_cc M_L_law) 1041 = .ok (.aload_n 1, 1) := by decide +kernel
theorem d_L_law_1042 : decode (px_cc M_L_law) 1042 = .ok (.aload_n 0, 1) := by decide +kernel
theorem d_L_law_1043 : decode (px_cc M_L_law) 1043 = .ok (.iload 4, 2) := by decide +kernel
theorem d_L_law_1045 : decode (px_cc M_L_law) 1045 = .ok (.iconst 1, 1) := by decide +kernel
theorem d_L_law_1046 : decode (px_cc M_L_law) 1046 = .ok (.iadd, 1) := by decide +kernel
theorem d_L_law_1047 : decode (px_cc M_L_law) 1047 = .ok (.iaload, 1) := by decide +kernel
theorem d_L_law_1048 : decode (px_cc M_L_law) 1048 = .ok (.aload_n 0, 1) := by decide +kernel
theorem d_L_law_1049 : decode (px_cc M_L_law) 1049 = .ok (.iload 4, 2) := by decide +kernel
theorem d_L_law_1051 : decode (px_cc M_L_law) 1051 = .ok (.iconst 2, 1) := by decide +kernel
theorem d_L_law_1052 : decode (px_cc M_L_law) 1052 = .ok (.iadd, 1) := by decide +kernel
theorem d_L_law_1053 : decode (px_cc M_L_law) 1053 = .ok (.iaload, 1) := by decide +kernel
theorem d_L_law_1054 : decode (px_cc M_L_law) 1054 = .ok (.invokevirtual 106, 3) := by decide +kernel
theorem d_L_law_1057 : decode (px_cc M_L_law) 1057 = .ok (.aload_n 2, 1) := by decide +kernel
theorem d_L_law_1058 : decode (px_cc M_L_law) 1058 = .ok (.aload_n 0, 1) := by decide +kernel
theorem d_L_law_1059 : decode (px_cc M_L_law) 1059 = .ok (.iload 4, 2) := by decide +kernel
theorem d_L_law_1061 : decode (px_cc M_L_law) 1061 = .ok (.iconst 1, 1) := by decide +kernel
theorem d_L_law_1062 : decode (px_cc M_L_law) 1062 = .ok (.iadd, 1) := by decide +kernel
theorem d_L_law_1063 : decode (px_cc M_L_law) 1063 = .ok (.iaload, 1) := by decide +kernel
theorem d_L_law_1064 : decode (px_cc M_L_law) 1064 = .ok (.aload_n 0, 1) := by decide +kernel
theorem d_L_law_1065 : decode (px_cc M_L_law) 1065 = .ok (.iload 4, 2) := by decide +kernel
theorem d_L_law_1067 : decode (px_cc M_L_law) 1067 = .ok (.iconst 2, 1) := by decide +kernel
theorem d_L_law_1068 : decode (px_cc M_L_law) 1068 = .ok (.iadd, 1) := by decide +kernel
theorem d_L_law_1069 : decode (px_cc M_L_law) 1069 = .ok (.iaload, 1) := by decide +kernel
theorem d_L_law_1070 : decode (px_cc M_L_law) 1070 = .ok (.invokevirtual 109, 3) := by decide +kernel
theorem d_L_law_1073 : decode (px_cc M_L_law) 1073 = .ok (.if_icmp .eq 68, 3) := by decide +kernel
theorem d_L_law_1076 : decode (px_cc M_L_law) 1076 = .ok (.iconst 0, 1) := by decide +kernel
theorem d_L_law_1077 : decode (px_cc M_L_law) 1077 = .ok (.ireturn, 1) := by decide +kernel
theorem d_L_law_1078 : decode (px_cc M_L_law) 1078 = .ok (.aload_n 1, 1) := by decide +kernel
theorem d_L_law_1079 : decode (px_cc M_L_law) 1079 = .ok (.invokevirtual 110, 3) := by decide +kernel
theorem d_L_law_1082 : decode (px_cc M_L_law) 1082 = .ok (.aload_n 2, 1) := by decide +kernel
theorem d_L_law_1083 : decode (px_cc M_L_law) 1083 = .ok (.invokevirtual 113, 3) := by decide +kernel
theorem d_L_law_1086 : decode (px_cc M_L_law) 1086 = .ok (.if_icmp .eq 55, 3) := by decide +kernel
theorem d_L_law_1089 : decode (px_cc M_L_law) 1089 = .ok (.iconst 0, 1) := by decide +kernel
theorem d_L_law_1090 : decode (px_cc M_L_law) 1090 = .ok (.ireturn, 1) := by decide +kernel
theorem d_L_law_1091 : decode (px_cc M_L_law) 1091 = .ok (.aload_n 1, 1) := by decide +kernel
theorem d_L_law_1092 : decode (px_cc M_L_law) 1092 = .ok (.aload_n 0, 1) := by decide +kernel
theorem d_L_law_1093 : decode (px_cc M_L_law) 1093 = .ok (.iload 4, 2) := by decide +kernel
theorem d_L_law_1095 : decode (px_cc M_L_law) 1095 = .ok (.iconst 1, 1) := by decide +kernel
theorem d_L_law_1096 : decode (px_cc M_L_law) 1096 = .ok (.iadd, 1) := by decide +kernel
theorem d_L_law_1097 : decode (px_cc M_L_law) 1097 = .ok (.iaload, 1) := by decide +kernel
theorem d_L_law_1098 : decode (px_cc M_L_law) 1098 = .ok (.invokevirtual 114, 3) := by decide +kernel
theorem d_L_law_1101 : decode (px_cc M_L_law) 1101 = .ok (.aload_n 2, 1) := by decide +kernel
theorem d_L_law_1102 : decode (px_cc M_L_law) 1102 = .ok (.aload_n 0, 1) := by decide +kernel
theorem d_L_law_1103 : decode (px_cc M_L_law) 1103 = .ok (.iload 4, 2) := by decide +kernel
theorem d_L_law_1105 : decode (px_cc M_L_law) 1105 = .ok (.iconst 1, 1) := by decide +kernel
theorem d_L_law_1106 : decode (px_cc M_L_law) 1106 = .ok (.iadd, 1) := by decide +kernel
theorem d_L_law_1107 : decode (px_cc M_L_law) 1107 = .ok (.iaload, 1) := by decide +kernel
theorem d_L_law_1108 : decode (px_cc M_L_law) 1108 = .ok (.invokevirtual 117, 3) := by decide +kernel
theorem d_L_law_1111 : decode (px_cc M_L_law) 1111 = .ok (.if_icmp .eq 30, 3) := by decide +kernel
theorem d_L_law_1114 : decode (px_cc M_L_law) 1114 = .ok (.iconst 0, 1) := by decide +kernel
theorem d_L_law_1115 : decode (px_cc M_L_law) 1115 = .ok (.ireturn, 1) := by decide +kernel
theorem d_L_law_1116 : decode (px_cc M_L_law) 1116 = .ok (.aload_n 1, 1) := by decide +kernel
theorem d_L_law_1117 : decode (px_cc M_L_law) 1117 = .ok (.aload_n 0, 1) := by decide +kernel
theorem d_L_law_1118 : decode (px_cc M_L_law) 1118 = .ok (.iload 4, 2) := by decide +kernel
theorem d_L_law_1120 : decode (px_cc M_L_law) 1120 = .ok (.iconst 1, 1) := by decide +kernel
theorem d_L_law_1121 : decode (px_cc M_L_law) 1121 = .ok (.iadd, 1) := by decide +kernel
theorem d_L_law_1122 : decode (px_cc M_L_law) 1122 = .ok (.iaload, 1) := by decide +kernel
theorem d_L_law_1123 : decode (px_cc M_L_law) 1123 = .ok (.invokevirtual 118, 3) := by decide +kernel
theorem d_L_law_1126 : decode (px_cc M_L_law) 1126 = .ok (.aload_n 2, 1) := by decide +kernel
theorem d_L_law_1127 : decode (px_cc M_L_law) 1127 = .ok (.aload_n 0, 1) := by decide +kernel
theorem d_L_law_1128 : decode (px_cc M_L_law) 1128 = .ok (.iload 4, 2) := by decide +kernel
theorem d_L_law_1130 : decode (px_cc M_L_law) 1130 = .ok (.iconst 1, 1) := by decide +kernel
theorem d_L_law_1131 : decode (px_cc M_L_law) 1131 = .ok (.iadd, 1) := by decide +kernel
theorem d_L_law_1132 : decode (px_cc M_L_law) 1132 = .ok (.iaload, 1) := by decide +kernel
theorem d_L_law_1133 : decode (px_cc M_L_law) 1133 = .ok (.invokevirtual 121, 3) := by decide +kernel
theorem d_L_law_1136 : decode (px_cc M_L_law) 1136 = .ok (.if_icmp .eq 5, 3) := by decide +kernel
theorem d_L_law_1139 : decode (px_cc M_L_law) 1139 = .ok (.iconst 0, 1) := by decide +kernel
theorem d_L_law_1140 : decode (px_cc M_L_law) 1140 = .ok (.ireturn, 1) := by decide +kernel
theorem d_L_law_1141 : decode (px_cc M_L_law) 1141 = .ok (.iinc 4 7, 3) := by decide +kernel
theorem d_L_law_1144 : decode (px_cc M_L_law) 1144 = .ok (.goto (-1121), 3) := by decide +kernel
theorem d_L_law_1147 : decode (px_cc M_L_law) 1147 = .ok (.iconst 1, 1) := by decide +kernel
theorem d_L_law_1148 : decode (px_cc M_L_law) 1148 = .ok (.ireturn, 1) := by decide +kernel
