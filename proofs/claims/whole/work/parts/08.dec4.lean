theorem d_X12_isSign_25 : decode (px_cc M_X12_isSign) 25 = .ok (.getfield 184, 3) := by decide +kernel
theorem d_X12_isSign_28 : decode (px_cc M_X12_isSign) 28 = .ok (.laload, 1) := by decide +kernel
theorem d_X12_isSign_29 : decode (px_cc M_X12_isSign) 29 = .ok (.iload_n 1, 1) := by decide +kernel
theorem d_X12_isSign_30 : decode (px_cc M_X12_isSign) 30 = .ok (.i2l, 1) := by decide +kernel
theorem d_X12_isSign_31 : decode (px_cc M_X12_isSign) 31 = .ok (.lcmp, 1) := by decide +kernel
theorem d_X12_isSign_32 : decode (px_cc M_X12_isSign) 32 = .ok (.ifCond .ne 7, 3) := by decide +kernel
theorem d_X12_isSign_35 : decode (px_cc M_X12_isSign) 35 = .ok (.iconst 1, 1) := by decide +kernel
theorem d_X12_isSign_36 : decode (px_cc M_X12_isSign) 36 = .ok (.goto 4, 3) := by decide +kernel
theorem d_X12_isSign_39 : decode (px_cc M_X12_isSign) 39 = .ok (.iconst 0, 1) := by decide +kernel
theorem d_X12_isSign_40 : decode (px_cc M_X12_isSign) 40 = .ok (.ireturn, 1) := by decide +kernel
theorem d_X12_isWord_0 : decode (px_cc M_X12_isWord) 0 = .ok (.aload_n 0, 1) := by decide +kernel
theorem d_X12_isWord_1 : decode (px_cc M_X12_isWord) 1 = .ok (.getfield 187, 3) := by decide +kernel
theorem d_X12_isWord_4 : decode (px_cc M_X12_isWord) 4 = .ok (.ifCond .ne 39, 3) := by decide +kernel
theorem d_X12_isWord_7 : decode (px_cc M_X12_isWord) 7 = .ok (.aload_n 0, 1) := by decide +kernel
theorem d_X12_isWord_8 : decode (px_cc M_X12_isWord) 8 = .ok (.getfield 13, 3) := by decide +kernel
theorem d_X12_isWord_11 : decode (px_cc M_X12_isWord) 11 = .ok (.aload_n 0, 1) := by decide +kernel
theorem d_X12_isWord_12 : decode (px_cc M_X12_isWord) 12 = .ok (.getfield 184, 3) := by decide +kernel
theorem d_X12_isWord_15 : decode (px_cc M_X12_isWord) 15 = .ok (.iaload, 1) := by decide +kernel
theorem d_X12_isWord_16 : decode (px_cc M_X12_isWord) 16 = .ok (.iconst 1, 1) := by decide +kernel
theorem d_X12_isWord_17 : decode (px_cc M_X12_isWord) 17 = .ok (.if_icmp .ne 26, 3) := by decide +kernel
theorem d_X12_isWord_20 : decode (px_cc M_X12_isWord) 20 = .ok (.aload_n 0, 1) := by decide +kernel
theorem d_X12_isWord_21 : decode (px_cc M_X12_isWord) 21 = .ok (.getfield 19, 3) := by decide +kernel
theorem d_X12_isWord_24 : decode (px_cc M_X12_isWord) 24 = .ok (.aload_n 0, 1) := by decide +kernel
theorem d_X12_isWord_25 : decode (px_cc M_X12_isWord) 25 = .ok (.getfield 184, 3) := by decide +kernel
theorem d_X12_isWord_28 : decode (px_cc M_X12_isWord) 28 = .ok (.laload, 1) := by decide +kernel
theorem d_X12_isWord_29 : decode (px_cc M_X12_isWord) 29 = .ok (.aload_n 0, 1) := by decide +kernel
theorem d_X12_isWord_30 : decode (px_cc M_X12_isWord) 30 = .ok (.getfield 41, 3) := by decide +kernel
theorem d_X12_isWord_33 : decode (px_cc M_X12_isWord) 33 = .ok (.iload_n 1, 1) := by decide +kernel
theorem d_X12_isWord_34 : decode (px_cc M_X12_isWord) 34 = .ok (.laload, 1) := by decide +kernel
theorem d_X12_isWord_35 : decode (px_cc M_X12_isWord) 35 = .ok (.lcmp, 1) := by decide +kernel
theorem d_X12_isWord_36 : decode (px_cc M_X12_isWord) 36 = .ok (.ifCond .ne 7, 3) := by decide +kernel
theorem d_X12_isWord_39 : decode (px_cc M_X12_isWord) 39 = .ok (.iconst 1, 1) := by decide +kernel
theorem d_X12_isWord_40 : decode (px_cc M_X12_isWord) 40 = .ok (.goto 4, 3) := by decide +kernel
theorem d_X12_isWord_43 : decode (px_cc M_X12_isWord) 43 = .ok (.iconst 0, 1) := by decide +kernel
theorem d_X12_isWord_44 : decode (px_cc M_X12_isWord) 44 = .ok (.ireturn, 1) := by decide +kernel
theorem d_X12_takeSign_0 : decode (px_cc M_X12_takeSign) 0 = .ok (.aload_n 0, 1) := by decide +kernel
theorem d_X12_takeSign_1 : decode (px_cc M_X12_takeSign) 1 = .ok (.iload_n 1, 1) := by decide +kernel
theorem d_X12_takeSign_2 : decode (px_cc M_X12_takeSign) 2 = .ok (.invokevirtual 190, 3) := by decide +kernel
theorem d_X12_takeSign_5 : decode (px_cc M_X12_takeSign) 5 = .ok (.ifCond .eq 16, 3) := by decide +kernel
theorem d_X12_takeSign_8 : decode (px_cc M_X12_takeSign) 8 = .ok (.aload_n 0, 1) := by decide +kernel
theorem d_X12_takeSign_9 : decode (px_cc M_X12_takeSign) 9 = .ok (.dup, 1) := by decide +kernel
theorem d_X12_takeSign_10 : decode (px_cc M_X12_takeSign) 10 = .ok (.getfield 184, 3) := by decide +kernel
theorem d_X12_takeSign_13 : decode (px_cc M_X12_takeSign) 13 = .ok (.iconst 1, 1) := by decide +kernel
theorem d_X12_takeSign_14 : decode (px_cc M_X12_takeSign) 14 = .ok (.iadd, 1) := by decide +kernel
theorem d_X12_takeSign_15 : decode (px_cc M_X12_takeSign) 15 = .ok (.putfield 184, 3) := by decide +kernel
theorem d_X12_takeSign_18 : decode (px_cc M_X12_takeSign) 18 = .ok (.goto 8, 3) := by decide +kernel
theorem d_X12_takeSign_21 : decode (px_cc M_X12_takeSign) 21 = .ok (.aload_n 0, 1) := by decide +kernel
theorem d_X12_takeSign_22 : decode (px_cc M_X12_takeSign) 22 = .ok (.iconst 1, 1) := by decide +kernel
theorem d_X12_takeSign_23 : decode (px_cc M_X12_takeSign) 23 = .ok (.invokevirtual 193, 3) := by decide +kernel
theorem d_X12_takeSign_26 : decode (px_cc M_X12_takeSign) 26 = .ok (.return_, 1) := by decide +kernel
theorem d_X12_hasSign_0 : decode (px_cc M_X12_hasSign) 0 = .ok (.aload_n 0, 1) := by decide +kernel
theorem d_X12_hasSign_1 : decode (px_cc M_X12_hasSign) 1 = .ok (.iload_n 1, 1) := by decide +kernel
theorem d_X12_hasSign_2 : decode (px_cc M_X12_hasSign) 2 = .ok (.invokevirtual 190, 3) := by decide +kernel
theorem d_X12_hasSign_5 : decode (px_cc M_X12_hasSign) 5 = .ok (.istore_n 2, 1) := by decide +kernel
theorem d_X12_hasSign_6 : decode (px_cc M_X12_hasSign) 6 = .ok (.aload_n 0, 1) := by decide +kernel
theorem d_X12_hasSign_7 : decode (px_cc M_X12_hasSign) 7 = .ok (.dup, 1) := by decide +kernel
theorem d_X12_hasSign_8 : decode (px_cc M_X12_hasSign) 8 = .ok (.getfield 184, 3) := by decide +kernel
theorem d_X12_hasSign_11 : decode (px_cc M_X12_hasSign) 11 = .ok (.iload_n 2, 1) := by decide +kernel
theorem d_X12_hasSign_12 : decode (px_cc M_X12_hasSign) 12 = .ok (.ifCond .eq 7, 3) := by decide +kernel
theorem d_X12_hasSign_15 : decode (px_cc M_X12_hasSign) 15 = .ok (.iconst 1, 1) := by decide +kernel
theorem d_X12_hasSign_16 : decode (px_cc M_X12_hasSign) 16 = .ok (.goto 4, 3) := by decide +kernel
theorem d_X12_hasSign_19 : decode (px_cc M_X12_hasSign) 19 = .ok (.iconst 0, 1) := by decide +kernel
theorem d_X12_hasSign_20 : decode (px_cc M_X12_hasSign) 20 = .ok (.iadd, 1) := by decide +kernel
theorem d_X12_hasSign_21 : decode (px_cc M_X12_hasSign) 21 = .ok (.putfield 184, 3) := by decide +kernel
theorem d_X12_hasSign_24 : decode (px_cc M_X12_hasSign) 24 = .ok (.iload_n 2, 1) := by decide +kernel
theorem d_X12_hasSign_25 : decode (px_cc M_X12_hasSign) 25 = .ok (.ireturn, 1) := by decide +kernel
theorem d_X12_hasWord_0 : decode (px_cc M_X12_hasWord) 0 = .ok (.aload_n 0, 1) := by decide +kernel
theorem d_X12_hasWord_1 : decode (px_cc M_X12_hasWord) 1 = .ok (.iload_n 1, 1) := by decide +kernel
theorem d_X12_hasWord_2 : decode (px_cc M_X12_hasWord) 2 = .ok (.invokevirtual 197, 3) := by decide +kernel
theorem d_X12_hasWord_5 : decode (px_cc M_X12_hasWord) 5 = .ok (.istore_n 2, 1) := by decide +kernel
theorem d_X12_hasWord_6 : decode (px_cc M_X12_hasWord) 6 = .ok (.aload_n 0, 1) := by decide +kernel
theorem d_X12_hasWord_7 : decode (px_cc M_X12_hasWord) 7 = .ok (.dup, 1) := by decide +kernel
theorem d_X12_hasWord_8 : decode (px_cc M_X12_hasWord) 8 = .ok (.getfield 184, 3) := by decide +kernel
theorem d_X12_hasWord_11 : decode (px_cc M_X12_hasWord) 11 = .ok (.iload_n 2, 1) := by decide +kernel
theorem d_X12_hasWord_12 : decode (px_cc M_X12_hasWord) 12 = .ok (.ifCond .eq 7, 3) := by decide +kernel
theorem d_X12_hasWord_15 : decode (px_cc M_X12_hasWord) 15 = .ok (.iconst 1, 1) := by decide +kernel
theorem d_X12_hasWord_16 : decode (px_cc M_X12_hasWord) 16 = .ok (.goto 4, 3) := by decide +kernel
theorem d_X12_hasWord_19 : decode (px_cc M_X12_hasWord) 19 = .ok (.iconst 0, 1) := by decide +kernel
theorem d_X12_hasWord_20 : decode (px_cc M_X12_hasWord) 20 = .ok (.iadd, 1) := by decide +kernel
theorem d_X12_hasWord_21 : decode (px_cc M_X12_hasWord) 21 = .ok (.putfield 184, 3) := by decide +kernel
theorem d_X12_hasWord_24 : decode (px_cc M_X12_hasWord) 24 = .ok (.iload_n 2, 1) := by decide +kernel
theorem d_X12_hasWord_25 : decode (px_cc M_X12_hasWord) 25 = .ok (.ireturn, 1) := by decide +kernel
theorem d_X12_takeWord_0 : decode (px_cc M_X12_takeWord) 0 = .ok (.aload_n 0, 1) := by decide +kernel
theorem d_X12_takeWord_1 : decode (px_cc M_X12_takeWord) 1 = .ok (.iload_n 1, 1) := by decide +kernel
theorem d_X12_takeWord_2 : decode (px_cc M_X12_takeWord) 2 = .ok (.invokevirtual 200, 3) := by decide +kernel
theorem d_X12_takeWord_5 : decode (px_cc M_X12_takeWord) 5 = .ok (.ifCond .ne 8, 3) := by decide +kernel
theorem d_X12_takeWord_8 : decode (px_cc M_X12_takeWord) 8 = .ok (.aload_n 0, 1) := by decide +kernel
theorem d_X12_takeWord_9 : decode (px_cc M_X12_takeWord) 9 = .ok (.iconst 1, 1) := by decide +kernel
theorem d_X12_takeWord_10 : decode (px_cc M_X12_takeWord) 10 = .ok (.invokevirtual 193, 3) := by decide +kernel
theorem d_X12_takeWord_13 : decode (px_cc M_X12_takeWord) 13 = .ok (.return_, 1) := by decide +kernel
theorem d_X12_emit_0 : decode (px_cc M_X12_emit) 0 = .ok (.aload_n 0, 1) := by decide +kernel
theorem d_X12_emit_1 : decode (px_cc M_X12_emit) 1 = .ok (.getfield 63, 3) := by decide +kernel
theorem d_X12_emit_4 : decode (px_cc M_X12_emit) 4 = .ok (.sipush 5280, 3) := by decide +kernel
theorem d_X12_emit_7 : decode (px_cc M_X12_emit) 7 = .ok (.aload_n 0, 1) := by decide +kernel
theorem d_X12_emit_8 : decode (px_cc M_X12_emit) 8 = .ok (.getfield 203, 3) := by decide +kernel
theorem d_X12_emit_11 : decode (px_cc M_X12_emit) 11 = .ok (.iadd, 1) := by decide +kernel
theorem d_X12_emit_12 : decode (px_cc M_X12_emit) 12 = .ok (.iload_n 1, 1) := by decide +kernel
theorem d_X12_emit_13 : decode (px_cc M_X12_emit) 13 = .ok (.iastore, 1) := by decide +kernel
theorem d_X12_emit_14 : decode (px_cc M_X12_emit) 14 = .ok (.aload_n 0, 1) := by decide +kernel
theorem d_X12_emit_15 : decode (px_cc M_X12_emit) 15 = .ok (.getfield 66, 3) := by decide +kernel
theorem d_X12_emit_18 : decode (px_cc M_X12_emit) 18 = .ok (.sipush 5280, 3) := by decide +kernel
theorem d_X12_emit_21 : decode (px_cc M_X12_emit) 21 = .ok (.aload_n 0, 1) := by decide +kernel
theorem d_X12_emit_22 : decode (px_cc M_X12_emit) 22 = .ok (.getfield 203, 3) := by decide +kernel
theorem d_X12_emit_25 : decode (px_cc M_X12_emit) 25 = .ok (.iadd, 1) := by decide +kernel
theorem d_X12_emit_26 : decode (px_cc M_X12_emit) 26 = .ok (.iload_n 2, 1) := by decide +kernel
theorem d_X12_emit_27 : decode (px_cc M_X12_emit) 27 = .ok (.iastore, 1) := by decide +kernel
theorem d_X12_emit_28 : decode (px_cc M_X12_emit) 28 = .ok (.aload_n 0, 1) := by decide +kernel
theorem d_X12_emit_29 : decode (px_cc M_X12_emit) 29 = .ok (.dup, 1) := by decide +kernel
theorem d_X12_emit_30 : decode (px_cc M_X12_emit) 30 = .ok (.getfield 203, 3) := by decide +kernel
theorem d_X12_emit_33 : decode (px_cc M_X12_emit) 33 = .ok (.iconst 1, 1) := by decide +kernel
theorem d_X12_emit_34 : decode (px_cc M_X12_emit) 34 = .ok (.iadd, 1) := by decide +kernel
theorem d_X12_emit_35 : decode (px_cc M_X12_emit) 35 = .ok (.putfield 203, 3) := by decide +kernel
theorem d_X12_emit_38 : decode (px_cc M_X12_emit) 38 = .ok (.return_, 1) := by decide +kernel
theorem d_X12_text_0 : decode (px_cc M_X12_text) 0 = .ok (.aload_n 0, 1) := by decide +kernel
theorem d_X12_text_1 : decode (px_cc M_X12_text) 1 = .ok (.iconst 0, 1) := by decide +kernel
theorem d_X12_text_2 : decode (px_cc M_X12_text) 2 = .ok (.putfield 150, 3) := by decide +kernel
theorem d_X12_text_5 : decode (px_cc M_X12_text) 5 = .ok (.iload_n 1, 1) := by decide +kernel
theorem d_X12_text_6 : decode (px_cc M_X12_text) 6 = .ok (.ifCond .lt 41, 3) := by decide +kernel
theorem d_X12_text_9 : decode (px_cc M_X12_text) 9 = .ok (.iload_n 1, 1) := by decide +kernel
theorem d_X12_text_10 : decode (px_cc M_X12_text) 10 = .ok (.sipush 719, 3) := by decide +kernel
theorem d_X12_text_13 : decode (px_cc M_X12_text) 13 = .ok (.if_icmp .gt 34, 3) := by decide +kernel
theorem d_X12_text_16 : decode (px_cc M_X12_text) 16 = .ok (.aload_n 0, 1) := by decide +kernel
theorem d_X12_text_17 : decode (px_cc M_X12_text) 17 = .ok (.getfield 206, 3) := by decide +kernel
theorem d_X12_text_20 : decode (px_cc M_X12_text) 20 = .ok (.bipush 8, 2) := by decide +kernel
theorem d_X12_text_22 : decode (px_cc M_X12_text) 22 = .ok (.if_icmp .eq 25, 3) := by decide +kernel
theorem d_X12_text_25 : decode (px_cc M_X12_text) 25 = .ok (.aload_n 0, 1) := by decide +kernel
theorem d_X12_text_26 : decode (px_cc M_X12_text) 26 = .ok (.getfield 206, 3) := by decide +kernel
theorem d_X12_text_29 : decode (px_cc M_X12_text) 29 = .ok (.ifCond .le 25, 3) := by decide +kernel
theorem d_X12_text_32 : decode (px_cc M_X12_text) 32 = .ok (.iload_n 1, 1) := by decide +kernel
theorem d_X12_text_33 : decode (px_cc M_X12_text) 33 = .ok (.aload_n 0, 1) := by decide +kernel
theorem d_X12_text_34 : decode (px_cc M_X12_text) 34 = .ok (.getfield 44, 3) := by decide +kernel
theorem d_X12_text_37 : decode (px_cc M_X12_text) 37 = .ok (.aload_n 0, 1) := by decide +kernel
theorem d_X12_text_38 : decode (px_cc M_X12_text) 38 = .ok (.getfield 206, 3) := by decide +kernel
theorem d_X12_text_41 : decode (px_cc M_X12_text) 41 = .ok (.iconst 1, 1) := by decide +kernel
theorem d_X12_text_42 : decode (px_cc M_X12_text) 42 = .ok (.isub, 1) := by decide +kernel
theorem d_X12_text_43 : decode (px_cc M_X12_text) 43 = .ok (.iaload, 1) := by decide +kernel
theorem d_X12_text_44 : decode (px_cc M_X12_text) 44 = .ok (.if_icmp .gt 10, 3) := by decide +kernel
theorem d_X12_text_47 : decode (px_cc M_X12_text) 47 = .ok (.aload_n 0, 1) := by decide +kernel
theorem d_X12_text_48 : decode (px_cc M_X12_text) 48 = .ok (.iconst 0, 1) := by decide +kernel
theorem d_X12_text_49 : decode (px_cc M_X12_text) 49 = .ok (.putfield 158, 3) := by decide +kernel
theorem d_X12_text_52 : decode (px_cc M_X12_text) 52 = .ok (.iconst (-1), 1) := by decide +kernel
theorem d_X12_text_53 : decode (px_cc M_X12_text) 53 = .ok (.ireturn, 1) := by decide +kernel
theorem d_X12_text_54 : decode (px_cc M_X12_text) 54 = .ok (.aload_n 0, 1) := by decide +kernel
theorem d_X12_text_55 : decode (px_cc M_X12_text) 55 = .ok (.invokevirtual 209, 3) := by decide +kernel
theorem d_X12_text_58 : decode (px_cc M_X12_text) 58 = .ok (.aload_n 0, 1) := by decide +kernel
theorem d_X12_text_59 : decode (px_cc M_X12_text) 59 = .ok (.getfield 50, 3) := by decide +kernel
theorem d_X12_text_62 : decode (px_cc M_X12_text) 62 = .ok (.bipush 8, 2) := by decide +kernel
theorem d_X12_text_64 : decode (px_cc M_X12_text) 64 = .ok (.iconst 0, 1) := by decide +kernel
theorem d_X12_text_65 : decode (px_cc M_X12_text) 65 = .ok (.iastore, 1) := by decide +kernel
theorem d_X12_text_66 : decode (px_cc M_X12_text) 66 = .ok (.aload_n 0, 1) := by decide +kernel
theorem d_X12_text_67 : decode (px_cc M_X12_text) 67 = .ok (.iconst 0, 1) := by decide +kernel
theorem d_X12_text_68 : decode (px_cc M_X12_text) 68 = .ok (.putfield 203, 3) := by decide +kernel
theorem d_X12_text_71 : decode (px_cc M_X12_text) 71 = .ok (.aload_n 0, 1) := by decide +kernel
theorem d_X12_text_72 : decode (px_cc M_X12_text) 72 = .ok (.getfield 187, 3) := by decide +kernel
theorem d_X12_text_75 : decode (px_cc M_X12_text) 75 = .ok (.ifCond .ne 22, 3) := by decide +kernel
theorem d_X12_text_78 : decode (px_cc M_X12_text) 78 = .ok (.aload_n 0, 1) := by decide +kernel
theorem d_X12_text_79 : decode (px_cc M_X12_text) 79 = .ok (.getfield 13, 3) := by decide +kernel
theorem d_X12_text_82 : decode (px_cc M_X12_text) 82 = .ok (.aload_n 0, 1) := by decide +kernel
theorem d_X12_text_83 : decode (px_cc M_X12_text) 83 = .ok (.getfield 184, 3) := by decide +kernel
theorem d_X12_text_86 : decode (px_cc M_X12_text) 86 = .ok (.iaload, 1) := by decide +kernel
theorem d_X12_text_87 : decode (px_cc M_X12_text) 87 = .ok (.ifCond .eq 10, 3) := by decide +kernel
theorem d_X12_text_90 : decode (px_cc M_X12_text) 90 = .ok (.aload_n 0, 1) := by decide +kernel
theorem d_X12_text_91 : decode (px_cc M_X12_text) 91 = .ok (.invokevirtual 212, 3) := by decide +kernel
theorem d_X12_text_94 : decode (px_cc M_X12_text) 94 = .ok (.goto (-23), 3) := by decide +kernel
theorem d_X12_text_97 : decode (px_cc M_X12_text) 97 = .ok (.aload_n 0, 1) := by decide +kernel
theorem d_X12_text_98 : decode (px_cc M_X12_text) 98 = .ok (.getfield 187, 3) := by decide +kernel
theorem d_X12_text_101 : decode (px_cc M_X12_text) 101 = .ok (.ifCond .ne 8, 3) := by decide +kernel
theorem d_X12_text_104 : decode (px_cc M_X12_text) 104 = .ok (.aload_n 0, 1) := by decide +kernel
theorem d_X12_text_105 : decode (px_cc M_X12_text) 105 = .ok (.iload_n 1, 1) := by decide +kernel
theorem d_X12_text_106 : decode (px_cc M_X12_text) 106 = .ok (.invokevirtual 215, 3) := by decide +kernel
theorem d_X12_text_109 : decode (px_cc M_X12_text) 109 = .ok (.aload_n 0, 1) := by decide +kernel
theorem d_X12_text_110 : decode (px_cc M_X12_text) 110 = .ok (.getfield 187, 3) := by decide +kernel
theorem d_X12_text_113 : decode (px_cc M_X12_text) 113 = .ok (.ireturn, 1) := by decide +kernel
theorem d_X12_keeps_0 : decode (px_cc M_X12_keeps) 0 = .ok (.iconst 0, 1) := by decide +kernel
theorem d_X12_keeps_1 : decode (px_cc M_X12_keeps) 1 = .ok (.istore_n 2, 1) := by decide +kernel
theorem d_X12_keeps_2 : decode (px_cc M_X12_keeps) 2 = .ok (.iload_n 2, 1) := by decide +kernel
theorem d_X12_keeps_3 : decode (px_cc M_X12_keeps) 3 = .ok (.bipush 16, 2) := by decide +kernel
theorem d_X12_keeps_5 : decode (px_cc M_X12_keeps) 5 = .ok (.if_icmp .ge 81, 3) := by decide +kernel
theorem d_X12_keeps_8 : decode (px_cc M_X12_keeps) 8 = .ok (.aload_n 0, 1) := by decide +kernel
theorem d_X12_keeps_9 : decode (px_cc M_X12_keeps) 9 = .ok (.getfield 53, 3) := by decide +kernel
theorem d_X12_keeps_12 : decode (px_cc M_X12_keeps) 12 = .ok (.bipush 16, 2) := by decide +kernel
theorem d_X12_keeps_14 : decode (px_cc M_X12_keeps) 14 = .ok (.aload_n 0, 1) := by decide +kernel
theorem d_X12_keeps_15 : decode (px_cc M_X12_keeps) 15 = .ok (.getfield 206, 3) := by decide +kernel
theorem d_X12_keeps_18 : decode (px_cc M_X12_keeps) 18 = .ok (.imul, 1) := by decide +kernel
theorem d_X12_keeps_19 : decode (px_cc M_X12_keeps) 19 = .ok (.iload_n 2, 1) := by decide +kernel
theorem d_X12_keeps_20 : decode (px_cc M_X12_keeps) 20 = .ok (.iadd, 1) := by decide +kernel
theorem d_X12_keeps_21 : decode (px_cc M_X12_keeps) 21 = .ok (.aload_n 0, 1) := by decide +kernel
theorem d_X12_keeps_22 : decode (px_cc M_X12_keeps) 22 = .ok (.getfield 53, 3) := by decide +kernel
theorem d_X12_keeps_25 : decode (px_cc M_X12_keeps) 25 = .ok (.sipush 128, 3) := by decide +kernel
theorem d_X12_keeps_28 : decode (px_cc M_X12_keeps) 28 = .ok (.iload_n 2, 1) := by decide +kernel
theorem d_X12_keeps_29 : decode (px_cc M_X12_keeps) 29 = .ok (.iadd, 1) := by decide +kernel
theorem d_X12_keeps_30 : decode (px_cc M_X12_keeps) 30 = .ok (.baload, 1) := by decide +kernel
theorem d_X12_keeps_31 : decode (px_cc M_X12_keeps) 31 = .ok (.bastore, 1) := by decide +kernel
theorem d_X12_keeps_32 : decode (px_cc M_X12_keeps) 32 = .ok (.aload_n 0, 1) := by decide +kernel
theorem d_X12_keeps_33 : decode (px_cc M_X12_keeps) 33 = .ok (.getfield 57, 3) := by decide +kernel
theorem d_X12_keeps_36 : decode (px_cc M_X12_keeps) 36 = .ok (.bipush 16, 2) := by decide +kernel
theorem d_X12_keeps_38 : decode (px_cc M_X12_keeps) 38 = .ok (.aload_n 0, 1) := by decide +kernel
theorem d_X12_keeps_39 : decode (px_cc M_X12_keeps) 39 = .ok (.getfield 206, 3) := by decide +kernel
theorem d_X12_keeps_42 : decode (px_cc M_X12_keeps) 42 = .ok (.imul, 1) := by decide +kernel
theorem d_X12_keeps_43 : decode (px_cc M_X12_keeps) 43 = .ok (.iload_n 2, 1) := by decide +kernel
theorem d_X12_keeps_44 : decode (px_cc M_X12_keeps) 44 = .ok (.iadd, 1) := by decide +kernel
theorem d_X12_keeps_45 : decode (px_cc M_X12_keeps) 45 = .ok (.aload_n 0, 1) := by decide +kernel
theorem d_X12_keeps_46 : decode (px_cc M_X12_keeps) 46 = .ok (.getfield 57, 3) := by decide +kernel
theorem d_X12_keeps_49 : decode (px_cc M_X12_keeps) 49 = .ok (.sipush 128, 3) := by decide +kernel
theorem d_X12_keeps_52 : decode (px_cc M_X12_keeps) 52 = .ok (.iload_n 2, 1) := by decide +kernel
theorem d_X12_keeps_53 : decode (px_cc M_X12_keeps) 53 = .ok (.iadd, 1) := by decide +kernel
theorem d_X12_keeps_54 : decode (px_cc M_X12_keeps) 54 = .ok (.iaload, 1) := by decide +kernel
theorem d_X12_keeps_55 : decode (px_cc M_X12_keeps) 55 = .ok (.iastore, 1) := by decide +kernel
theorem d_X12_keeps_56 : decode (px_cc M_X12_keeps) 56 = .ok (.aload_n 0, 1) := by decide +kernel
theorem d_X12_keeps_57 : decode (px_cc M_X12_keeps) 57 = .ok (.getfield 60, 3) := by decide +kernel
theorem d_X12_keeps_60 : decode (px_cc M_X12_keeps) 60 = .ok (.bipush 16, 2) := by decide +kernel
theorem d_X12_keeps_62 : decode (px_cc M_X12_keeps) 62 = .ok (.aload_n 0, 1) := by decide +kernel
theorem d_X12_keeps_63 : decode (px_cc M_X12_keeps) 63 = .ok (.getfield 206, 3) := by decide +kernel
theorem d_X12_keeps_66 : decode (px_cc M_X12_keeps) 66 = .ok (.imul, 1) := by decide +kernel
theorem d_X12_keeps_67 : decode (px_cc M_X12_keeps) 67 = .ok (.iload_n 2, 1) := by decide +kernel
theorem d_X12_keeps_68 : decode (px_cc M_X12_keeps) 68 = .ok (.iadd, 1) := by decide +kernel
theorem d_X12_keeps_69 : decode (px_cc M_X12_keeps) 69 = .ok (.aload_n 0, 1) := by decide +kernel
theorem d_X12_keeps_70 : decode (px_cc M_X12_keeps) 70 = .ok (.getfield 60, 3) := by decide +kernel
theorem d_X12_keeps_73 : decode (px_cc M_X12_keeps) 73 = .ok (.sipush 128, 3) := by decide +kernel
theorem d_X12_keeps_76 : decode (px_cc M_X12_keeps) 76 = .ok (.iload_n 2, 1) := by decide +kernel
theorem d_X12_keeps_77 : decode (px_cc M_X12_keeps) 77 = .ok (.iadd, 1) := by decide +kernel
theorem d_X12_keeps_78 : decode (px_cc M_X12_keeps) 78 = .ok (.iaload, 1) := by decide +kernel
theorem d_X12_keeps_79 : decode (px_cc M_X12_keeps) 79 = .ok (.iastore, 1) := by decide +kernel
theorem d_X12_keeps_80 : decode (px_cc M_X12_keeps) 80 = .ok (.iinc 2 1, 3) := by decide +kernel
theorem d_X12_keeps_83 : decode (px_cc M_X12_keeps) 83 = .ok (.goto (-81), 3) := by decide +kernel
theorem d_X12_keeps_86 : decode (px_cc M_X12_keeps) 86 = .ok (.iconst 0, 1) := by decide +kernel
theorem d_X12_keeps_87 : decode (px_cc M_X12_keeps) 87 = .ok (.istore_n 2, 1) := by decide +kernel
theorem d_X12_keeps_88 : decode (px_cc M_X12_keeps) 88 = .ok (.iload_n 2, 1) := by decide +kernel
theorem d_X12_keeps_89 : decode (px_cc M_X12_keeps) 89 = .ok (.aload_n 0, 1) := by decide +kernel
theorem d_X12_keeps_90 : decode (px_cc M_X12_keeps) 90 = .ok (.getfield 203, 3) := by decide +kernel
theorem d_X12_keeps_93 : decode (px_cc M_X12_keeps) 93 = .ok (.if_icmp .ge 59, 3) := by decide +kernel
theorem d_X12_keeps_96 : decode (px_cc M_X12_keeps) 96 = .ok (.aload_n 0, 1) := by decide +kernel
theorem d_X12_keeps_97 : decode (px_cc M_X12_keeps) 97 = .ok (.getfield 63, 3) := by decide +kernel
theorem d_X12_keeps_100 : decode (px_cc M_X12_keeps) 100 = .ok (.sipush 660, 3) := by decide +kernel
theorem d_X12_keeps_103 : decode (px_cc M_X12_keeps) 103 = .ok (.aload_n 0, 1) := by decide +kernel
theorem d_X12_keeps_104 : decode (px_cc M_X12_keeps) 104 = .ok (.getfield 206, 3) := by decide +kernel
theorem d_X12_keeps_107 : decode (px_cc M_X12_keeps) 107 = .ok (.imul, 1) := by decide +kernel
theorem d_X12_keeps_108 : decode (px_cc M_X12_keeps) 108 = .ok (.iload_n 2, 1) := by decide +kernel
theorem d_X12_keeps_109 : decode (px_cc M_X12_keeps) 109 = .ok (.iadd, 1) := by decide +kernel
theorem d_X12_keeps_110 : decode (px_cc M_X12_keeps) 110 = .ok (.aload_n 0, 1) := by decide +kernel
theorem d_X12_keeps_111 : decode (px_cc M_X12_keeps) 111 = .ok (.getfield 63, 3) := by decide +kernel
theorem d_X12_keeps_114 : decode (px_cc M_X12_keeps) 114 = .ok (.sipush 5280, 3) := by decide +kernel
theorem d_X12_keeps_117 : decode (px_cc M_X12_keeps) 117 = .ok (.iload_n 2, 1) := by decide +kernel
theorem d_X12_keeps_118 : decode (px_cc M_X12_keeps) 118 = .ok (.iadd, 1) := by decide +kernel
theorem d_X12_keeps_119 : decode (px_cc M_X12_keeps) 119 = .ok (.iaload, 1) := by decide +kernel
theorem d_X12_keeps_120 : decode (px_cc M_X12_keeps) 120 = .ok (.iastore, 1) := by decide +kernel
theorem d_X12_keeps_121 : decode (px_cc M_X12_keeps) 121 = .ok (.aload_n 0, 1) := by decide +kernel
theorem d_X12_keeps_122 : decode (px_cc M_X12_keeps) 122 = .ok (.getfield 66, 3) := by decide +kernel
theorem d_X12_keeps_125 : decode (px_cc M_X12_keeps) 125 = .ok (.sipush 660, 3) := by decide +kernel
theorem d_X12_keeps_128 : decode (px_cc M_X12_keeps) 128 = .ok (.aload_n 0, 1) := by decide +kernel
theorem d_X12_keeps_129 : decode (px_cc M_X12_keeps) 129 = .ok (.getfield 206, 3) := by decide +kernel
theorem d_X12_keeps_132 : decode (px_cc M_X12_keeps) 132 = .ok (.imul, 1) := by decide +kernel
theorem d_X12_keeps_133 : decode (px_cc M_X12_keeps) 133 = .ok (.iload_n 2, 1) := by decide +kernel
theorem d_X12_keeps_134 : decode (px_cc M_X12_keeps) 134 = .ok (.iadd, 1) := by decide +kernel
theorem d_X12_keeps_135 : decode (px_cc M_X12_keeps) 135 = .ok (.aload_n 0, 1) := by decide +kernel
theorem d_X12_keeps_136 : decode (px_cc M_X12_keeps) 136 = .ok (.getfield 66, 3) := by decide +kernel
theorem d_X12_keeps_139 : decode (px_cc M_X12_keeps) 139 = .ok (.sipush 5280, 3) := by decide +kernel
theorem d_X12_keeps_142 : decode (px_cc M_X12_keeps) 142 = .ok (.iload_n 2, 1) := by decide +kernel
theorem d_X12_keeps_143 : decode (px_cc M_X12_keeps) 143 = .ok (.iadd, 1) := by decide +kernel
theorem d_X12_keeps_144 : decode (px_cc M_X12_keeps) 144 = .ok (.iaload, 1) := by decide +kernel
theorem d_X12_keeps_145 : decode (px_cc M_X12_keeps) 145 = .ok (.iastore, 1) := by decide +kernel
theorem d_X12_keeps_146 : decode (px_cc M_X12_keeps) 146 = .ok (.iinc 2 1, 3) := by decide +kernel
theorem d_X12_keeps_149 : decode (px_cc M_X12_keeps) 149 = .ok (.goto (-61), 3) := by decide +kernel
theorem d_X12_keeps_152 : decode (px_cc M_X12_keeps) 152 = .ok (.aload_n 0, 1) := by decide +kernel
theorem d_X12_keeps_153 : decode (px_cc M_X12_keeps) 153 = .ok (.getfield 50, 3) := by decide +kernel
theorem d_X12_keeps_156 : decode (px_cc M_X12_keeps) 156 = .ok (.aload_n 0, 1) := by decide +kernel
theorem d_X12_keeps_157 : decode (px_cc M_X12_keeps) 157 = .ok (.getfield 206, 3) := by decide +kernel
theorem d_X12_keeps_160 : decode (px_cc M_X12_keeps) 160 = .ok (.aload_n 0, 1) := by decide +kernel
theorem d_X12_keeps_161 : decode (px_cc M_X12_keeps) 161 = .ok (.getfield 50, 3) := by decide +kernel
theorem d_X12_keeps_164 : decode (px_cc M_X12_keeps) 164 = .ok (.bipush 8, 2) := by decide +kernel
theorem d_X12_keeps_166 : decode (px_cc M_X12_keeps) 166 = .ok (.iaload, 1) := by decide +kernel
theorem d_X12_keeps_167 : decode (px_cc M_X12_keeps) 167 = .ok (.iastore, 1) := by decide +kernel
theorem d_X12_keeps_168 : decode (px_cc M_X12_keeps) 168 = .ok (.aload_n 0, 1) := by decide +kernel
theorem d_X12_keeps_169 : decode (px_cc M_X12_keeps) 169 = .ok (.getfield 44, 3) := by decide +kernel
theorem d_X12_keeps_172 : decode (px_cc M_X12_keeps) 172 = .ok (.aload_n 0, 1) := by decide +kernel
theorem d_X12_keeps_173 : decode (px_cc M_X12_keeps) 173 = .ok (.getfield 206, 3) := by decide +kernel
theorem d_X12_keeps_176 : decode (px_cc M_X12_keeps) 176 = .ok (.iload_n 1, 1) := by decide +kernel
theorem d_X12_keeps_177 : decode (px_cc M_X12_keeps) 177 = .ok (.iastore, 1) := by decide +kernel
theorem d_X12_keeps_178 : decode (px_cc M_X12_keeps) 178 = .ok (.aload_n 0, 1) := by decide +kernel
theorem d_X12_keeps_179 : decode (px_cc M_X12_keeps) 179 = .ok (.getfield 47, 3) := by decide +kernel
theorem d_X12_keeps_182 : decode (px_cc M_X12_keeps) 182 = .ok (.aload_n 0, 1) := by decide +kernel
theorem d_X12_keeps_183 : decode (px_cc M_X12_keeps) 183 = .ok (.getfield 206, 3) := by decide +kernel
theorem d_X12_keeps_186 : decode (px_cc M_X12_keeps) 186 = .ok (.aload_n 0, 1) := by decide +kernel
theorem d_X12_keeps_187 : decode (px_cc M_X12_keeps) 187 = .ok (.getfield 218, 3) := by decide +kernel
theorem d_X12_keeps_190 : decode (px_cc M_X12_keeps) 190 = .ok (.iastore, 1) := by decide +kernel
theorem d_X12_keeps_191 : decode (px_cc M_X12_keeps) 191 = .ok (.aload_n 0, 1) := by decide +kernel
theorem d_X12_keeps_192 : decode (px_cc M_X12_keeps) 192 = .ok (.dup, 1) := by decide +kernel
theorem d_X12_keeps_193 : decode (px_cc M_X12_keeps) 193 = .ok (.getfield 206, 3) := by decide +kernel
theorem d_X12_keeps_196 : decode (px_cc M_X12_keeps) 196 = .ok (.iconst 1, 1) := by decide +kernel
theorem d_X12_keeps_197 : decode (px_cc M_X12_keeps) 197 = .ok (.iadd, 1) := by decide +kernel
theorem d_X12_keeps_198 : decode (px_cc M_X12_keeps) 198 = .ok (.putfield 206, 3) := by decide +kernel
theorem d_X12_keeps_201 : decode (px_cc M_X12_keeps) 201 = .ok (.return_, 1) := by decide +kernel
theorem d_X12_line_0 : decode (px_cc M_X12_line) 0 = .ok (.aload_n 0, 1) := by decide +kernel
theorem d_X12_line_1 : decode (px_cc M_X12_line) 1 = .ok (.iconst 1, 1) := by decide +kernel
theorem d_X12_line_2 : decode (px_cc M_X12_line) 2 = .ok (.invokevirtual 197, 3) := by decide +kernel
theorem d_X12_line_5 : decode (px_cc M_X12_line) 5 = .ok (.istore_n 1, 1) := by decide +kernel
theorem d_X12_line_6 : decode (px_cc M_X12_line) 6 = .ok (.iload_n 1, 1) := by decide +kernel
theorem d_X12_line_7 : decode (px_cc M_X12_line) 7 = .ok (.ifCond .ne 19, 3) := by decide +kernel
theorem d_X12_line_10 : decode (px_cc M_X12_line) 10 = .ok (.aload_n 0, 1) := by decide +kernel
theorem d_X12_line_11 : decode (px_cc M_X12_line) 11 = .ok (.iconst 0, 1) := by decide +kernel
theorem d_X12_line_12 : decode (px_cc M_X12_line) 12 = .ok (.invokevirtual 197, 3) := by decide +kernel
theorem d_X12_line_15 : decode (px_cc M_X12_line) 15 = .ok (.ifCond .ne 11, 3) := by decide +kernel
theorem d_X12_line_18 : decode (px_cc M_X12_line) 18 = .ok (.aload_n 0, 1) := by decide +kernel
theorem d_X12_line_19 : decode (px_cc M_X12_line) 19 = .ok (.iconst 1, 1) := by decide +kernel
theorem d_X12_line_20 : decode (px_cc M_X12_line) 20 = .ok (.invokevirtual 193, 3) := by decide +kernel
theorem d_X12_line_23 : decode (px_cc M_X12_line) 23 = .ok (.goto 20, 3) := by decide +kernel
theorem d_X12_line_26 : decode (px_cc M_X12_line) 26 = .ok (.aload_n 0, 1) := by decide +kernel
theorem d_X12_line_27 : decode (px_cc M_X12_line) 27 = .ok (.getfield 50, 3) := by decide +kernel
theorem d_X12_line_30 : decode (px_cc M_X12_line) 30 = .ok (.bipush 8, 2) := by decide +kernel
theorem d_X12_line_32 : decode (px_cc M_X12_line) 32 = .ok (.iaload, 1) := by decide +kernel
theorem d_X12_line_33 : decode (px_cc M_X12_line) 33 = .ok (.bipush 16, 2) := by decide +kernel
theorem d_X12_line_35 : decode (px_cc M_X12_line) 35 = .ok (.if_icmp .ne 8, 3) := by decide +kernel
theorem d_X12_line_38 : decode (px_cc M_X12_line) 38 = .ok (.aload_n 0, 1) := by decide +kernel
theorem d_X12_line_39 : decode (px_cc M_X12_line) 39 = .ok (.iconst 5, 1) := by decide +kernel
theorem d_X12_line_40 : decode (px_cc M_X12_line) 40 = .ok (.invokevirtual 193, 3) := by decide +kernel
theorem d_X12_line_43 : decode (px_cc M_X12_line) 43 = .ok (.aload_n 0, 1) := by decide +kernel
theorem d_X12_line_44 : decode (px_cc M_X12_line) 44 = .ok (.getfield 187, 3) := by decide +kernel
theorem d_X12_line_47 : decode (px_cc M_X12_line) 47 = .ok (.ifCond .le 4, 3) := by decide +kernel
theorem d_X12_line_50 : decode (px_cc M_X12_line) 50 = .ok (.return_, 1) := by decide +kernel
theorem d_X12_line_51 : decode (px_cc M_X12_line) 51 = .ok (.aload_n 0, 1) := by decide +kernel
theorem d_X12_line_52 : decode (px_cc M_X12_line) 52 = .ok (.dup, 1) := by decide +kernel
theorem d_X12_line_53 : decode (px_cc M_X12_line) 53 = .ok (.getfield 184, 3) := by decide +kernel
theorem d_X12_line_56 : decode (px_cc M_X12_line) 56 = .ok (.iconst 1, 1) := by decide +kernel
theorem d_X12_line_57 : decode (px_cc M_X12_line) 57 = .ok (.iadd, 1) := by decide +kernel
theorem d_X12_line_58 : decode (px_cc M_X12_line) 58 = .ok (.putfield 184, 3) := by decide +kernel
theorem d_X12_line_61 : decode (px_cc M_X12_line) 61 = .ok (.sipush 128, 3) := by decide +kernel
theorem d_X12_line_64 : decode (px_cc M_X12_line) 64 = .ok (.aload_n 0, 1) := by decide +kernel
theorem d_X12_line_65 : decode (px_cc M_X12_line) 65 = .ok (.getfield 50, 3) := by decide +kernel
theorem d_X12_line_68 : decode (px_cc M_X12_line) 68 = .ok (.bipush 8, 2) := by decide +kernel
theorem d_X12_line_70 : decode (px_cc M_X12_line) 70 = .ok (.iaload, 1) := by decide +kernel
theorem d_X12_line_71 : decode (px_cc M_X12_line) 71 = .ok (.iadd, 1) := by decide +kernel
theorem d_X12_line_72 : decode (px_cc M_X12_line) 72 = .ok (.istore_n 2, 1) := by decide +kernel
theorem d_X12_line_73 : decode (px_cc M_X12_line) 73 = .ok (.aload_n 0, 1) := by decide +kernel
theorem d_X12_line_74 : decode (px_cc M_X12_line) 74 = .ok (.getfield 13, 3) := by decide +kernel
theorem d_X12_line_77 : decode (px_cc M_X12_line) 77 = .ok (.aload_n 0, 1) := by decide +kernel
theorem d_X12_line_78 : decode (px_cc M_X12_line) 78 = .ok (.getfield 184, 3) := by decide +kernel
theorem d_X12_line_81 : decode (px_cc M_X12_line) 81 = .ok (.iaload, 1) := by decide +kernel
theorem d_X12_line_82 : decode (px_cc M_X12_line) 82 = .ok (.iconst 2, 1) := by decide +kernel
theorem d_X12_line_83 : decode (px_cc M_X12_line) 83 = .ok (.if_icmp .eq 11, 3) := by decide +kernel
theorem d_X12_line_86 : decode (px_cc M_X12_line) 86 = .ok (.aload_n 0, 1) := by decide +kernel
theorem d_X12_line_87 : decode (px_cc M_X12_line) 87 = .ok (.iconst 1, 1) := by decide +kernel
theorem d_X12_line_88 : decode (px_cc M_X12_line) 88 = .ok (.invokevirtual 193, 3) := by decide +kernel
theorem d_X12_line_91 : decode (px_cc M_X12_line) 91 = .ok (.goto 28, 3) := by decide +kernel
theorem d_X12_line_94 : decode (px_cc M_X12_line) 94 = .ok (.iload_n 1, 1) := by decide +kernel
theorem d_X12_line_95 : decode (px_cc M_X12_line) 95 = .ok (.ifCond .ne 24, 3) := by decide +kernel
theorem d_X12_line_98 : decode (px_cc M_X12_line) 98 = .ok (.aload_n 0, 1) := by decide +kernel
theorem d_X12_line_99 : decode (px_cc M_X12_line) 99 = .ok (.getfield 19, 3) := by decide +kernel
theorem d_X12_line_102 : decode (px_cc M_X12_line) 102 = .ok (.aload_n 0, 1) := by decide +kernel
theorem d_X12_line_103 : decode (px_cc M_X12_line) 103 = .ok (.getfield 184, 3) := by decide +kernel
theorem d_X12_line_106 : decode (px_cc M_X12_line) 106 = .ok (.laload, 1) := by decide +kernel
theorem d_X12_line_107 : decode (px_cc M_X12_line) 107 = .ok (.ldc2_w 221, 3) := by decide +kernel
theorem d_X12_line_110 : decode (px_cc M_X12_line) 110 = .ok (.lcmp, 1) := by decide +kernel
theorem d_X12_line_111 : decode (px_cc M_X12_line) 111 = .ok (.ifCond .le 8, 3) := by decide +kernel
theorem d_X12_line_114 : decode (px_cc M_X12_line) 114 = .ok (.aload_n 0, 1) := by decide +kernel
theorem d_X12_line_115 : decode (px_cc M_X12_line) 115 = .ok (.iconst 4, 1) := by decide +kernel
theorem d_X12_line_116 : decode (px_cc M_X12_line) 116 = .ok (.invokevirtual 193, 3) := by decide +kernel
theorem d_X12_line_119 : decode (px_cc M_X12_line) 119 = .ok (.aload_n 0, 1) := by decide +kernel
theorem d_X12_line_120 : decode (px_cc M_X12_line) 120 = .ok (.getfield 53, 3) := by decide +kernel
theorem d_X12_line_123 : decode (px_cc M_X12_line) 123 = .ok (.iload_n 2, 1) := by decide +kernel
theorem d_X12_line_124 : decode (px_cc M_X12_line) 124 = .ok (.iload_n 1, 1) := by decide +kernel
theorem d_X12_line_125 : decode (px_cc M_X12_line) 125 = .ok (.bastore, 1) := by decide +kernel
theorem d_X12_line_126 : decode (px_cc M_X12_line) 126 = .ok (.aload_n 0, 1) := by decide +kernel
theorem d_X12_line_127 : decode (px_cc M_X12_line) 127 = .ok (.getfield 57, 3) := by decide +kernel
theorem d_X12_line_130 : decode (px_cc M_X12_line) 130 = .ok (.iload_n 2, 1) := by decide +kernel
theorem d_X12_line_131 : decode (px_cc M_X12_line) 131 = .ok (.aload_n 0, 1) := by decide +kernel
theorem d_X12_line_132 : decode (px_cc M_X12_line) 132 = .ok (.getfield 187, 3) := by decide +kernel
theorem d_X12_line_135 : decode (px_cc M_X12_line) 135 = .ok (.ifCond .le 7, 3) := by decide +kernel
theorem d_X12_line_138 : decode (px_cc M_X12_line) 138 = .ok (.iconst 0, 1) := by decide +kernel
theorem d_X12_line_139 : decode (px_cc M_X12_line) 139 = .ok (.goto 13, 3) := by decide +kernel
theorem d_X12_line_142 : decode (px_cc M_X12_line) 142 = .ok (.aload_n 0, 1) := by decide +kernel
theorem d_X12_line_143 : decode (px_cc M_X12_line) 143 = .ok (.getfield 19, 3) := by decide +kernel
theorem d_X12_line_146 : decode (px_cc M_X12_line) 146 = .ok (.aload_n 0, 1) := by decide +kernel
theorem d_X12_line_147 : decode (px_cc M_X12_line) 147 = .ok (.getfield 184, 3) := by decide +kernel
theorem d_X12_line_150 : decode (px_cc M_X12_line) 150 = .ok (.laload, 1) := by decide +kernel
theorem d_X12_line_151 : decode (px_cc M_X12_line) 151 = .ok (.l2i, 1) := by decide +kernel
theorem d_X12_line_152 : decode (px_cc M_X12_line) 152 = .ok (.iastore, 1) := by decide +kernel
theorem d_X12_line_153 : decode (px_cc M_X12_line) 153 = .ok (.aload_n 0, 1) := by decide +kernel
theorem d_X12_line_154 : decode (px_cc M_X12_line) 154 = .ok (.dup, 1) := by decide +kernel
theorem d_X12_line_155 : decode (px_cc M_X12_line) 155 = .ok (.getfield 184, 3) := by decide +kernel
theorem d_X12_line_158 : decode (px_cc M_X12_line) 158 = .ok (.iconst 1, 1) := by decide +kernel
theorem d_X12_line_159 : decode (px_cc M_X12_line) 159 = .ok (.iadd, 1) := by decide +kernel
theorem d_X12_line_160 : decode (px_cc M_X12_line) 160 = .ok (.putfield 184, 3) := by decide +kernel
theorem d_X12_line_163 : decode (px_cc M_X12_line) 163 = .ok (.aload_n 0, 1) := by decide +kernel
theorem d_X12_line_164 : decode (px_cc M_X12_line) 164 = .ok (.iconst 2, 1) := by decide +kernel
theorem d_X12_line_165 : decode (px_cc M_X12_line) 165 = .ok (.invokevirtual 223, 3) := by decide +kernel
theorem d_X12_line_168 : decode (px_cc M_X12_line) 168 = .ok (.aload_n 0, 1) := by decide +kernel
theorem d_X12_line_169 : decode (px_cc M_X12_line) 169 = .ok (.getfield 60, 3) := by decide +kernel
theorem d_X12_line_172 : decode (px_cc M_X12_line) 172 = .ok (.iload_n 2, 1) := by decide +kernel
theorem d_X12_line_173 : decode (px_cc M_X12_line) 173 = .ok (.aload_n 0, 1) := by decide +kernel
theorem d_X12_line_174 : decode (px_cc M_X12_line) 174 = .ok (.getfield 203, 3) := by decide +kernel
theorem d_X12_line_177 : decode (px_cc M_X12_line) 177 = .ok (.iastore, 1) := by decide +kernel
theorem d_X12_line_178 : decode (px_cc M_X12_line) 178 = .ok (.aload_n 0, 1) := by decide +kernel
theorem d_X12_line_179 : decode (px_cc M_X12_line) 179 = .ok (.iconst 0, 1) := by decide +kernel
theorem d_X12_line_180 : decode (px_cc M_X12_line) 180 = .ok (.putfield 226, 3) := by decide +kernel
theorem d_X12_line_183 : decode (px_cc M_X12_line) 183 = .ok (.aload_n 0, 1) := by decide +kernel
theorem d_X12_line_184 : decode (px_cc M_X12_line) 184 = .ok (.invokevirtual 229, 3) := by decide +kernel
theorem d_X12_line_187 : decode (px_cc M_X12_line) 187 = .ok (.iconst 1, 1) := by decide +kernel
theorem d_X12_line_188 : decode (px_cc M_X12_line) 188 = .ok (.istore_n 3, 1) := by decide +kernel
theorem d_X12_line_189 : decode (px_cc M_X12_line) 189 = .ok (.iload_n 3, 1) := by decide +kernel
theorem d_X12_line_190 : decode (px_cc M_X12_line) 190 = .ok (.ifCond .eq 33, 3) := by decide +kernel
theorem d_X12_line_193 : decode (px_cc M_X12_line) 193 = .ok (.aload_n 0, 1) := by decide +kernel
theorem d_X12_line_194 : decode (px_cc M_X12_line) 194 = .ok (.getfield 187, 3) := by decide +kernel
theorem d_X12_line_197 : decode (px_cc M_X12_line) 197 = .ok (.ifCond .ne 26, 3) := by decide +kernel
theorem d_X12_line_200 : decode (px_cc M_X12_line) 200 = .ok (.aload_n 0, 1) := by decide +kernel
theorem d_X12_line_201 : decode (px_cc M_X12_line) 201 = .ok (.invokevirtual 232, 3) := by decide +kernel
theorem d_X12_line_204 : decode (px_cc M_X12_line) 204 = .ok (.ifCond .ne 10, 3) := by decide +kernel
theorem d_X12_line_207 : decode (px_cc M_X12_line) 207 = .ok (.aload_n 0, 1) := by decide +kernel
theorem d_X12_line_208 : decode (px_cc M_X12_line) 208 = .ok (.invokevirtual 236, 3) := by decide +kernel
theorem d_X12_line_211 : decode (px_cc M_X12_line) 211 = .ok (.ifCond .eq 7, 3) := by decide +kernel
theorem d_X12_line_214 : decode (px_cc M_X12_line) 214 = .ok (.iconst 1, 1) := by decide +kernel
theorem d_X12_line_215 : decode (px_cc M_X12_line) 215 = .ok (.goto 4, 3) := by decide +kernel
theorem d_X12_line_218 : decode (px_cc M_X12_line) 218 = .ok (.iconst 0, 1) := by decide +kernel
theorem d_X12_line_219 : decode (px_cc M_X12_line) 219 = .ok (.istore_n 3, 1) := by decide +kernel
theorem d_X12_line_220 : decode (px_cc M_X12_line) 220 = .ok (.goto (-31), 3) := by decide +kernel
theorem d_X12_line_223 : decode (px_cc M_X12_line) 223 = .ok (.aload_n 0, 1) := by decide +kernel
theorem d_X12_line_224 : decode (px_cc M_X12_line) 224 = .ok (.iconst 0, 1) := by decide +kernel
theorem d_X12_line_225 : decode (px_cc M_X12_line) 225 = .ok (.iconst 0, 1) := by decide +kernel
theorem d_X12_line_226 : decode (px_cc M_X12_line) 226 = .ok (.invokevirtual 239, 3) := by decide +kernel
theorem d_X12_line_229 : decode (px_cc M_X12_line) 229 = .ok (.aload_n 0, 1) := by decide +kernel
theorem d_X12_line_230 : decode (px_cc M_X12_line) 230 = .ok (.bipush 59, 2) := by decide +kernel
theorem d_X12_line_232 : decode (px_cc M_X12_line) 232 = .ok (.invokevirtual 243, 3) := by decide +kernel
theorem d_X12_line_235 : decode (px_cc M_X12_line) 235 = .ok (.aload_n 0, 1) := by decide +kernel
theorem d_X12_line_236 : decode (px_cc M_X12_line) 236 = .ok (.getfield 50, 3) := by decide +kernel
theorem d_X12_line_239 : decode (px_cc M_X12_line) 239 = .ok (.bipush 8, 2) := by decide +kernel
theorem d_X12_line_241 : decode (px_cc M_X12_line) 241 = .ok (.dup2, 1) := by decide +kernel
theorem d_X12_line_242 : decode (px_cc M_X12_line) 242 = .ok (.iaload, 1) := by decide +kernel
theorem d_X12_line_243 : decode (px_cc M_X12_line) 243 = .ok (.iconst 1, 1) := by decide +kernel
theorem d_X12_line_244 : decode (px_cc M_X12_line) 244 = .ok (.iadd, 1) := by decide +kernel
theorem d_X12_line_245 : decode (px_cc M_X12_line) 245 = .ok (.iastore, 1) := by decide +kernel
theorem d_X12_line_246 : decode (px_cc M_X12_line) 246 = .ok (.return_, 1) := by decide +kernel
theorem d_X12_opens_0 : decode (px_cc M_X12_opens) 0 = .ok (.aload_n 0, 1) := by decide +kernel
theorem d_X12_opens_1 : decode (px_cc M_X12_opens) 1 = .ok (.getfield 69, 3) := by decide +kernel
theorem d_X12_opens_4 : decode (px_cc M_X12_opens) 4 = .ok (.aload_n 0, 1) := by decide +kernel
theorem d_X12_opens_5 : decode (px_cc M_X12_opens) 5 = .ok (.getfield 226, 3) := by decide +kernel
theorem d_X12_opens_8 : decode (px_cc M_X12_opens) 8 = .ok (.iconst 0, 1) := by decide +kernel
theorem d_X12_opens_9 : decode (px_cc M_X12_opens) 9 = .ok (.iastore, 1) := by decide +kernel
theorem d_X12_opens_10 : decode (px_cc M_X12_opens) 10 = .ok (.aload_n 0, 1) := by decide +kernel
theorem d_X12_opens_11 : decode (px_cc M_X12_opens) 11 = .ok (.getfield 72, 3) := by decide +kernel
theorem d_X12_opens_14 : decode (px_cc M_X12_opens) 14 = .ok (.aload_n 0, 1) := by decide +kernel
theorem d_X12_opens_15 : decode (px_cc M_X12_opens) 15 = .ok (.getfield 226, 3) := by decide +kernel
theorem d_X12_opens_18 : decode (px_cc M_X12_opens) 18 = .ok (.iconst 0, 1) := by decide +kernel
theorem d_X12_opens_19 : decode (px_cc M_X12_opens) 19 = .ok (.iastore, 1) := by decide +kernel
theorem d_X12_opens_20 : decode (px_cc M_X12_opens) 20 = .ok (.aload_n 0, 1) := by decide +kernel
theorem d_X12_opens_21 : decode (px_cc M_X12_opens) 21 = .ok (.getfield 75, 3) := by decide +kernel
theorem d_X12_opens_24 : decode (px_cc M_X12_opens) 24 = .ok (.aload_n 0, 1) := by decide +kernel
theorem d_X12_opens_25 : decode (px_cc M_X12_opens) 25 = .ok (.getfield 226, 3) := by decide +kernel
theorem d_X12_opens_28 : decode (px_cc M_X12_opens) 28 = .ok (.iconst 0, 1) := by decide +kernel
theorem d_X12_opens_29 : decode (px_cc M_X12_opens) 29 = .ok (.iastore, 1) := by decide +kernel
theorem d_X12_opens_30 : decode (px_cc M_X12_opens) 30 = .ok (.return_, 1) := by decide +kernel
theorem d_X12_partWord_0 : decode (px_cc M_X12_partWord) 0 = .ok (.iconst 0, 1) := by decide +kernel
theorem d_X12_partWord_1 : decode (px_cc M_X12_partWord) 1 = .ok (.istore_n 1, 1) := by decide +kernel
theorem d_X12_partWord_2 : decode (px_cc M_X12_partWord) 2 = .ok (.iload_n 1, 1) := by decide +kernel
theorem d_X12_partWord_3 : decode (px_cc M_X12_partWord) 3 = .ok (.iconst 5, 1) := by decide +kernel
theorem d_X12_partWord_4 : decode (px_cc M_X12_partWord) 4 = .ok (.if_icmp .ge 21, 3) := by decide +kernel
theorem d_X12_partWord_7 : decode (px_cc M_X12_partWord) 7 = .ok (.aload_n 0, 1) := by decide +kernel
theorem d_X12_partWord_8 : decode (px_cc M_X12_partWord) 8 = .ok (.iconst 4, 1) := by decide +kernel
theorem d_X12_partWord_9 : decode (px_cc M_X12_partWord) 9 = .ok (.iload_n 1, 1) := by decide +kernel
theorem d_X12_partWord_10 : decode (px_cc M_X12_partWord) 10 = .ok (.iadd, 1) := by decide +kernel
theorem d_X12_partWord_11 : decode (px_cc M_X12_partWord) 11 = .ok (.invokevirtual 197, 3) := by decide +kernel
theorem d_X12_partWord_14 : decode (px_cc M_X12_partWord) 14 = .ok (.ifCond .eq 5, 3) := by decide +kernel
theorem d_X12_partWord_17 : decode (px_cc M_X12_partWord) 17 = .ok (.iload_n 1, 1) := by decide +kernel
theorem d_X12_partWord_18 : decode (px_cc M_X12_partWord) 18 = .ok (.ireturn, 1) := by decide +kernel
theorem d_X12_partWord_19 : decode (px_cc M_X12_partWord) 19 = .ok (.iinc 1 1, 3) := by decide +kernel
theorem d_X12_partWord_22 : decode (px_cc M_X12_partWord) 22 = .ok (.goto (-20), 3) := by decide +kernel
theorem d_X12_partWord_25 : decode (px_cc M_X12_partWord) 25 = .ok (.iconst (-1), 1) := by decide +kernel
theorem d_X12_partWord_26 : decode (px_cc M_X12_partWord) 26 = .ok (.ireturn, 1) := by decide +kernel
theorem d_X12_part_0 : decode (px_cc M_X12_part) 0 = .ok (.aload_n 0, 1) := by decide +kernel
theorem d_X12_part_1 : decode (px_cc M_X12_part) 1 = .ok (.invokevirtual 246, 3) := by decide +kernel
theorem d_X12_part_4 : decode (px_cc M_X12_part) 4 = .ok (.istore_n 1, 1) := by decide +kernel
theorem d_X12_part_5 : decode (px_cc M_X12_part) 5 = .ok (.aload_n 0, 1) := by decide +kernel
theorem d_X12_part_6 : decode (px_cc M_X12_part) 6 = .ok (.getfield 187, 3) := by decide +kernel
theorem d_X12_part_9 : decode (px_cc M_X12_part) 9 = .ok (.ifCond .ne 37, 3) := by decide +kernel
theorem d_X12_part_12 : decode (px_cc M_X12_part) 12 = .ok (.aload_n 0, 1) := by decide +kernel
theorem d_X12_part_13 : decode (px_cc M_X12_part) 13 = .ok (.getfield 13, 3) := by decide +kernel
theorem d_X12_part_16 : decode (px_cc M_X12_part) 16 = .ok (.aload_n 0, 1) := by decide +kernel
theorem d_X12_part_17 : decode (px_cc M_X12_part) 17 = .ok (.getfield 184, 3) := by decide +kernel
theorem d_X12_part_20 : decode (px_cc M_X12_part) 20 = .ok (.iaload, 1) := by decide +kernel
theorem d_X12_part_21 : decode (px_cc M_X12_part) 21 = .ok (.iconst 2, 1) := by decide +kernel
theorem d_X12_part_22 : decode (px_cc M_X12_part) 22 = .ok (.if_icmp .eq 24, 3) := by decide +kernel
theorem d_X12_part_25 : decode (px_cc M_X12_part) 25 = .ok (.aload_n 0, 1) := by decide +kernel
theorem d_X12_part_26 : decode (px_cc M_X12_part) 26 = .ok (.bipush 40, 2) := by decide +kernel
theorem d_X12_part_28 : decode (px_cc M_X12_part) 28 = .ok (.invokevirtual 190, 3) := by decide +kernel
theorem d_X12_part_31 : decode (px_cc M_X12_part) 31 = .ok (.ifCond .ne 15, 3) := by decide +kernel
theorem d_X12_part_34 : decode (px_cc M_X12_part) 34 = .ok (.iload_n 1, 1) := by decide +kernel
theorem d_X12_part_35 : decode (px_cc M_X12_part) 35 = .ok (.ifCond .ge 11, 3) := by decide +kernel
theorem d_X12_part_38 : decode (px_cc M_X12_part) 38 = .ok (.aload_n 0, 1) := by decide +kernel
theorem d_X12_part_39 : decode (px_cc M_X12_part) 39 = .ok (.iconst 1, 1) := by decide +kernel
theorem d_X12_part_40 : decode (px_cc M_X12_part) 40 = .ok (.invokevirtual 193, 3) := by decide +kernel
theorem d_X12_part_43 : decode (px_cc M_X12_part) 43 = .ok (.goto 16, 3) := by decide +kernel
theorem d_X12_part_46 : decode (px_cc M_X12_part) 46 = .ok (.aload_n 0, 1) := by decide +kernel
theorem d_X12_part_47 : decode (px_cc M_X12_part) 47 = .ok (.getfield 226, 3) := by decide +kernel
theorem d_X12_part_50 : decode (px_cc M_X12_part) 50 = .ok (.iconst 5, 1) := by decide +kernel
theorem d_X12_part_51 : decode (px_cc M_X12_part) 51 = .ok (.if_icmp .ne 8, 3) := by decide +kernel
theorem d_X12_part_54 : decode (px_cc M_X12_part) 54 = .ok (.aload_n 0, 1) := by decide +kernel
theorem d_X12_part_55 : decode (px_cc M_X12_part) 55 = .ok (.iconst 5, 1) := by decide +kernel
theorem d_X12_part_56 : decode (px_cc M_X12_part) 56 = .ok (.invokevirtual 193, 3) := by decide +kernel
theorem d_X12_part_59 : decode (px_cc M_X12_part) 59 = .ok (.aload_n 0, 1) := by decide +kernel
theorem d_X12_part_60 : decode (px_cc M_X12_part) 60 = .ok (.getfield 187, 3) := by decide +kernel
theorem d_X12_part_63 : decode (px_cc M_X12_part) 63 = .ok (.ifCond .le 5, 3) := by decide +kernel
theorem d_X12_part_66 : decode (px_cc M_X12_part) 66 = .ok (.iconst 0, 1) := by decide +kernel
theorem d_X12_part_67 : decode (px_cc M_X12_part) 67 = .ok (.ireturn, 1) := by decide +kernel
theorem d_X12_part_68 : decode (px_cc M_X12_part) 68 = .ok (.aload_n 0, 1) := by decide +kernel
theorem d_X12_part_69 : decode (px_cc M_X12_part) 69 = .ok (.bipush 40, 2) := by decide +kernel
theorem d_X12_part_71 : decode (px_cc M_X12_part) 71 = .ok (.invokevirtual 250, 3) := by decide +kernel
theorem d_X12_part_74 : decode (px_cc M_X12_part) 74 = .ok (.ifCond .eq 19, 3) := by decide +kernel
theorem d_X12_part_77 : decode (px_cc M_X12_part) 77 = .ok (.aload_n 0, 1) := by decide +kernel
theorem d_X12_part_78 : decode (px_cc M_X12_part) 78 = .ok (.dup, 1) := by decide +kernel
theorem d_X12_part_79 : decode (px_cc M_X12_part) 79 = .ok (.getfield 226, 3) := by decide +kernel
theorem d_X12_part_82 : decode (px_cc M_X12_part) 82 = .ok (.iconst 1, 1) := by decide +kernel
theorem d_X12_part_83 : decode (px_cc M_X12_part) 83 = .ok (.iadd, 1) := by decide +kernel
theorem d_X12_part_84 : decode (px_cc M_X12_part) 84 = .ok (.putfield 226, 3) := by decide +kernel
theorem d_X12_part_87 : decode (px_cc M_X12_part) 87 = .ok (.aload_n 0, 1) := by decide +kernel
theorem d_X12_part_88 : decode (px_cc M_X12_part) 88 = .ok (.invokevirtual 229, 3) := by decide +kernel
theorem d_X12_part_91 : decode (px_cc M_X12_part) 91 = .ok (.iconst 1, 1) := by decide +kernel
theorem d_X12_part_92 : decode (px_cc M_X12_part) 92 = .ok (.ireturn, 1) := by decide +kernel
theorem d_X12_part_93 : decode (px_cc M_X12_part) 93 = .ok (.aload_n 0, 1) := by decide +kernel
theorem d_X12_part_94 : decode (px_cc M_X12_part) 94 = .ok (.iload_n 1, 1) := by decide +kernel
theorem d_X12_part_95 : decode (px_cc M_X12_part) 95 = .ok (.ifCond .ge 7, 3) := by decide +kernel
theorem d_X12_part_98 : decode (px_cc M_X12_part) 98 = .ok (.iconst 1, 1) := by decide +kernel
theorem d_X12_part_99 : decode (px_cc M_X12_part) 99 = .ok (.goto 4, 3) := by decide +kernel
theorem d_X12_part_102 : decode (px_cc M_X12_part) 102 = .ok (.iconst 2, 1) := by decide +kernel
theorem d_X12_part_103 : decode (px_cc M_X12_part) 103 = .ok (.iload_n 1, 1) := by decide +kernel
theorem d_X12_part_104 : decode (px_cc M_X12_part) 104 = .ok (.ifCond .ge 16, 3) := by decide +kernel
theorem d_X12_part_107 : decode (px_cc M_X12_part) 107 = .ok (.aload_n 0, 1) := by decide +kernel
theorem d_X12_part_108 : decode (px_cc M_X12_part) 108 = .ok (.getfield 19, 3) := by decide +kernel
theorem d_X12_part_111 : decode (px_cc M_X12_part) 111 = .ok (.aload_n 0, 1) := by decide +kernel
theorem d_X12_part_112 : decode (px_cc M_X12_part) 112 = .ok (.getfield 184, 3) := by decide +kernel
theorem d_X12_part_115 : decode (px_cc M_X12_part) 115 = .ok (.laload, 1) := by decide +kernel
theorem d_X12_part_116 : decode (px_cc M_X12_part) 116 = .ok (.l2i, 1) := by decide +kernel
theorem d_X12_part_117 : decode (px_cc M_X12_part) 117 = .ok (.goto 4, 3) := by decide +kernel
theorem d_X12_part_120 : decode (px_cc M_X12_part) 120 = .ok (.iload_n 1, 1) := by decide +kernel
theorem d_X12_part_121 : decode (px_cc M_X12_part) 121 = .ok (.invokevirtual 239, 3) := by decide +kernel
theorem d_X12_part_124 : decode (px_cc M_X12_part) 124 = .ok (.aload_n 0, 1) := by decide +kernel
theorem d_X12_part_125 : decode (px_cc M_X12_part) 125 = .ok (.dup, 1) := by decide +kernel
theorem d_X12_part_126 : decode (px_cc M_X12_part) 126 = .ok (.getfield 184, 3) := by decide +kernel
theorem d_X12_part_129 : decode (px_cc M_X12_part) 129 = .ok (.iconst 1, 1) := by decide +kernel
theorem d_X12_part_130 : decode (px_cc M_X12_part) 130 = .ok (.iadd, 1) := by decide +kernel
theorem d_X12_part_131 : decode (px_cc M_X12_part) 131 = .ok (.putfield 184, 3) := by decide +kernel
theorem d_X12_part_134 : decode (px_cc M_X12_part) 134 = .ok (.iconst 0, 1) := by decide +kernel
theorem d_X12_part_135 : decode (px_cc M_X12_part) 135 = .ok (.ireturn, 1) := by decide +kernel
theorem d_X12_goesOnBehind_0 : decode (px_cc M_X12_goesOnBehind) 0 = .ok (.aload_n 0, 1) := by decide +kernel
theorem d_X12_goesOnBehind_1 : decode (px_cc M_X12_goesOnBehind) 1 = .ok (.getfield 187, 3) := by decide +kernel
theorem d_X12_goesOnBehind_4 : decode (px_cc M_X12_goesOnBehind) 4 = .ok (.ifCond .ne 273, 3) := by decide +kernel
theorem d_X12_goesOnBehind_7 : decode (px_cc M_X12_goesOnBehind) 7 = .ok (.aload_n 0, 1) := by decide +kernel
theorem d_X12_goesOnBehind_8 : decode (px_cc M_X12_goesOnBehind) 8 = .ok (.getfield 69, 3) := by decide +kernel
theorem d_X12_goesOnBehind_11 : decode (px_cc M_X12_goesOnBehind) 11 = .ok (.aload_n 0, 1) := by decide +kernel
theorem d_X12_goesOnBehind_12 : decode (px_cc M_X12_goesOnBehind) 12 = .ok (.getfield 226, 3) := by decide +kernel
theorem d_X12_goesOnBehind_15 : decode (px_cc M_X12_goesOnBehind) 15 = .ok (.iaload, 1) := by decide +kernel
theorem d_X12_goesOnBehind_16 : decode (px_cc M_X12_goesOnBehind) 16 = .ok (.ifCond .eq 27, 3) := by decide +kernel
theorem d_X12_goesOnBehind_19 : decode (px_cc M_X12_goesOnBehind) 19 = .ok (.aload_n 0, 1) := by decide +kernel
theorem d_X12_goesOnBehind_20 : decode (px_cc M_X12_goesOnBehind) 20 = .ok (.aload_n 0, 1) := by decide +kernel
theorem d_X12_goesOnBehind_21 : decode (px_cc M_X12_goesOnBehind) 21 = .ok (.getfield 69, 3) := by decide +kernel
theorem d_X12_goesOnBehind_24 : decode (px_cc M_X12_goesOnBehind) 24 = .ok (.aload_n 0, 1) := by decide +kernel
theorem d_X12_goesOnBehind_25 : decode (px_cc M_X12_goesOnBehind) 25 = .ok (.getfield 226, 3) := by decide +kernel
theorem d_X12_goesOnBehind_28 : decode (px_cc M_X12_goesOnBehind) 28 = .ok (.iaload, 1) := by decide +kernel
theorem d_X12_goesOnBehind_29 : decode (px_cc M_X12_goesOnBehind) 29 = .ok (.iconst 0, 1) := by decide +kernel
theorem d_X12_goesOnBehind_30 : decode (px_cc M_X12_goesOnBehind) 30 = .ok (.invokevirtual 239, 3) := by decide +kernel
theorem d_X12_goesOnBehind_33 : decode (px_cc M_X12_goesOnBehind) 33 = .ok (.aload_n 0, 1) := by decide +kernel
theorem d_X12_goesOnBehind_34 : decode (px_cc M_X12_goesOnBehind) 34 = .ok (.getfield 69, 3) := by decide +kernel
theorem d_X12_goesOnBehind_37 : decode (px_cc M_X12_goesOnBehind) 37 = .ok (.aload_n 0, 1) := by decide +kernel
theorem d_X12_goesOnBehind_38 : decode (px_cc M_X12_goesOnBehind) 38 = .ok (.getfield 226, 3) := by decide +kernel
theorem d_X12_goesOnBehind_41 : decode (px_cc M_X12_goesOnBehind) 41 = .ok (.iconst 0, 1) := by decide +kernel
theorem d_X12_goesOnBehind_42 : decode (px_cc M_X12_goesOnBehind) 42 = .ok (.iastore, 1) := by decide +kernel
theorem d_X12_goesOnBehind_43 : decode (px_cc M_X12_goesOnBehind) 43 = .ok (.aload_n 0, 1) := by decide +kernel
theorem d_X12_goesOnBehind_44 : decode (px_cc M_X12_goesOnBehind) 44 = .ok (.bipush 43, 2) := by decide +kernel
theorem d_X12_goesOnBehind_46 : decode (px_cc M_X12_goesOnBehind) 46 = .ok (.invokevirtual 190, 3) := by decide +kernel
theorem d_X12_goesOnBehind_49 : decode (px_cc M_X12_goesOnBehind) 49 = .ok (.ifCond .ne 12, 3) := by decide +kernel
theorem d_X12_goesOnBehind_52 : decode (px_cc M_X12_goesOnBehind) 52 = .ok (.aload_n 0, 1) := by decide +kernel
theorem d_X12_goesOnBehind_53 : decode (px_cc M_X12_goesOnBehind) 53 = .ok (.bipush 45, 2) := by decide +kernel
theorem d_X12_goesOnBehind_55 : decode (px_cc M_X12_goesOnBehind) 55 = .ok (.invokevirtual 190, 3) := by decide +kernel
theorem d_X12_goesOnBehind_58 : decode (px_cc M_X12_goesOnBehind) 58 = .ok (.ifCond .eq 38, 3) := by decide +kernel
theorem d_X12_goesOnBehind_61 : decode (px_cc M_X12_goesOnBehind) 61 = .ok (.aload_n 0, 1) := by decide +kernel
theorem d_X12_goesOnBehind_62 : decode (px_cc M_X12_goesOnBehind) 62 = .ok (.getfield 69, 3) := by decide +kernel
theorem d_X12_goesOnBehind_65 : decode (px_cc M_X12_goesOnBehind) 65 = .ok (.aload_n 0, 1) := by decide +kernel
theorem d_X12_goesOnBehind_66 : decode (px_cc M_X12_goesOnBehind) 66 = .ok (.getfield 226, 3) := by decide +kernel
theorem d_X12_goesOnBehind_69 : decode (px_cc M_X12_goesOnBehind) 69 = .ok (.aload_n 0, 1) := by decide +kernel
theorem d_X12_goesOnBehind_70 : decode (px_cc M_X12_goesOnBehind) 70 = .ok (.bipush 43, 2) := by decide +kernel
theorem d_X12_goesOnBehind_72 : decode (px_cc M_X12_goesOnBehind) 72 = .ok (.invokevirtual 190, 3) := by decide +kernel
theorem d_X12_goesOnBehind_75 : decode (px_cc M_X12_goesOnBehind) 75 = .ok (.ifCond .eq 7, 3) := by decide +kernel
theorem d_X12_goesOnBehind_78 : decode (px_cc M_X12_goesOnBehind) 78 = .ok (.iconst 3, 1) := by decide +kernel
theorem d_X12_goesOnBehind_79 : decode (px_cc M_X12_goesOnBehind) 79 = .ok (.goto 4, 3) := by decide +kernel
theorem d_X12_goesOnBehind_82 : decode (px_cc M_X12_goesOnBehind) 82 = .ok (.iconst 4, 1) := by decide +kernel
theorem d_X12_goesOnBehind_83 : decode (px_cc M_X12_goesOnBehind) 83 = .ok (.iastore, 1) := by decide +kernel
theorem d_X12_goesOnBehind_84 : decode (px_cc M_X12_goesOnBehind) 84 = .ok (.aload_n 0, 1) := by decide +kernel
theorem d_X12_goesOnBehind_85 : decode (px_cc M_X12_goesOnBehind) 85 = .ok (.dup, 1) := by decide +kernel
theorem d_X12_goesOnBehind_86 : decode (px_cc M_X12_goesOnBehind) 86 = .ok (.getfield 184, 3) := by decide +kernel
theorem d_X12_goesOnBehind_89 : decode (px_cc M_X12_goesOnBehind) 89 = .ok (.iconst 1, 1) := by decide +kernel
theorem d_X12_goesOnBehind_90 : decode (px_cc M_X12_goesOnBehind) 90 = .ok (.iadd, 1) := by decide +kernel
theorem d_X12_goesOnBehind_91 : decode (px_cc M_X12_goesOnBehind) 91 = .ok (.putfield 184, 3) := by decide +kernel
theorem d_X12_goesOnBehind_94 : decode (px_cc M_X12_goesOnBehind) 94 = .ok (.iconst 1, 1) := by decide +kernel
theorem d_X12_goesOnBehind_95 : decode (px_cc M_X12_goesOnBehind) 95 = .ok (.ireturn, 1) := by decide +kernel
theorem d_X12_goesOnBehind_96 : decode (px_cc M_X12_goesOnBehind) 96 = .ok (.aload_n 0, 1) := by decide +kernel
theorem d_X12_goesOnBehind_97 : decode (px_cc M_X12_goesOnBehind) 97 = .ok (.getfield 72, 3) := by decide +kernel
theorem d_X12_goesOnBehind_100 : decode (px_cc M_X12_goesOnBehind) 100 = .ok (.aload_n 0, 1) := by decide +kernel
theorem d_X12_goesOnBehind_101 : decode (px_cc M_X12_goesOnBehind) 101 = .ok (.getfield 226, 3) := by decide +kernel
theorem d_X12_goesOnBehind_104 : decode (px_cc M_X12_goesOnBehind) 104 = .ok (.iaload, 1) := by decide +kernel
theorem d_X12_goesOnBehind_105 : decode (px_cc M_X12_goesOnBehind) 105 = .ok (.ifCond .eq 30, 3) := by decide +kernel
theorem d_X12_goesOnBehind_108 : decode (px_cc M_X12_goesOnBehind) 108 = .ok (.aload_n 0, 1) := by decide +kernel
theorem d_X12_goesOnBehind_109 : decode (px_cc M_X12_goesOnBehind) 109 = .ok (.aload_n 0, 1) := by decide +kernel
theorem d_X12_goesOnBehind_110 : decode (px_cc M_X12_goesOnBehind) 110 = .ok (.getfield 72, 3) := by decide +kernel
theorem d_X12_goesOnBehind_113 : decode (px_cc M_X12_goesOnBehind) 113 = .ok (.aload_n 0, 1) := by decide +kernel
theorem d_X12_goesOnBehind_114 : decode (px_cc M_X12_goesOnBehind) 114 = .ok (.getfield 226, 3) := by decide +kernel
theorem d_X12_goesOnBehind_117 : decode (px_cc M_X12_goesOnBehind) 117 = .ok (.iaload, 1) := by decide +kernel
theorem d_X12_goesOnBehind_118 : decode (px_cc M_X12_goesOnBehind) 118 = .ok (.iconst 0, 1) := by decide +kernel
theorem d_X12_goesOnBehind_119 : decode (px_cc M_X12_goesOnBehind) 119 = .ok (.invokevirtual 239, 3) := by decide +kernel
theorem d_X12_goesOnBehind_122 : decode (px_cc M_X12_goesOnBehind) 122 = .ok (.aload_n 0, 1) := by decide +kernel
theorem d_X12_goesOnBehind_123 : decode (px_cc M_X12_goesOnBehind) 123 = .ok (.getfield 72, 3) := by decide +kernel
theorem d_X12_goesOnBehind_126 : decode (px_cc M_X12_goesOnBehind) 126 = .ok (.aload_n 0, 1) := by decide +kernel
theorem d_X12_goesOnBehind_127 : decode (px_cc M_X12_goesOnBehind) 127 = .ok (.getfield 226, 3) := by decide +kernel
theorem d_X12_goesOnBehind_130 : decode (px_cc M_X12_goesOnBehind) 130 = .ok (.iconst 0, 1) := by decide +kernel
theorem d_X12_goesOnBehind_131 : decode (px_cc M_X12_goesOnBehind) 131 = .ok (.iastore, 1) := by decide +kernel
theorem d_X12_goesOnBehind_132 : decode (px_cc M_X12_goesOnBehind) 132 = .ok (.goto 57, 3) := by decide +kernel
theorem d_X12_goesOnBehind_135 : decode (px_cc M_X12_goesOnBehind) 135 = .ok (.aload_n 0, 1) := by decide +kernel
theorem d_X12_goesOnBehind_136 : decode (px_cc M_X12_goesOnBehind) 136 = .ok (.bipush 60, 2) := by decide +kernel
theorem d_X12_goesOnBehind_138 : decode (px_cc M_X12_goesOnBehind) 138 = .ok (.invokevirtual 190, 3) := by decide +kernel
theorem d_X12_goesOnBehind_141 : decode (px_cc M_X12_goesOnBehind) 141 = .ok (.ifCond .ne 12, 3) := by decide +kernel
theorem d_X12_goesOnBehind_144 : decode (px_cc M_X12_goesOnBehind) 144 = .ok (.aload_n 0, 1) := by decide +kernel
theorem d_X12_goesOnBehind_145 : decode (px_cc M_X12_goesOnBehind) 145 = .ok (.bipush 61, 2) := by decide +kernel
theorem d_X12_goesOnBehind_147 : decode (px_cc M_X12_goesOnBehind) 147 = .ok (.invokevirtual 190, 3) := by decide +kernel
theorem d_X12_goesOnBehind_150 : decode (px_cc M_X12_goesOnBehind) 150 = .ok (.ifCond .eq 39, 3) := by decide +kernel
theorem d_X12_goesOnBehind_153 : decode (px_cc M_X12_goesOnBehind) 153 = .ok (.aload_n 0, 1) := by decide +kernel
theorem d_X12_goesOnBehind_154 : decode (px_cc M_X12_goesOnBehind) 154 = .ok (.getfield 72, 3) := by decide +kernel
theorem d_X12_goesOnBehind_157 : decode (px_cc M_X12_goesOnBehind) 157 = .ok (.aload_n 0, 1) := by decide +kernel
theorem d_X12_goesOnBehind_158 : decode (px_cc M_X12_goesOnBehind) 158 = .ok (.getfield 226, 3) := by decide +kernel
theorem d_X12_goesOnBehind_161 : decode (px_cc M_X12_goesOnBehind) 161 = .ok (.aload_n 0, 1) := by decide +kernel
theorem d_X12_goesOnBehind_162 : decode (px_cc M_X12_goesOnBehind) 162 = .ok (.bipush 60, 2) := by decide +kernel
theorem d_X12_goesOnBehind_164 : decode (px_cc M_X12_goesOnBehind) 164 = .ok (.invokevirtual 190, 3) := by decide +kernel
theorem d_X12_goesOnBehind_167 : decode (px_cc M_X12_goesOnBehind) 167 = .ok (.ifCond .eq 7, 3) := by decide +kernel
theorem d_X12_goesOnBehind_170 : decode (px_cc M_X12_goesOnBehind) 170 = .ok (.iconst 5, 1) := by decide +kernel
theorem d_X12_goesOnBehind_171 : decode (px_cc M_X12_goesOnBehind) 171 = .ok (.goto 5, 3) := by decide +kernel
theorem d_X12_goesOnBehind_174 : decode (px_cc M_X12_goesOnBehind) 174 = .ok (.bipush 6, 2) := by decide +kernel
theorem d_X12_goesOnBehind_176 : decode (px_cc M_X12_goesOnBehind) 176 = .ok (.iastore, 1) := by decide +kernel
theorem d_X12_goesOnBehind_177 : decode (px_cc M_X12_goesOnBehind) 177 = .ok (.aload_n 0, 1) := by decide +kernel
theorem d_X12_goesOnBehind_178 : decode (px_cc M_X12_goesOnBehind) 178 = .ok (.dup, 1) := by decide +kernel
theorem d_X12_goesOnBehind_179 : decode (px_cc M_X12_goesOnBehind) 179 = .ok (.getfield 184, 3) := by decide +kernel
theorem d_X12_goesOnBehind_182 : decode (px_cc M_X12_goesOnBehind) 182 = .ok (.iconst 1, 1) := by decide +kernel
theorem d_X12_goesOnBehind_183 : decode (px_cc M_X12_goesOnBehind) 183 = .ok (.iadd, 1) := by decide +kernel
theorem d_X12_goesOnBehind_184 : decode (px_cc M_X12_goesOnBehind) 184 = .ok (.putfield 184, 3) := by decide +kernel
theorem d_X12_goesOnBehind_187 : decode (px_cc M_X12_goesOnBehind) 187 = .ok (.iconst 1, 1) := by decide +kernel
theorem d_X12_goesOnBehind_188 : decode (px_cc M_X12_goesOnBehind) 188 = .ok (.ireturn, 1) := by decide +kernel
theorem d_X12_goesOnBehind_189 : decode (px_cc M_X12_goesOnBehind) 189 = .ok (.aload_n 0, 1) := by decide +kernel
theorem d_X12_goesOnBehind_190 : decode (px_cc M_X12_goesOnBehind) 190 = .ok (.getfield 75, 3) := by decide +kernel
theorem d_X12_goesOnBehind_193 : decode (px_cc M_X12_goesOnBehind) 193 = .ok (.aload_n 0, 1) := by decide +kernel
theorem d_X12_goesOnBehind_194 : decode (px_cc M_X12_goesOnBehind) 194 = .ok (.getfield 226, 3) := by decide +kernel
theorem d_X12_goesOnBehind_197 : decode (px_cc M_X12_goesOnBehind) 197 = .ok (.iaload, 1) := by decide +kernel
theorem d_X12_goesOnBehind_198 : decode (px_cc M_X12_goesOnBehind) 198 = .ok (.ifCond .eq 20, 3) := by decide +kernel
theorem d_X12_goesOnBehind_201 : decode (px_cc M_X12_goesOnBehind) 201 = .ok (.aload_n 0, 1) := by decide +kernel
theorem d_X12_goesOnBehind_202 : decode (px_cc M_X12_goesOnBehind) 202 = .ok (.bipush 7, 2) := by decide +kernel
theorem d_X12_goesOnBehind_204 : decode (px_cc M_X12_goesOnBehind) 204 = .ok (.iconst 0, 1) := by decide +kernel
theorem d_X12_goesOnBehind_205 : decode (px_cc M_X12_goesOnBehind) 205 = .ok (.invokevirtual 239, 3) := by decide +kernel
theorem d_X12_goesOnBehind_208 : decode (px_cc M_X12_goesOnBehind) 208 = .ok (.aload_n 0, 1) := by decide +kernel
theorem d_X12_goesOnBehind_209 : decode (px_cc M_X12_goesOnBehind) 209 = .ok (.getfield 75, 3) := by decide +kernel
theorem d_X12_goesOnBehind_212 : decode (px_cc M_X12_goesOnBehind) 212 = .ok (.aload_n 0, 1) := by decide +kernel
theorem d_X12_goesOnBehind_213 : decode (px_cc M_X12_goesOnBehind) 213 = .ok (.getfield 226, 3) := by decide +kernel
theorem d_X12_goesOnBehind_216 : decode (px_cc M_X12_goesOnBehind) 216 = .ok (.iconst 0, 1) := by decide +kernel
theorem d_X12_goesOnBehind_217 : decode (px_cc M_X12_goesOnBehind) 217 = .ok (.iastore, 1) := by decide +kernel
theorem d_X12_goesOnBehind_218 : decode (px_cc M_X12_goesOnBehind) 218 = .ok (.aload_n 0, 1) := by decide +kernel
theorem d_X12_goesOnBehind_219 : decode (px_cc M_X12_goesOnBehind) 219 = .ok (.iconst 3, 1) := by decide +kernel
theorem d_X12_goesOnBehind_220 : decode (px_cc M_X12_goesOnBehind) 220 = .ok (.invokevirtual 197, 3) := by decide +kernel
theorem d_X12_goesOnBehind_223 : decode (px_cc M_X12_goesOnBehind) 223 = .ok (.ifCond .eq 26, 3) := by decide +kernel
theorem d_X12_goesOnBehind_226 : decode (px_cc M_X12_goesOnBehind) 226 = .ok (.aload_n 0, 1) := by decide +kernel
theorem d_X12_goesOnBehind_227 : decode (px_cc M_X12_goesOnBehind) 227 = .ok (.getfield 75, 3) := by decide +kernel
theorem d_X12_goesOnBehind_230 : decode (px_cc M_X12_goesOnBehind) 230 = .ok (.aload_n 0, 1) := by decide +kernel
theorem d_X12_goesOnBehind_231 : decode (px_cc M_X12_goesOnBehind) 231 = .ok (.getfield 226, 3) := by decide +kernel
theorem d_X12_goesOnBehind_234 : decode (px_cc M_X12_goesOnBehind) 234 = .ok (.bipush 7, 2) := by decide +kernel
theorem d_X12_goesOnBehind_236 : decode (px_cc M_X12_goesOnBehind) 236 = .ok (.iastore, 1) := by decide +kernel
theorem d_X12_goesOnBehind_237 : decode (px_cc M_X12_goesOnBehind) 237 = .ok (.aload_n 0, 1) := by decide +kernel
theorem d_X12_goesOnBehind_238 : decode (px_cc M_X12_goesOnBehind) 238 = .ok (.dup, 1) := by decide +kernel
theorem d_X12_goesOnBehind_239 : decode (px_cc M_X12_goesOnBehind) 239 = .ok (.getfield 184, 3) := by decide +kernel
theorem d_X12_goesOnBehind_242 : decode (px_cc M_X12_goesOnBehind) 242 = .ok (.iconst 1, 1) := by decide +kernel
theorem d_X12_goesOnBehind_243 : decode (px_cc M_X12_goesOnBehind) 243 = .ok (.iadd, 1) := by decide +kernel
theorem d_X12_goesOnBehind_244 : decode (px_cc M_X12_goesOnBehind) 244 = .ok (.putfield 184, 3) := by decide +kernel
theorem d_X12_goesOnBehind_247 : decode (px_cc M_X12_goesOnBehind) 247 = .ok (.iconst 1, 1) := by decide +kernel
theorem d_X12_goesOnBehind_248 : decode (px_cc M_X12_goesOnBehind) 248 = .ok (.ireturn, 1) := by decide +kernel
theorem d_X12_goesOnBehind_249 : decode (px_cc M_X12_goesOnBehind) 249 = .ok (.aload_n 0, 1) := by decide +kernel
theorem d_X12_goesOnBehind_250 : decode (px_cc M_X12_goesOnBehind) 250 = .ok (.getfield 226, 3) := by decide +kernel
theorem d_X12_goesOnBehind_253 : decode (px_cc M_X12_goesOnBehind) 253 = .ok (.ifCond .ne 5, 3) := by decide +kernel
theorem d_X12_goesOnBehind_256 : decode (px_cc M_X12_goesOnBehind) 256 = .ok (.iconst 0, 1) := by decide +kernel
theorem d_X12_goesOnBehind_257 : decode (px_cc M_X12_goesOnBehind) 257 = .ok (.ireturn, 1) := by decide +kernel
theorem d_X12_goesOnBehind_258 : decode (px_cc M_X12_goesOnBehind) 258 = .ok (.aload_n 0, 1) := by decide +kernel
theorem d_X12_goesOnBehind_259 : decode (px_cc M_X12_goesOnBehind) 259 = .ok (.bipush 41, 2) := by decide +kernel
theorem d_X12_goesOnBehind_261 : decode (px_cc M_X12_goesOnBehind) 261 = .ok (.invokevirtual 243, 3) := by decide +kernel
theorem d_X12_goesOnBehind_264 : decode (px_cc M_X12_goesOnBehind) 264 = .ok (.aload_n 0, 1) := by decide +kernel
theorem d_X12_goesOnBehind_265 : decode (px_cc M_X12_goesOnBehind) 265 = .ok (.dup, 1) := by decide +kernel
theorem d_X12_goesOnBehind_266 : decode (px_cc M_X12_goesOnBehind) 266 = .ok (.getfield 226, 3) := by decide +kernel
theorem d_X12_goesOnBehind_269 : decode (px_cc M_X12_goesOnBehind) 269 = .ok (.iconst 1, 1) := by decide +kernel
theorem d_X12_goesOnBehind_270 : decode (px_cc M_X12_goesOnBehind) 270 = .ok (.isub, 1) := by decide +kernel
theorem d_X12_goesOnBehind_271 : decode (px_cc M_X12_goesOnBehind) 271 = .ok (.putfield 226, 3) := by decide +kernel
theorem d_X12_goesOnBehind_274 : decode (px_cc M_X12_goesOnBehind) 274 = .ok (.goto (-274), 3) := by decide +kernel
theorem d_X12_goesOnBehind_277 : decode (px_cc M_X12_goesOnBehind) 277 = .ok (.iconst 0, 1) := by decide +kernel
theorem d_X12_goesOnBehind_278 : decode (px_cc M_X12_goesOnBehind) 278 = .ok (.ireturn, 1) := by decide +kernel
theorem d_X12_worth_0 : decode (px_cc M_X12_worth) 0 = .ok (.iload_n 1, 1) := by decide +kernel
theorem d_X12_worth_1 : decode (px_cc M_X12_worth) 1 = .ok (.istore_n 2, 1) := by decide +kernel
theorem d_X12_worth_2 : decode (px_cc M_X12_worth) 2 = .ok (.iconst 0, 1) := by decide +kernel
theorem d_X12_worth_3 : decode (px_cc M_X12_worth) 3 = .ok (.istore_n 3, 1) := by decide +kernel
theorem d_X12_worth_4 : decode (px_cc M_X12_worth) 4 = .ok (.aload_n 0, 1) := by decide +kernel
theorem d_X12_worth_5 : decode (px_cc M_X12_worth) 5 = .ok (.getfield 63, 3) := by decide +kernel
theorem d_X12_worth_8 : decode (px_cc M_X12_worth) 8 = .ok (.iload_n 2, 1) := by decide +kernel
theorem d_X12_worth_9 : decode (px_cc M_X12_worth) 9 = .ok (.iaload, 1) := by decide +kernel
theorem d_X12_worth_10 : decode (px_cc M_X12_worth) 10 = .ok (.ifCond .eq 182, 3) := by decide +kernel
theorem d_X12_worth_13 : decode (px_cc M_X12_worth) 13 = .ok (.aload_n 0, 1) := by decide +kernel
theorem d_X12_worth_14 : decode (px_cc M_X12_worth) 14 = .ok (.getfield 63, 3) := by decide +kernel
theorem d_X12_worth_17 : decode (px_cc M_X12_worth) 17 = .ok (.iload_n 2, 1) := by decide +kernel
theorem d_X12_worth_18 : decode (px_cc M_X12_worth) 18 = .ok (.iaload, 1) := by decide +kernel
theorem d_X12_worth_19 : decode (px_cc M_X12_worth) 19 = .ok (.istore 4, 2) := by decide +kernel
theorem d_X12_worth_21 : decode (px_cc M_X12_worth) 21 = .ok (.iload 4, 2) := by decide +kernel
theorem d_X12_worth_23 : decode (px_cc M_X12_worth) 23 = .ok (.iconst 1, 1) := by decide +kernel
theorem d_X12_worth_24 : decode (px_cc M_X12_worth) 24 = .ok (.if_icmp .eq 9, 3) := by decide +kernel
theorem d_X12_worth_27 : decode (px_cc M_X12_worth) 27 = .ok (.iload 4, 2) := by decide +kernel
theorem d_X12_worth_29 : decode (px_cc M_X12_worth) 29 = .ok (.iconst 2, 1) := by decide +kernel
theorem d_X12_worth_30 : decode (px_cc M_X12_worth) 30 = .ok (.if_icmp .ne 41, 3) := by decide +kernel
theorem d_X12_worth_33 : decode (px_cc M_X12_worth) 33 = .ok (.aload_n 0, 1) := by decide +kernel
theorem d_X12_worth_34 : decode (px_cc M_X12_worth) 34 = .ok (.getfield 81, 3) := by decide +kernel
theorem d_X12_worth_37 : decode (px_cc M_X12_worth) 37 = .ok (.iload_n 3, 1) := by decide +kernel
theorem d_X12_worth_38 : decode (px_cc M_X12_worth) 38 = .ok (.iload 4, 2) := by decide +kernel
theorem d_X12_worth_40 : decode (px_cc M_X12_worth) 40 = .ok (.iconst 1, 1) := by decide +kernel
theorem d_X12_worth_41 : decode (px_cc M_X12_worth) 41 = .ok (.if_icmp .ne 12, 3) := by decide +kernel
theorem d_X12_worth_44 : decode (px_cc M_X12_worth) 44 = .ok (.aload_n 0, 1) := by decide +kernel
theorem d_X12_worth_45 : decode (px_cc M_X12_worth) 45 = .ok (.getfield 66, 3) := by decide +kernel
theorem d_X12_worth_48 : decode (px_cc M_X12_worth) 48 = .ok (.iload_n 2, 1) := by decide +kernel
theorem d_X12_worth_49 : decode (px_cc M_X12_worth) 49 = .ok (.iaload, 1) := by decide +kernel
theorem d_X12_worth_50 : decode (px_cc M_X12_worth) 50 = .ok (.goto 14, 3) := by decide +kernel
theorem d_X12_worth_53 : decode (px_cc M_X12_worth) 53 = .ok (.aload_n 0, 1) := by decide +kernel
theorem d_X12_worth_54 : decode (px_cc M_X12_worth) 54 = .ok (.getfield 78, 3) := by decide +kernel
theorem d_X12_worth_57 : decode (px_cc M_X12_worth) 57 = .ok (.aload_n 0, 1) := by decide +kernel
theorem d_X12_worth_58 : decode (px_cc M_X12_worth) 58 = .ok (.getfield 66, 3) := by decide +kernel
theorem d_X12_worth_61 : decode (px_cc M_X12_worth) 61 = .ok (.iload_n 2, 1) := by decide +kernel
theorem d_X12_worth_62 : decode (px_cc M_X12_worth) 62 = .ok (.iaload, 1) := by decide +kernel
theorem d_X12_worth_63 : decode (px_cc M_X12_worth) 63 = .ok (.iaload, 1) := by decide +kernel
theorem d_X12_worth_64 : decode (px_cc M_X12_worth) 64 = .ok (.iastore, 1) := by decide +kernel
theorem d_X12_worth_65 : decode (px_cc M_X12_worth) 65 = .ok (.iinc 3 1, 3) := by decide +kernel
theorem d_X12_worth_68 : decode (px_cc M_X12_worth) 68 = .ok (.goto 118, 3) := by decide +kernel
theorem d_X12_worth_71 : decode (px_cc M_X12_worth) 71 = .ok (.iinc 3 (-1), 3) := by decide +kernel
theorem d_X12_worth_74 : decode (px_cc M_X12_worth) 74 = .ok (.aload_n 0, 1) := by decide +kernel
theorem d_X12_worth_75 : decode (px_cc M_X12_worth) 75 = .ok (.getfield 81, 3) := by decide +kernel
theorem d_X12_worth_78 : decode (px_cc M_X12_worth) 78 = .ok (.iload_n 3, 1) := by decide +kernel
theorem d_X12_worth_79 : decode (px_cc M_X12_worth) 79 = .ok (.iaload, 1) := by decide +kernel
theorem d_X12_worth_80 : decode (px_cc M_X12_worth) 80 = .ok (.istore 5, 2) := by decide +kernel
theorem d_X12_worth_82 : decode (px_cc M_X12_worth) 82 = .ok (.aload_n 0, 1) := by decide +kernel
theorem d_X12_worth_83 : decode (px_cc M_X12_worth) 83 = .ok (.getfield 81, 3) := by decide +kernel
theorem d_X12_worth_86 : decode (px_cc M_X12_worth) 86 = .ok (.iload_n 3, 1) := by decide +kernel
theorem d_X12_worth_87 : decode (px_cc M_X12_worth) 87 = .ok (.iconst 1, 1) := by decide +kernel
theorem d_X12_worth_88 : decode (px_cc M_X12_worth) 88 = .ok (.isub, 1) := by decide +kernel
theorem d_X12_worth_89 : decode (px_cc M_X12_worth) 89 = .ok (.iaload, 1) := by decide +kernel
theorem d_X12_worth_90 : decode (px_cc M_X12_worth) 90 = .ok (.istore 6, 2) := by decide +kernel
theorem d_X12_worth_92 : decode (px_cc M_X12_worth) 92 = .ok (.aload_n 0, 1) := by decide +kernel
theorem d_X12_worth_93 : decode (px_cc M_X12_worth) 93 = .ok (.getfield 81, 3) := by decide +kernel
theorem d_X12_worth_96 : decode (px_cc M_X12_worth) 96 = .ok (.iload_n 3, 1) := by decide +kernel
theorem d_X12_worth_97 : decode (px_cc M_X12_worth) 97 = .ok (.iconst 1, 1) := by decide +kernel
theorem d_X12_worth_98 : decode (px_cc M_X12_worth) 98 = .ok (.isub, 1) := by decide +kernel
theorem d_X12_worth_99 : decode (px_cc M_X12_worth) 99 = .ok (.iload 4, 2) := by decide +kernel
theorem d_X12_worth_101 : decode (px_cc M_X12_worth) 101 = .ok (.iconst 3, 1) := by decide +kernel
theorem d_X12_worth_102 : decode (px_cc M_X12_worth) 102 = .ok (.if_icmp .ne 11, 3) := by decide +kernel
theorem d_X12_worth_105 : decode (px_cc M_X12_worth) 105 = .ok (.iload 6, 2) := by decide +kernel
theorem d_X12_worth_107 : decode (px_cc M_X12_worth) 107 = .ok (.iload 5, 2) := by decide +kernel
theorem d_X12_worth_109 : decode (px_cc M_X12_worth) 109 = .ok (.iadd, 1) := by decide +kernel
theorem d_X12_worth_110 : decode (px_cc M_X12_worth) 110 = .ok (.goto 75, 3) := by decide +kernel
theorem d_X12_worth_113 : decode (px_cc M_X12_worth) 113 = .ok (.iload 4, 2) := by decide +kernel
theorem d_X12_worth_115 : decode (px_cc M_X12_worth) 115 = .ok (.iconst 4, 1) := by decide +kernel
theorem d_X12_worth_116 : decode (px_cc M_X12_worth) 116 = .ok (.if_icmp .ne 11, 3) := by decide +kernel
theorem d_X12_worth_119 : decode (px_cc M_X12_worth) 119 = .ok (.iload 6, 2) := by decide +kernel
theorem d_X12_worth_121 : decode (px_cc M_X12_worth) 121 = .ok (.iload 5, 2) := by decide +kernel
theorem d_X12_worth_123 : decode (px_cc M_X12_worth) 123 = .ok (.isub, 1) := by decide +kernel
theorem d_X12_worth_124 : decode (px_cc M_X12_worth) 124 = .ok (.goto 61, 3) := by decide +kernel
theorem d_X12_worth_127 : decode (px_cc M_X12_worth) 127 = .ok (.iload 4, 2) := by decide +kernel
theorem d_X12_worth_129 : decode (px_cc M_X12_worth) 129 = .ok (.iconst 5, 1) := by decide +kernel
theorem d_X12_worth_130 : decode (px_cc M_X12_worth) 130 = .ok (.if_icmp .ne 18, 3) := by decide +kernel
theorem d_X12_worth_133 : decode (px_cc M_X12_worth) 133 = .ok (.iload 6, 2) := by decide +kernel
theorem d_X12_worth_135 : decode (px_cc M_X12_worth) 135 = .ok (.iload 5, 2) := by decide +kernel
theorem d_X12_worth_137 : decode (px_cc M_X12_worth) 137 = .ok (.if_icmp .ge 7, 3) := by decide +kernel
theorem d_X12_worth_140 : decode (px_cc M_X12_worth) 140 = .ok (.iconst 1, 1) := by decide +kernel
theorem d_X12_worth_141 : decode (px_cc M_X12_worth) 141 = .ok (.goto 44, 3) := by decide +kernel
theorem d_X12_worth_144 : decode (px_cc M_X12_worth) 144 = .ok (.iconst 0, 1) := by decide +kernel
theorem d_X12_worth_145 : decode (px_cc M_X12_worth) 145 = .ok (.goto 40, 3) := by decide +kernel
theorem d_X12_worth_148 : decode (px_cc M_X12_worth) 148 = .ok (.iload 4, 2) := by decide +kernel
theorem d_X12_worth_150 : decode (px_cc M_X12_worth) 150 = .ok (.bipush 6, 2) := by decide +kernel
theorem d_X12_worth_152 : decode (px_cc M_X12_worth) 152 = .ok (.if_icmp .ne 18, 3) := by decide +kernel
theorem d_X12_worth_155 : decode (px_cc M_X12_worth) 155 = .ok (.iload 6, 2) := by decide +kernel
theorem d_X12_worth_157 : decode (px_cc M_X12_worth) 157 = .ok (.iload 5, 2) := by decide +kernel
theorem d_X12_worth_159 : decode (px_cc M_X12_worth) 159 = .ok (.if_icmp .ne 7, 3) := by decide +kernel
theorem d_X12_worth_162 : decode (px_cc M_X12_worth) 162 = .ok (.iconst 1, 1) := by decide +kernel
theorem d_X12_worth_163 : decode (px_cc M_X12_worth) 163 = .ok (.goto 22, 3) := by decide +kernel
theorem d_X12_worth_166 : decode (px_cc M_X12_worth) 166 = .ok (.iconst 0, 1) := by decide +kernel
theorem d_X12_worth_167 : decode (px_cc M_X12_worth) 167 = .ok (.goto 18, 3) := by decide +kernel
theorem d_X12_worth_170 : decode (px_cc M_X12_worth) 170 = .ok (.iload 6, 2) := by decide +kernel
theorem d_X12_worth_172 : decode (px_cc M_X12_worth) 172 = .ok (.ifCond .eq 12, 3) := by decide +kernel
theorem d_X12_worth_175 : decode (px_cc M_X12_worth) 175 = .ok (.iload 5, 2) := by decide +kernel
theorem d_X12_worth_177 : decode (px_cc M_X12_worth) 177 = .ok (.ifCond .eq 7, 3) := by decide +kernel
theorem d_X12_worth_180 : decode (px_cc M_X12_worth) 180 = .ok (.iconst 1, 1) := by decide +kernel
theorem d_X12_worth_181 : decode (px_cc M_X12_worth) 181 = .ok (.goto 4, 3) := by decide +kernel
theorem d_X12_worth_184 : decode (px_cc M_X12_worth) 184 = .ok (.iconst 0, 1) := by decide +kernel
theorem d_X12_worth_185 : decode (px_cc M_X12_worth) 185 = .ok (.iastore, 1) := by decide +kernel
theorem d_X12_worth_186 : decode (px_cc M_X12_worth) 186 = .ok (.iinc 2 1, 3) := by decide +kernel
theorem d_X12_worth_189 : decode (px_cc M_X12_worth) 189 = .ok (.goto (-185), 3) := by decide +kernel
theorem d_X12_worth_192 : decode (px_cc M_X12_worth) 192 = .ok (.aload_n 0, 1) := by decide +kernel
theorem d_X12_worth_193 : decode (px_cc M_X12_worth) 193 = .ok (.getfield 81, 3) := by decide +kernel
theorem d_X12_worth_196 : decode (px_cc M_X12_worth) 196 = .ok (.iconst 0, 1) := by decide +kernel
theorem d_X12_worth_197 : decode (px_cc M_X12_worth) 197 = .ok (.iaload, 1) := by decide +kernel
theorem d_X12_worth_198 : decode (px_cc M_X12_worth) 198 = .ok (.ireturn, 1) := by decide +kernel
theorem d_X12_firstOf_0 : decode (px_cc M_X12_firstOf) 0 = .ok (.iconst (-1), 1) := by decide +kernel
theorem d_X12_firstOf_1 : decode (px_cc M_X12_firstOf) 1 = .ok (.istore 4, 2) := by decide +kernel
theorem d_X12_firstOf_3 : decode (px_cc M_X12_firstOf) 3 = .ok (.iconst 0, 1) := by decide +kernel
theorem d_X12_firstOf_4 : decode (px_cc M_X12_firstOf) 4 = .ok (.istore 5, 2) := by decide +kernel
theorem d_X12_firstOf_6 : decode (px_cc M_X12_firstOf) 6 = .ok (.iload 5, 2) := by decide +kernel
theorem d_X12_firstOf_8 : decode (px_cc M_X12_firstOf) 8 = .ok (.aload_n 0, 1) := by decide +kernel
theorem d_X12_firstOf_9 : decode (px_cc M_X12_firstOf) 9 = .ok (.getfield 206, 3) := by decide +kernel
theorem d_X12_firstOf_12 : decode (px_cc M_X12_firstOf) 12 = .ok (.if_icmp .ge 40, 3) := by decide +kernel
theorem d_X12_firstOf_15 : decode (px_cc M_X12_firstOf) 15 = .ok (.aload_n 0, 1) := by decide +kernel
theorem d_X12_firstOf_16 : decode (px_cc M_X12_firstOf) 16 = .ok (.getfield 44, 3) := by decide +kernel
theorem d_X12_firstOf_19 : decode (px_cc M_X12_firstOf) 19 = .ok (.iload 5, 2) := by decide +kernel
theorem d_X12_firstOf_21 : decode (px_cc M_X12_firstOf) 21 = .ok (.iaload, 1) := by decide +kernel
theorem d_X12_firstOf_22 : decode (px_cc M_X12_firstOf) 22 = .ok (.iload_n 2, 1) := by decide +kernel
theorem d_X12_firstOf_23 : decode (px_cc M_X12_firstOf) 23 = .ok (.if_icmp .gt 19, 3) := by decide +kernel
theorem d_X12_firstOf_26 : decode (px_cc M_X12_firstOf) 26 = .ok (.aload_n 0, 1) := by decide +kernel
theorem d_X12_firstOf_27 : decode (px_cc M_X12_firstOf) 27 = .ok (.getfield 47, 3) := by decide +kernel
theorem d_X12_firstOf_30 : decode (px_cc M_X12_firstOf) 30 = .ok (.iload 5, 2) := by decide +kernel
theorem d_X12_firstOf_32 : decode (px_cc M_X12_firstOf) 32 = .ok (.iaload, 1) := by decide +kernel
theorem d_X12_firstOf_33 : decode (px_cc M_X12_firstOf) 33 = .ok (.iload_n 3, 1) := by decide +kernel
theorem d_X12_firstOf_34 : decode (px_cc M_X12_firstOf) 34 = .ok (.if_icmp .gt 8, 3) := by decide +kernel
theorem d_X12_firstOf_37 : decode (px_cc M_X12_firstOf) 37 = .ok (.iload 5, 2) := by decide +kernel
theorem d_X12_firstOf_39 : decode (px_cc M_X12_firstOf) 39 = .ok (.goto 5, 3) := by decide +kernel
theorem d_X12_firstOf_42 : decode (px_cc M_X12_firstOf) 42 = .ok (.iload 4, 2) := by decide +kernel
theorem d_X12_firstOf_44 : decode (px_cc M_X12_firstOf) 44 = .ok (.istore 4, 2) := by decide +kernel
theorem d_X12_firstOf_46 : decode (px_cc M_X12_firstOf) 46 = .ok (.iinc 5 1, 3) := by decide +kernel
theorem d_X12_firstOf_49 : decode (px_cc M_X12_firstOf) 49 = .ok (.goto (-43), 3) := by decide +kernel
theorem d_X12_firstOf_52 : decode (px_cc M_X12_firstOf) 52 = .ok (.iconst 0, 1) := by decide +kernel
theorem d_X12_firstOf_53 : decode (px_cc M_X12_firstOf) 53 = .ok (.istore 5, 2) := by decide +kernel
theorem d_X12_firstOf_55 : decode (px_cc M_X12_firstOf) 55 = .ok (.iload 4, 2) := by decide +kernel
theorem d_X12_firstOf_57 : decode (px_cc M_X12_firstOf) 57 = .ok (.ifCond .lt 79, 3) := by decide +kernel
theorem d_X12_firstOf_60 : decode (px_cc M_X12_firstOf) 60 = .ok (.iload 5, 2) := by decide +kernel
theorem d_X12_firstOf_62 : decode (px_cc M_X12_firstOf) 62 = .ok (.aload_n 0, 1) := by decide +kernel
theorem d_X12_firstOf_63 : decode (px_cc M_X12_firstOf) 63 = .ok (.getfield 50, 3) := by decide +kernel
theorem d_X12_firstOf_66 : decode (px_cc M_X12_firstOf) 66 = .ok (.iload 4, 2) := by decide +kernel
theorem d_X12_firstOf_68 : decode (px_cc M_X12_firstOf) 68 = .ok (.iaload, 1) := by decide +kernel
theorem d_X12_firstOf_69 : decode (px_cc M_X12_firstOf) 69 = .ok (.if_icmp .ge 67, 3) := by decide +kernel
theorem d_X12_firstOf_72 : decode (px_cc M_X12_firstOf) 72 = .ok (.aload_n 0, 1) := by decide +kernel
theorem d_X12_firstOf_73 : decode (px_cc M_X12_firstOf) 73 = .ok (.getfield 53, 3) := by decide +kernel
theorem d_X12_firstOf_76 : decode (px_cc M_X12_firstOf) 76 = .ok (.bipush 16, 2) := by decide +kernel
theorem d_X12_firstOf_78 : decode (px_cc M_X12_firstOf) 78 = .ok (.iload 4, 2) := by decide +kernel
theorem d_X12_firstOf_80 : decode (px_cc M_X12_firstOf) 80 = .ok (.imul, 1) := by decide +kernel
theorem d_X12_firstOf_81 : decode (px_cc M_X12_firstOf) 81 = .ok (.iload 5, 2) := by decide +kernel
theorem d_X12_firstOf_83 : decode (px_cc M_X12_firstOf) 83 = .ok (.iadd, 1) := by decide +kernel
theorem d_X12_firstOf_84 : decode (px_cc M_X12_firstOf) 84 = .ok (.baload, 1) := by decide +kernel
theorem d_X12_firstOf_85 : decode (px_cc M_X12_firstOf) 85 = .ok (.iload_n 1, 1) := by decide +kernel
theorem d_X12_firstOf_86 : decode (px_cc M_X12_firstOf) 86 = .ok (.if_icmp .ne 44, 3) := by decide +kernel
theorem d_X12_firstOf_89 : decode (px_cc M_X12_firstOf) 89 = .ok (.aload_n 0, 1) := by decide +kernel
theorem d_X12_firstOf_90 : decode (px_cc M_X12_firstOf) 90 = .ok (.sipush 660, 3) := by decide +kernel
theorem d_X12_firstOf_93 : decode (px_cc M_X12_firstOf) 93 = .ok (.iload 4, 2) := by decide +kernel
theorem d_X12_firstOf_95 : decode (px_cc M_X12_firstOf) 95 = .ok (.imul, 1) := by decide +kernel
theorem d_X12_firstOf_96 : decode (px_cc M_X12_firstOf) 96 = .ok (.aload_n 0, 1) := by decide +kernel
theorem d_X12_firstOf_97 : decode (px_cc M_X12_firstOf) 97 = .ok (.getfield 60, 3) := by decide +kernel
theorem d_X12_firstOf_100 : decode (px_cc M_X12_firstOf) 100 = .ok (.bipush 16, 2) := by decide +kernel
theorem d_X12_firstOf_102 : decode (px_cc M_X12_firstOf) 102 = .ok (.iload 4, 2) := by decide +kernel
theorem d_X12_firstOf_104 : decode (px_cc M_X12_firstOf) 104 = .ok (.imul, 1) := by decide +kernel
theorem d_X12_firstOf_105 : decode (px_cc M_X12_firstOf) 105 = .ok (.iload 5, 2) := by decide +kernel
theorem d_X12_firstOf_107 : decode (px_cc M_X12_firstOf) 107 = .ok (.iadd, 1) := by decide +kernel
theorem d_X12_firstOf_108 : decode (px_cc M_X12_firstOf) 108 = .ok (.iaload, 1) := by decide +kernel
theorem d_X12_firstOf_109 : decode (px_cc M_X12_firstOf) 109 = .ok (.iadd, 1) := by decide +kernel
theorem d_X12_firstOf_110 : decode (px_cc M_X12_firstOf) 110 = .ok (.invokevirtual 253, 3) := by decide +kernel
theorem d_X12_firstOf_113 : decode (px_cc M_X12_firstOf) 113 = .ok (.ifCond .eq 17, 3) := by decide +kernel
theorem d_X12_firstOf_116 : decode (px_cc M_X12_firstOf) 116 = .ok (.aload_n 0, 1) := by decide +kernel
theorem d_X12_firstOf_117 : decode (px_cc M_X12_firstOf) 117 = .ok (.getfield 57, 3) := by decide +kernel
theorem d_X12_firstOf_120 : decode (px_cc M_X12_firstOf) 120 = .ok (.bipush 16, 2) := by decide +kernel
theorem d_X12_firstOf_122 : decode (px_cc M_X12_firstOf) 122 = .ok (.iload 4, 2) := by decide +kernel
theorem d_X12_firstOf_124 : decode (px_cc M_X12_firstOf) 124 = .ok (.imul, 1) := by decide +kernel
theorem d_X12_firstOf_125 : decode (px_cc M_X12_firstOf) 125 = .ok (.iload 5, 2) := by decide +kernel
theorem d_X12_firstOf_127 : decode (px_cc M_X12_firstOf) 127 = .ok (.iadd, 1) := by decide +kernel
theorem d_X12_firstOf_128 : decode (px_cc M_X12_firstOf) 128 = .ok (.iaload, 1) := by decide +kernel
theorem d_X12_firstOf_129 : decode (px_cc M_X12_firstOf) 129 = .ok (.ireturn, 1) := by decide +kernel
theorem d_X12_firstOf_130 : decode (px_cc M_X12_firstOf) 130 = .ok (.iinc 5 1, 3) := by decide +kernel
theorem d_X12_firstOf_133 : decode (px_cc M_X12_firstOf) 133 = .ok (.goto (-78), 3) := by decide +kernel
theorem d_X12_firstOf_136 : decode (px_cc M_X12_firstOf) 136 = .ok (.iconst (-1), 1) := by decide +kernel
theorem d_X12_firstOf_137 : decode (px_cc M_X12_firstOf) 137 = .ok (.ireturn, 1) := by decide +kernel
theorem d_X12_account_0 : decode (px_cc M_X12_account) 0 = .ok (.aload_n 0, 1) := by decide +kernel
theorem d_X12_account_1 : decode (px_cc M_X12_account) 1 = .ok (.iconst 0, 1) := by decide +kernel
theorem d_X12_account_2 : decode (px_cc M_X12_account) 2 = .ok (.putfield 150, 3) := by decide +kernel
theorem d_X12_account_5 : decode (px_cc M_X12_account) 5 = .ok (.iload_n 1, 1) := by decide +kernel
theorem d_X12_account_6 : decode (px_cc M_X12_account) 6 = .ok (.iconst 1, 1) := by decide +kernel
theorem d_X12_account_7 : decode (px_cc M_X12_account) 7 = .ok (.if_icmp .eq 8, 3) := by decide +kernel
theorem d_X12_account_10 : decode (px_cc M_X12_account) 10 = .ok (.iload_n 1, 1) := by decide +kernel
theorem d_X12_account_11 : decode (px_cc M_X12_account) 11 = .ok (.iconst 3, 1) := by decide +kernel
theorem d_X12_account_12 : decode (px_cc M_X12_account) 12 = .ok (.if_icmp .ne 7, 3) := by decide +kernel
theorem d_X12_account_15 : decode (px_cc M_X12_account) 15 = .ok (.iconst 1, 1) := by decide +kernel
theorem d_X12_account_16 : decode (px_cc M_X12_account) 16 = .ok (.goto 4, 3) := by decide +kernel
theorem d_X12_account_19 : decode (px_cc M_X12_account) 19 = .ok (.iconst 0, 1) := by decide +kernel
theorem d_X12_account_20 : decode (px_cc M_X12_account) 20 = .ok (.istore_n 3, 1) := by decide +kernel
theorem d_X12_account_21 : decode (px_cc M_X12_account) 21 = .ok (.iload_n 1, 1) := by decide +kernel
theorem d_X12_account_22 : decode (px_cc M_X12_account) 22 = .ok (.ifCond .lt 32, 3) := by decide +kernel
theorem d_X12_account_25 : decode (px_cc M_X12_account) 25 = .ok (.iload_n 1, 1) := by decide +kernel
theorem d_X12_account_26 : decode (px_cc M_X12_account) 26 = .ok (.iconst 3, 1) := by decide +kernel
theorem d_X12_account_27 : decode (px_cc M_X12_account) 27 = .ok (.if_icmp .gt 27, 3) := by decide +kernel
theorem d_X12_account_30 : decode (px_cc M_X12_account) 30 = .ok (.iload_n 3, 1) := by decide +kernel
theorem d_X12_account_31 : decode (px_cc M_X12_account) 31 = .ok (.ifCond .eq 14, 3) := by decide +kernel
theorem d_X12_account_34 : decode (px_cc M_X12_account) 34 = .ok (.iload_n 2, 1) := by decide +kernel
theorem d_X12_account_35 : decode (px_cc M_X12_account) 35 = .ok (.ifCond .lt 19, 3) := by decide +kernel
theorem d_X12_account_38 : decode (px_cc M_X12_account) 38 = .ok (.iload_n 2, 1) := by decide +kernel
theorem d_X12_account_39 : decode (px_cc M_X12_account) 39 = .ok (.sipush 719, 3) := by decide +kernel
theorem d_X12_account_42 : decode (px_cc M_X12_account) 42 = .ok (.if_icmp .gt 12, 3) := by decide +kernel
theorem d_X12_account_45 : decode (px_cc M_X12_account) 45 = .ok (.aload_n 0, 1) := by decide +kernel
theorem d_X12_account_46 : decode (px_cc M_X12_account) 46 = .ok (.getfield 256, 3) := by decide +kernel
theorem d_X12_account_49 : decode (px_cc M_X12_account) 49 = .ok (.bipush 20, 2) := by decide +kernel
theorem d_X12_account_51 : decode (px_cc M_X12_account) 51 = .ok (.if_icmp .ne 5, 3) := by decide +kernel
theorem d_X12_account_54 : decode (px_cc M_X12_account) 54 = .ok (.iconst (-1), 1) := by decide +kernel
theorem d_X12_account_55 : decode (px_cc M_X12_account) 55 = .ok (.ireturn, 1) := by decide +kernel
theorem d_X12_account_56 : decode (px_cc M_X12_account) 56 = .ok (.aload_n 0, 1) := by decide +kernel
theorem d_X12_account_57 : decode (px_cc M_X12_account) 57 = .ok (.getfield 84, 3) := by decide +kernel
theorem d_X12_account_60 : decode (px_cc M_X12_account) 60 = .ok (.aload_n 0, 1) := by decide +kernel
theorem d_X12_account_61 : decode (px_cc M_X12_account) 61 = .ok (.getfield 256, 3) := by decide +kernel
theorem d_X12_account_64 : decode (px_cc M_X12_account) 64 = .ok (.iload_n 1, 1) := by decide +kernel
theorem d_X12_account_65 : decode (px_cc M_X12_account) 65 = .ok (.iastore, 1) := by decide +kernel
theorem d_X12_account_66 : decode (px_cc M_X12_account) 66 = .ok (.aload_n 0, 1) := by decide +kernel
theorem d_X12_account_67 : decode (px_cc M_X12_account) 67 = .ok (.getfield 87, 3) := by decide +kernel
theorem d_X12_account_70 : decode (px_cc M_X12_account) 70 = .ok (.aload_n 0, 1) := by decide +kernel
theorem d_X12_account_71 : decode (px_cc M_X12_account) 71 = .ok (.getfield 256, 3) := by decide +kernel
theorem d_X12_account_74 : decode (px_cc M_X12_account) 74 = .ok (.iload_n 3, 1) := by decide +kernel
theorem d_X12_account_75 : decode (px_cc M_X12_account) 75 = .ok (.ifCond .eq 7, 3) := by decide +kernel
theorem d_X12_account_78 : decode (px_cc M_X12_account) 78 = .ok (.iload_n 2, 1) := by decide +kernel
theorem d_X12_account_79 : decode (px_cc M_X12_account) 79 = .ok (.goto 4, 3) := by decide +kernel
theorem d_X12_account_82 : decode (px_cc M_X12_account) 82 = .ok (.iconst 0, 1) := by decide +kernel
theorem d_X12_account_83 : decode (px_cc M_X12_account) 83 = .ok (.iastore, 1) := by decide +kernel
theorem d_X12_account_84 : decode (px_cc M_X12_account) 84 = .ok (.aload_n 0, 1) := by decide +kernel
theorem d_X12_account_85 : decode (px_cc M_X12_account) 85 = .ok (.getfield 90, 3) := by decide +kernel
theorem d_X12_account_88 : decode (px_cc M_X12_account) 88 = .ok (.aload_n 0, 1) := by decide +kernel
theorem d_X12_account_89 : decode (px_cc M_X12_account) 89 = .ok (.getfield 256, 3) := by decide +kernel
theorem d_X12_account_92 : decode (px_cc M_X12_account) 92 = .ok (.aload_n 0, 1) := by decide +kernel
theorem d_X12_account_93 : decode (px_cc M_X12_account) 93 = .ok (.getfield 218, 3) := by decide +kernel
theorem d_X12_account_96 : decode (px_cc M_X12_account) 96 = .ok (.iastore, 1) := by decide +kernel
theorem d_X12_account_97 : decode (px_cc M_X12_account) 97 = .ok (.aload_n 0, 1) := by decide +kernel
theorem d_X12_account_98 : decode (px_cc M_X12_account) 98 = .ok (.dup, 1) := by decide +kernel
theorem d_X12_account_99 : decode (px_cc M_X12_account) 99 = .ok (.getfield 256, 3) := by decide +kernel
theorem d_X12_account_102 : decode (px_cc M_X12_account) 102 = .ok (.iconst 1, 1) := by decide +kernel
theorem d_X12_account_103 : decode (px_cc M_X12_account) 103 = .ok (.iadd, 1) := by decide +kernel
theorem d_X12_account_104 : decode (px_cc M_X12_account) 104 = .ok (.putfield 256, 3) := by decide +kernel
theorem d_X12_account_107 : decode (px_cc M_X12_account) 107 = .ok (.aload_n 0, 1) := by decide +kernel
theorem d_X12_account_108 : decode (px_cc M_X12_account) 108 = .ok (.getfield 256, 3) := by decide +kernel
theorem d_X12_account_111 : decode (px_cc M_X12_account) 111 = .ok (.iconst 1, 1) := by decide +kernel
theorem d_X12_account_112 : decode (px_cc M_X12_account) 112 = .ok (.isub, 1) := by decide +kernel
theorem d_X12_account_113 : decode (px_cc M_X12_account) 113 = .ok (.ireturn, 1) := by decide +kernel
theorem d_X12_isAccount_0 : decode (px_cc M_X12_isAccount) 0 = .ok (.iload_n 1, 1) := by decide +kernel
theorem d_X12_isAccount_1 : decode (px_cc M_X12_isAccount) 1 = .ok (.ifCond .lt 15, 3) := by decide +kernel
theorem d_X12_isAccount_4 : decode (px_cc M_X12_isAccount) 4 = .ok (.iload_n 1, 1) := by decide +kernel
theorem d_X12_isAccount_5 : decode (px_cc M_X12_isAccount) 5 = .ok (.aload_n 0, 1) := by decide +kernel
theorem d_X12_isAccount_6 : decode (px_cc M_X12_isAccount) 6 = .ok (.getfield 256, 3) := by decide +kernel
theorem d_X12_isAccount_9 : decode (px_cc M_X12_isAccount) 9 = .ok (.if_icmp .ge 7, 3) := by decide +kernel
theorem d_X12_isAccount_12 : decode (px_cc M_X12_isAccount) 12 = .ok (.iconst 1, 1) := by decide +kernel
theorem d_X12_isAccount_13 : decode (px_cc M_X12_isAccount) 13 = .ok (.goto 4, 3) := by decide +kernel
theorem d_X12_isAccount_16 : decode (px_cc M_X12_isAccount) 16 = .ok (.iconst 0, 1) := by decide +kernel
theorem d_X12_isAccount_17 : decode (px_cc M_X12_isAccount) 17 = .ok (.ireturn, 1) := by decide +kernel
theorem d_X12_days_0 : decode (px_cc M_X12_days) 0 = .ok (.aload_n 0, 1) := by decide +kernel
theorem d_X12_days_1 : decode (px_cc M_X12_days) 1 = .ok (.iconst 0, 1) := by decide +kernel
theorem d_X12_days_2 : decode (px_cc M_X12_days) 2 = .ok (.putfield 150, 3) := by decide +kernel
theorem d_X12_days_5 : decode (px_cc M_X12_days) 5 = .ok (.iload_n 1, 1) := by decide +kernel
theorem d_X12_days_6 : decode (px_cc M_X12_days) 6 = .ok (.ifCond .lt 22, 3) := by decide +kernel
theorem d_X12_days_9 : decode (px_cc M_X12_days) 9 = .ok (.iload_n 1, 1) := by decide +kernel
theorem d_X12_days_10 : decode (px_cc M_X12_days) 10 = .ok (.sipush 200, 3) := by decide +kernel
theorem d_X12_days_13 : decode (px_cc M_X12_days) 13 = .ok (.if_icmp .gt 15, 3) := by decide +kernel
theorem d_X12_days_16 : decode (px_cc M_X12_days) 16 = .ok (.aload_n 0, 1) := by decide +kernel
theorem d_X12_days_17 : decode (px_cc M_X12_days) 17 = .ok (.getfield 218, 3) := by decide +kernel
theorem d_X12_days_20 : decode (px_cc M_X12_days) 20 = .ok (.iload_n 1, 1) := by decide +kernel
theorem d_X12_days_21 : decode (px_cc M_X12_days) 21 = .ok (.iadd, 1) := by decide +kernel
theorem d_X12_days_22 : decode (px_cc M_X12_days) 22 = .ok (.sipush 719, 3) := by decide +kernel
theorem d_X12_days_25 : decode (px_cc M_X12_days) 25 = .ok (.if_icmp .le 5, 3) := by decide +kernel
theorem d_X12_days_28 : decode (px_cc M_X12_days) 28 = .ok (.iconst (-1), 1) := by decide +kernel
theorem d_X12_days_29 : decode (px_cc M_X12_days) 29 = .ok (.ireturn, 1) := by decide +kernel
theorem d_X12_days_30 : decode (px_cc M_X12_days) 30 = .ok (.aload_n 0, 1) := by decide +kernel
theorem d_X12_days_31 : decode (px_cc M_X12_days) 31 = .ok (.dup, 1) := by decide +kernel
theorem d_X12_days_32 : decode (px_cc M_X12_days) 32 = .ok (.getfield 218, 3) := by decide +kernel
theorem d_X12_days_35 : decode (px_cc M_X12_days) 35 = .ok (.iload_n 1, 1) := by decide +kernel
theorem d_X12_days_36 : decode (px_cc M_X12_days) 36 = .ok (.iadd, 1) := by decide +kernel
theorem d_X12_days_37 : decode (px_cc M_X12_days) 37 = .ok (.putfield 218, 3) := by decide +kernel
theorem d_X12_days_40 : decode (px_cc M_X12_days) 40 = .ok (.aload_n 0, 1) := by decide +kernel
theorem d_X12_days_41 : decode (px_cc M_X12_days) 41 = .ok (.getfield 218, 3) := by decide +kernel
theorem d_X12_days_44 : decode (px_cc M_X12_days) 44 = .ok (.ireturn, 1) := by decide +kernel
theorem d_X12_posts_0 : decode (px_cc M_X12_posts) 0 = .ok (.aload_n 0, 1) := by decide +kernel
theorem d_X12_posts_1 : decode (px_cc M_X12_posts) 1 = .ok (.getfield 96, 3) := by decide +kernel
theorem d_X12_posts_4 : decode (px_cc M_X12_posts) 4 = .ok (.aload_n 0, 1) := by decide +kernel
theorem d_X12_posts_5 : decode (px_cc M_X12_posts) 5 = .ok (.getfield 259, 3) := by decide +kernel
theorem d_X12_posts_8 : decode (px_cc M_X12_posts) 8 = .ok (.iload_n 1, 1) := by decide +kernel
theorem d_X12_posts_9 : decode (px_cc M_X12_posts) 9 = .ok (.iastore, 1) := by decide +kernel
theorem d_X12_posts_10 : decode (px_cc M_X12_posts) 10 = .ok (.aload_n 0, 1) := by decide +kernel
theorem d_X12_posts_11 : decode (px_cc M_X12_posts) 11 = .ok (.getfield 99, 3) := by decide +kernel
theorem d_X12_posts_14 : decode (px_cc M_X12_posts) 14 = .ok (.aload_n 0, 1) := by decide +kernel
theorem d_X12_posts_15 : decode (px_cc M_X12_posts) 15 = .ok (.getfield 259, 3) := by decide +kernel
theorem d_X12_posts_18 : decode (px_cc M_X12_posts) 18 = .ok (.iload_n 3, 1) := by decide +kernel
theorem d_X12_posts_19 : decode (px_cc M_X12_posts) 19 = .ok (.iastore, 1) := by decide +kernel
theorem d_X12_posts_20 : decode (px_cc M_X12_posts) 20 = .ok (.aload_n 0, 1) := by decide +kernel
theorem d_X12_posts_21 : decode (px_cc M_X12_posts) 21 = .ok (.getfield 102, 3) := by decide +kernel
theorem d_X12_posts_24 : decode (px_cc M_X12_posts) 24 = .ok (.aload_n 0, 1) := by decide +kernel
theorem d_X12_posts_25 : decode (px_cc M_X12_posts) 25 = .ok (.getfield 259, 3) := by decide +kernel
theorem d_X12_posts_28 : decode (px_cc M_X12_posts) 28 = .ok (.iload 4, 2) := by decide +kernel
theorem d_X12_posts_30 : decode (px_cc M_X12_posts) 30 = .ok (.iastore, 1) := by decide +kernel
theorem d_X12_posts_31 : decode (px_cc M_X12_posts) 31 = .ok (.aload_n 0, 1) := by decide +kernel
theorem d_X12_posts_32 : decode (px_cc M_X12_posts) 32 = .ok (.getfield 105, 3) := by decide +kernel
theorem d_X12_posts_35 : decode (px_cc M_X12_posts) 35 = .ok (.aload_n 0, 1) := by decide +kernel
theorem d_X12_posts_36 : decode (px_cc M_X12_posts) 36 = .ok (.getfield 259, 3) := by decide +kernel
theorem d_X12_posts_39 : decode (px_cc M_X12_posts) 39 = .ok (.aload_n 0, 1) := by decide +kernel
theorem d_X12_posts_40 : decode (px_cc M_X12_posts) 40 = .ok (.getfield 218, 3) := by decide +kernel
theorem d_X12_posts_43 : decode (px_cc M_X12_posts) 43 = .ok (.iastore, 1) := by decide +kernel
theorem d_X12_posts_44 : decode (px_cc M_X12_posts) 44 = .ok (.aload_n 0, 1) := by decide +kernel
theorem d_X12_posts_45 : decode (px_cc M_X12_posts) 45 = .ok (.getfield 108, 3) := by decide +kernel
theorem d_X12_posts_48 : decode (px_cc M_X12_posts) 48 = .ok (.iload_n 2, 1) := by decide +kernel
theorem d_X12_posts_49 : decode (px_cc M_X12_posts) 49 = .ok (.dup2, 1) := by decide +kernel
theorem d_X12_posts_50 : decode (px_cc M_X12_posts) 50 = .ok (.iaload, 1) := by decide +kernel
theorem d_X12_posts_51 : decode (px_cc M_X12_posts) 51 = .ok (.iload 4, 2) := by decide +kernel
theorem d_X12_posts_53 : decode (px_cc M_X12_posts) 53 = .ok (.iadd, 1) := by decide +kernel
theorem d_X12_posts_54 : decode (px_cc M_X12_posts) 54 = .ok (.iastore, 1) := by decide +kernel
theorem d_X12_posts_55 : decode (px_cc M_X12_posts) 55 = .ok (.aload_n 0, 1) := by decide +kernel
theorem d_X12_posts_56 : decode (px_cc M_X12_posts) 56 = .ok (.dup, 1) := by decide +kernel
theorem d_X12_posts_57 : decode (px_cc M_X12_posts) 57 = .ok (.getfield 259, 3) := by decide +kernel
theorem d_X12_posts_60 : decode (px_cc M_X12_posts) 60 = .ok (.iconst 1, 1) := by decide +kernel
theorem d_X12_posts_61 : decode (px_cc M_X12_posts) 61 = .ok (.iadd, 1) := by decide +kernel
theorem d_X12_posts_62 : decode (px_cc M_X12_posts) 62 = .ok (.putfield 259, 3) := by decide +kernel
theorem d_X12_posts_65 : decode (px_cc M_X12_posts) 65 = .ok (.return_, 1) := by decide +kernel
theorem d_X12_post_0 : decode (px_cc M_X12_post) 0 = .ok (.aload_n 0, 1) := by decide +kernel
theorem d_X12_post_1 : decode (px_cc M_X12_post) 1 = .ok (.iconst 0, 1) := by decide +kernel
theorem d_X12_post_2 : decode (px_cc M_X12_post) 2 = .ok (.putfield 150, 3) := by decide +kernel
theorem d_X12_post_5 : decode (px_cc M_X12_post) 5 = .ok (.aload_n 0, 1) := by decide +kernel
theorem d_X12_post_6 : decode (px_cc M_X12_post) 6 = .ok (.iload_n 1, 1) := by decide +kernel
theorem d_X12_post_7 : decode (px_cc M_X12_post) 7 = .ok (.invokevirtual 262, 3) := by decide +kernel
theorem d_X12_post_10 : decode (px_cc M_X12_post) 10 = .ok (.ifCond .eq 55, 3) := by decide +kernel
theorem d_X12_post_13 : decode (px_cc M_X12_post) 13 = .ok (.iload_n 2, 1) := by decide +kernel
theorem d_X12_post_14 : decode (px_cc M_X12_post) 14 = .ok (.ifCond .lt 51, 3) := by decide +kernel
theorem d_X12_post_17 : decode (px_cc M_X12_post) 17 = .ok (.iload_n 2, 1) := by decide +kernel
theorem d_X12_post_18 : decode (px_cc M_X12_post) 18 = .ok (.iconst 3, 1) := by decide +kernel
theorem d_X12_post_19 : decode (px_cc M_X12_post) 19 = .ok (.if_icmp .gt 46, 3) := by decide +kernel
theorem d_X12_post_22 : decode (px_cc M_X12_post) 22 = .ok (.iload_n 3, 1) := by decide +kernel
theorem d_X12_post_23 : decode (px_cc M_X12_post) 23 = .ok (.ifCond .lt 42, 3) := by decide +kernel
theorem d_X12_post_26 : decode (px_cc M_X12_post) 26 = .ok (.iload_n 3, 1) := by decide +kernel
theorem d_X12_post_27 : decode (px_cc M_X12_post) 27 = .ok (.aload_n 0, 1) := by decide +kernel
theorem d_X12_post_28 : decode (px_cc M_X12_post) 28 = .ok (.getfield 218, 3) := by decide +kernel
theorem d_X12_post_31 : decode (px_cc M_X12_post) 31 = .ok (.if_icmp .gt 34, 3) := by decide +kernel
theorem d_X12_post_34 : decode (px_cc M_X12_post) 34 = .ok (.iload 4, 2) := by decide +kernel
theorem d_X12_post_36 : decode (px_cc M_X12_post) 36 = .ok (.ifCond .eq 29, 3) := by decide +kernel
theorem d_X12_post_39 : decode (px_cc M_X12_post) 39 = .ok (.iload 4, 2) := by decide +kernel
theorem d_X12_post_41 : decode (px_cc M_X12_post) 41 = .ok (.ldc_w 265, 3) := by decide +kernel
theorem d_X12_post_44 : decode (px_cc M_X12_post) 44 = .ok (.if_icmp .lt 21, 3) := by decide +kernel
theorem d_X12_post_47 : decode (px_cc M_X12_post) 47 = .ok (.iload 4, 2) := by decide +kernel
theorem d_X12_post_49 : decode (px_cc M_X12_post) 49 = .ok (.ldc_w 266, 3) := by decide +kernel
theorem d_X12_post_52 : decode (px_cc M_X12_post) 52 = .ok (.if_icmp .gt 13, 3) := by decide +kernel
theorem d_X12_post_55 : decode (px_cc M_X12_post) 55 = .ok (.aload_n 0, 1) := by decide +kernel
theorem d_X12_post_56 : decode (px_cc M_X12_post) 56 = .ok (.getfield 259, 3) := by decide +kernel
theorem d_X12_post_59 : decode (px_cc M_X12_post) 59 = .ok (.sipush 400, 3) := by decide +kernel
theorem d_X12_post_62 : decode (px_cc M_X12_post) 62 = .ok (.if_icmp .ne 5, 3) := by decide +kernel
theorem d_X12_post_65 : decode (px_cc M_X12_post) 65 = .ok (.iconst (-1), 1) := by decide +kernel
theorem d_X12_post_66 : decode (px_cc M_X12_post) 66 = .ok (.ireturn, 1) := by decide +kernel
theorem d_X12_post_67 : decode (px_cc M_X12_post) 67 = .ok (.aload_n 0, 1) := by decide +kernel
theorem d_X12_post_68 : decode (px_cc M_X12_post) 68 = .ok (.iload_n 1, 1) := by decide +kernel
theorem d_X12_post_69 : decode (px_cc M_X12_post) 69 = .ok (.iload_n 2, 1) := by decide +kernel
theorem d_X12_post_70 : decode (px_cc M_X12_post) 70 = .ok (.iload_n 3, 1) := by decide +kernel
theorem d_X12_post_71 : decode (px_cc M_X12_post) 71 = .ok (.iload 4, 2) := by decide +kernel
theorem d_X12_post_73 : decode (px_cc M_X12_post) 73 = .ok (.invokevirtual 267, 3) := by decide +kernel
theorem d_X12_post_76 : decode (px_cc M_X12_post) 76 = .ok (.aload_n 0, 1) := by decide +kernel
theorem d_X12_post_77 : decode (px_cc M_X12_post) 77 = .ok (.getfield 259, 3) := by decide +kernel
theorem d_X12_post_80 : decode (px_cc M_X12_post) 80 = .ok (.iconst 1, 1) := by decide +kernel
theorem d_X12_post_81 : decode (px_cc M_X12_post) 81 = .ok (.isub, 1) := by decide +kernel
theorem d_X12_post_82 : decode (px_cc M_X12_post) 82 = .ok (.ireturn, 1) := by decide +kernel
theorem d_X12_entriesTo_0 : decode (px_cc M_X12_entriesTo) 0 = .ok (.iconst 0, 1) := by decide +kernel
theorem d_X12_entriesTo_1 : decode (px_cc M_X12_entriesTo) 1 = .ok (.istore 4, 2) := by decide +kernel
theorem d_X12_entriesTo_3 : decode (px_cc M_X12_entriesTo) 3 = .ok (.iconst 0, 1) := by decide +kernel
theorem d_X12_entriesTo_4 : decode (px_cc M_X12_entriesTo) 4 = .ok (.istore 5, 2) := by decide +kernel
theorem d_X12_entriesTo_6 : decode (px_cc M_X12_entriesTo) 6 = .ok (.iload 5, 2) := by decide +kernel
theorem d_X12_entriesTo_8 : decode (px_cc M_X12_entriesTo) 8 = .ok (.aload_n 0, 1) := by decide +kernel
theorem d_X12_entriesTo_9 : decode (px_cc M_X12_entriesTo) 9 = .ok (.getfield 259, 3) := by decide +kernel
theorem d_X12_entriesTo_12 : decode (px_cc M_X12_entriesTo) 12 = .ok (.if_icmp .ge 58, 3) := by decide +kernel
theorem d_X12_entriesTo_15 : decode (px_cc M_X12_entriesTo) 15 = .ok (.iload 4, 2) := by decide +kernel
theorem d_X12_entriesTo_17 : decode (px_cc M_X12_entriesTo) 17 = .ok (.aload_n 0, 1) := by decide +kernel
theorem d_X12_entriesTo_18 : decode (px_cc M_X12_entriesTo) 18 = .ok (.getfield 96, 3) := by decide +kernel
theorem d_X12_entriesTo_21 : decode (px_cc M_X12_entriesTo) 21 = .ok (.iload 5, 2) := by decide +kernel
theorem d_X12_entriesTo_23 : decode (px_cc M_X12_entriesTo) 23 = .ok (.iaload, 1) := by decide +kernel
theorem d_X12_entriesTo_24 : decode (px_cc M_X12_entriesTo) 24 = .ok (.iload_n 1, 1) := by decide +kernel
theorem d_X12_entriesTo_25 : decode (px_cc M_X12_entriesTo) 25 = .ok (.if_icmp .ne 35, 3) := by decide +kernel
theorem d_X12_entriesTo_28 : decode (px_cc M_X12_entriesTo) 28 = .ok (.aload_n 0, 1) := by decide +kernel
theorem d_X12_entriesTo_29 : decode (px_cc M_X12_entriesTo) 29 = .ok (.getfield 99, 3) := by decide +kernel
theorem d_X12_entriesTo_32 : decode (px_cc M_X12_entriesTo) 32 = .ok (.iload 5, 2) := by decide +kernel
theorem d_X12_entriesTo_34 : decode (px_cc M_X12_entriesTo) 34 = .ok (.iaload, 1) := by decide +kernel
theorem d_X12_entriesTo_35 : decode (px_cc M_X12_entriesTo) 35 = .ok (.iload_n 2, 1) := by decide +kernel
theorem d_X12_entriesTo_36 : decode (px_cc M_X12_entriesTo) 36 = .ok (.if_icmp .gt 24, 3) := by decide +kernel
theorem d_X12_entriesTo_39 : decode (px_cc M_X12_entriesTo) 39 = .ok (.aload_n 0, 1) := by decide +kernel
theorem d_X12_entriesTo_40 : decode (px_cc M_X12_entriesTo) 40 = .ok (.getfield 105, 3) := by decide +kernel
theorem d_X12_entriesTo_43 : decode (px_cc M_X12_entriesTo) 43 = .ok (.iload 5, 2) := by decide +kernel
theorem d_X12_entriesTo_45 : decode (px_cc M_X12_entriesTo) 45 = .ok (.iaload, 1) := by decide +kernel
theorem d_X12_entriesTo_46 : decode (px_cc M_X12_entriesTo) 46 = .ok (.iload_n 3, 1) := by decide +kernel
theorem d_X12_entriesTo_47 : decode (px_cc M_X12_entriesTo) 47 = .ok (.if_icmp .gt 13, 3) := by decide +kernel
theorem d_X12_entriesTo_50 : decode (px_cc M_X12_entriesTo) 50 = .ok (.aload_n 0, 1) := by decide +kernel
theorem d_X12_entriesTo_51 : decode (px_cc M_X12_entriesTo) 51 = .ok (.getfield 102, 3) := by decide +kernel
theorem d_X12_entriesTo_54 : decode (px_cc M_X12_entriesTo) 54 = .ok (.iload 5, 2) := by decide +kernel
theorem d_X12_entriesTo_56 : decode (px_cc M_X12_entriesTo) 56 = .ok (.iaload, 1) := by decide +kernel
theorem d_X12_entriesTo_57 : decode (px_cc M_X12_entriesTo) 57 = .ok (.goto 4, 3) := by decide +kernel
theorem d_X12_entriesTo_60 : decode (px_cc M_X12_entriesTo) 60 = .ok (.iconst 0, 1) := by decide +kernel
theorem d_X12_entriesTo_61 : decode (px_cc M_X12_entriesTo) 61 = .ok (.iadd, 1) := by decide +kernel
theorem d_X12_entriesTo_62 : decode (px_cc M_X12_entriesTo) 62 = .ok (.istore 4, 2) := by decide +kernel
theorem d_X12_entriesTo_64 : decode (px_cc M_X12_entriesTo) 64 = .ok (.iinc 5 1, 3) := by decide +kernel
theorem d_X12_entriesTo_67 : decode (px_cc M_X12_entriesTo) 67 = .ok (.goto (-61), 3) := by decide +kernel
theorem d_X12_entriesTo_70 : decode (px_cc M_X12_entriesTo) 70 = .ok (.iload 4, 2) := by decide +kernel
theorem d_X12_entriesTo_72 : decode (px_cc M_X12_entriesTo) 72 = .ok (.ireturn, 1) := by decide +kernel
theorem d_X12_findInterest_0 : decode (px_cc M_X12_findInterest) 0 = .ok (.iconst 0, 1) := by decide +kernel
theorem d_X12_findInterest_1 : decode (px_cc M_X12_findInterest) 1 = .ok (.istore_n 3, 1) := by decide +kernel
theorem d_X12_findInterest_2 : decode (px_cc M_X12_findInterest) 2 = .ok (.iconst 0, 1) := by decide +kernel
theorem d_X12_findInterest_3 : decode (px_cc M_X12_findInterest) 3 = .ok (.istore 4, 2) := by decide +kernel
theorem d_X12_findInterest_5 : decode (px_cc M_X12_findInterest) 5 = .ok (.iload 4, 2) := by decide +kernel
