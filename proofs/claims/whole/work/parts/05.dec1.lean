theorem d_X0_init_0 : decode (px_cc M_X0_init) 0 = .ok (.aload_n 0, 1) := by decide +kernel
theorem d_X0_init_1 : decode (px_cc M_X0_init) 1 = .ok (.invokespecial 3, 3) := by decide +kernel
theorem d_X0_init_4 : decode (px_cc M_X0_init) 4 = .ok (.aload_n 0, 1) := by decide +kernel
theorem d_X0_init_5 : decode (px_cc M_X0_init) 5 = .ok (.iload_n 1, 1) := by decide +kernel
theorem d_X0_init_6 : decode (px_cc M_X0_init) 6 = .ok (.putfield 9, 3) := by decide +kernel
theorem d_X0_init_9 : decode (px_cc M_X0_init) 9 = .ok (.aload_n 0, 1) := by decide +kernel
theorem d_X0_init_10 : decode (px_cc M_X0_init) 10 = .ok (.iload_n 2, 1) := by decide +kernel
theorem d_X0_init_11 : decode (px_cc M_X0_init) 11 = .ok (.putfield 15, 3) := by decide +kernel
theorem d_X0_init_14 : decode (px_cc M_X0_init) 14 = .ok (.aload_n 0, 1) := by decide +kernel
theorem d_X0_init_15 : decode (px_cc M_X0_init) 15 = .ok (.iload_n 3, 1) := by decide +kernel
theorem d_X0_init_16 : decode (px_cc M_X0_init) 16 = .ok (.putfield 18, 3) := by decide +kernel
theorem d_X0_init_19 : decode (px_cc M_X0_init) 19 = .ok (.aload_n 0, 1) := by decide +kernel
theorem d_X0_init_20 : decode (px_cc M_X0_init) 20 = .ok (.iload 4, 2) := by decide +kernel
theorem d_X0_init_22 : decode (px_cc M_X0_init) 22 = .ok (.putfield 21, 3) := by decide +kernel
theorem d_X0_init_25 : decode (px_cc M_X0_init) 25 = .ok (.aload_n 0, 1) := by decide +kernel
theorem d_X0_init_26 : decode (px_cc M_X0_init) 26 = .ok (.bipush 40, 2) := by decide +kernel
theorem d_X0_init_28 : decode (px_cc M_X0_init) 28 = .ok (.newarray .int, 2) := by decide +kernel
theorem d_X0_init_30 : decode (px_cc M_X0_init) 30 = .ok (.putfield 24, 3) := by decide +kernel
theorem d_X0_init_33 : decode (px_cc M_X0_init) 33 = .ok (.aload_n 0, 1) := by decide +kernel
theorem d_X0_init_34 : decode (px_cc M_X0_init) 34 = .ok (.bipush 40, 2) := by decide +kernel
theorem d_X0_init_36 : decode (px_cc M_X0_init) 36 = .ok (.newarray .int, 2) := by decide +kernel
theorem d_X0_init_38 : decode (px_cc M_X0_init) 38 = .ok (.putfield 28, 3) := by decide +kernel
theorem d_X0_init_41 : decode (px_cc M_X0_init) 41 = .ok (.return_, 1) := by decide +kernel
theorem d_X0_isSigned_0 : decode (px_cc M_X0_isSigned) 0 = .ok (.aload_n 0, 1) := by decide +kernel
theorem d_X0_isSigned_1 : decode (px_cc M_X0_isSigned) 1 = .ok (.getfield 15, 3) := by decide +kernel
theorem d_X0_isSigned_4 : decode (px_cc M_X0_isSigned) 4 = .ok (.iconst 2, 1) := by decide +kernel
theorem d_X0_isSigned_5 : decode (px_cc M_X0_isSigned) 5 = .ok (.if_icmp .ne 20, 3) := by decide +kernel
theorem d_X0_isSigned_8 : decode (px_cc M_X0_isSigned) 8 = .ok (.iload_n 1, 1) := by decide +kernel
theorem d_X0_isSigned_9 : decode (px_cc M_X0_isSigned) 9 = .ok (.bipush 7, 2) := by decide +kernel
theorem d_X0_isSigned_11 : decode (px_cc M_X0_isSigned) 11 = .ok (.iand, 1) := by decide +kernel
theorem d_X0_isSigned_12 : decode (px_cc M_X0_isSigned) 12 = .ok (.invokestatic 31, 3) := by decide +kernel
theorem d_X0_isSigned_15 : decode (px_cc M_X0_isSigned) 15 = .ok (.iconst 2, 1) := by decide +kernel
theorem d_X0_isSigned_16 : decode (px_cc M_X0_isSigned) 16 = .ok (.if_icmp .lt 7, 3) := by decide +kernel
theorem d_X0_isSigned_19 : decode (px_cc M_X0_isSigned) 19 = .ok (.iconst 1, 1) := by decide +kernel
theorem d_X0_isSigned_20 : decode (px_cc M_X0_isSigned) 20 = .ok (.goto 4, 3) := by decide +kernel
theorem d_X0_isSigned_23 : decode (px_cc M_X0_isSigned) 23 = .ok (.iconst 0, 1) := by decide +kernel
theorem d_X0_isSigned_24 : decode (px_cc M_X0_isSigned) 24 = .ok (.ireturn, 1) := by decide +kernel
theorem d_X0_isSigned_25 : decode (px_cc M_X0_isSigned) 25 = .ok (.aload_n 0, 1) := by decide +kernel
theorem d_X0_isSigned_26 : decode (px_cc M_X0_isSigned) 26 = .ok (.getfield 15, 3) := by decide +kernel
theorem d_X0_isSigned_29 : decode (px_cc M_X0_isSigned) 29 = .ok (.iconst 1, 1) := by decide +kernel
theorem d_X0_isSigned_30 : decode (px_cc M_X0_isSigned) 30 = .ok (.if_icmp .ne 24, 3) := by decide +kernel
theorem d_X0_isSigned_33 : decode (px_cc M_X0_isSigned) 33 = .ok (.iload_n 2, 1) := by decide +kernel
theorem d_X0_isSigned_34 : decode (px_cc M_X0_isSigned) 34 = .ok (.aload_n 0, 1) := by decide +kernel
theorem d_X0_isSigned_35 : decode (px_cc M_X0_isSigned) 35 = .ok (.getfield 18, 3) := by decide +kernel
theorem d_X0_isSigned_38 : decode (px_cc M_X0_isSigned) 38 = .ok (.if_icmp .ge 16, 3) := by decide +kernel
theorem d_X0_isSigned_41 : decode (px_cc M_X0_isSigned) 41 = .ok (.iload_n 1, 1) := by decide +kernel
theorem d_X0_isSigned_42 : decode (px_cc M_X0_isSigned) 42 = .ok (.bipush 8, 2) := by decide +kernel
theorem d_X0_isSigned_44 : decode (px_cc M_X0_isSigned) 44 = .ok (.iand, 1) := by decide +kernel
theorem d_X0_isSigned_45 : decode (px_cc M_X0_isSigned) 45 = .ok (.ifCond .eq 7, 3) := by decide +kernel
theorem d_X0_isSigned_48 : decode (px_cc M_X0_isSigned) 48 = .ok (.iconst 1, 1) := by decide +kernel
theorem d_X0_isSigned_49 : decode (px_cc M_X0_isSigned) 49 = .ok (.goto 4, 3) := by decide +kernel
theorem d_X0_isSigned_52 : decode (px_cc M_X0_isSigned) 52 = .ok (.iconst 0, 1) := by decide +kernel
theorem d_X0_isSigned_53 : decode (px_cc M_X0_isSigned) 53 = .ok (.ireturn, 1) := by decide +kernel
theorem d_X0_isSigned_54 : decode (px_cc M_X0_isSigned) 54 = .ok (.iload_n 1, 1) := by decide +kernel
theorem d_X0_isSigned_55 : decode (px_cc M_X0_isSigned) 55 = .ok (.iconst 1, 1) := by decide +kernel
theorem d_X0_isSigned_56 : decode (px_cc M_X0_isSigned) 56 = .ok (.iand, 1) := by decide +kernel
theorem d_X0_isSigned_57 : decode (px_cc M_X0_isSigned) 57 = .ok (.ifCond .eq 7, 3) := by decide +kernel
theorem d_X0_isSigned_60 : decode (px_cc M_X0_isSigned) 60 = .ok (.iconst 1, 1) := by decide +kernel
theorem d_X0_isSigned_61 : decode (px_cc M_X0_isSigned) 61 = .ok (.goto 4, 3) := by decide +kernel
theorem d_X0_isSigned_64 : decode (px_cc M_X0_isSigned) 64 = .ok (.iconst 0, 1) := by decide +kernel
theorem d_X0_isSigned_65 : decode (px_cc M_X0_isSigned) 65 = .ok (.ireturn, 1) := by decide +kernel
theorem d_X0_addLine_0 : decode (px_cc M_X0_addLine) 0 = .ok (.aload_n 0, 1) := by decide +kernel
theorem d_X0_addLine_1 : decode (px_cc M_X0_addLine) 1 = .ok (.getfield 37, 3) := by decide +kernel
theorem d_X0_addLine_4 : decode (px_cc M_X0_addLine) 4 = .ok (.bipush 40, 2) := by decide +kernel
theorem d_X0_addLine_6 : decode (px_cc M_X0_addLine) 6 = .ok (.if_icmp .lt 5, 3) := by decide +kernel
theorem d_X0_addLine_9 : decode (px_cc M_X0_addLine) 9 = .ok (.iconst (-1), 1) := by decide +kernel
theorem d_X0_addLine_10 : decode (px_cc M_X0_addLine) 10 = .ok (.ireturn, 1) := by decide +kernel
theorem d_X0_addLine_11 : decode (px_cc M_X0_addLine) 11 = .ok (.aload_n 0, 1) := by decide +kernel
theorem d_X0_addLine_12 : decode (px_cc M_X0_addLine) 12 = .ok (.getfield 24, 3) := by decide +kernel
theorem d_X0_addLine_15 : decode (px_cc M_X0_addLine) 15 = .ok (.aload_n 0, 1) := by decide +kernel
theorem d_X0_addLine_16 : decode (px_cc M_X0_addLine) 16 = .ok (.getfield 37, 3) := by decide +kernel
theorem d_X0_addLine_19 : decode (px_cc M_X0_addLine) 19 = .ok (.iload_n 1, 1) := by decide +kernel
theorem d_X0_addLine_20 : decode (px_cc M_X0_addLine) 20 = .ok (.iastore, 1) := by decide +kernel
theorem d_X0_addLine_21 : decode (px_cc M_X0_addLine) 21 = .ok (.aload_n 0, 1) := by decide +kernel
theorem d_X0_addLine_22 : decode (px_cc M_X0_addLine) 22 = .ok (.getfield 28, 3) := by decide +kernel
theorem d_X0_addLine_25 : decode (px_cc M_X0_addLine) 25 = .ok (.aload_n 0, 1) := by decide +kernel
theorem d_X0_addLine_26 : decode (px_cc M_X0_addLine) 26 = .ok (.getfield 37, 3) := by decide +kernel
theorem d_X0_addLine_29 : decode (px_cc M_X0_addLine) 29 = .ok (.iload_n 2, 1) := by decide +kernel
theorem d_X0_addLine_30 : decode (px_cc M_X0_addLine) 30 = .ok (.iastore, 1) := by decide +kernel
theorem d_X0_addLine_31 : decode (px_cc M_X0_addLine) 31 = .ok (.aload_n 0, 1) := by decide +kernel
theorem d_X0_addLine_32 : decode (px_cc M_X0_addLine) 32 = .ok (.dup, 1) := by decide +kernel
theorem d_X0_addLine_33 : decode (px_cc M_X0_addLine) 33 = .ok (.getfield 37, 3) := by decide +kernel
theorem d_X0_addLine_36 : decode (px_cc M_X0_addLine) 36 = .ok (.iconst 1, 1) := by decide +kernel
theorem d_X0_addLine_37 : decode (px_cc M_X0_addLine) 37 = .ok (.iadd, 1) := by decide +kernel
theorem d_X0_addLine_38 : decode (px_cc M_X0_addLine) 38 = .ok (.putfield 37, 3) := by decide +kernel
theorem d_X0_addLine_41 : decode (px_cc M_X0_addLine) 41 = .ok (.aload_n 0, 1) := by decide +kernel
theorem d_X0_addLine_42 : decode (px_cc M_X0_addLine) 42 = .ok (.getfield 37, 3) := by decide +kernel
theorem d_X0_addLine_45 : decode (px_cc M_X0_addLine) 45 = .ok (.ireturn, 1) := by decide +kernel
theorem d_X0_pairsWith_0 : decode (px_cc M_X0_pairsWith) 0 = .ok (.iconst 0, 1) := by decide +kernel
theorem d_X0_pairsWith_1 : decode (px_cc M_X0_pairsWith) 1 = .ok (.istore_n 2, 1) := by decide +kernel
theorem d_X0_pairsWith_2 : decode (px_cc M_X0_pairsWith) 2 = .ok (.iconst 0, 1) := by decide +kernel
theorem d_X0_pairsWith_3 : decode (px_cc M_X0_pairsWith) 3 = .ok (.istore_n 3, 1) := by decide +kernel
theorem d_X0_pairsWith_4 : decode (px_cc M_X0_pairsWith) 4 = .ok (.iload_n 3, 1) := by decide +kernel
theorem d_X0_pairsWith_5 : decode (px_cc M_X0_pairsWith) 5 = .ok (.aload_n 0, 1) := by decide +kernel
theorem d_X0_pairsWith_6 : decode (px_cc M_X0_pairsWith) 6 = .ok (.getfield 37, 3) := by decide +kernel
theorem d_X0_pairsWith_9 : decode (px_cc M_X0_pairsWith) 9 = .ok (.if_icmp .ge 40, 3) := by decide +kernel
theorem d_X0_pairsWith_12 : decode (px_cc M_X0_pairsWith) 12 = .ok (.aload_n 0, 1) := by decide +kernel
theorem d_X0_pairsWith_13 : decode (px_cc M_X0_pairsWith) 13 = .ok (.iload_n 3, 1) := by decide +kernel
theorem d_X0_pairsWith_14 : decode (px_cc M_X0_pairsWith) 14 = .ok (.invokevirtual 40, 3) := by decide +kernel
theorem d_X0_pairsWith_17 : decode (px_cc M_X0_pairsWith) 17 = .ok (.aload_n 1, 1) := by decide +kernel
theorem d_X0_pairsWith_18 : decode (px_cc M_X0_pairsWith) 18 = .ok (.aload_n 0, 1) := by decide +kernel
theorem d_X0_pairsWith_19 : decode (px_cc M_X0_pairsWith) 19 = .ok (.getfield 9, 3) := by decide +kernel
theorem d_X0_pairsWith_22 : decode (px_cc M_X0_pairsWith) 22 = .ok (.aload_n 0, 1) := by decide +kernel
theorem d_X0_pairsWith_23 : decode (px_cc M_X0_pairsWith) 23 = .ok (.getfield 24, 3) := by decide +kernel
theorem d_X0_pairsWith_26 : decode (px_cc M_X0_pairsWith) 26 = .ok (.iload_n 3, 1) := by decide +kernel
theorem d_X0_pairsWith_27 : decode (px_cc M_X0_pairsWith) 27 = .ok (.iaload, 1) := by decide +kernel
theorem d_X0_pairsWith_28 : decode (px_cc M_X0_pairsWith) 28 = .ok (.aload_n 0, 1) := by decide +kernel
theorem d_X0_pairsWith_29 : decode (px_cc M_X0_pairsWith) 29 = .ok (.getfield 28, 3) := by decide +kernel
theorem d_X0_pairsWith_32 : decode (px_cc M_X0_pairsWith) 32 = .ok (.iload_n 3, 1) := by decide +kernel
theorem d_X0_pairsWith_33 : decode (px_cc M_X0_pairsWith) 33 = .ok (.iaload, 1) := by decide +kernel
theorem d_X0_pairsWith_34 : decode (px_cc M_X0_pairsWith) 34 = .ok (.invokevirtual 43, 3) := by decide +kernel
theorem d_X0_pairsWith_37 : decode (px_cc M_X0_pairsWith) 37 = .ok (.if_icmp .gt 6, 3) := by decide +kernel
theorem d_X0_pairsWith_40 : decode (px_cc M_X0_pairsWith) 40 = .ok (.iinc 2 1, 3) := by decide +kernel
theorem d_X0_pairsWith_43 : decode (px_cc M_X0_pairsWith) 43 = .ok (.iinc 3 1, 3) := by decide +kernel
theorem d_X0_pairsWith_46 : decode (px_cc M_X0_pairsWith) 46 = .ok (.goto (-42), 3) := by decide +kernel
theorem d_X0_pairsWith_49 : decode (px_cc M_X0_pairsWith) 49 = .ok (.iload_n 2, 1) := by decide +kernel
theorem d_X0_pairsWith_50 : decode (px_cc M_X0_pairsWith) 50 = .ok (.ireturn, 1) := by decide +kernel
theorem d_X0_linesLike_0 : decode (px_cc M_X0_linesLike) 0 = .ok (.iconst 0, 1) := by decide +kernel
theorem d_X0_linesLike_1 : decode (px_cc M_X0_linesLike) 1 = .ok (.istore_n 2, 1) := by decide +kernel
theorem d_X0_linesLike_2 : decode (px_cc M_X0_linesLike) 2 = .ok (.iconst 0, 1) := by decide +kernel
theorem d_X0_linesLike_3 : decode (px_cc M_X0_linesLike) 3 = .ok (.istore_n 3, 1) := by decide +kernel
theorem d_X0_linesLike_4 : decode (px_cc M_X0_linesLike) 4 = .ok (.iload_n 3, 1) := by decide +kernel
theorem d_X0_linesLike_5 : decode (px_cc M_X0_linesLike) 5 = .ok (.iload_n 1, 1) := by decide +kernel
theorem d_X0_linesLike_6 : decode (px_cc M_X0_linesLike) 6 = .ok (.if_icmp .gt 42, 3) := by decide +kernel
theorem d_X0_linesLike_9 : decode (px_cc M_X0_linesLike) 9 = .ok (.aload_n 0, 1) := by decide +kernel
theorem d_X0_linesLike_10 : decode (px_cc M_X0_linesLike) 10 = .ok (.getfield 24, 3) := by decide +kernel
theorem d_X0_linesLike_13 : decode (px_cc M_X0_linesLike) 13 = .ok (.iload_n 3, 1) := by decide +kernel
theorem d_X0_linesLike_14 : decode (px_cc M_X0_linesLike) 14 = .ok (.iaload, 1) := by decide +kernel
theorem d_X0_linesLike_15 : decode (px_cc M_X0_linesLike) 15 = .ok (.aload_n 0, 1) := by decide +kernel
theorem d_X0_linesLike_16 : decode (px_cc M_X0_linesLike) 16 = .ok (.getfield 24, 3) := by decide +kernel
theorem d_X0_linesLike_19 : decode (px_cc M_X0_linesLike) 19 = .ok (.iload_n 1, 1) := by decide +kernel
theorem d_X0_linesLike_20 : decode (px_cc M_X0_linesLike) 20 = .ok (.iaload, 1) := by decide +kernel
theorem d_X0_linesLike_21 : decode (px_cc M_X0_linesLike) 21 = .ok (.if_icmp .ne 21, 3) := by decide +kernel
theorem d_X0_linesLike_24 : decode (px_cc M_X0_linesLike) 24 = .ok (.aload_n 0, 1) := by decide +kernel
theorem d_X0_linesLike_25 : decode (px_cc M_X0_linesLike) 25 = .ok (.getfield 28, 3) := by decide +kernel
theorem d_X0_linesLike_28 : decode (px_cc M_X0_linesLike) 28 = .ok (.iload_n 3, 1) := by decide +kernel
theorem d_X0_linesLike_29 : decode (px_cc M_X0_linesLike) 29 = .ok (.iaload, 1) := by decide +kernel
theorem d_X0_linesLike_30 : decode (px_cc M_X0_linesLike) 30 = .ok (.aload_n 0, 1) := by decide +kernel
theorem d_X0_linesLike_31 : decode (px_cc M_X0_linesLike) 31 = .ok (.getfield 28, 3) := by decide +kernel
theorem d_X0_linesLike_34 : decode (px_cc M_X0_linesLike) 34 = .ok (.iload_n 1, 1) := by decide +kernel
theorem d_X0_linesLike_35 : decode (px_cc M_X0_linesLike) 35 = .ok (.iaload, 1) := by decide +kernel
theorem d_X0_linesLike_36 : decode (px_cc M_X0_linesLike) 36 = .ok (.if_icmp .ne 6, 3) := by decide +kernel
theorem d_X0_linesLike_39 : decode (px_cc M_X0_linesLike) 39 = .ok (.iinc 2 1, 3) := by decide +kernel
theorem d_X0_linesLike_42 : decode (px_cc M_X0_linesLike) 42 = .ok (.iinc 3 1, 3) := by decide +kernel
theorem d_X0_linesLike_45 : decode (px_cc M_X0_linesLike) 45 = .ok (.goto (-41), 3) := by decide +kernel
theorem d_X0_linesLike_48 : decode (px_cc M_X0_linesLike) 48 = .ok (.iload_n 2, 1) := by decide +kernel
theorem d_X0_linesLike_49 : decode (px_cc M_X0_linesLike) 49 = .ok (.ireturn, 1) := by decide +kernel
theorem d_X1_init_0 : decode (px_cc M_X1_init) 0 = .ok (.aload_n 0, 1) := by decide +kernel
theorem d_X1_init_1 : decode (px_cc M_X1_init) 1 = .ok (.invokespecial 3, 3) := by decide +kernel
theorem d_X1_init_4 : decode (px_cc M_X1_init) 4 = .ok (.aload_n 0, 1) := by decide +kernel
theorem d_X1_init_5 : decode (px_cc M_X1_init) 5 = .ok (.iconst 4, 1) := by decide +kernel
theorem d_X1_init_6 : decode (px_cc M_X1_init) 6 = .ok (.newarray .int, 2) := by decide +kernel
theorem d_X1_init_8 : decode (px_cc M_X1_init) 8 = .ok (.putfield 9, 3) := by decide +kernel
theorem d_X1_init_11 : decode (px_cc M_X1_init) 11 = .ok (.return_, 1) := by decide +kernel
theorem d_X1_move_0 : decode (px_cc M_X1_move) 0 = .ok (.iload_n 1, 1) := by decide +kernel
theorem d_X1_move_1 : decode (px_cc M_X1_move) 1 = .ok (.invokestatic 15, 3) := by decide +kernel
theorem d_X1_move_4 : decode (px_cc M_X1_move) 4 = .ok (.ifCond .eq 13, 3) := by decide +kernel
theorem d_X1_move_7 : decode (px_cc M_X1_move) 7 = .ok (.aload_n 0, 1) := by decide +kernel
theorem d_X1_move_8 : decode (px_cc M_X1_move) 8 = .ok (.getfield 9, 3) := by decide +kernel
theorem d_X1_move_11 : decode (px_cc M_X1_move) 11 = .ok (.iload_n 1, 1) := by decide +kernel
theorem d_X1_move_12 : decode (px_cc M_X1_move) 12 = .ok (.dup2, 1) := by decide +kernel
theorem d_X1_move_13 : decode (px_cc M_X1_move) 13 = .ok (.iaload, 1) := by decide +kernel
theorem d_X1_move_14 : decode (px_cc M_X1_move) 14 = .ok (.iload_n 2, 1) := by decide +kernel
theorem d_X1_move_15 : decode (px_cc M_X1_move) 15 = .ok (.iadd, 1) := by decide +kernel
theorem d_X1_move_16 : decode (px_cc M_X1_move) 16 = .ok (.iastore, 1) := by decide +kernel
theorem d_X1_move_17 : decode (px_cc M_X1_move) 17 = .ok (.return_, 1) := by decide +kernel
theorem d_X1_countedAs_0 : decode (px_cc M_X1_countedAs) 0 = .ok (.iload_n 1, 1) := by decide +kernel
theorem d_X1_countedAs_1 : decode (px_cc M_X1_countedAs) 1 = .ok (.invokestatic 15, 3) := by decide +kernel
theorem d_X1_countedAs_4 : decode (px_cc M_X1_countedAs) 4 = .ok (.ifCond .ne 5, 3) := by decide +kernel
theorem d_X1_countedAs_7 : decode (px_cc M_X1_countedAs) 7 = .ok (.iconst 0, 1) := by decide +kernel
theorem d_X1_countedAs_8 : decode (px_cc M_X1_countedAs) 8 = .ok (.ireturn, 1) := by decide +kernel
theorem d_X1_countedAs_9 : decode (px_cc M_X1_countedAs) 9 = .ok (.iload_n 2, 1) := by decide +kernel
theorem d_X1_countedAs_10 : decode (px_cc M_X1_countedAs) 10 = .ok (.aload_n 0, 1) := by decide +kernel
theorem d_X1_countedAs_11 : decode (px_cc M_X1_countedAs) 11 = .ok (.getfield 9, 3) := by decide +kernel
theorem d_X1_countedAs_14 : decode (px_cc M_X1_countedAs) 14 = .ok (.iload_n 1, 1) := by decide +kernel
theorem d_X1_countedAs_15 : decode (px_cc M_X1_countedAs) 15 = .ok (.iaload, 1) := by decide +kernel
theorem d_X1_countedAs_16 : decode (px_cc M_X1_countedAs) 16 = .ok (.isub, 1) := by decide +kernel
theorem d_X1_countedAs_17 : decode (px_cc M_X1_countedAs) 17 = .ok (.istore_n 3, 1) := by decide +kernel
theorem d_X1_countedAs_18 : decode (px_cc M_X1_countedAs) 18 = .ok (.aload_n 0, 1) := by decide +kernel
theorem d_X1_countedAs_19 : decode (px_cc M_X1_countedAs) 19 = .ok (.getfield 9, 3) := by decide +kernel
theorem d_X1_countedAs_22 : decode (px_cc M_X1_countedAs) 22 = .ok (.iload_n 1, 1) := by decide +kernel
theorem d_X1_countedAs_23 : decode (px_cc M_X1_countedAs) 23 = .ok (.iload_n 2, 1) := by decide +kernel
theorem d_X1_countedAs_24 : decode (px_cc M_X1_countedAs) 24 = .ok (.iastore, 1) := by decide +kernel
theorem d_X1_countedAs_25 : decode (px_cc M_X1_countedAs) 25 = .ok (.aload_n 0, 1) := by decide +kernel
theorem d_X1_countedAs_26 : decode (px_cc M_X1_countedAs) 26 = .ok (.dup, 1) := by decide +kernel
theorem d_X1_countedAs_27 : decode (px_cc M_X1_countedAs) 27 = .ok (.getfield 19, 3) := by decide +kernel
theorem d_X1_countedAs_30 : decode (px_cc M_X1_countedAs) 30 = .ok (.iload_n 3, 1) := by decide +kernel
theorem d_X1_countedAs_31 : decode (px_cc M_X1_countedAs) 31 = .ok (.iadd, 1) := by decide +kernel
theorem d_X1_countedAs_32 : decode (px_cc M_X1_countedAs) 32 = .ok (.putfield 19, 3) := by decide +kernel
theorem d_X1_countedAs_35 : decode (px_cc M_X1_countedAs) 35 = .ok (.iload_n 3, 1) := by decide +kernel
theorem d_X1_countedAs_36 : decode (px_cc M_X1_countedAs) 36 = .ok (.ireturn, 1) := by decide +kernel
theorem d_X2_init_0 : decode (px_cc M_X2_init) 0 = .ok (.aload_n 0, 1) := by decide +kernel
theorem d_X2_init_1 : decode (px_cc M_X2_init) 1 = .ok (.invokespecial 3, 3) := by decide +kernel
theorem d_X2_init_4 : decode (px_cc M_X2_init) 4 = .ok (.aload_n 0, 1) := by decide +kernel
theorem d_X2_init_5 : decode (px_cc M_X2_init) 5 = .ok (.sipush 400, 3) := by decide +kernel
theorem d_X2_init_8 : decode (px_cc M_X2_init) 8 = .ok (.newarray .int, 2) := by decide +kernel
theorem d_X2_init_10 : decode (px_cc M_X2_init) 10 = .ok (.putfield 9, 3) := by decide +kernel
theorem d_X2_init_13 : decode (px_cc M_X2_init) 13 = .ok (.aload_n 0, 1) := by decide +kernel
theorem d_X2_init_14 : decode (px_cc M_X2_init) 14 = .ok (.sipush 400, 3) := by decide +kernel
theorem d_X2_init_17 : decode (px_cc M_X2_init) 17 = .ok (.newarray .int, 2) := by decide +kernel
theorem d_X2_init_19 : decode (px_cc M_X2_init) 19 = .ok (.putfield 15, 3) := by decide +kernel
theorem d_X2_init_22 : decode (px_cc M_X2_init) 22 = .ok (.aload_n 0, 1) := by decide +kernel
theorem d_X2_init_23 : decode (px_cc M_X2_init) 23 = .ok (.sipush 400, 3) := by decide +kernel
theorem d_X2_init_26 : decode (px_cc M_X2_init) 26 = .ok (.newarray .int, 2) := by decide +kernel
theorem d_X2_init_28 : decode (px_cc M_X2_init) 28 = .ok (.putfield 18, 3) := by decide +kernel
theorem d_X2_init_31 : decode (px_cc M_X2_init) 31 = .ok (.aload_n 0, 1) := by decide +kernel
theorem d_X2_init_32 : decode (px_cc M_X2_init) 32 = .ok (.sipush 400, 3) := by decide +kernel
theorem d_X2_init_35 : decode (px_cc M_X2_init) 35 = .ok (.newarray .int, 2) := by decide +kernel
theorem d_X2_init_37 : decode (px_cc M_X2_init) 37 = .ok (.putfield 21, 3) := by decide +kernel
theorem d_X2_init_40 : decode (px_cc M_X2_init) 40 = .ok (.return_, 1) := by decide +kernel
theorem d_X2_isFull_0 : decode (px_cc M_X2_isFull) 0 = .ok (.aload_n 0, 1) := by decide +kernel
theorem d_X2_isFull_1 : decode (px_cc M_X2_isFull) 1 = .ok (.getfield 24, 3) := by decide +kernel
theorem d_X2_isFull_4 : decode (px_cc M_X2_isFull) 4 = .ok (.sipush 400, 3) := by decide +kernel
theorem d_X2_isFull_7 : decode (px_cc M_X2_isFull) 7 = .ok (.if_icmp .lt 7, 3) := by decide +kernel
theorem d_X2_isFull_10 : decode (px_cc M_X2_isFull) 10 = .ok (.iconst 1, 1) := by decide +kernel
theorem d_X2_isFull_11 : decode (px_cc M_X2_isFull) 11 = .ok (.goto 4, 3) := by decide +kernel
theorem d_X2_isFull_14 : decode (px_cc M_X2_isFull) 14 = .ok (.iconst 0, 1) := by decide +kernel
theorem d_X2_isFull_15 : decode (px_cc M_X2_isFull) 15 = .ok (.ireturn, 1) := by decide +kernel
theorem d_X2_add_0 : decode (px_cc M_X2_add) 0 = .ok (.aload_n 0, 1) := by decide +kernel
theorem d_X2_add_1 : decode (px_cc M_X2_add) 1 = .ok (.invokevirtual 28, 3) := by decide +kernel
theorem d_X2_add_4 : decode (px_cc M_X2_add) 4 = .ok (.ifCond .eq 5, 3) := by decide +kernel
theorem d_X2_add_7 : decode (px_cc M_X2_add) 7 = .ok (.iconst (-1), 1) := by decide +kernel
theorem d_X2_add_8 : decode (px_cc M_X2_add) 8 = .ok (.ireturn, 1) := by decide +kernel
theorem d_X2_add_9 : decode (px_cc M_X2_add) 9 = .ok (.aload_n 0, 1) := by decide +kernel
theorem d_X2_add_10 : decode (px_cc M_X2_add) 10 = .ok (.getfield 9, 3) := by decide +kernel
theorem d_X2_add_13 : decode (px_cc M_X2_add) 13 = .ok (.aload_n 0, 1) := by decide +kernel
theorem d_X2_add_14 : decode (px_cc M_X2_add) 14 = .ok (.getfield 24, 3) := by decide +kernel
theorem d_X2_add_17 : decode (px_cc M_X2_add) 17 = .ok (.iload_n 1, 1) := by decide +kernel
theorem d_X2_add_18 : decode (px_cc M_X2_add) 18 = .ok (.iastore, 1) := by decide +kernel
theorem d_X2_add_19 : decode (px_cc M_X2_add) 19 = .ok (.aload_n 0, 1) := by decide +kernel
theorem d_X2_add_20 : decode (px_cc M_X2_add) 20 = .ok (.getfield 15, 3) := by decide +kernel
theorem d_X2_add_23 : decode (px_cc M_X2_add) 23 = .ok (.aload_n 0, 1) := by decide +kernel
theorem d_X2_add_24 : decode (px_cc M_X2_add) 24 = .ok (.getfield 24, 3) := by decide +kernel
theorem d_X2_add_27 : decode (px_cc M_X2_add) 27 = .ok (.iload_n 2, 1) := by decide +kernel
theorem d_X2_add_28 : decode (px_cc M_X2_add) 28 = .ok (.iastore, 1) := by decide +kernel
theorem d_X2_add_29 : decode (px_cc M_X2_add) 29 = .ok (.aload_n 0, 1) := by decide +kernel
theorem d_X2_add_30 : decode (px_cc M_X2_add) 30 = .ok (.getfield 18, 3) := by decide +kernel
theorem d_X2_add_33 : decode (px_cc M_X2_add) 33 = .ok (.aload_n 0, 1) := by decide +kernel
theorem d_X2_add_34 : decode (px_cc M_X2_add) 34 = .ok (.getfield 24, 3) := by decide +kernel
theorem d_X2_add_37 : decode (px_cc M_X2_add) 37 = .ok (.iload_n 3, 1) := by decide +kernel
theorem d_X2_add_38 : decode (px_cc M_X2_add) 38 = .ok (.iastore, 1) := by decide +kernel
theorem d_X2_add_39 : decode (px_cc M_X2_add) 39 = .ok (.aload_n 0, 1) := by decide +kernel
theorem d_X2_add_40 : decode (px_cc M_X2_add) 40 = .ok (.getfield 21, 3) := by decide +kernel
theorem d_X2_add_43 : decode (px_cc M_X2_add) 43 = .ok (.aload_n 0, 1) := by decide +kernel
theorem d_X2_add_44 : decode (px_cc M_X2_add) 44 = .ok (.getfield 24, 3) := by decide +kernel
theorem d_X2_add_47 : decode (px_cc M_X2_add) 47 = .ok (.iload 4, 2) := by decide +kernel
theorem d_X2_add_49 : decode (px_cc M_X2_add) 49 = .ok (.iastore, 1) := by decide +kernel
theorem d_X2_add_50 : decode (px_cc M_X2_add) 50 = .ok (.aload_n 0, 1) := by decide +kernel
theorem d_X2_add_51 : decode (px_cc M_X2_add) 51 = .ok (.dup, 1) := by decide +kernel
theorem d_X2_add_52 : decode (px_cc M_X2_add) 52 = .ok (.getfield 24, 3) := by decide +kernel
theorem d_X2_add_55 : decode (px_cc M_X2_add) 55 = .ok (.iconst 1, 1) := by decide +kernel
theorem d_X2_add_56 : decode (px_cc M_X2_add) 56 = .ok (.iadd, 1) := by decide +kernel
theorem d_X2_add_57 : decode (px_cc M_X2_add) 57 = .ok (.putfield 24, 3) := by decide +kernel
theorem d_X2_add_60 : decode (px_cc M_X2_add) 60 = .ok (.aload_n 0, 1) := by decide +kernel
theorem d_X2_add_61 : decode (px_cc M_X2_add) 61 = .ok (.getfield 24, 3) := by decide +kernel
theorem d_X2_add_64 : decode (px_cc M_X2_add) 64 = .ok (.iconst 1, 1) := by decide +kernel
theorem d_X2_add_65 : decode (px_cc M_X2_add) 65 = .ok (.isub, 1) := by decide +kernel
theorem d_X2_add_66 : decode (px_cc M_X2_add) 66 = .ok (.ireturn, 1) := by decide +kernel
theorem d_X2_countOf_0 : decode (px_cc M_X2_countOf) 0 = .ok (.iconst 0, 1) := by decide +kernel
theorem d_X2_countOf_1 : decode (px_cc M_X2_countOf) 1 = .ok (.istore_n 2, 1) := by decide +kernel
theorem d_X2_countOf_2 : decode (px_cc M_X2_countOf) 2 = .ok (.iconst 0, 1) := by decide +kernel
theorem d_X2_countOf_3 : decode (px_cc M_X2_countOf) 3 = .ok (.istore_n 3, 1) := by decide +kernel
theorem d_X2_countOf_4 : decode (px_cc M_X2_countOf) 4 = .ok (.iload_n 3, 1) := by decide +kernel
theorem d_X2_countOf_5 : decode (px_cc M_X2_countOf) 5 = .ok (.aload_n 0, 1) := by decide +kernel
theorem d_X2_countOf_6 : decode (px_cc M_X2_countOf) 6 = .ok (.getfield 24, 3) := by decide +kernel
theorem d_X2_countOf_9 : decode (px_cc M_X2_countOf) 9 = .ok (.if_icmp .ge 22, 3) := by decide +kernel
theorem d_X2_countOf_12 : decode (px_cc M_X2_countOf) 12 = .ok (.aload_n 0, 1) := by decide +kernel
theorem d_X2_countOf_13 : decode (px_cc M_X2_countOf) 13 = .ok (.getfield 9, 3) := by decide +kernel
theorem d_X2_countOf_16 : decode (px_cc M_X2_countOf) 16 = .ok (.iload_n 3, 1) := by decide +kernel
theorem d_X2_countOf_17 : decode (px_cc M_X2_countOf) 17 = .ok (.iaload, 1) := by decide +kernel
theorem d_X2_countOf_18 : decode (px_cc M_X2_countOf) 18 = .ok (.iload_n 1, 1) := by decide +kernel
theorem d_X2_countOf_19 : decode (px_cc M_X2_countOf) 19 = .ok (.if_icmp .ne 6, 3) := by decide +kernel
theorem d_X2_countOf_22 : decode (px_cc M_X2_countOf) 22 = .ok (.iinc 2 1, 3) := by decide +kernel
theorem d_X2_countOf_25 : decode (px_cc M_X2_countOf) 25 = .ok (.iinc 3 1, 3) := by decide +kernel
theorem d_X2_countOf_28 : decode (px_cc M_X2_countOf) 28 = .ok (.goto (-24), 3) := by decide +kernel
theorem d_X2_countOf_31 : decode (px_cc M_X2_countOf) 31 = .ok (.iload_n 2, 1) := by decide +kernel
theorem d_X2_countOf_32 : decode (px_cc M_X2_countOf) 32 = .ok (.ireturn, 1) := by decide +kernel
theorem d_X2_countAlike_0 : decode (px_cc M_X2_countAlike) 0 = .ok (.iconst 0, 1) := by decide +kernel
theorem d_X2_countAlike_1 : decode (px_cc M_X2_countAlike) 1 = .ok (.istore 4, 2) := by decide +kernel
theorem d_X2_countAlike_3 : decode (px_cc M_X2_countAlike) 3 = .ok (.iconst 0, 1) := by decide +kernel
theorem d_X2_countAlike_4 : decode (px_cc M_X2_countAlike) 4 = .ok (.istore 5, 2) := by decide +kernel
theorem d_X2_countAlike_6 : decode (px_cc M_X2_countAlike) 6 = .ok (.iload 5, 2) := by decide +kernel
theorem d_X2_countAlike_8 : decode (px_cc M_X2_countAlike) 8 = .ok (.aload_n 0, 1) := by decide +kernel
theorem d_X2_countAlike_9 : decode (px_cc M_X2_countAlike) 9 = .ok (.getfield 24, 3) := by decide +kernel
theorem d_X2_countAlike_12 : decode (px_cc M_X2_countAlike) 12 = .ok (.if_icmp .ge 45, 3) := by decide +kernel
theorem d_X2_countAlike_15 : decode (px_cc M_X2_countAlike) 15 = .ok (.aload_n 0, 1) := by decide +kernel
theorem d_X2_countAlike_16 : decode (px_cc M_X2_countAlike) 16 = .ok (.getfield 9, 3) := by decide +kernel
theorem d_X2_countAlike_19 : decode (px_cc M_X2_countAlike) 19 = .ok (.iload 5, 2) := by decide +kernel
theorem d_X2_countAlike_21 : decode (px_cc M_X2_countAlike) 21 = .ok (.iaload, 1) := by decide +kernel
theorem d_X2_countAlike_22 : decode (px_cc M_X2_countAlike) 22 = .ok (.iload_n 1, 1) := by decide +kernel
theorem d_X2_countAlike_23 : decode (px_cc M_X2_countAlike) 23 = .ok (.if_icmp .ne 28, 3) := by decide +kernel
theorem d_X2_countAlike_26 : decode (px_cc M_X2_countAlike) 26 = .ok (.aload_n 0, 1) := by decide +kernel
theorem d_X2_countAlike_27 : decode (px_cc M_X2_countAlike) 27 = .ok (.getfield 15, 3) := by decide +kernel
theorem d_X2_countAlike_30 : decode (px_cc M_X2_countAlike) 30 = .ok (.iload 5, 2) := by decide +kernel
theorem d_X2_countAlike_32 : decode (px_cc M_X2_countAlike) 32 = .ok (.iaload, 1) := by decide +kernel
theorem d_X2_countAlike_33 : decode (px_cc M_X2_countAlike) 33 = .ok (.iload_n 2, 1) := by decide +kernel
theorem d_X2_countAlike_34 : decode (px_cc M_X2_countAlike) 34 = .ok (.if_icmp .ne 17, 3) := by decide +kernel
theorem d_X2_countAlike_37 : decode (px_cc M_X2_countAlike) 37 = .ok (.aload_n 0, 1) := by decide +kernel
theorem d_X2_countAlike_38 : decode (px_cc M_X2_countAlike) 38 = .ok (.getfield 18, 3) := by decide +kernel
theorem d_X2_countAlike_41 : decode (px_cc M_X2_countAlike) 41 = .ok (.iload 5, 2) := by decide +kernel
theorem d_X2_countAlike_43 : decode (px_cc M_X2_countAlike) 43 = .ok (.iaload, 1) := by decide +kernel
theorem d_X2_countAlike_44 : decode (px_cc M_X2_countAlike) 44 = .ok (.iload_n 3, 1) := by decide +kernel
theorem d_X2_countAlike_45 : decode (px_cc M_X2_countAlike) 45 = .ok (.if_icmp .ne 6, 3) := by decide +kernel
theorem d_X2_countAlike_48 : decode (px_cc M_X2_countAlike) 48 = .ok (.iinc 4 1, 3) := by decide +kernel
theorem d_X2_countAlike_51 : decode (px_cc M_X2_countAlike) 51 = .ok (.iinc 5 1, 3) := by decide +kernel
theorem d_X2_countAlike_54 : decode (px_cc M_X2_countAlike) 54 = .ok (.goto (-48), 3) := by decide +kernel
theorem d_X2_countAlike_57 : decode (px_cc M_X2_countAlike) 57 = .ok (.iload 4, 2) := by decide +kernel
theorem d_X2_countAlike_59 : decode (px_cc M_X2_countAlike) 59 = .ok (.ireturn, 1) := by decide +kernel
theorem d_X2_drawnOn_0 : decode (px_cc M_X2_drawnOn) 0 = .ok (.iconst 0, 1) := by decide +kernel
theorem d_X2_drawnOn_1 : decode (px_cc M_X2_drawnOn) 1 = .ok (.istore_n 3, 1) := by decide +kernel
theorem d_X2_drawnOn_2 : decode (px_cc M_X2_drawnOn) 2 = .ok (.iconst 0, 1) := by decide +kernel
theorem d_X2_drawnOn_3 : decode (px_cc M_X2_drawnOn) 3 = .ok (.istore 4, 2) := by decide +kernel
theorem d_X2_drawnOn_5 : decode (px_cc M_X2_drawnOn) 5 = .ok (.iload 4, 2) := by decide +kernel
theorem d_X2_drawnOn_7 : decode (px_cc M_X2_drawnOn) 7 = .ok (.aload_n 0, 1) := by decide +kernel
theorem d_X2_drawnOn_8 : decode (px_cc M_X2_drawnOn) 8 = .ok (.getfield 24, 3) := by decide +kernel
theorem d_X2_drawnOn_11 : decode (px_cc M_X2_drawnOn) 11 = .ok (.if_icmp .ge 51, 3) := by decide +kernel
theorem d_X2_drawnOn_14 : decode (px_cc M_X2_drawnOn) 14 = .ok (.aload_n 0, 1) := by decide +kernel
theorem d_X2_drawnOn_15 : decode (px_cc M_X2_drawnOn) 15 = .ok (.getfield 9, 3) := by decide +kernel
theorem d_X2_drawnOn_18 : decode (px_cc M_X2_drawnOn) 18 = .ok (.iload 4, 2) := by decide +kernel
theorem d_X2_drawnOn_20 : decode (px_cc M_X2_drawnOn) 20 = .ok (.iaload, 1) := by decide +kernel
theorem d_X2_drawnOn_21 : decode (px_cc M_X2_drawnOn) 21 = .ok (.iload_n 1, 1) := by decide +kernel
theorem d_X2_drawnOn_22 : decode (px_cc M_X2_drawnOn) 22 = .ok (.if_icmp .ne 34, 3) := by decide +kernel
theorem d_X2_drawnOn_25 : decode (px_cc M_X2_drawnOn) 25 = .ok (.aload_n 0, 1) := by decide +kernel
theorem d_X2_drawnOn_26 : decode (px_cc M_X2_drawnOn) 26 = .ok (.getfield 15, 3) := by decide +kernel
theorem d_X2_drawnOn_29 : decode (px_cc M_X2_drawnOn) 29 = .ok (.iload 4, 2) := by decide +kernel
theorem d_X2_drawnOn_31 : decode (px_cc M_X2_drawnOn) 31 = .ok (.iaload, 1) := by decide +kernel
theorem d_X2_drawnOn_32 : decode (px_cc M_X2_drawnOn) 32 = .ok (.iload_n 2, 1) := by decide +kernel
theorem d_X2_drawnOn_33 : decode (px_cc M_X2_drawnOn) 33 = .ok (.if_icmp .ne 23, 3) := by decide +kernel
theorem d_X2_drawnOn_36 : decode (px_cc M_X2_drawnOn) 36 = .ok (.aload_n 0, 1) := by decide +kernel
theorem d_X2_drawnOn_37 : decode (px_cc M_X2_drawnOn) 37 = .ok (.getfield 18, 3) := by decide +kernel
theorem d_X2_drawnOn_40 : decode (px_cc M_X2_drawnOn) 40 = .ok (.iload 4, 2) := by decide +kernel
theorem d_X2_drawnOn_42 : decode (px_cc M_X2_drawnOn) 42 = .ok (.iaload, 1) := by decide +kernel
theorem d_X2_drawnOn_43 : decode (px_cc M_X2_drawnOn) 43 = .ok (.ifCond .ge 13, 3) := by decide +kernel
theorem d_X2_drawnOn_46 : decode (px_cc M_X2_drawnOn) 46 = .ok (.iload_n 3, 1) := by decide +kernel
theorem d_X2_drawnOn_47 : decode (px_cc M_X2_drawnOn) 47 = .ok (.aload_n 0, 1) := by decide +kernel
theorem d_X2_drawnOn_48 : decode (px_cc M_X2_drawnOn) 48 = .ok (.getfield 18, 3) := by decide +kernel
theorem d_X2_drawnOn_51 : decode (px_cc M_X2_drawnOn) 51 = .ok (.iload 4, 2) := by decide +kernel
theorem d_X2_drawnOn_53 : decode (px_cc M_X2_drawnOn) 53 = .ok (.iaload, 1) := by decide +kernel
theorem d_X2_drawnOn_54 : decode (px_cc M_X2_drawnOn) 54 = .ok (.isub, 1) := by decide +kernel
theorem d_X2_drawnOn_55 : decode (px_cc M_X2_drawnOn) 55 = .ok (.istore_n 3, 1) := by decide +kernel
theorem d_X2_drawnOn_56 : decode (px_cc M_X2_drawnOn) 56 = .ok (.iinc 4 1, 3) := by decide +kernel
theorem d_X2_drawnOn_59 : decode (px_cc M_X2_drawnOn) 59 = .ok (.goto (-54), 3) := by decide +kernel
theorem d_X2_drawnOn_62 : decode (px_cc M_X2_drawnOn) 62 = .ok (.iload_n 3, 1) := by decide +kernel
theorem d_X2_drawnOn_63 : decode (px_cc M_X2_drawnOn) 63 = .ok (.ireturn, 1) := by decide +kernel
theorem d_X2_gatherByDay_0 : decode (px_cc M_X2_gatherByDay) 0 = .ok (.aload_n 3, 1) := by decide +kernel
theorem d_X2_gatherByDay_1 : decode (px_cc M_X2_gatherByDay) 1 = .ok (.iconst 0, 1) := by decide +kernel
theorem d_X2_gatherByDay_2 : decode (px_cc M_X2_gatherByDay) 2 = .ok (.invokestatic 32, 3) := by decide +kernel
theorem d_X2_gatherByDay_5 : decode (px_cc M_X2_gatherByDay) 5 = .ok (.iconst 0, 1) := by decide +kernel
theorem d_X2_gatherByDay_6 : decode (px_cc M_X2_gatherByDay) 6 = .ok (.istore 4, 2) := by decide +kernel
theorem d_X2_gatherByDay_8 : decode (px_cc M_X2_gatherByDay) 8 = .ok (.iload 4, 2) := by decide +kernel
theorem d_X2_gatherByDay_10 : decode (px_cc M_X2_gatherByDay) 10 = .ok (.aload_n 0, 1) := by decide +kernel
theorem d_X2_gatherByDay_11 : decode (px_cc M_X2_gatherByDay) 11 = .ok (.getfield 24, 3) := by decide +kernel
theorem d_X2_gatherByDay_14 : decode (px_cc M_X2_gatherByDay) 14 = .ok (.if_icmp .ge 72, 3) := by decide +kernel
theorem d_X2_gatherByDay_17 : decode (px_cc M_X2_gatherByDay) 17 = .ok (.aload_n 0, 1) := by decide +kernel
theorem d_X2_gatherByDay_18 : decode (px_cc M_X2_gatherByDay) 18 = .ok (.getfield 9, 3) := by decide +kernel
theorem d_X2_gatherByDay_21 : decode (px_cc M_X2_gatherByDay) 21 = .ok (.iload 4, 2) := by decide +kernel
theorem d_X2_gatherByDay_23 : decode (px_cc M_X2_gatherByDay) 23 = .ok (.iaload, 1) := by decide +kernel
theorem d_X2_gatherByDay_24 : decode (px_cc M_X2_gatherByDay) 24 = .ok (.iload_n 1, 1) := by decide +kernel
theorem d_X2_gatherByDay_25 : decode (px_cc M_X2_gatherByDay) 25 = .ok (.if_icmp .ne 55, 3) := by decide +kernel
theorem d_X2_gatherByDay_28 : decode (px_cc M_X2_gatherByDay) 28 = .ok (.aload_n 0, 1) := by decide +kernel
theorem d_X2_gatherByDay_29 : decode (px_cc M_X2_gatherByDay) 29 = .ok (.getfield 21, 3) := by decide +kernel
theorem d_X2_gatherByDay_32 : decode (px_cc M_X2_gatherByDay) 32 = .ok (.iload 4, 2) := by decide +kernel
theorem d_X2_gatherByDay_34 : decode (px_cc M_X2_gatherByDay) 34 = .ok (.iaload, 1) := by decide +kernel
theorem d_X2_gatherByDay_35 : decode (px_cc M_X2_gatherByDay) 35 = .ok (.iload_n 2, 1) := by decide +kernel
theorem d_X2_gatherByDay_36 : decode (px_cc M_X2_gatherByDay) 36 = .ok (.if_icmp .gt 44, 3) := by decide +kernel
theorem d_X2_gatherByDay_39 : decode (px_cc M_X2_gatherByDay) 39 = .ok (.aload_n 0, 1) := by decide +kernel
theorem d_X2_gatherByDay_40 : decode (px_cc M_X2_gatherByDay) 40 = .ok (.getfield 15, 3) := by decide +kernel
theorem d_X2_gatherByDay_43 : decode (px_cc M_X2_gatherByDay) 43 = .ok (.iload 4, 2) := by decide +kernel
theorem d_X2_gatherByDay_45 : decode (px_cc M_X2_gatherByDay) 45 = .ok (.iaload, 1) := by decide +kernel
theorem d_X2_gatherByDay_46 : decode (px_cc M_X2_gatherByDay) 46 = .ok (.ifCond .lt 34, 3) := by decide +kernel
theorem d_X2_gatherByDay_49 : decode (px_cc M_X2_gatherByDay) 49 = .ok (.aload_n 0, 1) := by decide +kernel
theorem d_X2_gatherByDay_50 : decode (px_cc M_X2_gatherByDay) 50 = .ok (.getfield 15, 3) := by decide +kernel
theorem d_X2_gatherByDay_53 : decode (px_cc M_X2_gatherByDay) 53 = .ok (.iload 4, 2) := by decide +kernel
theorem d_X2_gatherByDay_55 : decode (px_cc M_X2_gatherByDay) 55 = .ok (.iaload, 1) := by decide +kernel
theorem d_X2_gatherByDay_56 : decode (px_cc M_X2_gatherByDay) 56 = .ok (.aload_n 3, 1) := by decide +kernel
theorem d_X2_gatherByDay_57 : decode (px_cc M_X2_gatherByDay) 57 = .ok (.arraylength, 1) := by decide +kernel
theorem d_X2_gatherByDay_58 : decode (px_cc M_X2_gatherByDay) 58 = .ok (.if_icmp .ge 22, 3) := by decide +kernel
theorem d_X2_gatherByDay_61 : decode (px_cc M_X2_gatherByDay) 61 = .ok (.aload_n 3, 1) := by decide +kernel
theorem d_X2_gatherByDay_62 : decode (px_cc M_X2_gatherByDay) 62 = .ok (.aload_n 0, 1) := by decide +kernel
theorem d_X2_gatherByDay_63 : decode (px_cc M_X2_gatherByDay) 63 = .ok (.getfield 15, 3) := by decide +kernel
theorem d_X2_gatherByDay_66 : decode (px_cc M_X2_gatherByDay) 66 = .ok (.iload 4, 2) := by decide +kernel
theorem d_X2_gatherByDay_68 : decode (px_cc M_X2_gatherByDay) 68 = .ok (.iaload, 1) := by decide +kernel
theorem d_X2_gatherByDay_69 : decode (px_cc M_X2_gatherByDay) 69 = .ok (.dup2, 1) := by decide +kernel
theorem d_X2_gatherByDay_70 : decode (px_cc M_X2_gatherByDay) 70 = .ok (.iaload, 1) := by decide +kernel
theorem d_X2_gatherByDay_71 : decode (px_cc M_X2_gatherByDay) 71 = .ok (.aload_n 0, 1) := by decide +kernel
theorem d_X2_gatherByDay_72 : decode (px_cc M_X2_gatherByDay) 72 = .ok (.getfield 18, 3) := by decide +kernel
theorem d_X2_gatherByDay_75 : decode (px_cc M_X2_gatherByDay) 75 = .ok (.iload 4, 2) := by decide +kernel
theorem d_X2_gatherByDay_77 : decode (px_cc M_X2_gatherByDay) 77 = .ok (.iaload, 1) := by decide +kernel
theorem d_X2_gatherByDay_78 : decode (px_cc M_X2_gatherByDay) 78 = .ok (.iadd, 1) := by decide +kernel
theorem d_X2_gatherByDay_79 : decode (px_cc M_X2_gatherByDay) 79 = .ok (.iastore, 1) := by decide +kernel
theorem d_X2_gatherByDay_80 : decode (px_cc M_X2_gatherByDay) 80 = .ok (.iinc 4 1, 3) := by decide +kernel
theorem d_X2_gatherByDay_83 : decode (px_cc M_X2_gatherByDay) 83 = .ok (.goto (-75), 3) := by decide +kernel
theorem d_X2_gatherByDay_86 : decode (px_cc M_X2_gatherByDay) 86 = .ok (.return_, 1) := by decide +kernel
theorem d_X3_init_0 : decode (px_cc M_X3_init) 0 = .ok (.aload_n 0, 1) := by decide +kernel
theorem d_X3_init_1 : decode (px_cc M_X3_init) 1 = .ok (.invokespecial 3, 3) := by decide +kernel
theorem d_X3_init_4 : decode (px_cc M_X3_init) 4 = .ok (.aload_n 0, 1) := by decide +kernel
theorem d_X3_init_5 : decode (px_cc M_X3_init) 5 = .ok (.sipush 600, 3) := by decide +kernel
theorem d_X3_init_8 : decode (px_cc M_X3_init) 8 = .ok (.newarray .int, 2) := by decide +kernel
theorem d_X3_init_10 : decode (px_cc M_X3_init) 10 = .ok (.putfield 9, 3) := by decide +kernel
theorem d_X3_init_13 : decode (px_cc M_X3_init) 13 = .ok (.aload_n 0, 1) := by decide +kernel
theorem d_X3_init_14 : decode (px_cc M_X3_init) 14 = .ok (.bipush 6, 2) := by decide +kernel
theorem d_X3_init_16 : decode (px_cc M_X3_init) 16 = .ok (.newarray .boolean, 2) := by decide +kernel
theorem d_X3_init_18 : decode (px_cc M_X3_init) 18 = .ok (.putfield 15, 3) := by decide +kernel
theorem d_X3_init_21 : decode (px_cc M_X3_init) 21 = .ok (.return_, 1) := by decide +kernel
theorem d_X3_faultOf_0 : decode (px_cc M_X3_faultOf) 0 = .ok (.aload_n 1, 1) := by decide +kernel
theorem d_X3_faultOf_1 : decode (px_cc M_X3_faultOf) 1 = .ok (.invokevirtual 19, 3) := by decide +kernel
theorem d_X3_faultOf_4 : decode (px_cc M_X3_faultOf) 4 = .ok (.aload_n 0, 1) := by decide +kernel
theorem d_X3_faultOf_5 : decode (px_cc M_X3_faultOf) 5 = .ok (.iconst 0, 1) := by decide +kernel
theorem d_X3_faultOf_6 : decode (px_cc M_X3_faultOf) 6 = .ok (.putfield 24, 3) := by decide +kernel
theorem d_X3_faultOf_9 : decode (px_cc M_X3_faultOf) 9 = .ok (.aload_n 0, 1) := by decide +kernel
theorem d_X3_faultOf_10 : decode (px_cc M_X3_faultOf) 10 = .ok (.iconst 0, 1) := by decide +kernel
theorem d_X3_faultOf_11 : decode (px_cc M_X3_faultOf) 11 = .ok (.putfield 28, 3) := by decide +kernel
theorem d_X3_faultOf_14 : decode (px_cc M_X3_faultOf) 14 = .ok (.aload_n 0, 1) := by decide +kernel
theorem d_X3_faultOf_15 : decode (px_cc M_X3_faultOf) 15 = .ok (.iconst 0, 1) := by decide +kernel
theorem d_X3_faultOf_16 : decode (px_cc M_X3_faultOf) 16 = .ok (.putfield 31, 3) := by decide +kernel
theorem d_X3_faultOf_19 : decode (px_cc M_X3_faultOf) 19 = .ok (.aload_n 0, 1) := by decide +kernel
theorem d_X3_faultOf_20 : decode (px_cc M_X3_faultOf) 20 = .ok (.iconst 0, 1) := by decide +kernel
theorem d_X3_faultOf_21 : decode (px_cc M_X3_faultOf) 21 = .ok (.putfield 34, 3) := by decide +kernel
theorem d_X3_faultOf_24 : decode (px_cc M_X3_faultOf) 24 = .ok (.iconst 0, 1) := by decide +kernel
theorem d_X3_faultOf_25 : decode (px_cc M_X3_faultOf) 25 = .ok (.istore_n 2, 1) := by decide +kernel
theorem d_X3_faultOf_26 : decode (px_cc M_X3_faultOf) 26 = .ok (.iload_n 2, 1) := by decide +kernel
theorem d_X3_faultOf_27 : decode (px_cc M_X3_faultOf) 27 = .ok (.sipush 600, 3) := by decide +kernel
theorem d_X3_faultOf_30 : decode (px_cc M_X3_faultOf) 30 = .ok (.if_icmp .ge 70, 3) := by decide +kernel
theorem d_X3_faultOf_33 : decode (px_cc M_X3_faultOf) 33 = .ok (.aload_n 1, 1) := by decide +kernel
theorem d_X3_faultOf_34 : decode (px_cc M_X3_faultOf) 34 = .ok (.invokevirtual 37, 3) := by decide +kernel
theorem d_X3_faultOf_37 : decode (px_cc M_X3_faultOf) 37 = .ok (.istore_n 3, 1) := by decide +kernel
theorem d_X3_faultOf_38 : decode (px_cc M_X3_faultOf) 38 = .ok (.aload_n 0, 1) := by decide +kernel
theorem d_X3_faultOf_39 : decode (px_cc M_X3_faultOf) 39 = .ok (.getfield 34, 3) := by decide +kernel
theorem d_X3_faultOf_42 : decode (px_cc M_X3_faultOf) 42 = .ok (.ifCond .ne 10, 3) := by decide +kernel
theorem d_X3_faultOf_45 : decode (px_cc M_X3_faultOf) 45 = .ok (.iload_n 3, 1) := by decide +kernel
theorem d_X3_faultOf_46 : decode (px_cc M_X3_faultOf) 46 = .ok (.iconst (-1), 1) := by decide +kernel
theorem d_X3_faultOf_47 : decode (px_cc M_X3_faultOf) 47 = .ok (.if_icmp .ne 5, 3) := by decide +kernel
theorem d_X3_faultOf_50 : decode (px_cc M_X3_faultOf) 50 = .ok (.iconst 0, 1) := by decide +kernel
theorem d_X3_faultOf_51 : decode (px_cc M_X3_faultOf) 51 = .ok (.ireturn, 1) := by decide +kernel
theorem d_X3_faultOf_52 : decode (px_cc M_X3_faultOf) 52 = .ok (.aload_n 0, 1) := by decide +kernel
theorem d_X3_faultOf_53 : decode (px_cc M_X3_faultOf) 53 = .ok (.iload_n 3, 1) := by decide +kernel
theorem d_X3_faultOf_54 : decode (px_cc M_X3_faultOf) 54 = .ok (.invokevirtual 41, 3) := by decide +kernel
theorem d_X3_faultOf_57 : decode (px_cc M_X3_faultOf) 57 = .ok (.istore 4, 2) := by decide +kernel
theorem d_X3_faultOf_59 : decode (px_cc M_X3_faultOf) 59 = .ok (.iload 4, 2) := by decide +kernel
theorem d_X3_faultOf_61 : decode (px_cc M_X3_faultOf) 61 = .ok (.ifCond .eq 14, 3) := by decide +kernel
theorem d_X3_faultOf_64 : decode (px_cc M_X3_faultOf) 64 = .ok (.iload 4, 2) := by decide +kernel
theorem d_X3_faultOf_66 : decode (px_cc M_X3_faultOf) 66 = .ok (.bipush 16, 2) := by decide +kernel
theorem d_X3_faultOf_68 : decode (px_cc M_X3_faultOf) 68 = .ok (.aload_n 1, 1) := by decide +kernel
theorem d_X3_faultOf_69 : decode (px_cc M_X3_faultOf) 69 = .ok (.getfield 45, 3) := by decide +kernel
theorem d_X3_faultOf_72 : decode (px_cc M_X3_faultOf) 72 = .ok (.imul, 1) := by decide +kernel
theorem d_X3_faultOf_73 : decode (px_cc M_X3_faultOf) 73 = .ok (.iadd, 1) := by decide +kernel
theorem d_X3_faultOf_74 : decode (px_cc M_X3_faultOf) 74 = .ok (.ireturn, 1) := by decide +kernel
theorem d_X3_faultOf_75 : decode (px_cc M_X3_faultOf) 75 = .ok (.aload_n 0, 1) := by decide +kernel
theorem d_X3_faultOf_76 : decode (px_cc M_X3_faultOf) 76 = .ok (.getfield 9, 3) := by decide +kernel
theorem d_X3_faultOf_79 : decode (px_cc M_X3_faultOf) 79 = .ok (.iload_n 2, 1) := by decide +kernel
theorem d_X3_faultOf_80 : decode (px_cc M_X3_faultOf) 80 = .ok (.iload_n 3, 1) := by decide +kernel
theorem d_X3_faultOf_81 : decode (px_cc M_X3_faultOf) 81 = .ok (.iastore, 1) := by decide +kernel
theorem d_X3_faultOf_82 : decode (px_cc M_X3_faultOf) 82 = .ok (.aload_n 0, 1) := by decide +kernel
theorem d_X3_faultOf_83 : decode (px_cc M_X3_faultOf) 83 = .ok (.iload_n 2, 1) := by decide +kernel
theorem d_X3_faultOf_84 : decode (px_cc M_X3_faultOf) 84 = .ok (.iconst 1, 1) := by decide +kernel
theorem d_X3_faultOf_85 : decode (px_cc M_X3_faultOf) 85 = .ok (.iadd, 1) := by decide +kernel
theorem d_X3_faultOf_86 : decode (px_cc M_X3_faultOf) 86 = .ok (.putfield 24, 3) := by decide +kernel
theorem d_X3_faultOf_89 : decode (px_cc M_X3_faultOf) 89 = .ok (.aload_n 0, 1) := by decide +kernel
theorem d_X3_faultOf_90 : decode (px_cc M_X3_faultOf) 90 = .ok (.iload_n 3, 1) := by decide +kernel
theorem d_X3_faultOf_91 : decode (px_cc M_X3_faultOf) 91 = .ok (.invokevirtual 48, 3) := by decide +kernel
theorem d_X3_faultOf_94 : decode (px_cc M_X3_faultOf) 94 = .ok (.iinc 2 1, 3) := by decide +kernel
theorem d_X3_faultOf_97 : decode (px_cc M_X3_faultOf) 97 = .ok (.goto (-71), 3) := by decide +kernel
theorem d_X3_faultOf_100 : decode (px_cc M_X3_faultOf) 100 = .ok (.aload_n 0, 1) := by decide +kernel
theorem d_X3_faultOf_101 : decode (px_cc M_X3_faultOf) 101 = .ok (.getfield 34, 3) := by decide +kernel
theorem d_X3_faultOf_104 : decode (px_cc M_X3_faultOf) 104 = .ok (.ifCond .ne 7, 3) := by decide +kernel
theorem d_X3_faultOf_107 : decode (px_cc M_X3_faultOf) 107 = .ok (.iconst 0, 1) := by decide +kernel
theorem d_X3_faultOf_108 : decode (px_cc M_X3_faultOf) 108 = .ok (.goto 6, 3) := by decide +kernel
theorem d_X3_faultOf_111 : decode (px_cc M_X3_faultOf) 111 = .ok (.sipush 9601, 3) := by decide +kernel
theorem d_X3_faultOf_114 : decode (px_cc M_X3_faultOf) 114 = .ok (.ireturn, 1) := by decide +kernel
theorem d_X3_tokensRead_0 : decode (px_cc M_X3_tokensRead) 0 = .ok (.aload_n 0, 1) := by decide +kernel
theorem d_X3_tokensRead_1 : decode (px_cc M_X3_tokensRead) 1 = .ok (.getfield 9, 3) := by decide +kernel
theorem d_X3_tokensRead_4 : decode (px_cc M_X3_tokensRead) 4 = .ok (.aload_n 0, 1) := by decide +kernel
theorem d_X3_tokensRead_5 : decode (px_cc M_X3_tokensRead) 5 = .ok (.getfield 24, 3) := by decide +kernel
theorem d_X3_tokensRead_8 : decode (px_cc M_X3_tokensRead) 8 = .ok (.invokestatic 52, 3) := by decide +kernel
theorem d_X3_tokensRead_11 : decode (px_cc M_X3_tokensRead) 11 = .ok (.areturn, 1) := by decide +kernel
theorem d_X3_wrongness_0 : decode (px_cc M_X3_wrongness) 0 = .ok (.aload_n 0, 1) := by decide +kernel
theorem d_X3_wrongness_1 : decode (px_cc M_X3_wrongness) 1 = .ok (.getfield 34, 3) := by decide +kernel
theorem d_X3_wrongness_4 : decode (px_cc M_X3_wrongness) 4 = .ok (.tableswitch 129 0 3 #[32, 63, 92, 104], 32) := by decide +kernel
theorem d_X3_wrongness_36 : decode (px_cc M_X3_wrongness) 36 = .ok (.iload_n 1, 1) := by decide +kernel
theorem d_X3_wrongness_37 : decode (px_cc M_X3_wrongness) 37 = .ok (.bipush (-3), 2) := by decide +kernel
theorem d_X3_wrongness_39 : decode (px_cc M_X3_wrongness) 39 = .ok (.if_icmp .eq 13, 3) := by decide +kernel
theorem d_X3_wrongness_42 : decode (px_cc M_X3_wrongness) 42 = .ok (.iload_n 1, 1) := by decide +kernel
theorem d_X3_wrongness_43 : decode (px_cc M_X3_wrongness) 43 = .ok (.bipush (-4), 2) := by decide +kernel
theorem d_X3_wrongness_45 : decode (px_cc M_X3_wrongness) 45 = .ok (.if_icmp .eq 7, 3) := by decide +kernel
theorem d_X3_wrongness_48 : decode (px_cc M_X3_wrongness) 48 = .ok (.iconst 1, 1) := by decide +kernel
theorem d_X3_wrongness_49 : decode (px_cc M_X3_wrongness) 49 = .ok (.goto 17, 3) := by decide +kernel
theorem d_X3_wrongness_52 : decode (px_cc M_X3_wrongness) 52 = .ok (.aload_n 0, 1) := by decide +kernel
theorem d_X3_wrongness_53 : decode (px_cc M_X3_wrongness) 53 = .ok (.getfield 28, 3) := by decide +kernel
theorem d_X3_wrongness_56 : decode (px_cc M_X3_wrongness) 56 = .ok (.bipush 16, 2) := by decide +kernel
theorem d_X3_wrongness_58 : decode (px_cc M_X3_wrongness) 58 = .ok (.if_icmp .lt 7, 3) := by decide +kernel
theorem d_X3_wrongness_61 : decode (px_cc M_X3_wrongness) 61 = .ok (.iconst 5, 1) := by decide +kernel
theorem d_X3_wrongness_62 : decode (px_cc M_X3_wrongness) 62 = .ok (.goto 4, 3) := by decide +kernel
theorem d_X3_wrongness_65 : decode (px_cc M_X3_wrongness) 65 = .ok (.iconst 0, 1) := by decide +kernel
theorem d_X3_wrongness_66 : decode (px_cc M_X3_wrongness) 66 = .ok (.ireturn, 1) := by decide +kernel
theorem d_X3_wrongness_67 : decode (px_cc M_X3_wrongness) 67 = .ok (.iload_n 1, 1) := by decide +kernel
theorem d_X3_wrongness_68 : decode (px_cc M_X3_wrongness) 68 = .ok (.ifCond .ge 7, 3) := by decide +kernel
theorem d_X3_wrongness_71 : decode (px_cc M_X3_wrongness) 71 = .ok (.iconst 1, 1) := by decide +kernel
theorem d_X3_wrongness_72 : decode (px_cc M_X3_wrongness) 72 = .ok (.goto 23, 3) := by decide +kernel
theorem d_X3_wrongness_75 : decode (px_cc M_X3_wrongness) 75 = .ok (.aload_n 0, 1) := by decide +kernel
theorem d_X3_wrongness_76 : decode (px_cc M_X3_wrongness) 76 = .ok (.getfield 58, 3) := by decide +kernel
theorem d_X3_wrongness_79 : decode (px_cc M_X3_wrongness) 79 = .ok (.bipush (-3), 2) := by decide +kernel
theorem d_X3_wrongness_81 : decode (px_cc M_X3_wrongness) 81 = .ok (.if_icmp .ne 13, 3) := by decide +kernel
theorem d_X3_wrongness_84 : decode (px_cc M_X3_wrongness) 84 = .ok (.iload_n 1, 1) := by decide +kernel
theorem d_X3_wrongness_85 : decode (px_cc M_X3_wrongness) 85 = .ok (.bipush 100, 2) := by decide +kernel
theorem d_X3_wrongness_87 : decode (px_cc M_X3_wrongness) 87 = .ok (.if_icmp .le 7, 3) := by decide +kernel
theorem d_X3_wrongness_90 : decode (px_cc M_X3_wrongness) 90 = .ok (.iconst 4, 1) := by decide +kernel
theorem d_X3_wrongness_91 : decode (px_cc M_X3_wrongness) 91 = .ok (.goto 4, 3) := by decide +kernel
theorem d_X3_wrongness_94 : decode (px_cc M_X3_wrongness) 94 = .ok (.iconst 0, 1) := by decide +kernel
theorem d_X3_wrongness_95 : decode (px_cc M_X3_wrongness) 95 = .ok (.ireturn, 1) := by decide +kernel
theorem d_X3_wrongness_96 : decode (px_cc M_X3_wrongness) 96 = .ok (.iload_n 1, 1) := by decide +kernel
theorem d_X3_wrongness_97 : decode (px_cc M_X3_wrongness) 97 = .ok (.bipush (-5), 2) := by decide +kernel
theorem d_X3_wrongness_99 : decode (px_cc M_X3_wrongness) 99 = .ok (.if_icmp .eq 7, 3) := by decide +kernel
theorem d_X3_wrongness_102 : decode (px_cc M_X3_wrongness) 102 = .ok (.iconst 1, 1) := by decide +kernel
theorem d_X3_wrongness_103 : decode (px_cc M_X3_wrongness) 103 = .ok (.goto 4, 3) := by decide +kernel
theorem d_X3_wrongness_106 : decode (px_cc M_X3_wrongness) 106 = .ok (.iconst 0, 1) := by decide +kernel
theorem d_X3_wrongness_107 : decode (px_cc M_X3_wrongness) 107 = .ok (.ireturn, 1) := by decide +kernel
theorem d_X3_wrongness_108 : decode (px_cc M_X3_wrongness) 108 = .ok (.iload_n 1, 1) := by decide +kernel
theorem d_X3_wrongness_109 : decode (px_cc M_X3_wrongness) 109 = .ok (.invokestatic 61, 3) := by decide +kernel
theorem d_X3_wrongness_112 : decode (px_cc M_X3_wrongness) 112 = .ok (.ifCond .ne 7, 3) := by decide +kernel
theorem d_X3_wrongness_115 : decode (px_cc M_X3_wrongness) 115 = .ok (.iconst 1, 1) := by decide +kernel
theorem d_X3_wrongness_116 : decode (px_cc M_X3_wrongness) 116 = .ok (.goto 16, 3) := by decide +kernel
theorem d_X3_wrongness_119 : decode (px_cc M_X3_wrongness) 119 = .ok (.aload_n 0, 1) := by decide +kernel
theorem d_X3_wrongness_120 : decode (px_cc M_X3_wrongness) 120 = .ok (.getfield 31, 3) := by decide +kernel
theorem d_X3_wrongness_123 : decode (px_cc M_X3_wrongness) 123 = .ok (.iconst 5, 1) := by decide +kernel
theorem d_X3_wrongness_124 : decode (px_cc M_X3_wrongness) 124 = .ok (.if_icmp .lt 7, 3) := by decide +kernel
theorem d_X3_wrongness_127 : decode (px_cc M_X3_wrongness) 127 = .ok (.iconst 5, 1) := by decide +kernel
theorem d_X3_wrongness_128 : decode (px_cc M_X3_wrongness) 128 = .ok (.goto 4, 3) := by decide +kernel
theorem d_X3_wrongness_131 : decode (px_cc M_X3_wrongness) 131 = .ok (.iconst 0, 1) := by decide +kernel
theorem d_X3_wrongness_132 : decode (px_cc M_X3_wrongness) 132 = .ok (.ireturn, 1) := by decide +kernel
theorem d_X3_wrongness_133 : decode (px_cc M_X3_wrongness) 133 = .ok (.aload_n 0, 1) := by decide +kernel
theorem d_X3_wrongness_134 : decode (px_cc M_X3_wrongness) 134 = .ok (.iload_n 1, 1) := by decide +kernel
theorem d_X3_wrongness_135 : decode (px_cc M_X3_wrongness) 135 = .ok (.invokevirtual 65, 3) := by decide +kernel
theorem d_X3_wrongness_138 : decode (px_cc M_X3_wrongness) 138 = .ok (.ifCond .eq 7, 3) := by decide +kernel
theorem d_X3_wrongness_141 : decode (px_cc M_X3_wrongness) 141 = .ok (.iconst 0, 1) := by decide +kernel
theorem d_X3_wrongness_142 : decode (px_cc M_X3_wrongness) 142 = .ok (.goto 4, 3) := by decide +kernel
theorem d_X3_wrongness_145 : decode (px_cc M_X3_wrongness) 145 = .ok (.iconst 1, 1) := by decide +kernel
theorem d_X3_wrongness_146 : decode (px_cc M_X3_wrongness) 146 = .ok (.ireturn, 1) := by decide +kernel
theorem d_X3_beginsPart_0 : decode (px_cc M_X3_beginsPart) 0 = .ok (.iload_n 0, 1) := by decide +kernel
theorem d_X3_beginsPart_1 : decode (px_cc M_X3_beginsPart) 1 = .ok (.ifCond .ge 39, 3) := by decide +kernel
theorem d_X3_beginsPart_4 : decode (px_cc M_X3_beginsPart) 4 = .ok (.iload_n 0, 1) := by decide +kernel
theorem d_X3_beginsPart_5 : decode (px_cc M_X3_beginsPart) 5 = .ok (.bipush (-12), 2) := by decide +kernel
theorem d_X3_beginsPart_7 : decode (px_cc M_X3_beginsPart) 7 = .ok (.if_icmp .eq 33, 3) := by decide +kernel
theorem d_X3_beginsPart_10 : decode (px_cc M_X3_beginsPart) 10 = .ok (.iload_n 0, 1) := by decide +kernel
theorem d_X3_beginsPart_11 : decode (px_cc M_X3_beginsPart) 11 = .ok (.bipush (-7), 2) := by decide +kernel
theorem d_X3_beginsPart_13 : decode (px_cc M_X3_beginsPart) 13 = .ok (.if_icmp .eq 27, 3) := by decide +kernel
theorem d_X3_beginsPart_16 : decode (px_cc M_X3_beginsPart) 16 = .ok (.iload_n 0, 1) := by decide +kernel
theorem d_X3_beginsPart_17 : decode (px_cc M_X3_beginsPart) 17 = .ok (.bipush (-8), 2) := by decide +kernel
theorem d_X3_beginsPart_19 : decode (px_cc M_X3_beginsPart) 19 = .ok (.if_icmp .eq 21, 3) := by decide +kernel
theorem d_X3_beginsPart_22 : decode (px_cc M_X3_beginsPart) 22 = .ok (.iload_n 0, 1) := by decide +kernel
theorem d_X3_beginsPart_23 : decode (px_cc M_X3_beginsPart) 23 = .ok (.bipush (-9), 2) := by decide +kernel
theorem d_X3_beginsPart_25 : decode (px_cc M_X3_beginsPart) 25 = .ok (.if_icmp .eq 15, 3) := by decide +kernel
theorem d_X3_beginsPart_28 : decode (px_cc M_X3_beginsPart) 28 = .ok (.iload_n 0, 1) := by decide +kernel
theorem d_X3_beginsPart_29 : decode (px_cc M_X3_beginsPart) 29 = .ok (.bipush (-10), 2) := by decide +kernel
theorem d_X3_beginsPart_31 : decode (px_cc M_X3_beginsPart) 31 = .ok (.if_icmp .eq 9, 3) := by decide +kernel
theorem d_X3_beginsPart_34 : decode (px_cc M_X3_beginsPart) 34 = .ok (.iload_n 0, 1) := by decide +kernel
theorem d_X3_beginsPart_35 : decode (px_cc M_X3_beginsPart) 35 = .ok (.bipush (-11), 2) := by decide +kernel
theorem d_X3_beginsPart_37 : decode (px_cc M_X3_beginsPart) 37 = .ok (.if_icmp .ne 7, 3) := by decide +kernel
theorem d_X3_beginsPart_40 : decode (px_cc M_X3_beginsPart) 40 = .ok (.iconst 1, 1) := by decide +kernel
theorem d_X3_beginsPart_41 : decode (px_cc M_X3_beginsPart) 41 = .ok (.goto 4, 3) := by decide +kernel
theorem d_X3_beginsPart_44 : decode (px_cc M_X3_beginsPart) 44 = .ok (.iconst 0, 1) := by decide +kernel
theorem d_X3_beginsPart_45 : decode (px_cc M_X3_beginsPart) 45 = .ok (.ireturn, 1) := by decide +kernel
theorem d_X3_mayStandBehindPart_0 : decode (px_cc M_X3_mayStandBehindPart) 0 = .ok (.iload_n 1, 1) := by decide +kernel
theorem d_X3_mayStandBehindPart_1 : decode (px_cc M_X3_mayStandBehindPart) 1 = .ok (.tableswitch 113 (-18) (-6) #[100, 67, 67, 69, 69, 87, 113, 113, 113, 113, 113, 113, 67], 67) := by decide +kernel
theorem d_X3_mayStandBehindPart_68 : decode (px_cc M_X3_mayStandBehindPart) 68 = .ok (.iconst 1, 1) := by decide +kernel
theorem d_X3_mayStandBehindPart_69 : decode (px_cc M_X3_mayStandBehindPart) 69 = .ok (.ireturn, 1) := by decide +kernel
theorem d_X3_mayStandBehindPart_70 : decode (px_cc M_X3_mayStandBehindPart) 70 = .ok (.aload_n 0, 1) := by decide +kernel
theorem d_X3_mayStandBehindPart_71 : decode (px_cc M_X3_mayStandBehindPart) 71 = .ok (.getfield 15, 3) := by decide +kernel
theorem d_X3_mayStandBehindPart_74 : decode (px_cc M_X3_mayStandBehindPart) 74 = .ok (.aload_n 0, 1) := by decide +kernel
theorem d_X3_mayStandBehindPart_75 : decode (px_cc M_X3_mayStandBehindPart) 75 = .ok (.getfield 31, 3) := by decide +kernel
theorem d_X3_mayStandBehindPart_78 : decode (px_cc M_X3_mayStandBehindPart) 78 = .ok (.baload, 1) := by decide +kernel
theorem d_X3_mayStandBehindPart_79 : decode (px_cc M_X3_mayStandBehindPart) 79 = .ok (.ifCond .ne 7, 3) := by decide +kernel
theorem d_X3_mayStandBehindPart_82 : decode (px_cc M_X3_mayStandBehindPart) 82 = .ok (.iconst 1, 1) := by decide +kernel
theorem d_X3_mayStandBehindPart_83 : decode (px_cc M_X3_mayStandBehindPart) 83 = .ok (.goto 4, 3) := by decide +kernel
theorem d_X3_mayStandBehindPart_86 : decode (px_cc M_X3_mayStandBehindPart) 86 = .ok (.iconst 0, 1) := by decide +kernel
theorem d_X3_mayStandBehindPart_87 : decode (px_cc M_X3_mayStandBehindPart) 87 = .ok (.ireturn, 1) := by decide +kernel
theorem d_X3_mayStandBehindPart_88 : decode (px_cc M_X3_mayStandBehindPart) 88 = .ok (.aload_n 0, 1) := by decide +kernel
theorem d_X3_mayStandBehindPart_89 : decode (px_cc M_X3_mayStandBehindPart) 89 = .ok (.getfield 31, 3) := by decide +kernel
theorem d_X3_mayStandBehindPart_92 : decode (px_cc M_X3_mayStandBehindPart) 92 = .ok (.ifCond .le 7, 3) := by decide +kernel
theorem d_X3_mayStandBehindPart_95 : decode (px_cc M_X3_mayStandBehindPart) 95 = .ok (.iconst 1, 1) := by decide +kernel
theorem d_X3_mayStandBehindPart_96 : decode (px_cc M_X3_mayStandBehindPart) 96 = .ok (.goto 4, 3) := by decide +kernel
theorem d_X3_mayStandBehindPart_99 : decode (px_cc M_X3_mayStandBehindPart) 99 = .ok (.iconst 0, 1) := by decide +kernel
theorem d_X3_mayStandBehindPart_100 : decode (px_cc M_X3_mayStandBehindPart) 100 = .ok (.ireturn, 1) := by decide +kernel
theorem d_X3_mayStandBehindPart_101 : decode (px_cc M_X3_mayStandBehindPart) 101 = .ok (.aload_n 0, 1) := by decide +kernel
theorem d_X3_mayStandBehindPart_102 : decode (px_cc M_X3_mayStandBehindPart) 102 = .ok (.getfield 31, 3) := by decide +kernel
theorem d_X3_mayStandBehindPart_105 : decode (px_cc M_X3_mayStandBehindPart) 105 = .ok (.ifCond .ne 7, 3) := by decide +kernel
theorem d_X3_mayStandBehindPart_108 : decode (px_cc M_X3_mayStandBehindPart) 108 = .ok (.iconst 1, 1) := by decide +kernel
theorem d_X3_mayStandBehindPart_109 : decode (px_cc M_X3_mayStandBehindPart) 109 = .ok (.goto 4, 3) := by decide +kernel
theorem d_X3_mayStandBehindPart_112 : decode (px_cc M_X3_mayStandBehindPart) 112 = .ok (.iconst 0, 1) := by decide +kernel
theorem d_X3_mayStandBehindPart_113 : decode (px_cc M_X3_mayStandBehindPart) 113 = .ok (.ireturn, 1) := by decide +kernel
theorem d_X3_mayStandBehindPart_114 : decode (px_cc M_X3_mayStandBehindPart) 114 = .ok (.iconst 0, 1) := by decide +kernel
theorem d_X3_mayStandBehindPart_115 : decode (px_cc M_X3_mayStandBehindPart) 115 = .ok (.ireturn, 1) := by decide +kernel
theorem d_X3_step_0 : decode (px_cc M_X3_step) 0 = .ok (.aload_n 0, 1) := by decide +kernel
theorem d_X3_step_1 : decode (px_cc M_X3_step) 1 = .ok (.getfield 34, 3) := by decide +kernel
theorem d_X3_step_4 : decode (px_cc M_X3_step) 4 = .ok (.tableswitch 89 0 3 #[32, 55, 63, 81], 32) := by decide +kernel
theorem d_X3_step_36 : decode (px_cc M_X3_step) 36 = .ok (.aload_n 0, 1) := by decide +kernel
theorem d_X3_step_37 : decode (px_cc M_X3_step) 37 = .ok (.dup, 1) := by decide +kernel
theorem d_X3_step_38 : decode (px_cc M_X3_step) 38 = .ok (.getfield 28, 3) := by decide +kernel
theorem d_X3_step_41 : decode (px_cc M_X3_step) 41 = .ok (.iconst 1, 1) := by decide +kernel
theorem d_X3_step_42 : decode (px_cc M_X3_step) 42 = .ok (.iadd, 1) := by decide +kernel
theorem d_X3_step_43 : decode (px_cc M_X3_step) 43 = .ok (.putfield 28, 3) := by decide +kernel
theorem d_X3_step_46 : decode (px_cc M_X3_step) 46 = .ok (.aload_n 0, 1) := by decide +kernel
theorem d_X3_step_47 : decode (px_cc M_X3_step) 47 = .ok (.iload_n 1, 1) := by decide +kernel
theorem d_X3_step_48 : decode (px_cc M_X3_step) 48 = .ok (.putfield 58, 3) := by decide +kernel
theorem d_X3_step_51 : decode (px_cc M_X3_step) 51 = .ok (.aload_n 0, 1) := by decide +kernel
theorem d_X3_step_52 : decode (px_cc M_X3_step) 52 = .ok (.iconst 1, 1) := by decide +kernel
theorem d_X3_step_53 : decode (px_cc M_X3_step) 53 = .ok (.putfield 34, 3) := by decide +kernel
theorem d_X3_step_56 : decode (px_cc M_X3_step) 56 = .ok (.goto 42, 3) := by decide +kernel
theorem d_X3_step_59 : decode (px_cc M_X3_step) 59 = .ok (.aload_n 0, 1) := by decide +kernel
theorem d_X3_step_60 : decode (px_cc M_X3_step) 60 = .ok (.iconst 2, 1) := by decide +kernel
theorem d_X3_step_61 : decode (px_cc M_X3_step) 61 = .ok (.putfield 34, 3) := by decide +kernel
theorem d_X3_step_64 : decode (px_cc M_X3_step) 64 = .ok (.goto 34, 3) := by decide +kernel
theorem d_X3_step_67 : decode (px_cc M_X3_step) 67 = .ok (.aload_n 0, 1) := by decide +kernel
theorem d_X3_step_68 : decode (px_cc M_X3_step) 68 = .ok (.getfield 15, 3) := by decide +kernel
theorem d_X3_step_71 : decode (px_cc M_X3_step) 71 = .ok (.aload_n 0, 1) := by decide +kernel
theorem d_X3_step_72 : decode (px_cc M_X3_step) 72 = .ok (.getfield 31, 3) := by decide +kernel
theorem d_X3_step_75 : decode (px_cc M_X3_step) 75 = .ok (.iconst 0, 1) := by decide +kernel
theorem d_X3_step_76 : decode (px_cc M_X3_step) 76 = .ok (.bastore, 1) := by decide +kernel
theorem d_X3_step_77 : decode (px_cc M_X3_step) 77 = .ok (.aload_n 0, 1) := by decide +kernel
theorem d_X3_step_78 : decode (px_cc M_X3_step) 78 = .ok (.iconst 3, 1) := by decide +kernel
theorem d_X3_step_79 : decode (px_cc M_X3_step) 79 = .ok (.putfield 34, 3) := by decide +kernel
theorem d_X3_step_82 : decode (px_cc M_X3_step) 82 = .ok (.goto 16, 3) := by decide +kernel
theorem d_X3_step_85 : decode (px_cc M_X3_step) 85 = .ok (.aload_n 0, 1) := by decide +kernel
theorem d_X3_step_86 : decode (px_cc M_X3_step) 86 = .ok (.iload_n 1, 1) := by decide +kernel
theorem d_X3_step_87 : decode (px_cc M_X3_step) 87 = .ok (.invokevirtual 68, 3) := by decide +kernel
theorem d_X3_step_90 : decode (px_cc M_X3_step) 90 = .ok (.goto 8, 3) := by decide +kernel
theorem d_X3_step_93 : decode (px_cc M_X3_step) 93 = .ok (.aload_n 0, 1) := by decide +kernel
theorem d_X3_step_94 : decode (px_cc M_X3_step) 94 = .ok (.iload_n 1, 1) := by decide +kernel
theorem d_X3_step_95 : decode (px_cc M_X3_step) 95 = .ok (.invokevirtual 71, 3) := by decide +kernel
theorem d_X3_step_98 : decode (px_cc M_X3_step) 98 = .ok (.return_, 1) := by decide +kernel
theorem d_X3_stepIntoPart_0 : decode (px_cc M_X3_stepIntoPart) 0 = .ok (.iload_n 1, 1) := by decide +kernel
theorem d_X3_stepIntoPart_1 : decode (px_cc M_X3_stepIntoPart) 1 = .ok (.bipush (-12), 2) := by decide +kernel
theorem d_X3_stepIntoPart_3 : decode (px_cc M_X3_stepIntoPart) 3 = .ok (.if_icmp .eq 11, 3) := by decide +kernel
theorem d_X3_stepIntoPart_6 : decode (px_cc M_X3_stepIntoPart) 6 = .ok (.aload_n 0, 1) := by decide +kernel
theorem d_X3_stepIntoPart_7 : decode (px_cc M_X3_stepIntoPart) 7 = .ok (.iconst 4, 1) := by decide +kernel
theorem d_X3_stepIntoPart_8 : decode (px_cc M_X3_stepIntoPart) 8 = .ok (.putfield 34, 3) := by decide +kernel
theorem d_X3_stepIntoPart_11 : decode (px_cc M_X3_stepIntoPart) 11 = .ok (.goto 31, 3) := by decide +kernel
theorem d_X3_stepIntoPart_14 : decode (px_cc M_X3_stepIntoPart) 14 = .ok (.aload_n 0, 1) := by decide +kernel
theorem d_X3_stepIntoPart_15 : decode (px_cc M_X3_stepIntoPart) 15 = .ok (.getfield 31, 3) := by decide +kernel
theorem d_X3_stepIntoPart_18 : decode (px_cc M_X3_stepIntoPart) 18 = .ok (.iconst 5, 1) := by decide +kernel
theorem d_X3_stepIntoPart_19 : decode (px_cc M_X3_stepIntoPart) 19 = .ok (.if_icmp .ge 23, 3) := by decide +kernel
theorem d_X3_stepIntoPart_22 : decode (px_cc M_X3_stepIntoPart) 22 = .ok (.aload_n 0, 1) := by decide +kernel
theorem d_X3_stepIntoPart_23 : decode (px_cc M_X3_stepIntoPart) 23 = .ok (.dup, 1) := by decide +kernel
theorem d_X3_stepIntoPart_24 : decode (px_cc M_X3_stepIntoPart) 24 = .ok (.getfield 31, 3) := by decide +kernel
theorem d_X3_stepIntoPart_27 : decode (px_cc M_X3_stepIntoPart) 27 = .ok (.iconst 1, 1) := by decide +kernel
theorem d_X3_stepIntoPart_28 : decode (px_cc M_X3_stepIntoPart) 28 = .ok (.iadd, 1) := by decide +kernel
theorem d_X3_stepIntoPart_29 : decode (px_cc M_X3_stepIntoPart) 29 = .ok (.putfield 31, 3) := by decide +kernel
theorem d_X3_stepIntoPart_32 : decode (px_cc M_X3_stepIntoPart) 32 = .ok (.aload_n 0, 1) := by decide +kernel
theorem d_X3_stepIntoPart_33 : decode (px_cc M_X3_stepIntoPart) 33 = .ok (.getfield 15, 3) := by decide +kernel
theorem d_X3_stepIntoPart_36 : decode (px_cc M_X3_stepIntoPart) 36 = .ok (.aload_n 0, 1) := by decide +kernel
theorem d_X3_stepIntoPart_37 : decode (px_cc M_X3_stepIntoPart) 37 = .ok (.getfield 31, 3) := by decide +kernel
theorem d_X3_stepIntoPart_40 : decode (px_cc M_X3_stepIntoPart) 40 = .ok (.iconst 0, 1) := by decide +kernel
theorem d_X3_stepIntoPart_41 : decode (px_cc M_X3_stepIntoPart) 41 = .ok (.bastore, 1) := by decide +kernel
theorem d_X3_stepIntoPart_42 : decode (px_cc M_X3_stepIntoPart) 42 = .ok (.return_, 1) := by decide +kernel
theorem d_X3_stepBehindPart_0 : decode (px_cc M_X3_stepBehindPart) 0 = .ok (.iload_n 1, 1) := by decide +kernel
theorem d_X3_stepBehindPart_1 : decode (px_cc M_X3_stepBehindPart) 1 = .ok (.bipush (-18), 2) := by decide +kernel
theorem d_X3_stepBehindPart_3 : decode (px_cc M_X3_stepBehindPart) 3 = .ok (.if_icmp .ne 11, 3) := by decide +kernel
theorem d_X3_stepBehindPart_6 : decode (px_cc M_X3_stepBehindPart) 6 = .ok (.aload_n 0, 1) := by decide +kernel
theorem d_X3_stepBehindPart_7 : decode (px_cc M_X3_stepBehindPart) 7 = .ok (.iconst 0, 1) := by decide +kernel
theorem d_X3_stepBehindPart_8 : decode (px_cc M_X3_stepBehindPart) 8 = .ok (.putfield 34, 3) := by decide +kernel
theorem d_X3_stepBehindPart_11 : decode (px_cc M_X3_stepBehindPart) 11 = .ok (.goto 66, 3) := by decide +kernel
theorem d_X3_stepBehindPart_14 : decode (px_cc M_X3_stepBehindPart) 14 = .ok (.iload_n 1, 1) := by decide +kernel
theorem d_X3_stepBehindPart_15 : decode (px_cc M_X3_stepBehindPart) 15 = .ok (.bipush (-13), 2) := by decide +kernel
theorem d_X3_stepBehindPart_17 : decode (px_cc M_X3_stepBehindPart) 17 = .ok (.if_icmp .eq 43, 3) := by decide +kernel
theorem d_X3_stepBehindPart_20 : decode (px_cc M_X3_stepBehindPart) 20 = .ok (.iload_n 1, 1) := by decide +kernel
theorem d_X3_stepBehindPart_21 : decode (px_cc M_X3_stepBehindPart) 21 = .ok (.bipush (-16), 2) := by decide +kernel
theorem d_X3_stepBehindPart_23 : decode (px_cc M_X3_stepBehindPart) 23 = .ok (.if_icmp .eq 29, 3) := by decide +kernel
theorem d_X3_stepBehindPart_26 : decode (px_cc M_X3_stepBehindPart) 26 = .ok (.iload_n 1, 1) := by decide +kernel
theorem d_X3_stepBehindPart_27 : decode (px_cc M_X3_stepBehindPart) 27 = .ok (.bipush (-17), 2) := by decide +kernel
theorem d_X3_stepBehindPart_29 : decode (px_cc M_X3_stepBehindPart) 29 = .ok (.if_icmp .eq 23, 3) := by decide +kernel
theorem d_X3_stepBehindPart_32 : decode (px_cc M_X3_stepBehindPart) 32 = .ok (.aload_n 0, 1) := by decide +kernel
theorem d_X3_stepBehindPart_33 : decode (px_cc M_X3_stepBehindPart) 33 = .ok (.getfield 15, 3) := by decide +kernel
theorem d_X3_stepBehindPart_36 : decode (px_cc M_X3_stepBehindPart) 36 = .ok (.aload_n 0, 1) := by decide +kernel
theorem d_X3_stepBehindPart_37 : decode (px_cc M_X3_stepBehindPart) 37 = .ok (.getfield 31, 3) := by decide +kernel
theorem d_X3_stepBehindPart_40 : decode (px_cc M_X3_stepBehindPart) 40 = .ok (.iload_n 1, 1) := by decide +kernel
theorem d_X3_stepBehindPart_41 : decode (px_cc M_X3_stepBehindPart) 41 = .ok (.bipush (-6), 2) := by decide +kernel
theorem d_X3_stepBehindPart_43 : decode (px_cc M_X3_stepBehindPart) 43 = .ok (.if_icmp .eq 7, 3) := by decide +kernel
theorem d_X3_stepBehindPart_46 : decode (px_cc M_X3_stepBehindPart) 46 = .ok (.iconst 1, 1) := by decide +kernel
theorem d_X3_stepBehindPart_47 : decode (px_cc M_X3_stepBehindPart) 47 = .ok (.goto 4, 3) := by decide +kernel
theorem d_X3_stepBehindPart_50 : decode (px_cc M_X3_stepBehindPart) 50 = .ok (.iconst 0, 1) := by decide +kernel
theorem d_X3_stepBehindPart_51 : decode (px_cc M_X3_stepBehindPart) 51 = .ok (.bastore, 1) := by decide +kernel
theorem d_X3_stepBehindPart_52 : decode (px_cc M_X3_stepBehindPart) 52 = .ok (.aload_n 0, 1) := by decide +kernel
theorem d_X3_stepBehindPart_53 : decode (px_cc M_X3_stepBehindPart) 53 = .ok (.iconst 3, 1) := by decide +kernel
theorem d_X3_stepBehindPart_54 : decode (px_cc M_X3_stepBehindPart) 54 = .ok (.putfield 34, 3) := by decide +kernel
theorem d_X3_stepBehindPart_57 : decode (px_cc M_X3_stepBehindPart) 57 = .ok (.goto 20, 3) := by decide +kernel
theorem d_X3_stepBehindPart_60 : decode (px_cc M_X3_stepBehindPart) 60 = .ok (.aload_n 0, 1) := by decide +kernel
theorem d_X3_stepBehindPart_61 : decode (px_cc M_X3_stepBehindPart) 61 = .ok (.getfield 31, 3) := by decide +kernel
theorem d_X3_stepBehindPart_64 : decode (px_cc M_X3_stepBehindPart) 64 = .ok (.ifCond .le 13, 3) := by decide +kernel
theorem d_X3_stepBehindPart_67 : decode (px_cc M_X3_stepBehindPart) 67 = .ok (.aload_n 0, 1) := by decide +kernel
theorem d_X3_stepBehindPart_68 : decode (px_cc M_X3_stepBehindPart) 68 = .ok (.dup, 1) := by decide +kernel
theorem d_X3_stepBehindPart_69 : decode (px_cc M_X3_stepBehindPart) 69 = .ok (.getfield 31, 3) := by decide +kernel
theorem d_X3_stepBehindPart_72 : decode (px_cc M_X3_stepBehindPart) 72 = .ok (.iconst 1, 1) := by decide +kernel
theorem d_X3_stepBehindPart_73 : decode (px_cc M_X3_stepBehindPart) 73 = .ok (.isub, 1) := by decide +kernel
theorem d_X3_stepBehindPart_74 : decode (px_cc M_X3_stepBehindPart) 74 = .ok (.putfield 31, 3) := by decide +kernel
theorem d_X3_stepBehindPart_77 : decode (px_cc M_X3_stepBehindPart) 77 = .ok (.return_, 1) := by decide +kernel
theorem d_X4_init_0 : decode (px_cc M_X4_init) 0 = .ok (.aload_n 0, 1) := by decide +kernel
theorem d_X4_init_1 : decode (px_cc M_X4_init) 1 = .ok (.invokespecial 5, 3) := by decide +kernel
theorem d_X4_init_4 : decode (px_cc M_X4_init) 4 = .ok (.aload_n 0, 1) := by decide +kernel
theorem d_X4_init_5 : decode (px_cc M_X4_init) 5 = .ok (.bipush 6, 2) := by decide +kernel
theorem d_X4_init_7 : decode (px_cc M_X4_init) 7 = .ok (.newarray .int, 2) := by decide +kernel
theorem d_X4_init_9 : decode (px_cc M_X4_init) 9 = .ok (.putfield 11, 3) := by decide +kernel
theorem d_X4_init_12 : decode (px_cc M_X4_init) 12 = .ok (.aload_n 0, 1) := by decide +kernel
theorem d_X4_init_13 : decode (px_cc M_X4_init) 13 = .ok (.bipush 6, 2) := by decide +kernel
theorem d_X4_init_15 : decode (px_cc M_X4_init) 15 = .ok (.newarray .int, 2) := by decide +kernel
theorem d_X4_init_17 : decode (px_cc M_X4_init) 17 = .ok (.putfield 15, 3) := by decide +kernel
theorem d_X4_init_20 : decode (px_cc M_X4_init) 20 = .ok (.aload_n 0, 1) := by decide +kernel
theorem d_X4_init_21 : decode (px_cc M_X4_init) 21 = .ok (.bipush 6, 2) := by decide +kernel
theorem d_X4_init_23 : decode (px_cc M_X4_init) 23 = .ok (.newarray .int, 2) := by decide +kernel
theorem d_X4_init_25 : decode (px_cc M_X4_init) 25 = .ok (.putfield 18, 3) := by decide +kernel
theorem d_X4_init_28 : decode (px_cc M_X4_init) 28 = .ok (.aload_n 0, 1) := by decide +kernel
theorem d_X4_init_29 : decode (px_cc M_X4_init) 29 = .ok (.bipush 6, 2) := by decide +kernel
theorem d_X4_init_31 : decode (px_cc M_X4_init) 31 = .ok (.newarray .int, 2) := by decide +kernel
theorem d_X4_init_33 : decode (px_cc M_X4_init) 33 = .ok (.putfield 21, 3) := by decide +kernel
theorem d_X4_init_36 : decode (px_cc M_X4_init) 36 = .ok (.aload_n 0, 1) := by decide +kernel
theorem d_X4_init_37 : decode (px_cc M_X4_init) 37 = .ok (.bipush 64, 2) := by decide +kernel
theorem d_X4_init_39 : decode (px_cc M_X4_init) 39 = .ok (.newarray .long, 2) := by decide +kernel
theorem d_X4_init_41 : decode (px_cc M_X4_init) 41 = .ok (.putfield 24, 3) := by decide +kernel
theorem d_X4_init_44 : decode (px_cc M_X4_init) 44 = .ok (.return_, 1) := by decide +kernel
theorem d_X4_add_0 : decode (px_cc M_X4_add) 0 = .ok (.aload_n 0, 1) := by decide +kernel
theorem d_X4_add_1 : decode (px_cc M_X4_add) 1 = .ok (.getfield 28, 3) := by decide +kernel
theorem d_X4_add_4 : decode (px_cc M_X4_add) 4 = .ok (.bipush 6, 2) := by decide +kernel
theorem d_X4_add_6 : decode (px_cc M_X4_add) 6 = .ok (.if_icmp .ge 26, 3) := by decide +kernel
theorem d_X4_add_9 : decode (px_cc M_X4_add) 9 = .ok (.iload_n 1, 1) := by decide +kernel
theorem d_X4_add_10 : decode (px_cc M_X4_add) 10 = .ok (.i2l, 1) := by decide +kernel
theorem d_X4_add_11 : decode (px_cc M_X4_add) 11 = .ok (.invokestatic 32, 3) := by decide +kernel
theorem d_X4_add_14 : decode (px_cc M_X4_add) 14 = .ok (.ifCond .eq 18, 3) := by decide +kernel
theorem d_X4_add_17 : decode (px_cc M_X4_add) 17 = .ok (.iload_n 1, 1) := by decide +kernel
theorem d_X4_add_18 : decode (px_cc M_X4_add) 18 = .ok (.i2l, 1) := by decide +kernel
theorem d_X4_add_19 : decode (px_cc M_X4_add) 19 = .ok (.ldc2_w 36, 3) := by decide +kernel
theorem d_X4_add_22 : decode (px_cc M_X4_add) 22 = .ok (.iload_n 2, 1) := by decide +kernel
theorem d_X4_add_23 : decode (px_cc M_X4_add) 23 = .ok (.i2l, 1) := by decide +kernel
theorem d_X4_add_24 : decode (px_cc M_X4_add) 24 = .ok (.lmul, 1) := by decide +kernel
theorem d_X4_add_25 : decode (px_cc M_X4_add) 25 = .ok (.ladd, 1) := by decide +kernel
theorem d_X4_add_26 : decode (px_cc M_X4_add) 26 = .ok (.invokestatic 32, 3) := by decide +kernel
theorem d_X4_add_29 : decode (px_cc M_X4_add) 29 = .ok (.ifCond .ne 5, 3) := by decide +kernel
theorem d_X4_add_32 : decode (px_cc M_X4_add) 32 = .ok (.iconst (-1), 1) := by decide +kernel
theorem d_X4_add_33 : decode (px_cc M_X4_add) 33 = .ok (.ireturn, 1) := by decide +kernel
theorem d_X4_add_34 : decode (px_cc M_X4_add) 34 = .ok (.aload_n 0, 1) := by decide +kernel
theorem d_X4_add_35 : decode (px_cc M_X4_add) 35 = .ok (.getfield 11, 3) := by decide +kernel
theorem d_X4_add_38 : decode (px_cc M_X4_add) 38 = .ok (.aload_n 0, 1) := by decide +kernel
theorem d_X4_add_39 : decode (px_cc M_X4_add) 39 = .ok (.getfield 28, 3) := by decide +kernel
theorem d_X4_add_42 : decode (px_cc M_X4_add) 42 = .ok (.iload_n 1, 1) := by decide +kernel
theorem d_X4_add_43 : decode (px_cc M_X4_add) 43 = .ok (.iastore, 1) := by decide +kernel
theorem d_X4_add_44 : decode (px_cc M_X4_add) 44 = .ok (.aload_n 0, 1) := by decide +kernel
theorem d_X4_add_45 : decode (px_cc M_X4_add) 45 = .ok (.getfield 15, 3) := by decide +kernel
theorem d_X4_add_48 : decode (px_cc M_X4_add) 48 = .ok (.aload_n 0, 1) := by decide +kernel
theorem d_X4_add_49 : decode (px_cc M_X4_add) 49 = .ok (.getfield 28, 3) := by decide +kernel
theorem d_X4_add_52 : decode (px_cc M_X4_add) 52 = .ok (.iload_n 2, 1) := by decide +kernel
theorem d_X4_add_53 : decode (px_cc M_X4_add) 53 = .ok (.iastore, 1) := by decide +kernel
theorem d_X4_add_54 : decode (px_cc M_X4_add) 54 = .ok (.aload_n 0, 1) := by decide +kernel
theorem d_X4_add_55 : decode (px_cc M_X4_add) 55 = .ok (.dup, 1) := by decide +kernel
theorem d_X4_add_56 : decode (px_cc M_X4_add) 56 = .ok (.getfield 28, 3) := by decide +kernel
theorem d_X4_add_59 : decode (px_cc M_X4_add) 59 = .ok (.iconst 1, 1) := by decide +kernel
theorem d_X4_add_60 : decode (px_cc M_X4_add) 60 = .ok (.iadd, 1) := by decide +kernel
theorem d_X4_add_61 : decode (px_cc M_X4_add) 61 = .ok (.putfield 28, 3) := by decide +kernel
theorem d_X4_add_64 : decode (px_cc M_X4_add) 64 = .ok (.aload_n 0, 1) := by decide +kernel
theorem d_X4_add_65 : decode (px_cc M_X4_add) 65 = .ok (.getfield 28, 3) := by decide +kernel
theorem d_X4_add_68 : decode (px_cc M_X4_add) 68 = .ok (.iconst 1, 1) := by decide +kernel
theorem d_X4_add_69 : decode (px_cc M_X4_add) 69 = .ok (.isub, 1) := by decide +kernel
theorem d_X4_add_70 : decode (px_cc M_X4_add) 70 = .ok (.ireturn, 1) := by decide +kernel
theorem d_X4_isPrice_0 : decode (px_cc M_X4_isPrice) 0 = .ok (.lload_n 0, 1) := by decide +kernel
theorem d_X4_isPrice_1 : decode (px_cc M_X4_isPrice) 1 = .ok (.lconst 1, 1) := by decide +kernel
theorem d_X4_isPrice_2 : decode (px_cc M_X4_isPrice) 2 = .ok (.lcmp, 1) := by decide +kernel
theorem d_X4_isPrice_3 : decode (px_cc M_X4_isPrice) 3 = .ok (.ifCond .lt 15, 3) := by decide +kernel
theorem d_X4_isPrice_6 : decode (px_cc M_X4_isPrice) 6 = .ok (.lload_n 0, 1) := by decide +kernel
theorem d_X4_isPrice_7 : decode (px_cc M_X4_isPrice) 7 = .ok (.ldc2_w 38, 3) := by decide +kernel
theorem d_X4_isPrice_10 : decode (px_cc M_X4_isPrice) 10 = .ok (.lcmp, 1) := by decide +kernel
theorem d_X4_isPrice_11 : decode (px_cc M_X4_isPrice) 11 = .ok (.ifCond .gt 7, 3) := by decide +kernel
theorem d_X4_isPrice_14 : decode (px_cc M_X4_isPrice) 14 = .ok (.iconst 1, 1) := by decide +kernel
theorem d_X4_isPrice_15 : decode (px_cc M_X4_isPrice) 15 = .ok (.goto 4, 3) := by decide +kernel
theorem d_X4_isPrice_18 : decode (px_cc M_X4_isPrice) 18 = .ok (.iconst 0, 1) := by decide +kernel
theorem d_X4_isPrice_19 : decode (px_cc M_X4_isPrice) 19 = .ok (.ireturn, 1) := by decide +kernel
theorem d_X4_setNeed_0 : decode (px_cc M_X4_setNeed) 0 = .ok (.iload_n 1, 1) := by decide +kernel
theorem d_X4_setNeed_1 : decode (px_cc M_X4_setNeed) 1 = .ok (.ifCond .lt 19, 3) := by decide +kernel
theorem d_X4_setNeed_4 : decode (px_cc M_X4_setNeed) 4 = .ok (.iload_n 1, 1) := by decide +kernel
theorem d_X4_setNeed_5 : decode (px_cc M_X4_setNeed) 5 = .ok (.bipush 6, 2) := by decide +kernel
theorem d_X4_setNeed_7 : decode (px_cc M_X4_setNeed) 7 = .ok (.if_icmp .ge 13, 3) := by decide +kernel
theorem d_X4_setNeed_10 : decode (px_cc M_X4_setNeed) 10 = .ok (.iload_n 2, 1) := by decide +kernel
theorem d_X4_setNeed_11 : decode (px_cc M_X4_setNeed) 11 = .ok (.ifCond .lt 9, 3) := by decide +kernel
theorem d_X4_setNeed_14 : decode (px_cc M_X4_setNeed) 14 = .ok (.iload_n 2, 1) := by decide +kernel
theorem d_X4_setNeed_15 : decode (px_cc M_X4_setNeed) 15 = .ok (.ldc 40, 2) := by decide +kernel
theorem d_X4_setNeed_17 : decode (px_cc M_X4_setNeed) 17 = .ok (.if_icmp .le 5, 3) := by decide +kernel
theorem d_X4_setNeed_20 : decode (px_cc M_X4_setNeed) 20 = .ok (.iconst 0, 1) := by decide +kernel
theorem d_X4_setNeed_21 : decode (px_cc M_X4_setNeed) 21 = .ok (.ireturn, 1) := by decide +kernel
theorem d_X4_setNeed_22 : decode (px_cc M_X4_setNeed) 22 = .ok (.aload_n 0, 1) := by decide +kernel
theorem d_X4_setNeed_23 : decode (px_cc M_X4_setNeed) 23 = .ok (.getfield 18, 3) := by decide +kernel
theorem d_X4_setNeed_26 : decode (px_cc M_X4_setNeed) 26 = .ok (.iload_n 1, 1) := by decide +kernel
theorem d_X4_setNeed_27 : decode (px_cc M_X4_setNeed) 27 = .ok (.iload_n 2, 1) := by decide +kernel
theorem d_X4_setNeed_28 : decode (px_cc M_X4_setNeed) 28 = .ok (.iastore, 1) := by decide +kernel
theorem d_X4_setNeed_29 : decode (px_cc M_X4_setNeed) 29 = .ok (.iconst 1, 1) := by decide +kernel
theorem d_X4_setNeed_30 : decode (px_cc M_X4_setNeed) 30 = .ok (.ireturn, 1) := by decide +kernel
theorem d_X4_weekOf_0 : decode (px_cc M_X4_weekOf) 0 = .ok (.iload_n 1, 1) := by decide +kernel
theorem d_X4_weekOf_1 : decode (px_cc M_X4_weekOf) 1 = .ok (.ifCond .lt 17, 3) := by decide +kernel
theorem d_X4_weekOf_4 : decode (px_cc M_X4_weekOf) 4 = .ok (.iload_n 1, 1) := by decide +kernel
theorem d_X4_weekOf_5 : decode (px_cc M_X4_weekOf) 5 = .ok (.aload_n 0, 1) := by decide +kernel
theorem d_X4_weekOf_6 : decode (px_cc M_X4_weekOf) 6 = .ok (.getfield 41, 3) := by decide +kernel
theorem d_X4_weekOf_9 : decode (px_cc M_X4_weekOf) 9 = .ok (.if_icmp .ge 9, 3) := by decide +kernel
theorem d_X4_weekOf_12 : decode (px_cc M_X4_weekOf) 12 = .ok (.iload_n 1, 1) := by decide +kernel
theorem d_X4_weekOf_13 : decode (px_cc M_X4_weekOf) 13 = .ok (.bipush 6, 2) := by decide +kernel
theorem d_X4_weekOf_15 : decode (px_cc M_X4_weekOf) 15 = .ok (.if_icmp .lt 7, 3) := by decide +kernel
theorem d_X4_weekOf_18 : decode (px_cc M_X4_weekOf) 18 = .ok (.iconst (-1), 1) := by decide +kernel
theorem d_X4_weekOf_19 : decode (px_cc M_X4_weekOf) 19 = .ok (.goto 9, 3) := by decide +kernel
theorem d_X4_weekOf_22 : decode (px_cc M_X4_weekOf) 22 = .ok (.aload_n 0, 1) := by decide +kernel
theorem d_X4_weekOf_23 : decode (px_cc M_X4_weekOf) 23 = .ok (.getfield 21, 3) := by decide +kernel
theorem d_X4_weekOf_26 : decode (px_cc M_X4_weekOf) 26 = .ok (.iload_n 1, 1) := by decide +kernel
theorem d_X4_weekOf_27 : decode (px_cc M_X4_weekOf) 27 = .ok (.iaload, 1) := by decide +kernel
theorem d_X4_weekOf_28 : decode (px_cc M_X4_weekOf) 28 = .ok (.ireturn, 1) := by decide +kernel
theorem d_X4_findBest_0 : decode (px_cc M_X4_findBest) 0 = .ok (.aload_n 0, 1) := by decide +kernel
theorem d_X4_findBest_1 : decode (px_cc M_X4_findBest) 1 = .ok (.getfield 24, 3) := by decide +kernel
theorem d_X4_findBest_4 : decode (px_cc M_X4_findBest) 4 = .ok (.ldc2_w 44, 3) := by decide +kernel
theorem d_X4_findBest_7 : decode (px_cc M_X4_findBest) 7 = .ok (.invokestatic 46, 3) := by decide +kernel
theorem d_X4_findBest_10 : decode (px_cc M_X4_findBest) 10 = .ok (.aload_n 0, 1) := by decide +kernel
theorem d_X4_findBest_11 : decode (px_cc M_X4_findBest) 11 = .ok (.getfield 24, 3) := by decide +kernel
theorem d_X4_findBest_14 : decode (px_cc M_X4_findBest) 14 = .ok (.iconst 0, 1) := by decide +kernel
theorem d_X4_findBest_15 : decode (px_cc M_X4_findBest) 15 = .ok (.lconst 0, 1) := by decide +kernel
theorem d_X4_findBest_16 : decode (px_cc M_X4_findBest) 16 = .ok (.lastore, 1) := by decide +kernel
theorem d_X4_findBest_17 : decode (px_cc M_X4_findBest) 17 = .ok (.iconst 0, 1) := by decide +kernel
theorem d_X4_findBest_18 : decode (px_cc M_X4_findBest) 18 = .ok (.istore_n 1, 1) := by decide +kernel
theorem d_X4_findBest_19 : decode (px_cc M_X4_findBest) 19 = .ok (.iconst 0, 1) := by decide +kernel
theorem d_X4_findBest_20 : decode (px_cc M_X4_findBest) 20 = .ok (.istore_n 2, 1) := by decide +kernel
theorem d_X4_findBest_21 : decode (px_cc M_X4_findBest) 21 = .ok (.iload_n 2, 1) := by decide +kernel
theorem d_X4_findBest_22 : decode (px_cc M_X4_findBest) 22 = .ok (.bipush 6, 2) := by decide +kernel
theorem d_X4_findBest_24 : decode (px_cc M_X4_findBest) 24 = .ok (.if_icmp .ge 28, 3) := by decide +kernel
theorem d_X4_findBest_27 : decode (px_cc M_X4_findBest) 27 = .ok (.aload_n 0, 1) := by decide +kernel
theorem d_X4_findBest_28 : decode (px_cc M_X4_findBest) 28 = .ok (.iload_n 2, 1) := by decide +kernel
theorem d_X4_findBest_29 : decode (px_cc M_X4_findBest) 29 = .ok (.invokevirtual 52, 3) := by decide +kernel
theorem d_X4_findBest_32 : decode (px_cc M_X4_findBest) 32 = .ok (.iload_n 1, 1) := by decide +kernel
theorem d_X4_findBest_33 : decode (px_cc M_X4_findBest) 33 = .ok (.aload_n 0, 1) := by decide +kernel
theorem d_X4_findBest_34 : decode (px_cc M_X4_findBest) 34 = .ok (.getfield 18, 3) := by decide +kernel
theorem d_X4_findBest_37 : decode (px_cc M_X4_findBest) 37 = .ok (.iload_n 2, 1) := by decide +kernel
theorem d_X4_findBest_38 : decode (px_cc M_X4_findBest) 38 = .ok (.iaload, 1) := by decide +kernel
theorem d_X4_findBest_39 : decode (px_cc M_X4_findBest) 39 = .ok (.iadd, 1) := by decide +kernel
theorem d_X4_findBest_40 : decode (px_cc M_X4_findBest) 40 = .ok (.istore_n 1, 1) := by decide +kernel
theorem d_X4_findBest_41 : decode (px_cc M_X4_findBest) 41 = .ok (.aload_n 0, 1) := by decide +kernel
theorem d_X4_findBest_42 : decode (px_cc M_X4_findBest) 42 = .ok (.iload_n 1, 1) := by decide +kernel
theorem d_X4_findBest_43 : decode (px_cc M_X4_findBest) 43 = .ok (.invokevirtual 56, 3) := by decide +kernel
theorem d_X4_findBest_46 : decode (px_cc M_X4_findBest) 46 = .ok (.iinc 2 1, 3) := by decide +kernel
theorem d_X4_findBest_49 : decode (px_cc M_X4_findBest) 49 = .ok (.goto (-28), 3) := by decide +kernel
theorem d_X4_findBest_52 : decode (px_cc M_X4_findBest) 52 = .ok (.aload_n 0, 1) := by decide +kernel
theorem d_X4_findBest_53 : decode (px_cc M_X4_findBest) 53 = .ok (.bipush 6, 2) := by decide +kernel
theorem d_X4_findBest_55 : decode (px_cc M_X4_findBest) 55 = .ok (.invokevirtual 52, 3) := by decide +kernel
theorem d_X4_findBest_58 : decode (px_cc M_X4_findBest) 58 = .ok (.aload_n 0, 1) := by decide +kernel
theorem d_X4_findBest_59 : decode (px_cc M_X4_findBest) 59 = .ok (.getfield 24, 3) := by decide +kernel
theorem d_X4_findBest_62 : decode (px_cc M_X4_findBest) 62 = .ok (.iconst 1, 1) := by decide +kernel
theorem d_X4_findBest_63 : decode (px_cc M_X4_findBest) 63 = .ok (.aload_n 0, 1) := by decide +kernel
theorem d_X4_findBest_64 : decode (px_cc M_X4_findBest) 64 = .ok (.getfield 28, 3) := by decide +kernel
theorem d_X4_findBest_67 : decode (px_cc M_X4_findBest) 67 = .ok (.ishl, 1) := by decide +kernel
theorem d_X4_findBest_68 : decode (px_cc M_X4_findBest) 68 = .ok (.iconst 1, 1) := by decide +kernel
theorem d_X4_findBest_69 : decode (px_cc M_X4_findBest) 69 = .ok (.isub, 1) := by decide +kernel
theorem d_X4_findBest_70 : decode (px_cc M_X4_findBest) 70 = .ok (.laload, 1) := by decide +kernel
theorem d_X4_findBest_71 : decode (px_cc M_X4_findBest) 71 = .ok (.lstore_n 2, 1) := by decide +kernel
theorem d_X4_findBest_72 : decode (px_cc M_X4_findBest) 72 = .ok (.lload_n 2, 1) := by decide +kernel
theorem d_X4_findBest_73 : decode (px_cc M_X4_findBest) 73 = .ok (.lconst 0, 1) := by decide +kernel
theorem d_X4_findBest_74 : decode (px_cc M_X4_findBest) 74 = .ok (.lcmp, 1) := by decide +kernel
theorem d_X4_findBest_75 : decode (px_cc M_X4_findBest) 75 = .ok (.ifCond .ge 5, 3) := by decide +kernel
theorem d_X4_findBest_78 : decode (px_cc M_X4_findBest) 78 = .ok (.iconst (-1), 1) := by decide +kernel
theorem d_X4_findBest_79 : decode (px_cc M_X4_findBest) 79 = .ok (.ireturn, 1) := by decide +kernel
theorem d_X4_findBest_80 : decode (px_cc M_X4_findBest) 80 = .ok (.aload_n 0, 1) := by decide +kernel
theorem d_X4_findBest_81 : decode (px_cc M_X4_findBest) 81 = .ok (.lload_n 2, 1) := by decide +kernel
theorem d_X4_findBest_82 : decode (px_cc M_X4_findBest) 82 = .ok (.invokevirtual 59, 3) := by decide +kernel
theorem d_X4_findBest_85 : decode (px_cc M_X4_findBest) 85 = .ok (.lload_n 2, 1) := by decide +kernel
theorem d_X4_findBest_86 : decode (px_cc M_X4_findBest) 86 = .ok (.bipush 18, 2) := by decide +kernel
theorem d_X4_findBest_88 : decode (px_cc M_X4_findBest) 88 = .ok (.lshr, 1) := by decide +kernel
theorem d_X4_findBest_89 : decode (px_cc M_X4_findBest) 89 = .ok (.l2i, 1) := by decide +kernel
theorem d_X4_findBest_90 : decode (px_cc M_X4_findBest) 90 = .ok (.ireturn, 1) := by decide +kernel
theorem d_X4_letGo_0 : decode (px_cc M_X4_letGo) 0 = .ok (.iload_n 1, 1) := by decide +kernel
theorem d_X4_letGo_1 : decode (px_cc M_X4_letGo) 1 = .ok (.iconst 5, 1) := by decide +kernel
theorem d_X4_letGo_2 : decode (px_cc M_X4_letGo) 2 = .ok (.invokestatic 63, 3) := by decide +kernel
theorem d_X4_letGo_5 : decode (px_cc M_X4_letGo) 5 = .ok (.istore_n 2, 1) := by decide +kernel
theorem d_X4_letGo_6 : decode (px_cc M_X4_letGo) 6 = .ok (.iconst 0, 1) := by decide +kernel
theorem d_X4_letGo_7 : decode (px_cc M_X4_letGo) 7 = .ok (.istore_n 3, 1) := by decide +kernel
theorem d_X4_letGo_8 : decode (px_cc M_X4_letGo) 8 = .ok (.iload_n 3, 1) := by decide +kernel
theorem d_X4_letGo_9 : decode (px_cc M_X4_letGo) 9 = .ok (.aload_n 0, 1) := by decide +kernel
theorem d_X4_letGo_10 : decode (px_cc M_X4_letGo) 10 = .ok (.getfield 28, 3) := by decide +kernel
theorem d_X4_letGo_13 : decode (px_cc M_X4_letGo) 13 = .ok (.if_icmp .ge 119, 3) := by decide +kernel
theorem d_X4_letGo_16 : decode (px_cc M_X4_letGo) 16 = .ok (.aload_n 0, 1) := by decide +kernel
theorem d_X4_letGo_17 : decode (px_cc M_X4_letGo) 17 = .ok (.getfield 11, 3) := by decide +kernel
theorem d_X4_letGo_20 : decode (px_cc M_X4_letGo) 20 = .ok (.iload_n 3, 1) := by decide +kernel
theorem d_X4_letGo_21 : decode (px_cc M_X4_letGo) 21 = .ok (.iaload, 1) := by decide +kernel
theorem d_X4_letGo_22 : decode (px_cc M_X4_letGo) 22 = .ok (.iload_n 2, 1) := by decide +kernel
theorem d_X4_letGo_23 : decode (px_cc M_X4_letGo) 23 = .ok (.aload_n 0, 1) := by decide +kernel
theorem d_X4_letGo_24 : decode (px_cc M_X4_letGo) 24 = .ok (.getfield 15, 3) := by decide +kernel
theorem d_X4_letGo_27 : decode (px_cc M_X4_letGo) 27 = .ok (.iload_n 3, 1) := by decide +kernel
theorem d_X4_letGo_28 : decode (px_cc M_X4_letGo) 28 = .ok (.iaload, 1) := by decide +kernel
theorem d_X4_letGo_29 : decode (px_cc M_X4_letGo) 29 = .ok (.imul, 1) := by decide +kernel
theorem d_X4_letGo_30 : decode (px_cc M_X4_letGo) 30 = .ok (.iadd, 1) := by decide +kernel
theorem d_X4_letGo_31 : decode (px_cc M_X4_letGo) 31 = .ok (.i2l, 1) := by decide +kernel
theorem d_X4_letGo_32 : decode (px_cc M_X4_letGo) 32 = .ok (.lstore 4, 2) := by decide +kernel
theorem d_X4_letGo_34 : decode (px_cc M_X4_letGo) 34 = .ok (.lload 4, 2) := by decide +kernel
theorem d_X4_letGo_36 : decode (px_cc M_X4_letGo) 36 = .ok (.bipush 18, 2) := by decide +kernel
theorem d_X4_letGo_38 : decode (px_cc M_X4_letGo) 38 = .ok (.lshl, 1) := by decide +kernel
theorem d_X4_letGo_39 : decode (px_cc M_X4_letGo) 39 = .ok (.iload_n 1, 1) := by decide +kernel
theorem d_X4_letGo_40 : decode (px_cc M_X4_letGo) 40 = .ok (.i2l, 1) := by decide +kernel
theorem d_X4_letGo_41 : decode (px_cc M_X4_letGo) 41 = .ok (.iload_n 3, 1) := by decide +kernel
theorem d_X4_letGo_42 : decode (px_cc M_X4_letGo) 42 = .ok (.invokestatic 69, 3) := by decide +kernel
theorem d_X4_letGo_45 : decode (px_cc M_X4_letGo) 45 = .ok (.lshl, 1) := by decide +kernel
theorem d_X4_letGo_46 : decode (px_cc M_X4_letGo) 46 = .ok (.ladd, 1) := by decide +kernel
theorem d_X4_letGo_47 : decode (px_cc M_X4_letGo) 47 = .ok (.lstore 6, 2) := by decide +kernel
theorem d_X4_letGo_49 : decode (px_cc M_X4_letGo) 49 = .ok (.iconst 1, 1) := by decide +kernel
theorem d_X4_letGo_50 : decode (px_cc M_X4_letGo) 50 = .ok (.iload_n 3, 1) := by decide +kernel
theorem d_X4_letGo_51 : decode (px_cc M_X4_letGo) 51 = .ok (.ishl, 1) := by decide +kernel
theorem d_X4_letGo_52 : decode (px_cc M_X4_letGo) 52 = .ok (.istore 8, 2) := by decide +kernel
theorem d_X4_letGo_54 : decode (px_cc M_X4_letGo) 54 = .ok (.iconst 0, 1) := by decide +kernel
theorem d_X4_letGo_55 : decode (px_cc M_X4_letGo) 55 = .ok (.istore 9, 2) := by decide +kernel
theorem d_X4_letGo_57 : decode (px_cc M_X4_letGo) 57 = .ok (.iload 9, 2) := by decide +kernel
theorem d_X4_letGo_59 : decode (px_cc M_X4_letGo) 59 = .ok (.aload_n 0, 1) := by decide +kernel
theorem d_X4_letGo_60 : decode (px_cc M_X4_letGo) 60 = .ok (.getfield 24, 3) := by decide +kernel
theorem d_X4_letGo_63 : decode (px_cc M_X4_letGo) 63 = .ok (.arraylength, 1) := by decide +kernel
theorem d_X4_letGo_64 : decode (px_cc M_X4_letGo) 64 = .ok (.if_icmp .ge 62, 3) := by decide +kernel
theorem d_X4_letGo_67 : decode (px_cc M_X4_letGo) 67 = .ok (.iload 9, 2) := by decide +kernel
theorem d_X4_letGo_69 : decode (px_cc M_X4_letGo) 69 = .ok (.iload 8, 2) := by decide +kernel
theorem d_X4_letGo_71 : decode (px_cc M_X4_letGo) 71 = .ok (.iand, 1) := by decide +kernel
theorem d_X4_letGo_72 : decode (px_cc M_X4_letGo) 72 = .ok (.ifCond .eq 48, 3) := by decide +kernel
theorem d_X4_letGo_75 : decode (px_cc M_X4_letGo) 75 = .ok (.aload_n 0, 1) := by decide +kernel
theorem d_X4_letGo_76 : decode (px_cc M_X4_letGo) 76 = .ok (.getfield 24, 3) := by decide +kernel
theorem d_X4_letGo_79 : decode (px_cc M_X4_letGo) 79 = .ok (.iload 9, 2) := by decide +kernel
theorem d_X4_letGo_81 : decode (px_cc M_X4_letGo) 81 = .ok (.iload 8, 2) := by decide +kernel
theorem d_X4_letGo_83 : decode (px_cc M_X4_letGo) 83 = .ok (.ixor, 1) := by decide +kernel
theorem d_X4_letGo_84 : decode (px_cc M_X4_letGo) 84 = .ok (.laload, 1) := by decide +kernel
theorem d_X4_letGo_85 : decode (px_cc M_X4_letGo) 85 = .ok (.lconst 0, 1) := by decide +kernel
theorem d_X4_letGo_86 : decode (px_cc M_X4_letGo) 86 = .ok (.lcmp, 1) := by decide +kernel
theorem d_X4_letGo_87 : decode (px_cc M_X4_letGo) 87 = .ok (.ifCond .lt 33, 3) := by decide +kernel
theorem d_X4_letGo_90 : decode (px_cc M_X4_letGo) 90 = .ok (.aload_n 0, 1) := by decide +kernel
theorem d_X4_letGo_91 : decode (px_cc M_X4_letGo) 91 = .ok (.getfield 24, 3) := by decide +kernel
theorem d_X4_letGo_94 : decode (px_cc M_X4_letGo) 94 = .ok (.iload 9, 2) := by decide +kernel
theorem d_X4_letGo_96 : decode (px_cc M_X4_letGo) 96 = .ok (.aload_n 0, 1) := by decide +kernel
theorem d_X4_letGo_97 : decode (px_cc M_X4_letGo) 97 = .ok (.getfield 24, 3) := by decide +kernel
theorem d_X4_letGo_100 : decode (px_cc M_X4_letGo) 100 = .ok (.iload 9, 2) := by decide +kernel
theorem d_X4_letGo_102 : decode (px_cc M_X4_letGo) 102 = .ok (.laload, 1) := by decide +kernel
theorem d_X4_letGo_103 : decode (px_cc M_X4_letGo) 103 = .ok (.aload_n 0, 1) := by decide +kernel
theorem d_X4_letGo_104 : decode (px_cc M_X4_letGo) 104 = .ok (.getfield 24, 3) := by decide +kernel
theorem d_X4_letGo_107 : decode (px_cc M_X4_letGo) 107 = .ok (.iload 9, 2) := by decide +kernel
theorem d_X4_letGo_109 : decode (px_cc M_X4_letGo) 109 = .ok (.iload 8, 2) := by decide +kernel
theorem d_X4_letGo_111 : decode (px_cc M_X4_letGo) 111 = .ok (.ixor, 1) := by decide +kernel
theorem d_X4_letGo_112 : decode (px_cc M_X4_letGo) 112 = .ok (.laload, 1) := by decide +kernel
theorem d_X4_letGo_113 : decode (px_cc M_X4_letGo) 113 = .ok (.lload 6, 2) := by decide +kernel
theorem d_X4_letGo_115 : decode (px_cc M_X4_letGo) 115 = .ok (.ladd, 1) := by decide +kernel
theorem d_X4_letGo_116 : decode (px_cc M_X4_letGo) 116 = .ok (.invokestatic 73, 3) := by decide +kernel
theorem d_X4_letGo_119 : decode (px_cc M_X4_letGo) 119 = .ok (.lastore, 1) := by decide +kernel
theorem d_X4_letGo_120 : decode (px_cc M_X4_letGo) 120 = .ok (.iinc 9 1, 3) := by decide +kernel
theorem d_X4_letGo_123 : decode (px_cc M_X4_letGo) 123 = .ok (.goto (-66), 3) := by decide +kernel
theorem d_X4_letGo_126 : decode (px_cc M_X4_letGo) 126 = .ok (.iinc 3 1, 3) := by decide +kernel
theorem d_X4_letGo_129 : decode (px_cc M_X4_letGo) 129 = .ok (.goto (-121), 3) := by decide +kernel
theorem d_X4_letGo_132 : decode (px_cc M_X4_letGo) 132 = .ok (.return_, 1) := by decide +kernel
theorem d_X4_dropBelow_0 : decode (px_cc M_X4_dropBelow) 0 = .ok (.iconst 0, 1) := by decide +kernel
theorem d_X4_dropBelow_1 : decode (px_cc M_X4_dropBelow) 1 = .ok (.istore_n 2, 1) := by decide +kernel
theorem d_X4_dropBelow_2 : decode (px_cc M_X4_dropBelow) 2 = .ok (.iload_n 2, 1) := by decide +kernel
theorem d_X4_dropBelow_3 : decode (px_cc M_X4_dropBelow) 3 = .ok (.aload_n 0, 1) := by decide +kernel
theorem d_X4_dropBelow_4 : decode (px_cc M_X4_dropBelow) 4 = .ok (.getfield 24, 3) := by decide +kernel
theorem d_X4_dropBelow_7 : decode (px_cc M_X4_dropBelow) 7 = .ok (.arraylength, 1) := by decide +kernel
theorem d_X4_dropBelow_8 : decode (px_cc M_X4_dropBelow) 8 = .ok (.if_icmp .ge 33, 3) := by decide +kernel
theorem d_X4_dropBelow_11 : decode (px_cc M_X4_dropBelow) 11 = .ok (.aload_n 0, 1) := by decide +kernel
theorem d_X4_dropBelow_12 : decode (px_cc M_X4_dropBelow) 12 = .ok (.getfield 24, 3) := by decide +kernel
theorem d_X4_dropBelow_15 : decode (px_cc M_X4_dropBelow) 15 = .ok (.iload_n 2, 1) := by decide +kernel
theorem d_X4_dropBelow_16 : decode (px_cc M_X4_dropBelow) 16 = .ok (.laload, 1) := by decide +kernel
theorem d_X4_dropBelow_17 : decode (px_cc M_X4_dropBelow) 17 = .ok (.bipush 18, 2) := by decide +kernel
theorem d_X4_dropBelow_19 : decode (px_cc M_X4_dropBelow) 19 = .ok (.lshr, 1) := by decide +kernel
theorem d_X4_dropBelow_20 : decode (px_cc M_X4_dropBelow) 20 = .ok (.iload_n 1, 1) := by decide +kernel
theorem d_X4_dropBelow_21 : decode (px_cc M_X4_dropBelow) 21 = .ok (.i2l, 1) := by decide +kernel
theorem d_X4_dropBelow_22 : decode (px_cc M_X4_dropBelow) 22 = .ok (.lcmp, 1) := by decide +kernel
theorem d_X4_dropBelow_23 : decode (px_cc M_X4_dropBelow) 23 = .ok (.ifCond .ge 12, 3) := by decide +kernel
theorem d_X4_dropBelow_26 : decode (px_cc M_X4_dropBelow) 26 = .ok (.aload_n 0, 1) := by decide +kernel
theorem d_X4_dropBelow_27 : decode (px_cc M_X4_dropBelow) 27 = .ok (.getfield 24, 3) := by decide +kernel
theorem d_X4_dropBelow_30 : decode (px_cc M_X4_dropBelow) 30 = .ok (.iload_n 2, 1) := by decide +kernel
theorem d_X4_dropBelow_31 : decode (px_cc M_X4_dropBelow) 31 = .ok (.ldc2_w 44, 3) := by decide +kernel
theorem d_X4_dropBelow_34 : decode (px_cc M_X4_dropBelow) 34 = .ok (.lastore, 1) := by decide +kernel
theorem d_X4_dropBelow_35 : decode (px_cc M_X4_dropBelow) 35 = .ok (.iinc 2 1, 3) := by decide +kernel
theorem d_X4_dropBelow_38 : decode (px_cc M_X4_dropBelow) 38 = .ok (.goto (-36), 3) := by decide +kernel
theorem d_X4_dropBelow_41 : decode (px_cc M_X4_dropBelow) 41 = .ok (.return_, 1) := by decide +kernel
theorem d_X4_keepPlan_0 : decode (px_cc M_X4_keepPlan) 0 = .ok (.aload_n 0, 1) := by decide +kernel
theorem d_X4_keepPlan_1 : decode (px_cc M_X4_keepPlan) 1 = .ok (.aload_n 0, 1) := by decide +kernel
theorem d_X4_keepPlan_2 : decode (px_cc M_X4_keepPlan) 2 = .ok (.getfield 28, 3) := by decide +kernel
theorem d_X4_keepPlan_5 : decode (px_cc M_X4_keepPlan) 5 = .ok (.putfield 41, 3) := by decide +kernel
theorem d_X4_keepPlan_8 : decode (px_cc M_X4_keepPlan) 8 = .ok (.iconst 0, 1) := by decide +kernel
theorem d_X4_keepPlan_9 : decode (px_cc M_X4_keepPlan) 9 = .ok (.istore_n 3, 1) := by decide +kernel
theorem d_X4_keepPlan_10 : decode (px_cc M_X4_keepPlan) 10 = .ok (.iload_n 3, 1) := by decide +kernel
theorem d_X4_keepPlan_11 : decode (px_cc M_X4_keepPlan) 11 = .ok (.aload_n 0, 1) := by decide +kernel
theorem d_X4_keepPlan_12 : decode (px_cc M_X4_keepPlan) 12 = .ok (.getfield 28, 3) := by decide +kernel
theorem d_X4_keepPlan_15 : decode (px_cc M_X4_keepPlan) 15 = .ok (.if_icmp .ge 25, 3) := by decide +kernel
theorem d_X4_keepPlan_18 : decode (px_cc M_X4_keepPlan) 18 = .ok (.aload_n 0, 1) := by decide +kernel
theorem d_X4_keepPlan_19 : decode (px_cc M_X4_keepPlan) 19 = .ok (.getfield 21, 3) := by decide +kernel
theorem d_X4_keepPlan_22 : decode (px_cc M_X4_keepPlan) 22 = .ok (.iload_n 3, 1) := by decide +kernel
theorem d_X4_keepPlan_23 : decode (px_cc M_X4_keepPlan) 23 = .ok (.lload_n 1, 1) := by decide +kernel
theorem d_X4_keepPlan_24 : decode (px_cc M_X4_keepPlan) 24 = .ok (.iload_n 3, 1) := by decide +kernel
theorem d_X4_keepPlan_25 : decode (px_cc M_X4_keepPlan) 25 = .ok (.invokestatic 69, 3) := by decide +kernel
theorem d_X4_keepPlan_28 : decode (px_cc M_X4_keepPlan) 28 = .ok (.lshr, 1) := by decide +kernel
theorem d_X4_keepPlan_29 : decode (px_cc M_X4_keepPlan) 29 = .ok (.l2i, 1) := by decide +kernel
theorem d_X4_keepPlan_30 : decode (px_cc M_X4_keepPlan) 30 = .ok (.bipush 7, 2) := by decide +kernel
theorem d_X4_keepPlan_32 : decode (px_cc M_X4_keepPlan) 32 = .ok (.iand, 1) := by decide +kernel
theorem d_X4_keepPlan_33 : decode (px_cc M_X4_keepPlan) 33 = .ok (.iastore, 1) := by decide +kernel
theorem d_X4_keepPlan_34 : decode (px_cc M_X4_keepPlan) 34 = .ok (.iinc 3 1, 3) := by decide +kernel
theorem d_X4_keepPlan_37 : decode (px_cc M_X4_keepPlan) 37 = .ok (.goto (-27), 3) := by decide +kernel
theorem d_X4_keepPlan_40 : decode (px_cc M_X4_keepPlan) 40 = .ok (.return_, 1) := by decide +kernel
theorem d_X4_shiftOf_0 : decode (px_cc M_X4_shiftOf) 0 = .ok (.iconst 3, 1) := by decide +kernel
theorem d_X4_shiftOf_1 : decode (px_cc M_X4_shiftOf) 1 = .ok (.iconst 5, 1) := by decide +kernel
theorem d_X4_shiftOf_2 : decode (px_cc M_X4_shiftOf) 2 = .ok (.iload_n 0, 1) := by decide +kernel
theorem d_X4_shiftOf_3 : decode (px_cc M_X4_shiftOf) 3 = .ok (.isub, 1) := by decide +kernel
theorem d_X4_shiftOf_4 : decode (px_cc M_X4_shiftOf) 4 = .ok (.imul, 1) := by decide +kernel
theorem d_X4_shiftOf_5 : decode (px_cc M_X4_shiftOf) 5 = .ok (.ireturn, 1) := by decide +kernel
theorem d_X5_init_0 : decode (px_cc M_X5_init) 0 = .ok (.aload_n 0, 1) := by decide +kernel
theorem d_X5_init_1 : decode (px_cc M_X5_init) 1 = .ok (.invokespecial 3, 3) := by decide +kernel
theorem d_X5_init_4 : decode (px_cc M_X5_init) 4 = .ok (.aload_n 0, 1) := by decide +kernel
theorem d_X5_init_5 : decode (px_cc M_X5_init) 5 = .ok (.bipush 6, 2) := by decide +kernel
theorem d_X5_init_7 : decode (px_cc M_X5_init) 7 = .ok (.newarray .int, 2) := by decide +kernel
theorem d_X5_init_9 : decode (px_cc M_X5_init) 9 = .ok (.putfield 9, 3) := by decide +kernel
theorem d_X5_init_12 : decode (px_cc M_X5_init) 12 = .ok (.aload_n 0, 1) := by decide +kernel
theorem d_X5_init_13 : decode (px_cc M_X5_init) 13 = .ok (.bipush 6, 2) := by decide +kernel
theorem d_X5_init_15 : decode (px_cc M_X5_init) 15 = .ok (.newarray .int, 2) := by decide +kernel
theorem d_X5_init_17 : decode (px_cc M_X5_init) 17 = .ok (.putfield 15, 3) := by decide +kernel
theorem d_X5_init_20 : decode (px_cc M_X5_init) 20 = .ok (.aload_n 0, 1) := by decide +kernel
theorem d_X5_init_21 : decode (px_cc M_X5_init) 21 = .ok (.bipush 6, 2) := by decide +kernel
theorem d_X5_init_23 : decode (px_cc M_X5_init) 23 = .ok (.newarray .int, 2) := by decide +kernel
theorem d_X5_init_25 : decode (px_cc M_X5_init) 25 = .ok (.putfield 18, 3) := by decide +kernel
theorem d_X5_init_28 : decode (px_cc M_X5_init) 28 = .ok (.aload_n 0, 1) := by decide +kernel
theorem d_X5_init_29 : decode (px_cc M_X5_init) 29 = .ok (.bipush 6, 2) := by decide +kernel
theorem d_X5_init_31 : decode (px_cc M_X5_init) 31 = .ok (.newarray .int, 2) := by decide +kernel
theorem d_X5_init_33 : decode (px_cc M_X5_init) 33 = .ok (.putfield 21, 3) := by decide +kernel
theorem d_X5_init_36 : decode (px_cc M_X5_init) 36 = .ok (.aload_n 0, 1) := by decide +kernel
theorem d_X5_init_37 : decode (px_cc M_X5_init) 37 = .ok (.bipush 6, 2) := by decide +kernel
theorem d_X5_init_39 : decode (px_cc M_X5_init) 39 = .ok (.newarray .int, 2) := by decide +kernel
theorem d_X5_init_41 : decode (px_cc M_X5_init) 41 = .ok (.putfield 24, 3) := by decide +kernel
theorem d_X5_init_44 : decode (px_cc M_X5_init) 44 = .ok (.aload_n 0, 1) := by decide +kernel
theorem d_X5_init_45 : decode (px_cc M_X5_init) 45 = .ok (.bipush 6, 2) := by decide +kernel
theorem d_X5_init_47 : decode (px_cc M_X5_init) 47 = .ok (.newarray .int, 2) := by decide +kernel
theorem d_X5_init_49 : decode (px_cc M_X5_init) 49 = .ok (.putfield 27, 3) := by decide +kernel
theorem d_X5_init_52 : decode (px_cc M_X5_init) 52 = .ok (.return_, 1) := by decide +kernel
theorem d_X5_look_0 : decode (px_cc M_X5_look) 0 = .ok (.aload_n 0, 1) := by decide +kernel
theorem d_X5_look_1 : decode (px_cc M_X5_look) 1 = .ok (.aload_n 1, 1) := by decide +kernel
theorem d_X5_look_2 : decode (px_cc M_X5_look) 2 = .ok (.getfield 30, 3) := by decide +kernel
theorem d_X5_look_5 : decode (px_cc M_X5_look) 5 = .ok (.putfield 36, 3) := by decide +kernel
theorem d_X5_look_8 : decode (px_cc M_X5_look) 8 = .ok (.aload_n 0, 1) := by decide +kernel
theorem d_X5_look_9 : decode (px_cc M_X5_look) 9 = .ok (.iload_n 2, 1) := by decide +kernel
theorem d_X5_look_10 : decode (px_cc M_X5_look) 10 = .ok (.putfield 37, 3) := by decide +kernel
theorem d_X5_look_13 : decode (px_cc M_X5_look) 13 = .ok (.aload_n 0, 1) := by decide +kernel
theorem d_X5_look_14 : decode (px_cc M_X5_look) 14 = .ok (.iload_n 3, 1) := by decide +kernel
theorem d_X5_look_15 : decode (px_cc M_X5_look) 15 = .ok (.aload_n 1, 1) := by decide +kernel
theorem d_X5_look_16 : decode (px_cc M_X5_look) 16 = .ok (.getfield 40, 3) := by decide +kernel
theorem d_X5_look_19 : decode (px_cc M_X5_look) 19 = .ok (.isub, 1) := by decide +kernel
theorem d_X5_look_20 : decode (px_cc M_X5_look) 20 = .ok (.putfield 43, 3) := by decide +kernel
theorem d_X5_look_23 : decode (px_cc M_X5_look) 23 = .ok (.aload_n 0, 1) := by decide +kernel
theorem d_X5_look_24 : decode (px_cc M_X5_look) 24 = .ok (.iload_n 3, 1) := by decide +kernel
theorem d_X5_look_25 : decode (px_cc M_X5_look) 25 = .ok (.bipush 30, 2) := by decide +kernel
theorem d_X5_look_27 : decode (px_cc M_X5_look) 27 = .ok (.idiv, 1) := by decide +kernel
theorem d_X5_look_28 : decode (px_cc M_X5_look) 28 = .ok (.putfield 46, 3) := by decide +kernel
theorem d_X5_look_31 : decode (px_cc M_X5_look) 31 = .ok (.aload_n 0, 1) := by decide +kernel
theorem d_X5_look_32 : decode (px_cc M_X5_look) 32 = .ok (.iload_n 3, 1) := by decide +kernel
theorem d_X5_look_33 : decode (px_cc M_X5_look) 33 = .ok (.bipush 30, 2) := by decide +kernel
theorem d_X5_look_35 : decode (px_cc M_X5_look) 35 = .ok (.irem, 1) := by decide +kernel
theorem d_X5_look_36 : decode (px_cc M_X5_look) 36 = .ok (.putfield 49, 3) := by decide +kernel
theorem d_X5_look_39 : decode (px_cc M_X5_look) 39 = .ok (.return_, 1) := by decide +kernel
theorem d_X5_numberOf_0 : decode (px_cc M_X5_numberOf) 0 = .ok (.iconst 0, 1) := by decide +kernel
theorem d_X5_numberOf_1 : decode (px_cc M_X5_numberOf) 1 = .ok (.istore_n 3, 1) := by decide +kernel
theorem d_X5_numberOf_2 : decode (px_cc M_X5_numberOf) 2 = .ok (.iconst 0, 1) := by decide +kernel
theorem d_X5_numberOf_3 : decode (px_cc M_X5_numberOf) 3 = .ok (.istore 4, 2) := by decide +kernel
theorem d_X5_numberOf_5 : decode (px_cc M_X5_numberOf) 5 = .ok (.iload 4, 2) := by decide +kernel
theorem d_X5_numberOf_7 : decode (px_cc M_X5_numberOf) 7 = .ok (.aload_n 1, 1) := by decide +kernel
theorem d_X5_numberOf_8 : decode (px_cc M_X5_numberOf) 8 = .ok (.arraylength, 1) := by decide +kernel
theorem d_X5_numberOf_9 : decode (px_cc M_X5_numberOf) 9 = .ok (.if_icmp .ge 97, 3) := by decide +kernel
theorem d_X5_numberOf_12 : decode (px_cc M_X5_numberOf) 12 = .ok (.aload_n 1, 1) := by decide +kernel
theorem d_X5_numberOf_13 : decode (px_cc M_X5_numberOf) 13 = .ok (.iload_n 3, 1) := by decide +kernel
theorem d_X5_numberOf_14 : decode (px_cc M_X5_numberOf) 14 = .ok (.iaload, 1) := by decide +kernel
theorem d_X5_numberOf_15 : decode (px_cc M_X5_numberOf) 15 = .ok (.iload_n 2, 1) := by decide +kernel
theorem d_X5_numberOf_16 : decode (px_cc M_X5_numberOf) 16 = .ok (.if_icmp .ne 7, 3) := by decide +kernel
theorem d_X5_numberOf_19 : decode (px_cc M_X5_numberOf) 19 = .ok (.iconst 1, 1) := by decide +kernel
theorem d_X5_numberOf_20 : decode (px_cc M_X5_numberOf) 20 = .ok (.goto 4, 3) := by decide +kernel
theorem d_X5_numberOf_23 : decode (px_cc M_X5_numberOf) 23 = .ok (.iconst 0, 1) := by decide +kernel
theorem d_X5_numberOf_24 : decode (px_cc M_X5_numberOf) 24 = .ok (.istore 5, 2) := by decide +kernel
theorem d_X5_numberOf_26 : decode (px_cc M_X5_numberOf) 26 = .ok (.iload 4, 2) := by decide +kernel
theorem d_X5_numberOf_28 : decode (px_cc M_X5_numberOf) 28 = .ok (.iload_n 3, 1) := by decide +kernel
theorem d_X5_numberOf_29 : decode (px_cc M_X5_numberOf) 29 = .ok (.if_icmp .ne 15, 3) := by decide +kernel
theorem d_X5_numberOf_32 : decode (px_cc M_X5_numberOf) 32 = .ok (.aload_n 0, 1) := by decide +kernel
theorem d_X5_numberOf_33 : decode (px_cc M_X5_numberOf) 33 = .ok (.iconst 0, 1) := by decide +kernel
theorem d_X5_numberOf_34 : decode (px_cc M_X5_numberOf) 34 = .ok (.putfield 52, 3) := by decide +kernel
theorem d_X5_numberOf_37 : decode (px_cc M_X5_numberOf) 37 = .ok (.aload_n 0, 1) := by decide +kernel
theorem d_X5_numberOf_38 : decode (px_cc M_X5_numberOf) 38 = .ok (.invokevirtual 55, 3) := by decide +kernel
theorem d_X5_numberOf_41 : decode (px_cc M_X5_numberOf) 41 = .ok (.goto 59, 3) := by decide +kernel
theorem d_X5_numberOf_44 : decode (px_cc M_X5_numberOf) 44 = .ok (.aload_n 1, 1) := by decide +kernel
theorem d_X5_numberOf_45 : decode (px_cc M_X5_numberOf) 45 = .ok (.iload 4, 2) := by decide +kernel
theorem d_X5_numberOf_47 : decode (px_cc M_X5_numberOf) 47 = .ok (.iaload, 1) := by decide +kernel
theorem d_X5_numberOf_48 : decode (px_cc M_X5_numberOf) 48 = .ok (.bipush (-18), 2) := by decide +kernel
theorem d_X5_numberOf_50 : decode (px_cc M_X5_numberOf) 50 = .ok (.if_icmp .ne 29, 3) := by decide +kernel
theorem d_X5_numberOf_53 : decode (px_cc M_X5_numberOf) 53 = .ok (.iload 5, 2) := by decide +kernel
theorem d_X5_numberOf_55 : decode (px_cc M_X5_numberOf) 55 = .ok (.ifCond .eq 16, 3) := by decide +kernel
theorem d_X5_numberOf_58 : decode (px_cc M_X5_numberOf) 58 = .ok (.aload_n 0, 1) := by decide +kernel
theorem d_X5_numberOf_59 : decode (px_cc M_X5_numberOf) 59 = .ok (.invokevirtual 58, 3) := by decide +kernel
theorem d_X5_numberOf_62 : decode (px_cc M_X5_numberOf) 62 = .ok (.ifCond .eq 9, 3) := by decide +kernel
theorem d_X5_numberOf_65 : decode (px_cc M_X5_numberOf) 65 = .ok (.aload_n 1, 1) := by decide +kernel
theorem d_X5_numberOf_66 : decode (px_cc M_X5_numberOf) 66 = .ok (.iload_n 3, 1) := by decide +kernel
theorem d_X5_numberOf_67 : decode (px_cc M_X5_numberOf) 67 = .ok (.iconst 1, 1) := by decide +kernel
theorem d_X5_numberOf_68 : decode (px_cc M_X5_numberOf) 68 = .ok (.iadd, 1) := by decide +kernel
theorem d_X5_numberOf_69 : decode (px_cc M_X5_numberOf) 69 = .ok (.iaload, 1) := by decide +kernel
theorem d_X5_numberOf_70 : decode (px_cc M_X5_numberOf) 70 = .ok (.ireturn, 1) := by decide +kernel
theorem d_X5_numberOf_71 : decode (px_cc M_X5_numberOf) 71 = .ok (.iload 4, 2) := by decide +kernel
theorem d_X5_numberOf_73 : decode (px_cc M_X5_numberOf) 73 = .ok (.iconst 1, 1) := by decide +kernel
theorem d_X5_numberOf_74 : decode (px_cc M_X5_numberOf) 74 = .ok (.iadd, 1) := by decide +kernel
theorem d_X5_numberOf_75 : decode (px_cc M_X5_numberOf) 75 = .ok (.istore_n 3, 1) := by decide +kernel
theorem d_X5_numberOf_76 : decode (px_cc M_X5_numberOf) 76 = .ok (.goto 24, 3) := by decide +kernel
theorem d_X5_numberOf_79 : decode (px_cc M_X5_numberOf) 79 = .ok (.iload 5, 2) := by decide +kernel
theorem d_X5_numberOf_81 : decode (px_cc M_X5_numberOf) 81 = .ok (.ifCond .eq 19, 3) := by decide +kernel
theorem d_X5_numberOf_84 : decode (px_cc M_X5_numberOf) 84 = .ok (.iload 4, 2) := by decide +kernel
theorem d_X5_numberOf_86 : decode (px_cc M_X5_numberOf) 86 = .ok (.iload_n 3, 1) := by decide +kernel
