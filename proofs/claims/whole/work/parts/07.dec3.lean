theorem d_X11_days_1 : decode (px_cc M_X11_days) 1 = .ok (.ifCond .lt 22, 3) := by decide +kernel
theorem d_X11_days_4 : decode (px_cc M_X11_days) 4 = .ok (.iload_n 1, 1) := by decide +kernel
theorem d_X11_days_5 : decode (px_cc M_X11_days) 5 = .ok (.sipush 200, 3) := by decide +kernel
theorem d_X11_days_8 : decode (px_cc M_X11_days) 8 = .ok (.if_icmp .gt 15, 3) := by decide +kernel
theorem d_X11_days_11 : decode (px_cc M_X11_days) 11 = .ok (.aload_n 0, 1) := by decide +kernel
theorem d_X11_days_12 : decode (px_cc M_X11_days) 12 = .ok (.getfield 88, 3) := by decide +kernel
theorem d_X11_days_15 : decode (px_cc M_X11_days) 15 = .ok (.iload_n 1, 1) := by decide +kernel
theorem d_X11_days_16 : decode (px_cc M_X11_days) 16 = .ok (.iadd, 1) := by decide +kernel
theorem d_X11_days_17 : decode (px_cc M_X11_days) 17 = .ok (.sipush 719, 3) := by decide +kernel
theorem d_X11_days_20 : decode (px_cc M_X11_days) 20 = .ok (.if_icmp .le 5, 3) := by decide +kernel
theorem d_X11_days_23 : decode (px_cc M_X11_days) 23 = .ok (.iconst (-1), 1) := by decide +kernel
theorem d_X11_days_24 : decode (px_cc M_X11_days) 24 = .ok (.ireturn, 1) := by decide +kernel
theorem d_X11_days_25 : decode (px_cc M_X11_days) 25 = .ok (.aload_n 0, 1) := by decide +kernel
theorem d_X11_days_26 : decode (px_cc M_X11_days) 26 = .ok (.dup, 1) := by decide +kernel
theorem d_X11_days_27 : decode (px_cc M_X11_days) 27 = .ok (.getfield 88, 3) := by decide +kernel
theorem d_X11_days_30 : decode (px_cc M_X11_days) 30 = .ok (.iload_n 1, 1) := by decide +kernel
theorem d_X11_days_31 : decode (px_cc M_X11_days) 31 = .ok (.iadd, 1) := by decide +kernel
theorem d_X11_days_32 : decode (px_cc M_X11_days) 32 = .ok (.putfield 88, 3) := by decide +kernel
theorem d_X11_days_35 : decode (px_cc M_X11_days) 35 = .ok (.aload_n 0, 1) := by decide +kernel
theorem d_X11_days_36 : decode (px_cc M_X11_days) 36 = .ok (.getfield 88, 3) := by decide +kernel
theorem d_X11_days_39 : decode (px_cc M_X11_days) 39 = .ok (.ireturn, 1) := by decide +kernel
theorem d_X11_post_0 : decode (px_cc M_X11_post) 0 = .ok (.aload_n 0, 1) := by decide +kernel
theorem d_X11_post_1 : decode (px_cc M_X11_post) 1 = .ok (.iload_n 1, 1) := by decide +kernel
theorem d_X11_post_2 : decode (px_cc M_X11_post) 2 = .ok (.invokevirtual 94, 3) := by decide +kernel
theorem d_X11_post_5 : decode (px_cc M_X11_post) 5 = .ok (.ifnull 18, 3) := by decide +kernel
theorem d_X11_post_8 : decode (px_cc M_X11_post) 8 = .ok (.iload_n 2, 1) := by decide +kernel
theorem d_X11_post_9 : decode (px_cc M_X11_post) 9 = .ok (.invokestatic 98, 3) := by decide +kernel
theorem d_X11_post_12 : decode (px_cc M_X11_post) 12 = .ok (.ifCond .eq 11, 3) := by decide +kernel
theorem d_X11_post_15 : decode (px_cc M_X11_post) 15 = .ok (.aload_n 0, 1) := by decide +kernel
theorem d_X11_post_16 : decode (px_cc M_X11_post) 16 = .ok (.iload_n 3, 1) := by decide +kernel
theorem d_X11_post_17 : decode (px_cc M_X11_post) 17 = .ok (.invokevirtual 101, 3) := by decide +kernel
theorem d_X11_post_20 : decode (px_cc M_X11_post) 20 = .ok (.ifCond .ne 5, 3) := by decide +kernel
theorem d_X11_post_23 : decode (px_cc M_X11_post) 23 = .ok (.iconst (-1), 1) := by decide +kernel
theorem d_X11_post_24 : decode (px_cc M_X11_post) 24 = .ok (.ireturn, 1) := by decide +kernel
theorem d_X11_post_25 : decode (px_cc M_X11_post) 25 = .ok (.iload 4, 2) := by decide +kernel
theorem d_X11_post_27 : decode (px_cc M_X11_post) 27 = .ok (.ifCond .eq 27, 3) := by decide +kernel
theorem d_X11_post_30 : decode (px_cc M_X11_post) 30 = .ok (.iload 4, 2) := by decide +kernel
theorem d_X11_post_32 : decode (px_cc M_X11_post) 32 = .ok (.ldc 104, 2) := by decide +kernel
theorem d_X11_post_34 : decode (px_cc M_X11_post) 34 = .ok (.if_icmp .lt 20, 3) := by decide +kernel
theorem d_X11_post_37 : decode (px_cc M_X11_post) 37 = .ok (.iload 4, 2) := by decide +kernel
theorem d_X11_post_39 : decode (px_cc M_X11_post) 39 = .ok (.ldc 105, 2) := by decide +kernel
theorem d_X11_post_41 : decode (px_cc M_X11_post) 41 = .ok (.if_icmp .gt 13, 3) := by decide +kernel
theorem d_X11_post_44 : decode (px_cc M_X11_post) 44 = .ok (.aload_n 0, 1) := by decide +kernel
theorem d_X11_post_45 : decode (px_cc M_X11_post) 45 = .ok (.getfield 18, 3) := by decide +kernel
theorem d_X11_post_48 : decode (px_cc M_X11_post) 48 = .ok (.invokevirtual 106, 3) := by decide +kernel
theorem d_X11_post_51 : decode (px_cc M_X11_post) 51 = .ok (.ifCond .eq 5, 3) := by decide +kernel
theorem d_X11_post_54 : decode (px_cc M_X11_post) 54 = .ok (.iconst (-1), 1) := by decide +kernel
theorem d_X11_post_55 : decode (px_cc M_X11_post) 55 = .ok (.ireturn, 1) := by decide +kernel
theorem d_X11_post_56 : decode (px_cc M_X11_post) 56 = .ok (.aload_n 0, 1) := by decide +kernel
theorem d_X11_post_57 : decode (px_cc M_X11_post) 57 = .ok (.iload_n 1, 1) := by decide +kernel
theorem d_X11_post_58 : decode (px_cc M_X11_post) 58 = .ok (.iload_n 2, 1) := by decide +kernel
theorem d_X11_post_59 : decode (px_cc M_X11_post) 59 = .ok (.iload_n 3, 1) := by decide +kernel
theorem d_X11_post_60 : decode (px_cc M_X11_post) 60 = .ok (.iload 4, 2) := by decide +kernel
theorem d_X11_post_62 : decode (px_cc M_X11_post) 62 = .ok (.invokevirtual 110, 3) := by decide +kernel
theorem d_X11_post_65 : decode (px_cc M_X11_post) 65 = .ok (.ireturn, 1) := by decide +kernel
theorem d_X11_feed_0 : decode (px_cc M_X11_feed) 0 = .ok (.aload_n 0, 1) := by decide +kernel
theorem d_X11_feed_1 : decode (px_cc M_X11_feed) 1 = .ok (.getfield 25, 3) := by decide +kernel
theorem d_X11_feed_4 : decode (px_cc M_X11_feed) 4 = .ok (.lload_n 1, 1) := by decide +kernel
theorem d_X11_feed_5 : decode (px_cc M_X11_feed) 5 = .ok (.invokevirtual 114, 3) := by decide +kernel
theorem d_X11_feed_8 : decode (px_cc M_X11_feed) 8 = .ok (.aload_n 0, 1) := by decide +kernel
theorem d_X11_feed_9 : decode (px_cc M_X11_feed) 9 = .ok (.getfield 25, 3) := by decide +kernel
theorem d_X11_feed_12 : decode (px_cc M_X11_feed) 12 = .ok (.lload_n 3, 1) := by decide +kernel
theorem d_X11_feed_13 : decode (px_cc M_X11_feed) 13 = .ok (.invokevirtual 114, 3) := by decide +kernel
theorem d_X11_feed_16 : decode (px_cc M_X11_feed) 16 = .ok (.aload_n 0, 1) := by decide +kernel
theorem d_X11_feed_17 : decode (px_cc M_X11_feed) 17 = .ok (.getfield 25, 3) := by decide +kernel
theorem d_X11_feed_20 : decode (px_cc M_X11_feed) 20 = .ok (.lload 5, 2) := by decide +kernel
theorem d_X11_feed_22 : decode (px_cc M_X11_feed) 22 = .ok (.invokevirtual 114, 3) := by decide +kernel
theorem d_X11_feed_25 : decode (px_cc M_X11_feed) 25 = .ok (.aload_n 0, 1) := by decide +kernel
theorem d_X11_feed_26 : decode (px_cc M_X11_feed) 26 = .ok (.getfield 25, 3) := by decide +kernel
theorem d_X11_feed_29 : decode (px_cc M_X11_feed) 29 = .ok (.getfield 118, 3) := by decide +kernel
theorem d_X11_feed_32 : decode (px_cc M_X11_feed) 32 = .ok (.ireturn, 1) := by decide +kernel
theorem d_X11_text_0 : decode (px_cc M_X11_text) 0 = .ok (.iconst (-1), 1) := by decide +kernel
theorem d_X11_text_1 : decode (px_cc M_X11_text) 1 = .ok (.istore_n 2, 1) := by decide +kernel
theorem d_X11_text_2 : decode (px_cc M_X11_text) 2 = .ok (.iload_n 1, 1) := by decide +kernel
theorem d_X11_text_3 : decode (px_cc M_X11_text) 3 = .ok (.invokestatic 84, 3) := by decide +kernel
theorem d_X11_text_6 : decode (px_cc M_X11_text) 6 = .ok (.ifCond .eq 56, 3) := by decide +kernel
theorem d_X11_text_9 : decode (px_cc M_X11_text) 9 = .ok (.aload_n 0, 1) := by decide +kernel
theorem d_X11_text_10 : decode (px_cc M_X11_text) 10 = .ok (.getfield 39, 3) := by decide +kernel
theorem d_X11_text_13 : decode (px_cc M_X11_text) 13 = .ok (.iload_n 1, 1) := by decide +kernel
theorem d_X11_text_14 : decode (px_cc M_X11_text) 14 = .ok (.invokevirtual 121, 3) := by decide +kernel
theorem d_X11_text_17 : decode (px_cc M_X11_text) 17 = .ok (.ifCond .eq 45, 3) := by decide +kernel
theorem d_X11_text_20 : decode (px_cc M_X11_text) 20 = .ok (.aload_n 0, 1) := by decide +kernel
theorem d_X11_text_21 : decode (px_cc M_X11_text) 21 = .ok (.getfield 32, 3) := by decide +kernel
theorem d_X11_text_24 : decode (px_cc M_X11_text) 24 = .ok (.aload_n 0, 1) := by decide +kernel
theorem d_X11_text_25 : decode (px_cc M_X11_text) 25 = .ok (.getfield 25, 3) := by decide +kernel
theorem d_X11_text_28 : decode (px_cc M_X11_text) 28 = .ok (.invokevirtual 124, 3) := by decide +kernel
theorem d_X11_text_31 : decode (px_cc M_X11_text) 31 = .ok (.istore_n 2, 1) := by decide +kernel
theorem d_X11_text_32 : decode (px_cc M_X11_text) 32 = .ok (.iload_n 2, 1) := by decide +kernel
theorem d_X11_text_33 : decode (px_cc M_X11_text) 33 = .ok (.ifCond .ne 29, 3) := by decide +kernel
theorem d_X11_text_36 : decode (px_cc M_X11_text) 36 = .ok (.aload_n 0, 1) := by decide +kernel
theorem d_X11_text_37 : decode (px_cc M_X11_text) 37 = .ok (.getfield 39, 3) := by decide +kernel
theorem d_X11_text_40 : decode (px_cc M_X11_text) 40 = .ok (.new 128, 3) := by decide +kernel
theorem d_X11_text_43 : decode (px_cc M_X11_text) 43 = .ok (.dup, 1) := by decide +kernel
theorem d_X11_text_44 : decode (px_cc M_X11_text) 44 = .ok (.iload_n 1, 1) := by decide +kernel
theorem d_X11_text_45 : decode (px_cc M_X11_text) 45 = .ok (.aload_n 0, 1) := by decide +kernel
theorem d_X11_text_46 : decode (px_cc M_X11_text) 46 = .ok (.getfield 88, 3) := by decide +kernel
theorem d_X11_text_49 : decode (px_cc M_X11_text) 49 = .ok (.aload_n 0, 1) := by decide +kernel
theorem d_X11_text_50 : decode (px_cc M_X11_text) 50 = .ok (.getfield 32, 3) := by decide +kernel
theorem d_X11_text_53 : decode (px_cc M_X11_text) 53 = .ok (.invokevirtual 130, 3) := by decide +kernel
theorem d_X11_text_56 : decode (px_cc M_X11_text) 56 = .ok (.invokespecial 134, 3) := by decide +kernel
theorem d_X11_text_59 : decode (px_cc M_X11_text) 59 = .ok (.invokevirtual 137, 3) := by decide +kernel
theorem d_X11_text_62 : decode (px_cc M_X11_text) 62 = .ok (.aload_n 0, 1) := by decide +kernel
theorem d_X11_text_63 : decode (px_cc M_X11_text) 63 = .ok (.getfield 25, 3) := by decide +kernel
theorem d_X11_text_66 : decode (px_cc M_X11_text) 66 = .ok (.invokevirtual 141, 3) := by decide +kernel
theorem d_X11_text_69 : decode (px_cc M_X11_text) 69 = .ok (.iload_n 2, 1) := by decide +kernel
theorem d_X11_text_70 : decode (px_cc M_X11_text) 70 = .ok (.ireturn, 1) := by decide +kernel
theorem d_X11_balance_0 : decode (px_cc M_X11_balance) 0 = .ok (.aload_n 0, 1) := by decide +kernel
theorem d_X11_balance_1 : decode (px_cc M_X11_balance) 1 = .ok (.iload_n 1, 1) := by decide +kernel
theorem d_X11_balance_2 : decode (px_cc M_X11_balance) 2 = .ok (.invokevirtual 94, 3) := by decide +kernel
theorem d_X11_balance_5 : decode (px_cc M_X11_balance) 5 = .ok (.astore 4, 2) := by decide +kernel
theorem d_X11_balance_7 : decode (px_cc M_X11_balance) 7 = .ok (.aload 4, 2) := by decide +kernel
theorem d_X11_balance_9 : decode (px_cc M_X11_balance) 9 = .ok (.ifnull 18, 3) := by decide +kernel
theorem d_X11_balance_12 : decode (px_cc M_X11_balance) 12 = .ok (.iload_n 2, 1) := by decide +kernel
theorem d_X11_balance_13 : decode (px_cc M_X11_balance) 13 = .ok (.invokestatic 84, 3) := by decide +kernel
theorem d_X11_balance_16 : decode (px_cc M_X11_balance) 16 = .ok (.ifCond .eq 11, 3) := by decide +kernel
theorem d_X11_balance_19 : decode (px_cc M_X11_balance) 19 = .ok (.aload_n 0, 1) := by decide +kernel
theorem d_X11_balance_20 : decode (px_cc M_X11_balance) 20 = .ok (.iload_n 3, 1) := by decide +kernel
theorem d_X11_balance_21 : decode (px_cc M_X11_balance) 21 = .ok (.invokevirtual 101, 3) := by decide +kernel
theorem d_X11_balance_24 : decode (px_cc M_X11_balance) 24 = .ok (.ifCond .ne 13, 3) := by decide +kernel
theorem d_X11_balance_27 : decode (px_cc M_X11_balance) 27 = .ok (.new 144, 3) := by decide +kernel
theorem d_X11_balance_30 : decode (px_cc M_X11_balance) 30 = .ok (.dup, 1) := by decide +kernel
theorem d_X11_balance_31 : decode (px_cc M_X11_balance) 31 = .ok (.ldc 146, 2) := by decide +kernel
theorem d_X11_balance_33 : decode (px_cc M_X11_balance) 33 = .ok (.invokespecial 148, 3) := by decide +kernel
theorem d_X11_balance_36 : decode (px_cc M_X11_balance) 36 = .ok (.athrow, 1) := by decide +kernel
theorem d_X11_balance_37 : decode (px_cc M_X11_balance) 37 = .ok (.aload_n 0, 1) := by decide +kernel
theorem d_X11_balance_38 : decode (px_cc M_X11_balance) 38 = .ok (.getfield 55, 3) := by decide +kernel
theorem d_X11_balance_41 : decode (px_cc M_X11_balance) 41 = .ok (.aload 4, 2) := by decide +kernel
theorem d_X11_balance_43 : decode (px_cc M_X11_balance) 43 = .ok (.iload_n 2, 1) := by decide +kernel
theorem d_X11_balance_44 : decode (px_cc M_X11_balance) 44 = .ok (.iload_n 3, 1) := by decide +kernel
theorem d_X11_balance_45 : decode (px_cc M_X11_balance) 45 = .ok (.invokevirtual 151, 3) := by decide +kernel
theorem d_X11_balance_48 : decode (px_cc M_X11_balance) 48 = .ok (.ireturn, 1) := by decide +kernel
theorem d_X11_interest_0 : decode (px_cc M_X11_interest) 0 = .ok (.aload_n 0, 1) := by decide +kernel
theorem d_X11_interest_1 : decode (px_cc M_X11_interest) 1 = .ok (.iload_n 1, 1) := by decide +kernel
theorem d_X11_interest_2 : decode (px_cc M_X11_interest) 2 = .ok (.invokevirtual 94, 3) := by decide +kernel
theorem d_X11_interest_5 : decode (px_cc M_X11_interest) 5 = .ok (.astore 4, 2) := by decide +kernel
theorem d_X11_interest_7 : decode (px_cc M_X11_interest) 7 = .ok (.aload 4, 2) := by decide +kernel
theorem d_X11_interest_9 : decode (px_cc M_X11_interest) 9 = .ok (.ifnull 21, 3) := by decide +kernel
theorem d_X11_interest_12 : decode (px_cc M_X11_interest) 12 = .ok (.iload_n 2, 1) := by decide +kernel
theorem d_X11_interest_13 : decode (px_cc M_X11_interest) 13 = .ok (.ifCond .lt 17, 3) := by decide +kernel
theorem d_X11_interest_16 : decode (px_cc M_X11_interest) 16 = .ok (.iload_n 2, 1) := by decide +kernel
theorem d_X11_interest_17 : decode (px_cc M_X11_interest) 17 = .ok (.bipush 24, 2) := by decide +kernel
theorem d_X11_interest_19 : decode (px_cc M_X11_interest) 19 = .ok (.if_icmp .ge 11, 3) := by decide +kernel
theorem d_X11_interest_22 : decode (px_cc M_X11_interest) 22 = .ok (.aload_n 0, 1) := by decide +kernel
theorem d_X11_interest_23 : decode (px_cc M_X11_interest) 23 = .ok (.iload_n 3, 1) := by decide +kernel
theorem d_X11_interest_24 : decode (px_cc M_X11_interest) 24 = .ok (.invokevirtual 101, 3) := by decide +kernel
theorem d_X11_interest_27 : decode (px_cc M_X11_interest) 27 = .ok (.ifCond .ne 13, 3) := by decide +kernel
theorem d_X11_interest_30 : decode (px_cc M_X11_interest) 30 = .ok (.new 144, 3) := by decide +kernel
theorem d_X11_interest_33 : decode (px_cc M_X11_interest) 33 = .ok (.dup, 1) := by decide +kernel
theorem d_X11_interest_34 : decode (px_cc M_X11_interest) 34 = .ok (.ldc 155, 2) := by decide +kernel
theorem d_X11_interest_36 : decode (px_cc M_X11_interest) 36 = .ok (.invokespecial 148, 3) := by decide +kernel
theorem d_X11_interest_39 : decode (px_cc M_X11_interest) 39 = .ok (.athrow, 1) := by decide +kernel
theorem d_X11_interest_40 : decode (px_cc M_X11_interest) 40 = .ok (.aload_n 0, 1) := by decide +kernel
theorem d_X11_interest_41 : decode (px_cc M_X11_interest) 41 = .ok (.getfield 55, 3) := by decide +kernel
theorem d_X11_interest_44 : decode (px_cc M_X11_interest) 44 = .ok (.aload 4, 2) := by decide +kernel
theorem d_X11_interest_46 : decode (px_cc M_X11_interest) 46 = .ok (.iload_n 2, 1) := by decide +kernel
theorem d_X11_interest_47 : decode (px_cc M_X11_interest) 47 = .ok (.iload_n 3, 1) := by decide +kernel
theorem d_X11_interest_48 : decode (px_cc M_X11_interest) 48 = .ok (.invokevirtual 157, 3) := by decide +kernel
theorem d_X11_interest_51 : decode (px_cc M_X11_interest) 51 = .ok (.ireturn, 1) := by decide +kernel
theorem d_X11_may_0 : decode (px_cc M_X11_may) 0 = .ok (.aload_n 0, 1) := by decide +kernel
theorem d_X11_may_1 : decode (px_cc M_X11_may) 1 = .ok (.aload_n 0, 1) := by decide +kernel
theorem d_X11_may_2 : decode (px_cc M_X11_may) 2 = .ok (.iload_n 1, 1) := by decide +kernel
theorem d_X11_may_3 : decode (px_cc M_X11_may) 3 = .ok (.invokevirtual 94, 3) := by decide +kernel
theorem d_X11_may_6 : decode (px_cc M_X11_may) 6 = .ok (.iload_n 2, 1) := by decide +kernel
theorem d_X11_may_7 : decode (px_cc M_X11_may) 7 = .ok (.iload_n 3, 1) := by decide +kernel
theorem d_X11_may_8 : decode (px_cc M_X11_may) 8 = .ok (.invokevirtual 160, 3) := by decide +kernel
theorem d_X11_may_11 : decode (px_cc M_X11_may) 11 = .ok (.ireturn, 1) := by decide +kernel
theorem d_X11_draw_0 : decode (px_cc M_X11_draw) 0 = .ok (.aload_n 0, 1) := by decide +kernel
theorem d_X11_draw_1 : decode (px_cc M_X11_draw) 1 = .ok (.iload_n 1, 1) := by decide +kernel
theorem d_X11_draw_2 : decode (px_cc M_X11_draw) 2 = .ok (.invokevirtual 94, 3) := by decide +kernel
theorem d_X11_draw_5 : decode (px_cc M_X11_draw) 5 = .ok (.astore 5, 2) := by decide +kernel
theorem d_X11_draw_7 : decode (px_cc M_X11_draw) 7 = .ok (.aload_n 0, 1) := by decide +kernel
theorem d_X11_draw_8 : decode (px_cc M_X11_draw) 8 = .ok (.aload 5, 2) := by decide +kernel
theorem d_X11_draw_10 : decode (px_cc M_X11_draw) 10 = .ok (.iload_n 3, 1) := by decide +kernel
theorem d_X11_draw_11 : decode (px_cc M_X11_draw) 11 = .ok (.iload 4, 2) := by decide +kernel
theorem d_X11_draw_13 : decode (px_cc M_X11_draw) 13 = .ok (.invokevirtual 160, 3) := by decide +kernel
theorem d_X11_draw_16 : decode (px_cc M_X11_draw) 16 = .ok (.istore 6, 2) := by decide +kernel
theorem d_X11_draw_18 : decode (px_cc M_X11_draw) 18 = .ok (.iload 6, 2) := by decide +kernel
theorem d_X11_draw_20 : decode (px_cc M_X11_draw) 20 = .ok (.ifCond .ne 8, 3) := by decide +kernel
theorem d_X11_draw_23 : decode (px_cc M_X11_draw) 23 = .ok (.aload 5, 2) := by decide +kernel
theorem d_X11_draw_25 : decode (px_cc M_X11_draw) 25 = .ok (.ifnonnull 6, 3) := by decide +kernel
theorem d_X11_draw_28 : decode (px_cc M_X11_draw) 28 = .ok (.iload 6, 2) := by decide +kernel
theorem d_X11_draw_30 : decode (px_cc M_X11_draw) 30 = .ok (.ireturn, 1) := by decide +kernel
theorem d_X11_draw_31 : decode (px_cc M_X11_draw) 31 = .ok (.iload_n 2, 1) := by decide +kernel
theorem d_X11_draw_32 : decode (px_cc M_X11_draw) 32 = .ok (.invokestatic 98, 3) := by decide +kernel
theorem d_X11_draw_35 : decode (px_cc M_X11_draw) 35 = .ok (.ifCond .eq 13, 3) := by decide +kernel
theorem d_X11_draw_38 : decode (px_cc M_X11_draw) 38 = .ok (.aload_n 0, 1) := by decide +kernel
theorem d_X11_draw_39 : decode (px_cc M_X11_draw) 39 = .ok (.getfield 18, 3) := by decide +kernel
theorem d_X11_draw_42 : decode (px_cc M_X11_draw) 42 = .ok (.invokevirtual 106, 3) := by decide +kernel
theorem d_X11_draw_45 : decode (px_cc M_X11_draw) 45 = .ok (.ifCond .eq 6, 3) := by decide +kernel
theorem d_X11_draw_48 : decode (px_cc M_X11_draw) 48 = .ok (.bipush 6, 2) := by decide +kernel
theorem d_X11_draw_50 : decode (px_cc M_X11_draw) 50 = .ok (.ireturn, 1) := by decide +kernel
theorem d_X11_draw_51 : decode (px_cc M_X11_draw) 51 = .ok (.aload 5, 2) := by decide +kernel
theorem d_X11_draw_53 : decode (px_cc M_X11_draw) 53 = .ok (.getfield 163, 3) := by decide +kernel
theorem d_X11_draw_56 : decode (px_cc M_X11_draw) 56 = .ok (.iconst 3, 1) := by decide +kernel
theorem d_X11_draw_57 : decode (px_cc M_X11_draw) 57 = .ok (.if_icmp .ne 29, 3) := by decide +kernel
theorem d_X11_draw_60 : decode (px_cc M_X11_draw) 60 = .ok (.aload_n 0, 1) := by decide +kernel
theorem d_X11_draw_61 : decode (px_cc M_X11_draw) 61 = .ok (.getfield 62, 3) := by decide +kernel
theorem d_X11_draw_64 : decode (px_cc M_X11_draw) 64 = .ok (.aload_n 0, 1) := by decide +kernel
theorem d_X11_draw_65 : decode (px_cc M_X11_draw) 65 = .ok (.getfield 62, 3) := by decide +kernel
theorem d_X11_draw_68 : decode (px_cc M_X11_draw) 68 = .ok (.iload_n 1, 1) := by decide +kernel
theorem d_X11_draw_69 : decode (px_cc M_X11_draw) 69 = .ok (.iload_n 3, 1) := by decide +kernel
theorem d_X11_draw_70 : decode (px_cc M_X11_draw) 70 = .ok (.aload_n 0, 1) := by decide +kernel
theorem d_X11_draw_71 : decode (px_cc M_X11_draw) 71 = .ok (.getfield 88, 3) := by decide +kernel
theorem d_X11_draw_74 : decode (px_cc M_X11_draw) 74 = .ok (.aload 5, 2) := by decide +kernel
theorem d_X11_draw_76 : decode (px_cc M_X11_draw) 76 = .ok (.getfield 166, 3) := by decide +kernel
theorem d_X11_draw_79 : decode (px_cc M_X11_draw) 79 = .ok (.isub, 1) := by decide +kernel
theorem d_X11_draw_80 : decode (px_cc M_X11_draw) 80 = .ok (.invokevirtual 169, 3) := by decide +kernel
theorem d_X11_draw_83 : decode (px_cc M_X11_draw) 83 = .ok (.invokevirtual 173, 3) := by decide +kernel
theorem d_X11_draw_86 : decode (px_cc M_X11_draw) 86 = .ok (.aload_n 0, 1) := by decide +kernel
theorem d_X11_draw_87 : decode (px_cc M_X11_draw) 87 = .ok (.iload_n 1, 1) := by decide +kernel
theorem d_X11_draw_88 : decode (px_cc M_X11_draw) 88 = .ok (.iload_n 2, 1) := by decide +kernel
theorem d_X11_draw_89 : decode (px_cc M_X11_draw) 89 = .ok (.aload_n 0, 1) := by decide +kernel
theorem d_X11_draw_90 : decode (px_cc M_X11_draw) 90 = .ok (.getfield 88, 3) := by decide +kernel
theorem d_X11_draw_93 : decode (px_cc M_X11_draw) 93 = .ok (.iload_n 3, 1) := by decide +kernel
theorem d_X11_draw_94 : decode (px_cc M_X11_draw) 94 = .ok (.ineg, 1) := by decide +kernel
theorem d_X11_draw_95 : decode (px_cc M_X11_draw) 95 = .ok (.invokevirtual 110, 3) := by decide +kernel
theorem d_X11_draw_98 : decode (px_cc M_X11_draw) 98 = .ok (.pop, 1) := by decide +kernel
theorem d_X11_draw_99 : decode (px_cc M_X11_draw) 99 = .ok (.iconst 0, 1) := by decide +kernel
theorem d_X11_draw_100 : decode (px_cc M_X11_draw) 100 = .ok (.ireturn, 1) := by decide +kernel
theorem d_X11_notice_0 : decode (px_cc M_X11_notice) 0 = .ok (.aload_n 0, 1) := by decide +kernel
theorem d_X11_notice_1 : decode (px_cc M_X11_notice) 1 = .ok (.iload_n 1, 1) := by decide +kernel
theorem d_X11_notice_2 : decode (px_cc M_X11_notice) 2 = .ok (.invokevirtual 94, 3) := by decide +kernel
theorem d_X11_notice_5 : decode (px_cc M_X11_notice) 5 = .ok (.astore_n 3, 1) := by decide +kernel
theorem d_X11_notice_6 : decode (px_cc M_X11_notice) 6 = .ok (.aload_n 3, 1) := by decide +kernel
theorem d_X11_notice_7 : decode (px_cc M_X11_notice) 7 = .ok (.ifnull 18, 3) := by decide +kernel
theorem d_X11_notice_10 : decode (px_cc M_X11_notice) 10 = .ok (.aload_n 3, 1) := by decide +kernel
theorem d_X11_notice_11 : decode (px_cc M_X11_notice) 11 = .ok (.getfield 163, 3) := by decide +kernel
theorem d_X11_notice_14 : decode (px_cc M_X11_notice) 14 = .ok (.iconst 3, 1) := by decide +kernel
theorem d_X11_notice_15 : decode (px_cc M_X11_notice) 15 = .ok (.if_icmp .ne 10, 3) := by decide +kernel
theorem d_X11_notice_18 : decode (px_cc M_X11_notice) 18 = .ok (.iload_n 2, 1) := by decide +kernel
theorem d_X11_notice_19 : decode (px_cc M_X11_notice) 19 = .ok (.invokestatic 177, 3) := by decide +kernel
theorem d_X11_notice_22 : decode (px_cc M_X11_notice) 22 = .ok (.ifCond .ne 5, 3) := by decide +kernel
theorem d_X11_notice_25 : decode (px_cc M_X11_notice) 25 = .ok (.iconst 0, 1) := by decide +kernel
theorem d_X11_notice_26 : decode (px_cc M_X11_notice) 26 = .ok (.ireturn, 1) := by decide +kernel
theorem d_X11_notice_27 : decode (px_cc M_X11_notice) 27 = .ok (.aload_n 0, 1) := by decide +kernel
theorem d_X11_notice_28 : decode (px_cc M_X11_notice) 28 = .ok (.getfield 62, 3) := by decide +kernel
theorem d_X11_notice_31 : decode (px_cc M_X11_notice) 31 = .ok (.iload_n 1, 1) := by decide +kernel
theorem d_X11_notice_32 : decode (px_cc M_X11_notice) 32 = .ok (.iload_n 2, 1) := by decide +kernel
theorem d_X11_notice_33 : decode (px_cc M_X11_notice) 33 = .ok (.aload_n 0, 1) := by decide +kernel
theorem d_X11_notice_34 : decode (px_cc M_X11_notice) 34 = .ok (.getfield 88, 3) := by decide +kernel
theorem d_X11_notice_37 : decode (px_cc M_X11_notice) 37 = .ok (.invokevirtual 180, 3) := by decide +kernel
theorem d_X11_notice_40 : decode (px_cc M_X11_notice) 40 = .ok (.ireturn, 1) := by decide +kernel
theorem d_X11_write_0 : decode (px_cc M_X11_write) 0 = .ok (.aload_n 0, 1) := by decide +kernel
theorem d_X11_write_1 : decode (px_cc M_X11_write) 1 = .ok (.iload_n 1, 1) := by decide +kernel
theorem d_X11_write_2 : decode (px_cc M_X11_write) 2 = .ok (.invokevirtual 94, 3) := by decide +kernel
theorem d_X11_write_5 : decode (px_cc M_X11_write) 5 = .ok (.astore 4, 2) := by decide +kernel
theorem d_X11_write_7 : decode (px_cc M_X11_write) 7 = .ok (.aload 4, 2) := by decide +kernel
theorem d_X11_write_9 : decode (px_cc M_X11_write) 9 = .ok (.ifnull 10, 3) := by decide +kernel
theorem d_X11_write_12 : decode (px_cc M_X11_write) 12 = .ok (.iload_n 2, 1) := by decide +kernel
theorem d_X11_write_13 : decode (px_cc M_X11_write) 13 = .ok (.invokestatic 84, 3) := by decide +kernel
theorem d_X11_write_16 : decode (px_cc M_X11_write) 16 = .ok (.ifCond .ne 5, 3) := by decide +kernel
theorem d_X11_write_19 : decode (px_cc M_X11_write) 19 = .ok (.iconst (-1), 1) := by decide +kernel
theorem d_X11_write_20 : decode (px_cc M_X11_write) 20 = .ok (.ireturn, 1) := by decide +kernel
theorem d_X11_write_21 : decode (px_cc M_X11_write) 21 = .ok (.aload 4, 2) := by decide +kernel
theorem d_X11_write_23 : decode (px_cc M_X11_write) 23 = .ok (.iload_n 2, 1) := by decide +kernel
theorem d_X11_write_24 : decode (px_cc M_X11_write) 24 = .ok (.iload_n 3, 1) := by decide +kernel
theorem d_X11_write_25 : decode (px_cc M_X11_write) 25 = .ok (.invokevirtual 184, 3) := by decide +kernel
theorem d_X11_write_28 : decode (px_cc M_X11_write) 28 = .ok (.ireturn, 1) := by decide +kernel
theorem d_X11_compare_0 : decode (px_cc M_X11_compare) 0 = .ok (.aload_n 0, 1) := by decide +kernel
theorem d_X11_compare_1 : decode (px_cc M_X11_compare) 1 = .ok (.iload_n 1, 1) := by decide +kernel
theorem d_X11_compare_2 : decode (px_cc M_X11_compare) 2 = .ok (.invokevirtual 94, 3) := by decide +kernel
theorem d_X11_compare_5 : decode (px_cc M_X11_compare) 5 = .ok (.astore_n 3, 1) := by decide +kernel
theorem d_X11_compare_6 : decode (px_cc M_X11_compare) 6 = .ok (.aload_n 3, 1) := by decide +kernel
theorem d_X11_compare_7 : decode (px_cc M_X11_compare) 7 = .ok (.ifnull 12, 3) := by decide +kernel
theorem d_X11_compare_10 : decode (px_cc M_X11_compare) 10 = .ok (.iload_n 2, 1) := by decide +kernel
theorem d_X11_compare_11 : decode (px_cc M_X11_compare) 11 = .ok (.ifCond .lt 8, 3) := by decide +kernel
theorem d_X11_compare_14 : decode (px_cc M_X11_compare) 14 = .ok (.iload_n 2, 1) := by decide +kernel
theorem d_X11_compare_15 : decode (px_cc M_X11_compare) 15 = .ok (.iconst 2, 1) := by decide +kernel
theorem d_X11_compare_16 : decode (px_cc M_X11_compare) 16 = .ok (.if_icmp .le 5, 3) := by decide +kernel
theorem d_X11_compare_19 : decode (px_cc M_X11_compare) 19 = .ok (.iconst (-1), 1) := by decide +kernel
theorem d_X11_compare_20 : decode (px_cc M_X11_compare) 20 = .ok (.ireturn, 1) := by decide +kernel
theorem d_X11_compare_21 : decode (px_cc M_X11_compare) 21 = .ok (.aload_n 3, 1) := by decide +kernel
theorem d_X11_compare_22 : decode (px_cc M_X11_compare) 22 = .ok (.aload_n 0, 1) := by decide +kernel
theorem d_X11_compare_23 : decode (px_cc M_X11_compare) 23 = .ok (.getfield 18, 3) := by decide +kernel
theorem d_X11_compare_26 : decode (px_cc M_X11_compare) 26 = .ok (.invokevirtual 188, 3) := by decide +kernel
theorem d_X11_compare_29 : decode (px_cc M_X11_compare) 29 = .ok (.istore 4, 2) := by decide +kernel
theorem d_X11_compare_31 : decode (px_cc M_X11_compare) 31 = .ok (.iload_n 2, 1) := by decide +kernel
theorem d_X11_compare_32 : decode (px_cc M_X11_compare) 32 = .ok (.lookupswitch 39 #[(0, 28), (1, 31)], 28) := by decide +kernel
theorem d_X11_compare_60 : decode (px_cc M_X11_compare) 60 = .ok (.iload 4, 2) := by decide +kernel
theorem d_X11_compare_62 : decode (px_cc M_X11_compare) 62 = .ok (.ireturn, 1) := by decide +kernel
theorem d_X11_compare_63 : decode (px_cc M_X11_compare) 63 = .ok (.aload_n 3, 1) := by decide +kernel
theorem d_X11_compare_64 : decode (px_cc M_X11_compare) 64 = .ok (.getfield 192, 3) := by decide +kernel
theorem d_X11_compare_67 : decode (px_cc M_X11_compare) 67 = .ok (.iload 4, 2) := by decide +kernel
theorem d_X11_compare_69 : decode (px_cc M_X11_compare) 69 = .ok (.isub, 1) := by decide +kernel
theorem d_X11_compare_70 : decode (px_cc M_X11_compare) 70 = .ok (.ireturn, 1) := by decide +kernel
theorem d_X11_compare_71 : decode (px_cc M_X11_compare) 71 = .ok (.aload_n 0, 1) := by decide +kernel
theorem d_X11_compare_72 : decode (px_cc M_X11_compare) 72 = .ok (.getfield 18, 3) := by decide +kernel
theorem d_X11_compare_75 : decode (px_cc M_X11_compare) 75 = .ok (.iload_n 1, 1) := by decide +kernel
theorem d_X11_compare_76 : decode (px_cc M_X11_compare) 76 = .ok (.invokevirtual 195, 3) := by decide +kernel
theorem d_X11_compare_79 : decode (px_cc M_X11_compare) 79 = .ok (.iload 4, 2) := by decide +kernel
theorem d_X11_compare_81 : decode (px_cc M_X11_compare) 81 = .ok (.isub, 1) := by decide +kernel
theorem d_X11_compare_82 : decode (px_cc M_X11_compare) 82 = .ok (.ireturn, 1) := by decide +kernel
theorem d_X11_settle_0 : decode (px_cc M_X11_settle) 0 = .ok (.aload_n 0, 1) := by decide +kernel
theorem d_X11_settle_1 : decode (px_cc M_X11_settle) 1 = .ok (.iload_n 1, 1) := by decide +kernel
theorem d_X11_settle_2 : decode (px_cc M_X11_settle) 2 = .ok (.invokevirtual 94, 3) := by decide +kernel
theorem d_X11_settle_5 : decode (px_cc M_X11_settle) 5 = .ok (.astore_n 2, 1) := by decide +kernel
theorem d_X11_settle_6 : decode (px_cc M_X11_settle) 6 = .ok (.aload_n 2, 1) := by decide +kernel
theorem d_X11_settle_7 : decode (px_cc M_X11_settle) 7 = .ok (.ifnonnull 13, 3) := by decide +kernel
theorem d_X11_settle_10 : decode (px_cc M_X11_settle) 10 = .ok (.new 144, 3) := by decide +kernel
theorem d_X11_settle_13 : decode (px_cc M_X11_settle) 13 = .ok (.dup, 1) := by decide +kernel
theorem d_X11_settle_14 : decode (px_cc M_X11_settle) 14 = .ok (.ldc 199, 2) := by decide +kernel
theorem d_X11_settle_16 : decode (px_cc M_X11_settle) 16 = .ok (.invokespecial 148, 3) := by decide +kernel
theorem d_X11_settle_19 : decode (px_cc M_X11_settle) 19 = .ok (.athrow, 1) := by decide +kernel
theorem d_X11_settle_20 : decode (px_cc M_X11_settle) 20 = .ok (.aload_n 0, 1) := by decide +kernel
theorem d_X11_settle_21 : decode (px_cc M_X11_settle) 21 = .ok (.getfield 55, 3) := by decide +kernel
theorem d_X11_settle_24 : decode (px_cc M_X11_settle) 24 = .ok (.aload_n 2, 1) := by decide +kernel
theorem d_X11_settle_25 : decode (px_cc M_X11_settle) 25 = .ok (.aload_n 0, 1) := by decide +kernel
theorem d_X11_settle_26 : decode (px_cc M_X11_settle) 26 = .ok (.getfield 88, 3) := by decide +kernel
theorem d_X11_settle_29 : decode (px_cc M_X11_settle) 29 = .ok (.aload_n 0, 1) := by decide +kernel
theorem d_X11_settle_30 : decode (px_cc M_X11_settle) 30 = .ok (.getfield 88, 3) := by decide +kernel
theorem d_X11_settle_33 : decode (px_cc M_X11_settle) 33 = .ok (.invokevirtual 201, 3) := by decide +kernel
theorem d_X11_settle_36 : decode (px_cc M_X11_settle) 36 = .ok (.aload_n 2, 1) := by decide +kernel
theorem d_X11_settle_37 : decode (px_cc M_X11_settle) 37 = .ok (.getfield 204, 3) := by decide +kernel
theorem d_X11_settle_40 : decode (px_cc M_X11_settle) 40 = .ok (.isub, 1) := by decide +kernel
theorem d_X11_settle_41 : decode (px_cc M_X11_settle) 41 = .ok (.istore_n 3, 1) := by decide +kernel
theorem d_X11_settle_42 : decode (px_cc M_X11_settle) 42 = .ok (.aload_n 2, 1) := by decide +kernel
theorem d_X11_settle_43 : decode (px_cc M_X11_settle) 43 = .ok (.dup, 1) := by decide +kernel
theorem d_X11_settle_44 : decode (px_cc M_X11_settle) 44 = .ok (.getfield 204, 3) := by decide +kernel
theorem d_X11_settle_47 : decode (px_cc M_X11_settle) 47 = .ok (.iload_n 3, 1) := by decide +kernel
theorem d_X11_settle_48 : decode (px_cc M_X11_settle) 48 = .ok (.iadd, 1) := by decide +kernel
theorem d_X11_settle_49 : decode (px_cc M_X11_settle) 49 = .ok (.putfield 204, 3) := by decide +kernel
theorem d_X11_settle_52 : decode (px_cc M_X11_settle) 52 = .ok (.iload_n 3, 1) := by decide +kernel
theorem d_X11_settle_53 : decode (px_cc M_X11_settle) 53 = .ok (.ireturn, 1) := by decide +kernel
theorem d_X11_night_0 : decode (px_cc M_X11_night) 0 = .ok (.iload_n 1, 1) := by decide +kernel
theorem d_X11_night_1 : decode (px_cc M_X11_night) 1 = .ok (.invokestatic 98, 3) := by decide +kernel
theorem d_X11_night_4 : decode (px_cc M_X11_night) 4 = .ok (.ifCond .eq 13, 3) := by decide +kernel
theorem d_X11_night_7 : decode (px_cc M_X11_night) 7 = .ok (.iload_n 2, 1) := by decide +kernel
theorem d_X11_night_8 : decode (px_cc M_X11_night) 8 = .ok (.ifCond .lt 9, 3) := by decide +kernel
theorem d_X11_night_11 : decode (px_cc M_X11_night) 11 = .ok (.iload_n 2, 1) := by decide +kernel
theorem d_X11_night_12 : decode (px_cc M_X11_night) 12 = .ok (.ldc 207, 2) := by decide +kernel
theorem d_X11_night_14 : decode (px_cc M_X11_night) 14 = .ok (.if_icmp .le 13, 3) := by decide +kernel
theorem d_X11_night_17 : decode (px_cc M_X11_night) 17 = .ok (.new 144, 3) := by decide +kernel
theorem d_X11_night_20 : decode (px_cc M_X11_night) 20 = .ok (.dup, 1) := by decide +kernel
theorem d_X11_night_21 : decode (px_cc M_X11_night) 21 = .ok (.ldc 208, 2) := by decide +kernel
theorem d_X11_night_23 : decode (px_cc M_X11_night) 23 = .ok (.invokespecial 148, 3) := by decide +kernel
theorem d_X11_night_26 : decode (px_cc M_X11_night) 26 = .ok (.athrow, 1) := by decide +kernel
theorem d_X11_night_27 : decode (px_cc M_X11_night) 27 = .ok (.aload_n 0, 1) := by decide +kernel
theorem d_X11_night_28 : decode (px_cc M_X11_night) 28 = .ok (.getfield 69, 3) := by decide +kernel
theorem d_X11_night_31 : decode (px_cc M_X11_night) 31 = .ok (.iload_n 1, 1) := by decide +kernel
theorem d_X11_night_32 : decode (px_cc M_X11_night) 32 = .ok (.iload_n 2, 1) := by decide +kernel
theorem d_X11_night_33 : decode (px_cc M_X11_night) 33 = .ok (.invokevirtual 210, 3) := by decide +kernel
theorem d_X11_night_36 : decode (px_cc M_X11_night) 36 = .ok (.ireturn, 1) := by decide +kernel
theorem d_X11_coin_0 : decode (px_cc M_X11_coin) 0 = .ok (.iload_n 1, 1) := by decide +kernel
theorem d_X11_coin_1 : decode (px_cc M_X11_coin) 1 = .ok (.invokestatic 98, 3) := by decide +kernel
theorem d_X11_coin_4 : decode (px_cc M_X11_coin) 4 = .ok (.ifCond .ne 13, 3) := by decide +kernel
theorem d_X11_coin_7 : decode (px_cc M_X11_coin) 7 = .ok (.new 144, 3) := by decide +kernel
theorem d_X11_coin_10 : decode (px_cc M_X11_coin) 10 = .ok (.dup, 1) := by decide +kernel
theorem d_X11_coin_11 : decode (px_cc M_X11_coin) 11 = .ok (.ldc 213, 2) := by decide +kernel
theorem d_X11_coin_13 : decode (px_cc M_X11_coin) 13 = .ok (.invokespecial 148, 3) := by decide +kernel
theorem d_X11_coin_16 : decode (px_cc M_X11_coin) 16 = .ok (.athrow, 1) := by decide +kernel
theorem d_X11_coin_17 : decode (px_cc M_X11_coin) 17 = .ok (.aload_n 0, 1) := by decide +kernel
theorem d_X11_coin_18 : decode (px_cc M_X11_coin) 18 = .ok (.getfield 69, 3) := by decide +kernel
theorem d_X11_coin_21 : decode (px_cc M_X11_coin) 21 = .ok (.getfield 215, 3) := by decide +kernel
theorem d_X11_coin_24 : decode (px_cc M_X11_coin) 24 = .ok (.iload_n 1, 1) := by decide +kernel
theorem d_X11_coin_25 : decode (px_cc M_X11_coin) 25 = .ok (.iaload, 1) := by decide +kernel
theorem d_X11_coin_26 : decode (px_cc M_X11_coin) 26 = .ok (.ireturn, 1) := by decide +kernel
theorem d_X11_holding_0 : decode (px_cc M_X11_holding) 0 = .ok (.aload_n 0, 1) := by decide +kernel
theorem d_X11_holding_1 : decode (px_cc M_X11_holding) 1 = .ok (.getfield 76, 3) := by decide +kernel
theorem d_X11_holding_4 : decode (px_cc M_X11_holding) 4 = .ok (.iload_n 1, 1) := by decide +kernel
theorem d_X11_holding_5 : decode (px_cc M_X11_holding) 5 = .ok (.iload_n 2, 1) := by decide +kernel
theorem d_X11_holding_6 : decode (px_cc M_X11_holding) 6 = .ok (.invokevirtual 219, 3) := by decide +kernel
theorem d_X11_holding_9 : decode (px_cc M_X11_holding) 9 = .ok (.ireturn, 1) := by decide +kernel
theorem d_X11_need_0 : decode (px_cc M_X11_need) 0 = .ok (.aload_n 0, 1) := by decide +kernel
theorem d_X11_need_1 : decode (px_cc M_X11_need) 1 = .ok (.getfield 76, 3) := by decide +kernel
theorem d_X11_need_4 : decode (px_cc M_X11_need) 4 = .ok (.iload_n 1, 1) := by decide +kernel
theorem d_X11_need_5 : decode (px_cc M_X11_need) 5 = .ok (.iload_n 2, 1) := by decide +kernel
theorem d_X11_need_6 : decode (px_cc M_X11_need) 6 = .ok (.invokevirtual 222, 3) := by decide +kernel
theorem d_X11_need_9 : decode (px_cc M_X11_need) 9 = .ok (.ireturn, 1) := by decide +kernel
theorem d_X11_best_0 : decode (px_cc M_X11_best) 0 = .ok (.aload_n 0, 1) := by decide +kernel
theorem d_X11_best_1 : decode (px_cc M_X11_best) 1 = .ok (.getfield 76, 3) := by decide +kernel
theorem d_X11_best_4 : decode (px_cc M_X11_best) 4 = .ok (.invokevirtual 226, 3) := by decide +kernel
theorem d_X11_best_7 : decode (px_cc M_X11_best) 7 = .ok (.ireturn, 1) := by decide +kernel
theorem d_X11_sold_0 : decode (px_cc M_X11_sold) 0 = .ok (.aload_n 0, 1) := by decide +kernel
theorem d_X11_sold_1 : decode (px_cc M_X11_sold) 1 = .ok (.getfield 76, 3) := by decide +kernel
theorem d_X11_sold_4 : decode (px_cc M_X11_sold) 4 = .ok (.iload_n 1, 1) := by decide +kernel
theorem d_X11_sold_5 : decode (px_cc M_X11_sold) 5 = .ok (.invokevirtual 230, 3) := by decide +kernel
theorem d_X11_sold_8 : decode (px_cc M_X11_sold) 8 = .ok (.ireturn, 1) := by decide +kernel
theorem d_X11_count_0 : decode (px_cc M_X11_count) 0 = .ok (.iload_n 1, 1) := by decide +kernel
theorem d_X11_count_1 : decode (px_cc M_X11_count) 1 = .ok (.tableswitch 105 0 7 #[47, 52, 60, 65, 73, 81, 89, 97], 47) := by decide +kernel
theorem d_X11_count_48 : decode (px_cc M_X11_count) 48 = .ok (.aload_n 0, 1) := by decide +kernel
theorem d_X11_count_49 : decode (px_cc M_X11_count) 49 = .ok (.getfield 80, 3) := by decide +kernel
theorem d_X11_count_52 : decode (px_cc M_X11_count) 52 = .ok (.ireturn, 1) := by decide +kernel
theorem d_X11_count_53 : decode (px_cc M_X11_count) 53 = .ok (.aload_n 0, 1) := by decide +kernel
theorem d_X11_count_54 : decode (px_cc M_X11_count) 54 = .ok (.getfield 18, 3) := by decide +kernel
theorem d_X11_count_57 : decode (px_cc M_X11_count) 57 = .ok (.getfield 233, 3) := by decide +kernel
theorem d_X11_count_60 : decode (px_cc M_X11_count) 60 = .ok (.ireturn, 1) := by decide +kernel
theorem d_X11_count_61 : decode (px_cc M_X11_count) 61 = .ok (.aload_n 0, 1) := by decide +kernel
theorem d_X11_count_62 : decode (px_cc M_X11_count) 62 = .ok (.getfield 88, 3) := by decide +kernel
theorem d_X11_count_65 : decode (px_cc M_X11_count) 65 = .ok (.ireturn, 1) := by decide +kernel
theorem d_X11_count_66 : decode (px_cc M_X11_count) 66 = .ok (.aload_n 0, 1) := by decide +kernel
theorem d_X11_count_67 : decode (px_cc M_X11_count) 67 = .ok (.getfield 39, 3) := by decide +kernel
theorem d_X11_count_70 : decode (px_cc M_X11_count) 70 = .ok (.getfield 234, 3) := by decide +kernel
theorem d_X11_count_73 : decode (px_cc M_X11_count) 73 = .ok (.ireturn, 1) := by decide +kernel
theorem d_X11_count_74 : decode (px_cc M_X11_count) 74 = .ok (.aload_n 0, 1) := by decide +kernel
theorem d_X11_count_75 : decode (px_cc M_X11_count) 75 = .ok (.getfield 62, 3) := by decide +kernel
theorem d_X11_count_78 : decode (px_cc M_X11_count) 78 = .ok (.getfield 235, 3) := by decide +kernel
theorem d_X11_count_81 : decode (px_cc M_X11_count) 81 = .ok (.ireturn, 1) := by decide +kernel
theorem d_X11_count_82 : decode (px_cc M_X11_count) 82 = .ok (.aload_n 0, 1) := by decide +kernel
theorem d_X11_count_83 : decode (px_cc M_X11_count) 83 = .ok (.getfield 76, 3) := by decide +kernel
theorem d_X11_count_86 : decode (px_cc M_X11_count) 86 = .ok (.getfield 236, 3) := by decide +kernel
theorem d_X11_count_89 : decode (px_cc M_X11_count) 89 = .ok (.ireturn, 1) := by decide +kernel
theorem d_X11_count_90 : decode (px_cc M_X11_count) 90 = .ok (.aload_n 0, 1) := by decide +kernel
theorem d_X11_count_91 : decode (px_cc M_X11_count) 91 = .ok (.getfield 25, 3) := by decide +kernel
theorem d_X11_count_94 : decode (px_cc M_X11_count) 94 = .ok (.getfield 118, 3) := by decide +kernel
theorem d_X11_count_97 : decode (px_cc M_X11_count) 97 = .ok (.ireturn, 1) := by decide +kernel
theorem d_X11_count_98 : decode (px_cc M_X11_count) 98 = .ok (.aload_n 0, 1) := by decide +kernel
theorem d_X11_count_99 : decode (px_cc M_X11_count) 99 = .ok (.getfield 69, 3) := by decide +kernel
theorem d_X11_count_102 : decode (px_cc M_X11_count) 102 = .ok (.getfield 237, 3) := by decide +kernel
theorem d_X11_count_105 : decode (px_cc M_X11_count) 105 = .ok (.ireturn, 1) := by decide +kernel
theorem d_X11_count_106 : decode (px_cc M_X11_count) 106 = .ok (.iconst (-1), 1) := by decide +kernel
theorem d_X11_count_107 : decode (px_cc M_X11_count) 107 = .ok (.ireturn, 1) := by decide +kernel
theorem d_X11_accountOf_0 : decode (px_cc M_X11_accountOf) 0 = .ok (.iload_n 1, 1) := by decide +kernel
theorem d_X11_accountOf_1 : decode (px_cc M_X11_accountOf) 1 = .ok (.ifCond .lt 20, 3) := by decide +kernel
theorem d_X11_accountOf_4 : decode (px_cc M_X11_accountOf) 4 = .ok (.iload_n 1, 1) := by decide +kernel
theorem d_X11_accountOf_5 : decode (px_cc M_X11_accountOf) 5 = .ok (.aload_n 0, 1) := by decide +kernel
theorem d_X11_accountOf_6 : decode (px_cc M_X11_accountOf) 6 = .ok (.getfield 80, 3) := by decide +kernel
theorem d_X11_accountOf_9 : decode (px_cc M_X11_accountOf) 9 = .ok (.if_icmp .ge 12, 3) := by decide +kernel
theorem d_X11_accountOf_12 : decode (px_cc M_X11_accountOf) 12 = .ok (.iload_n 1, 1) := by decide +kernel
theorem d_X11_accountOf_13 : decode (px_cc M_X11_accountOf) 13 = .ok (.aload_n 0, 1) := by decide +kernel
theorem d_X11_accountOf_14 : decode (px_cc M_X11_accountOf) 14 = .ok (.getfield 11, 3) := by decide +kernel
theorem d_X11_accountOf_17 : decode (px_cc M_X11_accountOf) 17 = .ok (.arraylength, 1) := by decide +kernel
theorem d_X11_accountOf_18 : decode (px_cc M_X11_accountOf) 18 = .ok (.if_icmp .lt 7, 3) := by decide +kernel
theorem d_X11_accountOf_21 : decode (px_cc M_X11_accountOf) 21 = .ok (.aconst_null, 1) := by decide +kernel
theorem d_X11_accountOf_22 : decode (px_cc M_X11_accountOf) 22 = .ok (.goto 9, 3) := by decide +kernel
theorem d_X11_accountOf_25 : decode (px_cc M_X11_accountOf) 25 = .ok (.aload_n 0, 1) := by decide +kernel
theorem d_X11_accountOf_26 : decode (px_cc M_X11_accountOf) 26 = .ok (.getfield 11, 3) := by decide +kernel
theorem d_X11_accountOf_29 : decode (px_cc M_X11_accountOf) 29 = .ok (.iload_n 1, 1) := by decide +kernel
theorem d_X11_accountOf_30 : decode (px_cc M_X11_accountOf) 30 = .ok (.aaload, 1) := by decide +kernel
theorem d_X11_accountOf_31 : decode (px_cc M_X11_accountOf) 31 = .ok (.areturn, 1) := by decide +kernel
theorem d_X11_isPassed_0 : decode (px_cc M_X11_isPassed) 0 = .ok (.iload_n 1, 1) := by decide +kernel
theorem d_X11_isPassed_1 : decode (px_cc M_X11_isPassed) 1 = .ok (.ifCond .lt 15, 3) := by decide +kernel
theorem d_X11_isPassed_4 : decode (px_cc M_X11_isPassed) 4 = .ok (.iload_n 1, 1) := by decide +kernel
theorem d_X11_isPassed_5 : decode (px_cc M_X11_isPassed) 5 = .ok (.aload_n 0, 1) := by decide +kernel
theorem d_X11_isPassed_6 : decode (px_cc M_X11_isPassed) 6 = .ok (.getfield 88, 3) := by decide +kernel
theorem d_X11_isPassed_9 : decode (px_cc M_X11_isPassed) 9 = .ok (.if_icmp .gt 7, 3) := by decide +kernel
theorem d_X11_isPassed_12 : decode (px_cc M_X11_isPassed) 12 = .ok (.iconst 1, 1) := by decide +kernel
theorem d_X11_isPassed_13 : decode (px_cc M_X11_isPassed) 13 = .ok (.goto 4, 3) := by decide +kernel
theorem d_X11_isPassed_16 : decode (px_cc M_X11_isPassed) 16 = .ok (.iconst 0, 1) := by decide +kernel
theorem d_X11_isPassed_17 : decode (px_cc M_X11_isPassed) 17 = .ok (.ireturn, 1) := by decide +kernel
theorem d_X11_enter_0 : decode (px_cc M_X11_enter) 0 = .ok (.aload_n 0, 1) := by decide +kernel
theorem d_X11_enter_1 : decode (px_cc M_X11_enter) 1 = .ok (.getfield 69, 3) := by decide +kernel
theorem d_X11_enter_4 : decode (px_cc M_X11_enter) 4 = .ok (.iload_n 2, 1) := by decide +kernel
theorem d_X11_enter_5 : decode (px_cc M_X11_enter) 5 = .ok (.iload 4, 2) := by decide +kernel
theorem d_X11_enter_7 : decode (px_cc M_X11_enter) 7 = .ok (.invokevirtual 240, 3) := by decide +kernel
theorem d_X11_enter_10 : decode (px_cc M_X11_enter) 10 = .ok (.aload_n 0, 1) := by decide +kernel
theorem d_X11_enter_11 : decode (px_cc M_X11_enter) 11 = .ok (.getfield 18, 3) := by decide +kernel
theorem d_X11_enter_14 : decode (px_cc M_X11_enter) 14 = .ok (.iload_n 1, 1) := by decide +kernel
theorem d_X11_enter_15 : decode (px_cc M_X11_enter) 15 = .ok (.iload_n 3, 1) := by decide +kernel
theorem d_X11_enter_16 : decode (px_cc M_X11_enter) 16 = .ok (.iload 4, 2) := by decide +kernel
theorem d_X11_enter_18 : decode (px_cc M_X11_enter) 18 = .ok (.aload_n 0, 1) := by decide +kernel
theorem d_X11_enter_19 : decode (px_cc M_X11_enter) 19 = .ok (.getfield 88, 3) := by decide +kernel
theorem d_X11_enter_22 : decode (px_cc M_X11_enter) 22 = .ok (.invokevirtual 244, 3) := by decide +kernel
theorem d_X11_enter_25 : decode (px_cc M_X11_enter) 25 = .ok (.ireturn, 1) := by decide +kernel
theorem d_X11_whyNot_0 : decode (px_cc M_X11_whyNot) 0 = .ok (.aload_n 1, 1) := by decide +kernel
theorem d_X11_whyNot_1 : decode (px_cc M_X11_whyNot) 1 = .ok (.ifnull 10, 3) := by decide +kernel
theorem d_X11_whyNot_4 : decode (px_cc M_X11_whyNot) 4 = .ok (.iload_n 2, 1) := by decide +kernel
theorem d_X11_whyNot_5 : decode (px_cc M_X11_whyNot) 5 = .ok (.invokestatic 177, 3) := by decide +kernel
theorem d_X11_whyNot_8 : decode (px_cc M_X11_whyNot) 8 = .ok (.ifCond .ne 5, 3) := by decide +kernel
theorem d_X11_whyNot_11 : decode (px_cc M_X11_whyNot) 11 = .ok (.iconst 1, 1) := by decide +kernel
theorem d_X11_whyNot_12 : decode (px_cc M_X11_whyNot) 12 = .ok (.ireturn, 1) := by decide +kernel
theorem d_X11_whyNot_13 : decode (px_cc M_X11_whyNot) 13 = .ok (.aload_n 0, 1) := by decide +kernel
theorem d_X11_whyNot_14 : decode (px_cc M_X11_whyNot) 14 = .ok (.getfield 55, 3) := by decide +kernel
theorem d_X11_whyNot_17 : decode (px_cc M_X11_whyNot) 17 = .ok (.aload_n 1, 1) := by decide +kernel
theorem d_X11_whyNot_18 : decode (px_cc M_X11_whyNot) 18 = .ok (.aload_n 0, 1) := by decide +kernel
theorem d_X11_whyNot_19 : decode (px_cc M_X11_whyNot) 19 = .ok (.getfield 88, 3) := by decide +kernel
theorem d_X11_whyNot_22 : decode (px_cc M_X11_whyNot) 22 = .ok (.aload_n 0, 1) := by decide +kernel
theorem d_X11_whyNot_23 : decode (px_cc M_X11_whyNot) 23 = .ok (.getfield 88, 3) := by decide +kernel
theorem d_X11_whyNot_26 : decode (px_cc M_X11_whyNot) 26 = .ok (.invokevirtual 151, 3) := by decide +kernel
theorem d_X11_whyNot_29 : decode (px_cc M_X11_whyNot) 29 = .ok (.iload_n 2, 1) := by decide +kernel
theorem d_X11_whyNot_30 : decode (px_cc M_X11_whyNot) 30 = .ok (.if_icmp .ge 5, 3) := by decide +kernel
theorem d_X11_whyNot_33 : decode (px_cc M_X11_whyNot) 33 = .ok (.iconst 2, 1) := by decide +kernel
theorem d_X11_whyNot_34 : decode (px_cc M_X11_whyNot) 34 = .ok (.ireturn, 1) := by decide +kernel
theorem d_X11_whyNot_35 : decode (px_cc M_X11_whyNot) 35 = .ok (.aload_n 1, 1) := by decide +kernel
theorem d_X11_whyNot_36 : decode (px_cc M_X11_whyNot) 36 = .ok (.iload_n 3, 1) := by decide +kernel
theorem d_X11_whyNot_37 : decode (px_cc M_X11_whyNot) 37 = .ok (.aload_n 0, 1) := by decide +kernel
theorem d_X11_whyNot_38 : decode (px_cc M_X11_whyNot) 38 = .ok (.getfield 88, 3) := by decide +kernel
theorem d_X11_whyNot_41 : decode (px_cc M_X11_whyNot) 41 = .ok (.invokevirtual 246, 3) := by decide +kernel
theorem d_X11_whyNot_44 : decode (px_cc M_X11_whyNot) 44 = .ok (.ifCond .ne 5, 3) := by decide +kernel
theorem d_X11_whyNot_47 : decode (px_cc M_X11_whyNot) 47 = .ok (.iconst 3, 1) := by decide +kernel
theorem d_X11_whyNot_48 : decode (px_cc M_X11_whyNot) 48 = .ok (.ireturn, 1) := by decide +kernel
theorem d_X11_whyNot_49 : decode (px_cc M_X11_whyNot) 49 = .ok (.aload_n 1, 1) := by decide +kernel
theorem d_X11_whyNot_50 : decode (px_cc M_X11_whyNot) 50 = .ok (.getfield 163, 3) := by decide +kernel
theorem d_X11_whyNot_53 : decode (px_cc M_X11_whyNot) 53 = .ok (.iconst 3, 1) := by decide +kernel
theorem d_X11_whyNot_54 : decode (px_cc M_X11_whyNot) 54 = .ok (.if_icmp .ne 30, 3) := by decide +kernel
theorem d_X11_whyNot_57 : decode (px_cc M_X11_whyNot) 57 = .ok (.aload_n 0, 1) := by decide +kernel
theorem d_X11_whyNot_58 : decode (px_cc M_X11_whyNot) 58 = .ok (.getfield 62, 3) := by decide +kernel
theorem d_X11_whyNot_61 : decode (px_cc M_X11_whyNot) 61 = .ok (.aload_n 1, 1) := by decide +kernel
theorem d_X11_whyNot_62 : decode (px_cc M_X11_whyNot) 62 = .ok (.getfield 249, 3) := by decide +kernel
theorem d_X11_whyNot_65 : decode (px_cc M_X11_whyNot) 65 = .ok (.iload_n 2, 1) := by decide +kernel
theorem d_X11_whyNot_66 : decode (px_cc M_X11_whyNot) 66 = .ok (.aload_n 0, 1) := by decide +kernel
theorem d_X11_whyNot_67 : decode (px_cc M_X11_whyNot) 67 = .ok (.getfield 88, 3) := by decide +kernel
theorem d_X11_whyNot_70 : decode (px_cc M_X11_whyNot) 70 = .ok (.aload_n 1, 1) := by decide +kernel
theorem d_X11_whyNot_71 : decode (px_cc M_X11_whyNot) 71 = .ok (.getfield 166, 3) := by decide +kernel
theorem d_X11_whyNot_74 : decode (px_cc M_X11_whyNot) 74 = .ok (.isub, 1) := by decide +kernel
theorem d_X11_whyNot_75 : decode (px_cc M_X11_whyNot) 75 = .ok (.invokevirtual 169, 3) := by decide +kernel
theorem d_X11_whyNot_78 : decode (px_cc M_X11_whyNot) 78 = .ok (.iconst (-1), 1) := by decide +kernel
theorem d_X11_whyNot_79 : decode (px_cc M_X11_whyNot) 79 = .ok (.if_icmp .ne 5, 3) := by decide +kernel
theorem d_X11_whyNot_82 : decode (px_cc M_X11_whyNot) 82 = .ok (.iconst 4, 1) := by decide +kernel
theorem d_X11_whyNot_83 : decode (px_cc M_X11_whyNot) 83 = .ok (.ireturn, 1) := by decide +kernel
theorem d_X11_whyNot_84 : decode (px_cc M_X11_whyNot) 84 = .ok (.aload_n 0, 1) := by decide +kernel
theorem d_X11_whyNot_85 : decode (px_cc M_X11_whyNot) 85 = .ok (.aload_n 1, 1) := by decide +kernel
theorem d_X11_whyNot_86 : decode (px_cc M_X11_whyNot) 86 = .ok (.aload_n 0, 1) := by decide +kernel
theorem d_X11_whyNot_87 : decode (px_cc M_X11_whyNot) 87 = .ok (.getfield 55, 3) := by decide +kernel
theorem d_X11_whyNot_90 : decode (px_cc M_X11_whyNot) 90 = .ok (.aload_n 1, 1) := by decide +kernel
theorem d_X11_whyNot_91 : decode (px_cc M_X11_whyNot) 91 = .ok (.aload_n 0, 1) := by decide +kernel
theorem d_X11_whyNot_92 : decode (px_cc M_X11_whyNot) 92 = .ok (.getfield 88, 3) := by decide +kernel
theorem d_X11_whyNot_95 : decode (px_cc M_X11_whyNot) 95 = .ok (.iconst 1, 1) := by decide +kernel
theorem d_X11_whyNot_96 : decode (px_cc M_X11_whyNot) 96 = .ok (.isub, 1) := by decide +kernel
theorem d_X11_whyNot_97 : decode (px_cc M_X11_whyNot) 97 = .ok (.aload_n 0, 1) := by decide +kernel
theorem d_X11_whyNot_98 : decode (px_cc M_X11_whyNot) 98 = .ok (.getfield 88, 3) := by decide +kernel
theorem d_X11_whyNot_101 : decode (px_cc M_X11_whyNot) 101 = .ok (.invokevirtual 151, 3) := by decide +kernel
theorem d_X11_whyNot_104 : decode (px_cc M_X11_whyNot) 104 = .ok (.invokevirtual 252, 3) := by decide +kernel
theorem d_X11_whyNot_107 : decode (px_cc M_X11_whyNot) 107 = .ok (.istore 4, 2) := by decide +kernel
theorem d_X11_whyNot_109 : decode (px_cc M_X11_whyNot) 109 = .ok (.iload 4, 2) := by decide +kernel
theorem d_X11_whyNot_111 : decode (px_cc M_X11_whyNot) 111 = .ok (.iconst (-1), 1) := by decide +kernel
theorem d_X11_whyNot_112 : decode (px_cc M_X11_whyNot) 112 = .ok (.if_icmp .eq 27, 3) := by decide +kernel
theorem d_X11_whyNot_115 : decode (px_cc M_X11_whyNot) 115 = .ok (.aload_n 0, 1) := by decide +kernel
theorem d_X11_whyNot_116 : decode (px_cc M_X11_whyNot) 116 = .ok (.getfield 18, 3) := by decide +kernel
theorem d_X11_whyNot_119 : decode (px_cc M_X11_whyNot) 119 = .ok (.aload_n 1, 1) := by decide +kernel
theorem d_X11_whyNot_120 : decode (px_cc M_X11_whyNot) 120 = .ok (.getfield 249, 3) := by decide +kernel
theorem d_X11_whyNot_123 : decode (px_cc M_X11_whyNot) 123 = .ok (.aload_n 0, 1) := by decide +kernel
theorem d_X11_whyNot_124 : decode (px_cc M_X11_whyNot) 124 = .ok (.getfield 88, 3) := by decide +kernel
theorem d_X11_whyNot_127 : decode (px_cc M_X11_whyNot) 127 = .ok (.invokevirtual 256, 3) := by decide +kernel
theorem d_X11_whyNot_130 : decode (px_cc M_X11_whyNot) 130 = .ok (.iload_n 2, 1) := by decide +kernel
theorem d_X11_whyNot_131 : decode (px_cc M_X11_whyNot) 131 = .ok (.iadd, 1) := by decide +kernel
theorem d_X11_whyNot_132 : decode (px_cc M_X11_whyNot) 132 = .ok (.iload 4, 2) := by decide +kernel
theorem d_X11_whyNot_134 : decode (px_cc M_X11_whyNot) 134 = .ok (.if_icmp .le 5, 3) := by decide +kernel
theorem d_X11_whyNot_137 : decode (px_cc M_X11_whyNot) 137 = .ok (.iconst 5, 1) := by decide +kernel
theorem d_X11_whyNot_138 : decode (px_cc M_X11_whyNot) 138 = .ok (.ireturn, 1) := by decide +kernel
theorem d_X11_whyNot_139 : decode (px_cc M_X11_whyNot) 139 = .ok (.iconst 0, 1) := by decide +kernel
theorem d_X11_whyNot_140 : decode (px_cc M_X11_whyNot) 140 = .ok (.ireturn, 1) := by decide +kernel
theorem d_X11_limitFor_0 : decode (px_cc M_X11_limitFor) 0 = .ok (.aload_n 0, 1) := by decide +kernel
theorem d_X11_limitFor_1 : decode (px_cc M_X11_limitFor) 1 = .ok (.getfield 39, 3) := by decide +kernel
theorem d_X11_limitFor_4 : decode (px_cc M_X11_limitFor) 4 = .ok (.aload_n 0, 1) := by decide +kernel
theorem d_X11_limitFor_5 : decode (px_cc M_X11_limitFor) 5 = .ok (.getfield 88, 3) := by decide +kernel
theorem d_X11_limitFor_8 : decode (px_cc M_X11_limitFor) 8 = .ok (.aload_n 0, 1) := by decide +kernel
theorem d_X11_limitFor_9 : decode (px_cc M_X11_limitFor) 9 = .ok (.getfield 88, 3) := by decide +kernel
theorem d_X11_limitFor_12 : decode (px_cc M_X11_limitFor) 12 = .ok (.invokevirtual 259, 3) := by decide +kernel
theorem d_X11_limitFor_15 : decode (px_cc M_X11_limitFor) 15 = .ok (.astore_n 3, 1) := by decide +kernel
theorem d_X11_limitFor_16 : decode (px_cc M_X11_limitFor) 16 = .ok (.aload_n 3, 1) := by decide +kernel
theorem d_X11_limitFor_17 : decode (px_cc M_X11_limitFor) 17 = .ok (.ifnonnull 5, 3) := by decide +kernel
theorem d_X11_limitFor_20 : decode (px_cc M_X11_limitFor) 20 = .ok (.iconst (-1), 1) := by decide +kernel
theorem d_X11_limitFor_21 : decode (px_cc M_X11_limitFor) 21 = .ok (.ireturn, 1) := by decide +kernel
theorem d_X11_limitFor_22 : decode (px_cc M_X11_limitFor) 22 = .ok (.aload_n 0, 1) := by decide +kernel
theorem d_X11_limitFor_23 : decode (px_cc M_X11_limitFor) 23 = .ok (.getfield 46, 3) := by decide +kernel
theorem d_X11_limitFor_26 : decode (px_cc M_X11_limitFor) 26 = .ok (.aload_n 1, 1) := by decide +kernel
theorem d_X11_limitFor_27 : decode (px_cc M_X11_limitFor) 27 = .ok (.iload_n 2, 1) := by decide +kernel
theorem d_X11_limitFor_28 : decode (px_cc M_X11_limitFor) 28 = .ok (.ifCond .ge 7, 3) := by decide +kernel
theorem d_X11_limitFor_31 : decode (px_cc M_X11_limitFor) 31 = .ok (.iconst 0, 1) := by decide +kernel
theorem d_X11_limitFor_32 : decode (px_cc M_X11_limitFor) 32 = .ok (.goto 8, 3) := by decide +kernel
theorem d_X11_limitFor_35 : decode (px_cc M_X11_limitFor) 35 = .ok (.iload_n 2, 1) := by decide +kernel
theorem d_X11_limitFor_36 : decode (px_cc M_X11_limitFor) 36 = .ok (.sipush 240, 3) := by decide +kernel
theorem d_X11_limitFor_39 : decode (px_cc M_X11_limitFor) 39 = .ok (.idiv, 1) := by decide +kernel
theorem d_X11_limitFor_40 : decode (px_cc M_X11_limitFor) 40 = .ok (.aload_n 0, 1) := by decide +kernel
theorem d_X11_limitFor_41 : decode (px_cc M_X11_limitFor) 41 = .ok (.getfield 88, 3) := by decide +kernel
theorem d_X11_limitFor_44 : decode (px_cc M_X11_limitFor) 44 = .ok (.invokevirtual 263, 3) := by decide +kernel
theorem d_X11_limitFor_47 : decode (px_cc M_X11_limitFor) 47 = .ok (.aload_n 0, 1) := by decide +kernel
theorem d_X11_limitFor_48 : decode (px_cc M_X11_limitFor) 48 = .ok (.getfield 46, 3) := by decide +kernel
theorem d_X11_limitFor_51 : decode (px_cc M_X11_limitFor) 51 = .ok (.aload_n 3, 1) := by decide +kernel
theorem d_X11_limitFor_52 : decode (px_cc M_X11_limitFor) 52 = .ok (.getfield 267, 3) := by decide +kernel
theorem d_X11_limitFor_55 : decode (px_cc M_X11_limitFor) 55 = .ok (.bipush (-4), 2) := by decide +kernel
theorem d_X11_limitFor_57 : decode (px_cc M_X11_limitFor) 57 = .ok (.invokevirtual 270, 3) := by decide +kernel
theorem d_X11_limitFor_60 : decode (px_cc M_X11_limitFor) 60 = .ok (.ireturn, 1) := by decide +kernel
theorem d_X11_isDay_0 : decode (px_cc M_X11_isDay) 0 = .ok (.iload_n 0, 1) := by decide +kernel
theorem d_X11_isDay_1 : decode (px_cc M_X11_isDay) 1 = .ok (.ifCond .lt 14, 3) := by decide +kernel
theorem d_X11_isDay_4 : decode (px_cc M_X11_isDay) 4 = .ok (.iload_n 0, 1) := by decide +kernel
theorem d_X11_isDay_5 : decode (px_cc M_X11_isDay) 5 = .ok (.sipush 719, 3) := by decide +kernel
theorem d_X11_isDay_8 : decode (px_cc M_X11_isDay) 8 = .ok (.if_icmp .gt 7, 3) := by decide +kernel
theorem d_X11_isDay_11 : decode (px_cc M_X11_isDay) 11 = .ok (.iconst 1, 1) := by decide +kernel
theorem d_X11_isDay_12 : decode (px_cc M_X11_isDay) 12 = .ok (.goto 4, 3) := by decide +kernel
theorem d_X11_isDay_15 : decode (px_cc M_X11_isDay) 15 = .ok (.iconst 0, 1) := by decide +kernel
theorem d_X11_isDay_16 : decode (px_cc M_X11_isDay) 16 = .ok (.ireturn, 1) := by decide +kernel
theorem d_X11_isBranch_0 : decode (px_cc M_X11_isBranch) 0 = .ok (.iload_n 0, 1) := by decide +kernel
theorem d_X11_isBranch_1 : decode (px_cc M_X11_isBranch) 1 = .ok (.ifCond .lt 12, 3) := by decide +kernel
theorem d_X11_isBranch_4 : decode (px_cc M_X11_isBranch) 4 = .ok (.iload_n 0, 1) := by decide +kernel
theorem d_X11_isBranch_5 : decode (px_cc M_X11_isBranch) 5 = .ok (.iconst 4, 1) := by decide +kernel
theorem d_X11_isBranch_6 : decode (px_cc M_X11_isBranch) 6 = .ok (.if_icmp .ge 7, 3) := by decide +kernel
theorem d_X11_isBranch_9 : decode (px_cc M_X11_isBranch) 9 = .ok (.iconst 1, 1) := by decide +kernel
theorem d_X11_isBranch_10 : decode (px_cc M_X11_isBranch) 10 = .ok (.goto 4, 3) := by decide +kernel
theorem d_X11_isBranch_13 : decode (px_cc M_X11_isBranch) 13 = .ok (.iconst 0, 1) := by decide +kernel
theorem d_X11_isBranch_14 : decode (px_cc M_X11_isBranch) 14 = .ok (.ireturn, 1) := by decide +kernel
theorem d_X11_isDrawable_0 : decode (px_cc M_X11_isDrawable) 0 = .ok (.iload_n 0, 1) := by decide +kernel
theorem d_X11_isDrawable_1 : decode (px_cc M_X11_isDrawable) 1 = .ok (.iconst 1, 1) := by decide +kernel
theorem d_X11_isDrawable_2 : decode (px_cc M_X11_isDrawable) 2 = .ok (.if_icmp .lt 13, 3) := by decide +kernel
theorem d_X11_isDrawable_5 : decode (px_cc M_X11_isDrawable) 5 = .ok (.iload_n 0, 1) := by decide +kernel
theorem d_X11_isDrawable_6 : decode (px_cc M_X11_isDrawable) 6 = .ok (.ldc 105, 2) := by decide +kernel
theorem d_X11_isDrawable_8 : decode (px_cc M_X11_isDrawable) 8 = .ok (.if_icmp .gt 7, 3) := by decide +kernel
theorem d_X11_isDrawable_11 : decode (px_cc M_X11_isDrawable) 11 = .ok (.iconst 1, 1) := by decide +kernel
theorem d_X11_isDrawable_12 : decode (px_cc M_X11_isDrawable) 12 = .ok (.goto 4, 3) := by decide +kernel
theorem d_X11_isDrawable_15 : decode (px_cc M_X11_isDrawable) 15 = .ok (.iconst 0, 1) := by decide +kernel
theorem d_X11_isDrawable_16 : decode (px_cc M_X11_isDrawable) 16 = .ok (.ireturn, 1) := by decide +kernel
theorem d_X12_init_0 : decode (px_cc M_X12_init) 0 = .ok (.aload_n 0, 1) := by decide +kernel
theorem d_X12_init_1 : decode (px_cc M_X12_init) 1 = .ok (.invokespecial 1, 3) := by decide +kernel
theorem d_X12_init_4 : decode (px_cc M_X12_init) 4 = .ok (.aload_n 0, 1) := by decide +kernel
theorem d_X12_init_5 : decode (px_cc M_X12_init) 5 = .ok (.sipush 600, 3) := by decide +kernel
theorem d_X12_init_8 : decode (px_cc M_X12_init) 8 = .ok (.newarray .int, 2) := by decide +kernel
theorem d_X12_init_10 : decode (px_cc M_X12_init) 10 = .ok (.putfield 7, 3) := by decide +kernel
theorem d_X12_init_13 : decode (px_cc M_X12_init) 13 = .ok (.aload_n 0, 1) := by decide +kernel
theorem d_X12_init_14 : decode (px_cc M_X12_init) 14 = .ok (.sipush 602, 3) := by decide +kernel
theorem d_X12_init_17 : decode (px_cc M_X12_init) 17 = .ok (.newarray .int, 2) := by decide +kernel
theorem d_X12_init_19 : decode (px_cc M_X12_init) 19 = .ok (.putfield 13, 3) := by decide +kernel
theorem d_X12_init_22 : decode (px_cc M_X12_init) 22 = .ok (.aload_n 0, 1) := by decide +kernel
theorem d_X12_init_23 : decode (px_cc M_X12_init) 23 = .ok (.sipush 602, 3) := by decide +kernel
theorem d_X12_init_26 : decode (px_cc M_X12_init) 26 = .ok (.newarray .int, 2) := by decide +kernel
theorem d_X12_init_28 : decode (px_cc M_X12_init) 28 = .ok (.putfield 16, 3) := by decide +kernel
theorem d_X12_init_31 : decode (px_cc M_X12_init) 31 = .ok (.aload_n 0, 1) := by decide +kernel
theorem d_X12_init_32 : decode (px_cc M_X12_init) 32 = .ok (.sipush 602, 3) := by decide +kernel
theorem d_X12_init_35 : decode (px_cc M_X12_init) 35 = .ok (.newarray .long, 2) := by decide +kernel
theorem d_X12_init_37 : decode (px_cc M_X12_init) 37 = .ok (.putfield 19, 3) := by decide +kernel
theorem d_X12_init_40 : decode (px_cc M_X12_init) 40 = .ok (.aload_n 0, 1) := by decide +kernel
theorem d_X12_init_41 : decode (px_cc M_X12_init) 41 = .ok (.bipush 9, 2) := by decide +kernel
theorem d_X12_init_43 : decode (px_cc M_X12_init) 43 = .ok (.newarray .long, 2) := by decide +kernel
theorem d_X12_init_45 : decode (px_cc M_X12_init) 45 = .ok (.dup, 1) := by decide +kernel
theorem d_X12_init_46 : decode (px_cc M_X12_init) 46 = .ok (.iconst 0, 1) := by decide +kernel
theorem d_X12_init_47 : decode (px_cc M_X12_init) 47 = .ok (.ldc2_w 23, 3) := by decide +kernel
theorem d_X12_init_50 : decode (px_cc M_X12_init) 50 = .ok (.lastore, 1) := by decide +kernel
theorem d_X12_init_51 : decode (px_cc M_X12_init) 51 = .ok (.dup, 1) := by decide +kernel
theorem d_X12_init_52 : decode (px_cc M_X12_init) 52 = .ok (.iconst 1, 1) := by decide +kernel
theorem d_X12_init_53 : decode (px_cc M_X12_init) 53 = .ok (.ldc2_w 25, 3) := by decide +kernel
theorem d_X12_init_56 : decode (px_cc M_X12_init) 56 = .ok (.lastore, 1) := by decide +kernel
theorem d_X12_init_57 : decode (px_cc M_X12_init) 57 = .ok (.dup, 1) := by decide +kernel
theorem d_X12_init_58 : decode (px_cc M_X12_init) 58 = .ok (.iconst 2, 1) := by decide +kernel
theorem d_X12_init_59 : decode (px_cc M_X12_init) 59 = .ok (.ldc2_w 27, 3) := by decide +kernel
theorem d_X12_init_62 : decode (px_cc M_X12_init) 62 = .ok (.lastore, 1) := by decide +kernel
theorem d_X12_init_63 : decode (px_cc M_X12_init) 63 = .ok (.dup, 1) := by decide +kernel
theorem d_X12_init_64 : decode (px_cc M_X12_init) 64 = .ok (.iconst 3, 1) := by decide +kernel
theorem d_X12_init_65 : decode (px_cc M_X12_init) 65 = .ok (.ldc2_w 29, 3) := by decide +kernel
theorem d_X12_init_68 : decode (px_cc M_X12_init) 68 = .ok (.lastore, 1) := by decide +kernel
theorem d_X12_init_69 : decode (px_cc M_X12_init) 69 = .ok (.dup, 1) := by decide +kernel
theorem d_X12_init_70 : decode (px_cc M_X12_init) 70 = .ok (.iconst 4, 1) := by decide +kernel
theorem d_X12_init_71 : decode (px_cc M_X12_init) 71 = .ok (.ldc2_w 31, 3) := by decide +kernel
theorem d_X12_init_74 : decode (px_cc M_X12_init) 74 = .ok (.lastore, 1) := by decide +kernel
theorem d_X12_init_75 : decode (px_cc M_X12_init) 75 = .ok (.dup, 1) := by decide +kernel
theorem d_X12_init_76 : decode (px_cc M_X12_init) 76 = .ok (.iconst 5, 1) := by decide +kernel
theorem d_X12_init_77 : decode (px_cc M_X12_init) 77 = .ok (.ldc2_w 33, 3) := by decide +kernel
theorem d_X12_init_80 : decode (px_cc M_X12_init) 80 = .ok (.lastore, 1) := by decide +kernel
theorem d_X12_init_81 : decode (px_cc M_X12_init) 81 = .ok (.dup, 1) := by decide +kernel
theorem d_X12_init_82 : decode (px_cc M_X12_init) 82 = .ok (.bipush 6, 2) := by decide +kernel
theorem d_X12_init_84 : decode (px_cc M_X12_init) 84 = .ok (.ldc2_w 35, 3) := by decide +kernel
theorem d_X12_init_87 : decode (px_cc M_X12_init) 87 = .ok (.lastore, 1) := by decide +kernel
theorem d_X12_init_88 : decode (px_cc M_X12_init) 88 = .ok (.dup, 1) := by decide +kernel
theorem d_X12_init_89 : decode (px_cc M_X12_init) 89 = .ok (.bipush 7, 2) := by decide +kernel
theorem d_X12_init_91 : decode (px_cc M_X12_init) 91 = .ok (.ldc2_w 37, 3) := by decide +kernel
theorem d_X12_init_94 : decode (px_cc M_X12_init) 94 = .ok (.lastore, 1) := by decide +kernel
theorem d_X12_init_95 : decode (px_cc M_X12_init) 95 = .ok (.dup, 1) := by decide +kernel
theorem d_X12_init_96 : decode (px_cc M_X12_init) 96 = .ok (.bipush 8, 2) := by decide +kernel
theorem d_X12_init_98 : decode (px_cc M_X12_init) 98 = .ok (.ldc2_w 39, 3) := by decide +kernel
theorem d_X12_init_101 : decode (px_cc M_X12_init) 101 = .ok (.lastore, 1) := by decide +kernel
theorem d_X12_init_102 : decode (px_cc M_X12_init) 102 = .ok (.putfield 41, 3) := by decide +kernel
theorem d_X12_init_105 : decode (px_cc M_X12_init) 105 = .ok (.aload_n 0, 1) := by decide +kernel
theorem d_X12_init_106 : decode (px_cc M_X12_init) 106 = .ok (.bipush 8, 2) := by decide +kernel
theorem d_X12_init_108 : decode (px_cc M_X12_init) 108 = .ok (.newarray .int, 2) := by decide +kernel
theorem d_X12_init_110 : decode (px_cc M_X12_init) 110 = .ok (.putfield 44, 3) := by decide +kernel
theorem d_X12_init_113 : decode (px_cc M_X12_init) 113 = .ok (.aload_n 0, 1) := by decide +kernel
theorem d_X12_init_114 : decode (px_cc M_X12_init) 114 = .ok (.bipush 8, 2) := by decide +kernel
theorem d_X12_init_116 : decode (px_cc M_X12_init) 116 = .ok (.newarray .int, 2) := by decide +kernel
theorem d_X12_init_118 : decode (px_cc M_X12_init) 118 = .ok (.putfield 47, 3) := by decide +kernel
theorem d_X12_init_121 : decode (px_cc M_X12_init) 121 = .ok (.aload_n 0, 1) := by decide +kernel
theorem d_X12_init_122 : decode (px_cc M_X12_init) 122 = .ok (.bipush 9, 2) := by decide +kernel
theorem d_X12_init_124 : decode (px_cc M_X12_init) 124 = .ok (.newarray .int, 2) := by decide +kernel
theorem d_X12_init_126 : decode (px_cc M_X12_init) 126 = .ok (.putfield 50, 3) := by decide +kernel
theorem d_X12_init_129 : decode (px_cc M_X12_init) 129 = .ok (.aload_n 0, 1) := by decide +kernel
theorem d_X12_init_130 : decode (px_cc M_X12_init) 130 = .ok (.sipush 144, 3) := by decide +kernel
theorem d_X12_init_133 : decode (px_cc M_X12_init) 133 = .ok (.newarray .boolean, 2) := by decide +kernel
theorem d_X12_init_135 : decode (px_cc M_X12_init) 135 = .ok (.putfield 53, 3) := by decide +kernel
theorem d_X12_init_138 : decode (px_cc M_X12_init) 138 = .ok (.aload_n 0, 1) := by decide +kernel
theorem d_X12_init_139 : decode (px_cc M_X12_init) 139 = .ok (.sipush 144, 3) := by decide +kernel
theorem d_X12_init_142 : decode (px_cc M_X12_init) 142 = .ok (.newarray .int, 2) := by decide +kernel
theorem d_X12_init_144 : decode (px_cc M_X12_init) 144 = .ok (.putfield 57, 3) := by decide +kernel
theorem d_X12_init_147 : decode (px_cc M_X12_init) 147 = .ok (.aload_n 0, 1) := by decide +kernel
theorem d_X12_init_148 : decode (px_cc M_X12_init) 148 = .ok (.sipush 144, 3) := by decide +kernel
theorem d_X12_init_151 : decode (px_cc M_X12_init) 151 = .ok (.newarray .int, 2) := by decide +kernel
theorem d_X12_init_153 : decode (px_cc M_X12_init) 153 = .ok (.putfield 60, 3) := by decide +kernel
theorem d_X12_init_156 : decode (px_cc M_X12_init) 156 = .ok (.aload_n 0, 1) := by decide +kernel
theorem d_X12_init_157 : decode (px_cc M_X12_init) 157 = .ok (.sipush 5940, 3) := by decide +kernel
theorem d_X12_init_160 : decode (px_cc M_X12_init) 160 = .ok (.newarray .int, 2) := by decide +kernel
theorem d_X12_init_162 : decode (px_cc M_X12_init) 162 = .ok (.putfield 63, 3) := by decide +kernel
theorem d_X12_init_165 : decode (px_cc M_X12_init) 165 = .ok (.aload_n 0, 1) := by decide +kernel
theorem d_X12_init_166 : decode (px_cc M_X12_init) 166 = .ok (.sipush 5940, 3) := by decide +kernel
theorem d_X12_init_169 : decode (px_cc M_X12_init) 169 = .ok (.newarray .int, 2) := by decide +kernel
theorem d_X12_init_171 : decode (px_cc M_X12_init) 171 = .ok (.putfield 66, 3) := by decide +kernel
theorem d_X12_init_174 : decode (px_cc M_X12_init) 174 = .ok (.aload_n 0, 1) := by decide +kernel
theorem d_X12_init_175 : decode (px_cc M_X12_init) 175 = .ok (.bipush 7, 2) := by decide +kernel
theorem d_X12_init_177 : decode (px_cc M_X12_init) 177 = .ok (.newarray .int, 2) := by decide +kernel
theorem d_X12_init_179 : decode (px_cc M_X12_init) 179 = .ok (.putfield 69, 3) := by decide +kernel
theorem d_X12_init_182 : decode (px_cc M_X12_init) 182 = .ok (.aload_n 0, 1) := by decide +kernel
theorem d_X12_init_183 : decode (px_cc M_X12_init) 183 = .ok (.bipush 7, 2) := by decide +kernel
theorem d_X12_init_185 : decode (px_cc M_X12_init) 185 = .ok (.newarray .int, 2) := by decide +kernel
theorem d_X12_init_187 : decode (px_cc M_X12_init) 187 = .ok (.putfield 72, 3) := by decide +kernel
theorem d_X12_init_190 : decode (px_cc M_X12_init) 190 = .ok (.aload_n 0, 1) := by decide +kernel
theorem d_X12_init_191 : decode (px_cc M_X12_init) 191 = .ok (.bipush 7, 2) := by decide +kernel
theorem d_X12_init_193 : decode (px_cc M_X12_init) 193 = .ok (.newarray .int, 2) := by decide +kernel
theorem d_X12_init_195 : decode (px_cc M_X12_init) 195 = .ok (.putfield 75, 3) := by decide +kernel
theorem d_X12_init_198 : decode (px_cc M_X12_init) 198 = .ok (.aload_n 0, 1) := by decide +kernel
theorem d_X12_init_199 : decode (px_cc M_X12_init) 199 = .ok (.iconst 5, 1) := by decide +kernel
theorem d_X12_init_200 : decode (px_cc M_X12_init) 200 = .ok (.newarray .int, 2) := by decide +kernel
theorem d_X12_init_202 : decode (px_cc M_X12_init) 202 = .ok (.putfield 78, 3) := by decide +kernel
theorem d_X12_init_205 : decode (px_cc M_X12_init) 205 = .ok (.aload_n 0, 1) := by decide +kernel
theorem d_X12_init_206 : decode (px_cc M_X12_init) 206 = .ok (.sipush 660, 3) := by decide +kernel
theorem d_X12_init_209 : decode (px_cc M_X12_init) 209 = .ok (.newarray .int, 2) := by decide +kernel
theorem d_X12_init_211 : decode (px_cc M_X12_init) 211 = .ok (.putfield 81, 3) := by decide +kernel
theorem d_X12_init_214 : decode (px_cc M_X12_init) 214 = .ok (.aload_n 0, 1) := by decide +kernel
theorem d_X12_init_215 : decode (px_cc M_X12_init) 215 = .ok (.bipush 20, 2) := by decide +kernel
theorem d_X12_init_217 : decode (px_cc M_X12_init) 217 = .ok (.newarray .int, 2) := by decide +kernel
theorem d_X12_init_219 : decode (px_cc M_X12_init) 219 = .ok (.putfield 84, 3) := by decide +kernel
theorem d_X12_init_222 : decode (px_cc M_X12_init) 222 = .ok (.aload_n 0, 1) := by decide +kernel
theorem d_X12_init_223 : decode (px_cc M_X12_init) 223 = .ok (.bipush 20, 2) := by decide +kernel
theorem d_X12_init_225 : decode (px_cc M_X12_init) 225 = .ok (.newarray .int, 2) := by decide +kernel
theorem d_X12_init_227 : decode (px_cc M_X12_init) 227 = .ok (.putfield 87, 3) := by decide +kernel
theorem d_X12_init_230 : decode (px_cc M_X12_init) 230 = .ok (.aload_n 0, 1) := by decide +kernel
theorem d_X12_init_231 : decode (px_cc M_X12_init) 231 = .ok (.bipush 20, 2) := by decide +kernel
theorem d_X12_init_233 : decode (px_cc M_X12_init) 233 = .ok (.newarray .int, 2) := by decide +kernel
theorem d_X12_init_235 : decode (px_cc M_X12_init) 235 = .ok (.putfield 90, 3) := by decide +kernel
theorem d_X12_init_238 : decode (px_cc M_X12_init) 238 = .ok (.aload_n 0, 1) := by decide +kernel
theorem d_X12_init_239 : decode (px_cc M_X12_init) 239 = .ok (.bipush 20, 2) := by decide +kernel
theorem d_X12_init_241 : decode (px_cc M_X12_init) 241 = .ok (.newarray .int, 2) := by decide +kernel
theorem d_X12_init_243 : decode (px_cc M_X12_init) 243 = .ok (.putfield 93, 3) := by decide +kernel
theorem d_X12_init_246 : decode (px_cc M_X12_init) 246 = .ok (.aload_n 0, 1) := by decide +kernel
theorem d_X12_init_247 : decode (px_cc M_X12_init) 247 = .ok (.sipush 400, 3) := by decide +kernel
theorem d_X12_init_250 : decode (px_cc M_X12_init) 250 = .ok (.newarray .int, 2) := by decide +kernel
theorem d_X12_init_252 : decode (px_cc M_X12_init) 252 = .ok (.putfield 96, 3) := by decide +kernel
theorem d_X12_init_255 : decode (px_cc M_X12_init) 255 = .ok (.aload_n 0, 1) := by decide +kernel
theorem d_X12_init_256 : decode (px_cc M_X12_init) 256 = .ok (.sipush 400, 3) := by decide +kernel
theorem d_X12_init_259 : decode (px_cc M_X12_init) 259 = .ok (.newarray .int, 2) := by decide +kernel
theorem d_X12_init_261 : decode (px_cc M_X12_init) 261 = .ok (.putfield 99, 3) := by decide +kernel
theorem d_X12_init_264 : decode (px_cc M_X12_init) 264 = .ok (.aload_n 0, 1) := by decide +kernel
theorem d_X12_init_265 : decode (px_cc M_X12_init) 265 = .ok (.sipush 400, 3) := by decide +kernel
theorem d_X12_init_268 : decode (px_cc M_X12_init) 268 = .ok (.newarray .int, 2) := by decide +kernel
theorem d_X12_init_270 : decode (px_cc M_X12_init) 270 = .ok (.putfield 102, 3) := by decide +kernel
theorem d_X12_init_273 : decode (px_cc M_X12_init) 273 = .ok (.aload_n 0, 1) := by decide +kernel
theorem d_X12_init_274 : decode (px_cc M_X12_init) 274 = .ok (.sipush 400, 3) := by decide +kernel
theorem d_X12_init_277 : decode (px_cc M_X12_init) 277 = .ok (.newarray .int, 2) := by decide +kernel
theorem d_X12_init_279 : decode (px_cc M_X12_init) 279 = .ok (.putfield 105, 3) := by decide +kernel
theorem d_X12_init_282 : decode (px_cc M_X12_init) 282 = .ok (.aload_n 0, 1) := by decide +kernel
theorem d_X12_init_283 : decode (px_cc M_X12_init) 283 = .ok (.iconst 4, 1) := by decide +kernel
theorem d_X12_init_284 : decode (px_cc M_X12_init) 284 = .ok (.newarray .int, 2) := by decide +kernel
theorem d_X12_init_286 : decode (px_cc M_X12_init) 286 = .ok (.putfield 108, 3) := by decide +kernel
theorem d_X12_init_289 : decode (px_cc M_X12_init) 289 = .ok (.aload_n 0, 1) := by decide +kernel
theorem d_X12_init_290 : decode (px_cc M_X12_init) 290 = .ok (.bipush 24, 2) := by decide +kernel
theorem d_X12_init_292 : decode (px_cc M_X12_init) 292 = .ok (.newarray .int, 2) := by decide +kernel
theorem d_X12_init_294 : decode (px_cc M_X12_init) 294 = .ok (.putfield 111, 3) := by decide +kernel
theorem d_X12_init_297 : decode (px_cc M_X12_init) 297 = .ok (.aload_n 0, 1) := by decide +kernel
theorem d_X12_init_298 : decode (px_cc M_X12_init) 298 = .ok (.bipush 60, 2) := by decide +kernel
theorem d_X12_init_300 : decode (px_cc M_X12_init) 300 = .ok (.newarray .int, 2) := by decide +kernel
theorem d_X12_init_302 : decode (px_cc M_X12_init) 302 = .ok (.putfield 114, 3) := by decide +kernel
theorem d_X12_init_305 : decode (px_cc M_X12_init) 305 = .ok (.aload_n 0, 1) := by decide +kernel
theorem d_X12_init_306 : decode (px_cc M_X12_init) 306 = .ok (.bipush 60, 2) := by decide +kernel
theorem d_X12_init_308 : decode (px_cc M_X12_init) 308 = .ok (.newarray .int, 2) := by decide +kernel
theorem d_X12_init_310 : decode (px_cc M_X12_init) 310 = .ok (.putfield 117, 3) := by decide +kernel
theorem d_X12_init_313 : decode (px_cc M_X12_init) 313 = .ok (.aload_n 0, 1) := by decide +kernel
theorem d_X12_init_314 : decode (px_cc M_X12_init) 314 = .ok (.bipush 60, 2) := by decide +kernel
theorem d_X12_init_316 : decode (px_cc M_X12_init) 316 = .ok (.newarray .int, 2) := by decide +kernel
theorem d_X12_init_318 : decode (px_cc M_X12_init) 318 = .ok (.putfield 120, 3) := by decide +kernel
theorem d_X12_init_321 : decode (px_cc M_X12_init) 321 = .ok (.aload_n 0, 1) := by decide +kernel
theorem d_X12_init_322 : decode (px_cc M_X12_init) 322 = .ok (.bipush 60, 2) := by decide +kernel
theorem d_X12_init_324 : decode (px_cc M_X12_init) 324 = .ok (.newarray .boolean, 2) := by decide +kernel
theorem d_X12_init_326 : decode (px_cc M_X12_init) 326 = .ok (.putfield 123, 3) := by decide +kernel
theorem d_X12_init_329 : decode (px_cc M_X12_init) 329 = .ok (.aload_n 0, 1) := by decide +kernel
theorem d_X12_init_330 : decode (px_cc M_X12_init) 330 = .ok (.bipush 20, 2) := by decide +kernel
theorem d_X12_init_332 : decode (px_cc M_X12_init) 332 = .ok (.newarray .int, 2) := by decide +kernel
theorem d_X12_init_334 : decode (px_cc M_X12_init) 334 = .ok (.putfield 126, 3) := by decide +kernel
theorem d_X12_init_337 : decode (px_cc M_X12_init) 337 = .ok (.aload_n 0, 1) := by decide +kernel
theorem d_X12_init_338 : decode (px_cc M_X12_init) 338 = .ok (.sipush 800, 3) := by decide +kernel
theorem d_X12_init_341 : decode (px_cc M_X12_init) 341 = .ok (.newarray .int, 2) := by decide +kernel
theorem d_X12_init_343 : decode (px_cc M_X12_init) 343 = .ok (.putfield 129, 3) := by decide +kernel
theorem d_X12_init_346 : decode (px_cc M_X12_init) 346 = .ok (.aload_n 0, 1) := by decide +kernel
theorem d_X12_init_347 : decode (px_cc M_X12_init) 347 = .ok (.sipush 800, 3) := by decide +kernel
theorem d_X12_init_350 : decode (px_cc M_X12_init) 350 = .ok (.newarray .int, 2) := by decide +kernel
theorem d_X12_init_352 : decode (px_cc M_X12_init) 352 = .ok (.putfield 132, 3) := by decide +kernel
theorem d_X12_init_355 : decode (px_cc M_X12_init) 355 = .ok (.aload_n 0, 1) := by decide +kernel
theorem d_X12_init_356 : decode (px_cc M_X12_init) 356 = .ok (.sipush 400, 3) := by decide +kernel
theorem d_X12_init_359 : decode (px_cc M_X12_init) 359 = .ok (.newarray .boolean, 2) := by decide +kernel
theorem d_X12_init_361 : decode (px_cc M_X12_init) 361 = .ok (.putfield 135, 3) := by decide +kernel
theorem d_X12_init_364 : decode (px_cc M_X12_init) 364 = .ok (.aload_n 0, 1) := by decide +kernel
theorem d_X12_init_365 : decode (px_cc M_X12_init) 365 = .ok (.bipush 36, 2) := by decide +kernel
theorem d_X12_init_367 : decode (px_cc M_X12_init) 367 = .ok (.newarray .int, 2) := by decide +kernel
theorem d_X12_init_369 : decode (px_cc M_X12_init) 369 = .ok (.putfield 138, 3) := by decide +kernel
theorem d_X12_init_372 : decode (px_cc M_X12_init) 372 = .ok (.aload_n 0, 1) := by decide +kernel
theorem d_X12_init_373 : decode (px_cc M_X12_init) 373 = .ok (.bipush 6, 2) := by decide +kernel
theorem d_X12_init_375 : decode (px_cc M_X12_init) 375 = .ok (.newarray .int, 2) := by decide +kernel
theorem d_X12_init_377 : decode (px_cc M_X12_init) 377 = .ok (.putfield 141, 3) := by decide +kernel
theorem d_X12_init_380 : decode (px_cc M_X12_init) 380 = .ok (.aload_n 0, 1) := by decide +kernel
theorem d_X12_init_381 : decode (px_cc M_X12_init) 381 = .ok (.bipush 6, 2) := by decide +kernel
theorem d_X12_init_383 : decode (px_cc M_X12_init) 383 = .ok (.newarray .int, 2) := by decide +kernel
theorem d_X12_init_385 : decode (px_cc M_X12_init) 385 = .ok (.putfield 144, 3) := by decide +kernel
theorem d_X12_init_388 : decode (px_cc M_X12_init) 388 = .ok (.aload_n 0, 1) := by decide +kernel
theorem d_X12_init_389 : decode (px_cc M_X12_init) 389 = .ok (.bipush 6, 2) := by decide +kernel
theorem d_X12_init_391 : decode (px_cc M_X12_init) 391 = .ok (.newarray .int, 2) := by decide +kernel
theorem d_X12_init_393 : decode (px_cc M_X12_init) 393 = .ok (.putfield 147, 3) := by decide +kernel
theorem d_X12_init_396 : decode (px_cc M_X12_init) 396 = .ok (.return_, 1) := by decide +kernel
theorem d_X12_thrown_0 : decode (px_cc M_X12_thrown) 0 = .ok (.aload_n 0, 1) := by decide +kernel
theorem d_X12_thrown_1 : decode (px_cc M_X12_thrown) 1 = .ok (.getfield 150, 3) := by decide +kernel
theorem d_X12_thrown_4 : decode (px_cc M_X12_thrown) 4 = .ok (.ireturn, 1) := by decide +kernel
theorem d_X12_feed_0 : decode (px_cc M_X12_feed) 0 = .ok (.aload_n 0, 1) := by decide +kernel
theorem d_X12_feed_1 : decode (px_cc M_X12_feed) 1 = .ok (.iconst 0, 1) := by decide +kernel
theorem d_X12_feed_2 : decode (px_cc M_X12_feed) 2 = .ok (.putfield 150, 3) := by decide +kernel
theorem d_X12_feed_5 : decode (px_cc M_X12_feed) 5 = .ok (.aload_n 0, 1) := by decide +kernel
theorem d_X12_feed_6 : decode (px_cc M_X12_feed) 6 = .ok (.lload_n 1, 1) := by decide +kernel
theorem d_X12_feed_7 : decode (px_cc M_X12_feed) 7 = .ok (.invokevirtual 154, 3) := by decide +kernel
theorem d_X12_feed_10 : decode (px_cc M_X12_feed) 10 = .ok (.aload_n 0, 1) := by decide +kernel
theorem d_X12_feed_11 : decode (px_cc M_X12_feed) 11 = .ok (.lload_n 3, 1) := by decide +kernel
theorem d_X12_feed_12 : decode (px_cc M_X12_feed) 12 = .ok (.invokevirtual 154, 3) := by decide +kernel
theorem d_X12_feed_15 : decode (px_cc M_X12_feed) 15 = .ok (.aload_n 0, 1) := by decide +kernel
theorem d_X12_feed_16 : decode (px_cc M_X12_feed) 16 = .ok (.lload 5, 2) := by decide +kernel
theorem d_X12_feed_18 : decode (px_cc M_X12_feed) 18 = .ok (.invokevirtual 154, 3) := by decide +kernel
theorem d_X12_feed_21 : decode (px_cc M_X12_feed) 21 = .ok (.aload_n 0, 1) := by decide +kernel
theorem d_X12_feed_22 : decode (px_cc M_X12_feed) 22 = .ok (.getfield 158, 3) := by decide +kernel
theorem d_X12_feed_25 : decode (px_cc M_X12_feed) 25 = .ok (.ireturn, 1) := by decide +kernel
theorem d_X12_lay_0 : decode (px_cc M_X12_lay) 0 = .ok (.bipush 56, 2) := by decide +kernel
theorem d_X12_lay_2 : decode (px_cc M_X12_lay) 2 = .ok (.istore_n 3, 1) := by decide +kernel
theorem d_X12_lay_3 : decode (px_cc M_X12_lay) 3 = .ok (.iload_n 3, 1) := by decide +kernel
theorem d_X12_lay_4 : decode (px_cc M_X12_lay) 4 = .ok (.ifCond .lt 71, 3) := by decide +kernel
theorem d_X12_lay_7 : decode (px_cc M_X12_lay) 7 = .ok (.lload_n 1, 1) := by decide +kernel
theorem d_X12_lay_8 : decode (px_cc M_X12_lay) 8 = .ok (.iload_n 3, 1) := by decide +kernel
theorem d_X12_lay_9 : decode (px_cc M_X12_lay) 9 = .ok (.lshr, 1) := by decide +kernel
theorem d_X12_lay_10 : decode (px_cc M_X12_lay) 10 = .ok (.l2i, 1) := by decide +kernel
theorem d_X12_lay_11 : decode (px_cc M_X12_lay) 11 = .ok (.sipush 255, 3) := by decide +kernel
theorem d_X12_lay_14 : decode (px_cc M_X12_lay) 14 = .ok (.iand, 1) := by decide +kernel
theorem d_X12_lay_15 : decode (px_cc M_X12_lay) 15 = .ok (.istore 4, 2) := by decide +kernel
theorem d_X12_lay_17 : decode (px_cc M_X12_lay) 17 = .ok (.iload 4, 2) := by decide +kernel
theorem d_X12_lay_19 : decode (px_cc M_X12_lay) 19 = .ok (.bipush 10, 2) := by decide +kernel
theorem d_X12_lay_21 : decode (px_cc M_X12_lay) 21 = .ok (.if_icmp .eq 17, 3) := by decide +kernel
theorem d_X12_lay_24 : decode (px_cc M_X12_lay) 24 = .ok (.iload 4, 2) := by decide +kernel
theorem d_X12_lay_26 : decode (px_cc M_X12_lay) 26 = .ok (.bipush 32, 2) := by decide +kernel
theorem d_X12_lay_28 : decode (px_cc M_X12_lay) 28 = .ok (.if_icmp .lt 41, 3) := by decide +kernel
theorem d_X12_lay_31 : decode (px_cc M_X12_lay) 31 = .ok (.iload 4, 2) := by decide +kernel
theorem d_X12_lay_33 : decode (px_cc M_X12_lay) 33 = .ok (.bipush 126, 2) := by decide +kernel
theorem d_X12_lay_35 : decode (px_cc M_X12_lay) 35 = .ok (.if_icmp .gt 34, 3) := by decide +kernel
theorem d_X12_lay_38 : decode (px_cc M_X12_lay) 38 = .ok (.aload_n 0, 1) := by decide +kernel
theorem d_X12_lay_39 : decode (px_cc M_X12_lay) 39 = .ok (.getfield 158, 3) := by decide +kernel
theorem d_X12_lay_42 : decode (px_cc M_X12_lay) 42 = .ok (.sipush 600, 3) := by decide +kernel
theorem d_X12_lay_45 : decode (px_cc M_X12_lay) 45 = .ok (.if_icmp .ge 24, 3) := by decide +kernel
theorem d_X12_lay_48 : decode (px_cc M_X12_lay) 48 = .ok (.aload_n 0, 1) := by decide +kernel
theorem d_X12_lay_49 : decode (px_cc M_X12_lay) 49 = .ok (.getfield 7, 3) := by decide +kernel
theorem d_X12_lay_52 : decode (px_cc M_X12_lay) 52 = .ok (.aload_n 0, 1) := by decide +kernel
theorem d_X12_lay_53 : decode (px_cc M_X12_lay) 53 = .ok (.getfield 158, 3) := by decide +kernel
theorem d_X12_lay_56 : decode (px_cc M_X12_lay) 56 = .ok (.iload 4, 2) := by decide +kernel
theorem d_X12_lay_58 : decode (px_cc M_X12_lay) 58 = .ok (.iastore, 1) := by decide +kernel
theorem d_X12_lay_59 : decode (px_cc M_X12_lay) 59 = .ok (.aload_n 0, 1) := by decide +kernel
theorem d_X12_lay_60 : decode (px_cc M_X12_lay) 60 = .ok (.dup, 1) := by decide +kernel
theorem d_X12_lay_61 : decode (px_cc M_X12_lay) 61 = .ok (.getfield 158, 3) := by decide +kernel
theorem d_X12_lay_64 : decode (px_cc M_X12_lay) 64 = .ok (.iconst 1, 1) := by decide +kernel
theorem d_X12_lay_65 : decode (px_cc M_X12_lay) 65 = .ok (.iadd, 1) := by decide +kernel
theorem d_X12_lay_66 : decode (px_cc M_X12_lay) 66 = .ok (.putfield 158, 3) := by decide +kernel
theorem d_X12_lay_69 : decode (px_cc M_X12_lay) 69 = .ok (.iinc 3 (-8), 3) := by decide +kernel
theorem d_X12_lay_72 : decode (px_cc M_X12_lay) 72 = .ok (.goto (-69), 3) := by decide +kernel
theorem d_X12_lay_75 : decode (px_cc M_X12_lay) 75 = .ok (.return_, 1) := by decide +kernel
theorem d_X12_isLetter_0 : decode (px_cc M_X12_isLetter) 0 = .ok (.iload_n 0, 1) := by decide +kernel
theorem d_X12_isLetter_1 : decode (px_cc M_X12_isLetter) 1 = .ok (.bipush 97, 2) := by decide +kernel
theorem d_X12_isLetter_3 : decode (px_cc M_X12_isLetter) 3 = .ok (.if_icmp .lt 13, 3) := by decide +kernel
theorem d_X12_isLetter_6 : decode (px_cc M_X12_isLetter) 6 = .ok (.iload_n 0, 1) := by decide +kernel
theorem d_X12_isLetter_7 : decode (px_cc M_X12_isLetter) 7 = .ok (.bipush 122, 2) := by decide +kernel
theorem d_X12_isLetter_9 : decode (px_cc M_X12_isLetter) 9 = .ok (.if_icmp .gt 7, 3) := by decide +kernel
theorem d_X12_isLetter_12 : decode (px_cc M_X12_isLetter) 12 = .ok (.iconst 1, 1) := by decide +kernel
theorem d_X12_isLetter_13 : decode (px_cc M_X12_isLetter) 13 = .ok (.goto 4, 3) := by decide +kernel
theorem d_X12_isLetter_16 : decode (px_cc M_X12_isLetter) 16 = .ok (.iconst 0, 1) := by decide +kernel
theorem d_X12_isLetter_17 : decode (px_cc M_X12_isLetter) 17 = .ok (.ireturn, 1) := by decide +kernel
theorem d_X12_isDigit_0 : decode (px_cc M_X12_isDigit) 0 = .ok (.iload_n 0, 1) := by decide +kernel
theorem d_X12_isDigit_1 : decode (px_cc M_X12_isDigit) 1 = .ok (.bipush 48, 2) := by decide +kernel
theorem d_X12_isDigit_3 : decode (px_cc M_X12_isDigit) 3 = .ok (.if_icmp .lt 13, 3) := by decide +kernel
theorem d_X12_isDigit_6 : decode (px_cc M_X12_isDigit) 6 = .ok (.iload_n 0, 1) := by decide +kernel
theorem d_X12_isDigit_7 : decode (px_cc M_X12_isDigit) 7 = .ok (.bipush 57, 2) := by decide +kernel
theorem d_X12_isDigit_9 : decode (px_cc M_X12_isDigit) 9 = .ok (.if_icmp .gt 7, 3) := by decide +kernel
theorem d_X12_isDigit_12 : decode (px_cc M_X12_isDigit) 12 = .ok (.iconst 1, 1) := by decide +kernel
theorem d_X12_isDigit_13 : decode (px_cc M_X12_isDigit) 13 = .ok (.goto 4, 3) := by decide +kernel
theorem d_X12_isDigit_16 : decode (px_cc M_X12_isDigit) 16 = .ok (.iconst 0, 1) := by decide +kernel
theorem d_X12_isDigit_17 : decode (px_cc M_X12_isDigit) 17 = .ok (.ireturn, 1) := by decide +kernel
theorem d_X12_rank_0 : decode (px_cc M_X12_rank) 0 = .ok (.iload_n 0, 1) := by decide +kernel
theorem d_X12_rank_1 : decode (px_cc M_X12_rank) 1 = .ok (.invokestatic 161, 3) := by decide +kernel
theorem d_X12_rank_4 : decode (px_cc M_X12_rank) 4 = .ok (.ifCond .eq 10, 3) := by decide +kernel
theorem d_X12_rank_7 : decode (px_cc M_X12_rank) 7 = .ok (.iload_n 0, 1) := by decide +kernel
theorem d_X12_rank_8 : decode (px_cc M_X12_rank) 8 = .ok (.bipush 96, 2) := by decide +kernel
theorem d_X12_rank_10 : decode (px_cc M_X12_rank) 10 = .ok (.isub, 1) := by decide +kernel
theorem d_X12_rank_11 : decode (px_cc M_X12_rank) 11 = .ok (.goto 7, 3) := by decide +kernel
theorem d_X12_rank_14 : decode (px_cc M_X12_rank) 14 = .ok (.iload_n 0, 1) := by decide +kernel
theorem d_X12_rank_15 : decode (px_cc M_X12_rank) 15 = .ok (.bipush 21, 2) := by decide +kernel
theorem d_X12_rank_17 : decode (px_cc M_X12_rank) 17 = .ok (.isub, 1) := by decide +kernel
theorem d_X12_rank_18 : decode (px_cc M_X12_rank) 18 = .ok (.ireturn, 1) := by decide +kernel
theorem d_X12_isSignOf_0 : decode (px_cc M_X12_isSignOf) 0 = .ok (.iload_n 0, 1) := by decide +kernel
theorem d_X12_isSignOf_1 : decode (px_cc M_X12_isSignOf) 1 = .ok (.bipush 40, 2) := by decide +kernel
theorem d_X12_isSignOf_3 : decode (px_cc M_X12_isSignOf) 3 = .ok (.if_icmp .eq 39, 3) := by decide +kernel
theorem d_X12_isSignOf_6 : decode (px_cc M_X12_isSignOf) 6 = .ok (.iload_n 0, 1) := by decide +kernel
theorem d_X12_isSignOf_7 : decode (px_cc M_X12_isSignOf) 7 = .ok (.bipush 41, 2) := by decide +kernel
theorem d_X12_isSignOf_9 : decode (px_cc M_X12_isSignOf) 9 = .ok (.if_icmp .eq 33, 3) := by decide +kernel
theorem d_X12_isSignOf_12 : decode (px_cc M_X12_isSignOf) 12 = .ok (.iload_n 0, 1) := by decide +kernel
theorem d_X12_isSignOf_13 : decode (px_cc M_X12_isSignOf) 13 = .ok (.bipush 59, 2) := by decide +kernel
theorem d_X12_isSignOf_15 : decode (px_cc M_X12_isSignOf) 15 = .ok (.if_icmp .eq 27, 3) := by decide +kernel
theorem d_X12_isSignOf_18 : decode (px_cc M_X12_isSignOf) 18 = .ok (.iload_n 0, 1) := by decide +kernel
theorem d_X12_isSignOf_19 : decode (px_cc M_X12_isSignOf) 19 = .ok (.bipush 61, 2) := by decide +kernel
theorem d_X12_isSignOf_21 : decode (px_cc M_X12_isSignOf) 21 = .ok (.if_icmp .eq 21, 3) := by decide +kernel
theorem d_X12_isSignOf_24 : decode (px_cc M_X12_isSignOf) 24 = .ok (.iload_n 0, 1) := by decide +kernel
theorem d_X12_isSignOf_25 : decode (px_cc M_X12_isSignOf) 25 = .ok (.bipush 60, 2) := by decide +kernel
theorem d_X12_isSignOf_27 : decode (px_cc M_X12_isSignOf) 27 = .ok (.if_icmp .eq 15, 3) := by decide +kernel
theorem d_X12_isSignOf_30 : decode (px_cc M_X12_isSignOf) 30 = .ok (.iload_n 0, 1) := by decide +kernel
theorem d_X12_isSignOf_31 : decode (px_cc M_X12_isSignOf) 31 = .ok (.bipush 43, 2) := by decide +kernel
theorem d_X12_isSignOf_33 : decode (px_cc M_X12_isSignOf) 33 = .ok (.if_icmp .eq 9, 3) := by decide +kernel
theorem d_X12_isSignOf_36 : decode (px_cc M_X12_isSignOf) 36 = .ok (.iload_n 0, 1) := by decide +kernel
theorem d_X12_isSignOf_37 : decode (px_cc M_X12_isSignOf) 37 = .ok (.bipush 45, 2) := by decide +kernel
theorem d_X12_isSignOf_39 : decode (px_cc M_X12_isSignOf) 39 = .ok (.if_icmp .ne 7, 3) := by decide +kernel
theorem d_X12_isSignOf_42 : decode (px_cc M_X12_isSignOf) 42 = .ok (.iconst 1, 1) := by decide +kernel
theorem d_X12_isSignOf_43 : decode (px_cc M_X12_isSignOf) 43 = .ok (.goto 4, 3) := by decide +kernel
theorem d_X12_isSignOf_46 : decode (px_cc M_X12_isSignOf) 46 = .ok (.iconst 0, 1) := by decide +kernel
theorem d_X12_isSignOf_47 : decode (px_cc M_X12_isSignOf) 47 = .ok (.ireturn, 1) := by decide +kernel
theorem d_X12_cutAll_0 : decode (px_cc M_X12_cutAll) 0 = .ok (.aload_n 0, 1) := by decide +kernel
theorem d_X12_cutAll_1 : decode (px_cc M_X12_cutAll) 1 = .ok (.aload_n 0, 1) := by decide +kernel
theorem d_X12_cutAll_2 : decode (px_cc M_X12_cutAll) 2 = .ok (.getfield 158, 3) := by decide +kernel
theorem d_X12_cutAll_5 : decode (px_cc M_X12_cutAll) 5 = .ok (.putfield 165, 3) := by decide +kernel
theorem d_X12_cutAll_8 : decode (px_cc M_X12_cutAll) 8 = .ok (.aload_n 0, 1) := by decide +kernel
theorem d_X12_cutAll_9 : decode (px_cc M_X12_cutAll) 9 = .ok (.iconst 0, 1) := by decide +kernel
theorem d_X12_cutAll_10 : decode (px_cc M_X12_cutAll) 10 = .ok (.putfield 158, 3) := by decide +kernel
theorem d_X12_cutAll_13 : decode (px_cc M_X12_cutAll) 13 = .ok (.iconst 0, 1) := by decide +kernel
theorem d_X12_cutAll_14 : decode (px_cc M_X12_cutAll) 14 = .ok (.istore_n 1, 1) := by decide +kernel
theorem d_X12_cutAll_15 : decode (px_cc M_X12_cutAll) 15 = .ok (.iconst 0, 1) := by decide +kernel
theorem d_X12_cutAll_16 : decode (px_cc M_X12_cutAll) 16 = .ok (.istore_n 2, 1) := by decide +kernel
theorem d_X12_cutAll_17 : decode (px_cc M_X12_cutAll) 17 = .ok (.iload_n 2, 1) := by decide +kernel
theorem d_X12_cutAll_18 : decode (px_cc M_X12_cutAll) 18 = .ok (.aload_n 0, 1) := by decide +kernel
theorem d_X12_cutAll_19 : decode (px_cc M_X12_cutAll) 19 = .ok (.getfield 165, 3) := by decide +kernel
theorem d_X12_cutAll_22 : decode (px_cc M_X12_cutAll) 22 = .ok (.if_icmp .ge 257, 3) := by decide +kernel
theorem d_X12_cutAll_25 : decode (px_cc M_X12_cutAll) 25 = .ok (.aload_n 0, 1) := by decide +kernel
theorem d_X12_cutAll_26 : decode (px_cc M_X12_cutAll) 26 = .ok (.getfield 7, 3) := by decide +kernel
theorem d_X12_cutAll_29 : decode (px_cc M_X12_cutAll) 29 = .ok (.iload_n 2, 1) := by decide +kernel
theorem d_X12_cutAll_30 : decode (px_cc M_X12_cutAll) 30 = .ok (.iaload, 1) := by decide +kernel
theorem d_X12_cutAll_31 : decode (px_cc M_X12_cutAll) 31 = .ok (.istore_n 3, 1) := by decide +kernel
theorem d_X12_cutAll_32 : decode (px_cc M_X12_cutAll) 32 = .ok (.iload_n 3, 1) := by decide +kernel
theorem d_X12_cutAll_33 : decode (px_cc M_X12_cutAll) 33 = .ok (.bipush 10, 2) := by decide +kernel
theorem d_X12_cutAll_35 : decode (px_cc M_X12_cutAll) 35 = .ok (.if_icmp .eq 9, 3) := by decide +kernel
theorem d_X12_cutAll_38 : decode (px_cc M_X12_cutAll) 38 = .ok (.iload_n 3, 1) := by decide +kernel
theorem d_X12_cutAll_39 : decode (px_cc M_X12_cutAll) 39 = .ok (.bipush 32, 2) := by decide +kernel
theorem d_X12_cutAll_41 : decode (px_cc M_X12_cutAll) 41 = .ok (.if_icmp .ne 9, 3) := by decide +kernel
theorem d_X12_cutAll_44 : decode (px_cc M_X12_cutAll) 44 = .ok (.iinc 2 1, 3) := by decide +kernel
theorem d_X12_cutAll_47 : decode (px_cc M_X12_cutAll) 47 = .ok (.goto (-30), 3) := by decide +kernel
theorem d_X12_cutAll_50 : decode (px_cc M_X12_cutAll) 50 = .ok (.iload_n 2, 1) := by decide +kernel
theorem d_X12_cutAll_51 : decode (px_cc M_X12_cutAll) 51 = .ok (.istore 4, 2) := by decide +kernel
theorem d_X12_cutAll_53 : decode (px_cc M_X12_cutAll) 53 = .ok (.lconst 0, 1) := by decide +kernel
theorem d_X12_cutAll_54 : decode (px_cc M_X12_cutAll) 54 = .ok (.lstore 5, 2) := by decide +kernel
theorem d_X12_cutAll_56 : decode (px_cc M_X12_cutAll) 56 = .ok (.aload_n 0, 1) := by decide +kernel
theorem d_X12_cutAll_57 : decode (px_cc M_X12_cutAll) 57 = .ok (.getfield 16, 3) := by decide +kernel
theorem d_X12_cutAll_60 : decode (px_cc M_X12_cutAll) 60 = .ok (.iload_n 1, 1) := by decide +kernel
theorem d_X12_cutAll_61 : decode (px_cc M_X12_cutAll) 61 = .ok (.iload_n 2, 1) := by decide +kernel
theorem d_X12_cutAll_62 : decode (px_cc M_X12_cutAll) 62 = .ok (.iastore, 1) := by decide +kernel
theorem d_X12_cutAll_63 : decode (px_cc M_X12_cutAll) 63 = .ok (.iload_n 3, 1) := by decide +kernel
theorem d_X12_cutAll_64 : decode (px_cc M_X12_cutAll) 64 = .ok (.invokestatic 161, 3) := by decide +kernel
theorem d_X12_cutAll_67 : decode (px_cc M_X12_cutAll) 67 = .ok (.ifCond .eq 85, 3) := by decide +kernel
theorem d_X12_cutAll_70 : decode (px_cc M_X12_cutAll) 70 = .ok (.iload_n 2, 1) := by decide +kernel
theorem d_X12_cutAll_71 : decode (px_cc M_X12_cutAll) 71 = .ok (.aload_n 0, 1) := by decide +kernel
theorem d_X12_cutAll_72 : decode (px_cc M_X12_cutAll) 72 = .ok (.getfield 165, 3) := by decide +kernel
theorem d_X12_cutAll_75 : decode (px_cc M_X12_cutAll) 75 = .ok (.if_icmp .ge 54, 3) := by decide +kernel
theorem d_X12_cutAll_78 : decode (px_cc M_X12_cutAll) 78 = .ok (.aload_n 0, 1) := by decide +kernel
theorem d_X12_cutAll_79 : decode (px_cc M_X12_cutAll) 79 = .ok (.getfield 7, 3) := by decide +kernel
theorem d_X12_cutAll_82 : decode (px_cc M_X12_cutAll) 82 = .ok (.iload_n 2, 1) := by decide +kernel
theorem d_X12_cutAll_83 : decode (px_cc M_X12_cutAll) 83 = .ok (.iaload, 1) := by decide +kernel
theorem d_X12_cutAll_84 : decode (px_cc M_X12_cutAll) 84 = .ok (.invokestatic 161, 3) := by decide +kernel
theorem d_X12_cutAll_87 : decode (px_cc M_X12_cutAll) 87 = .ok (.ifCond .eq 42, 3) := by decide +kernel
theorem d_X12_cutAll_90 : decode (px_cc M_X12_cutAll) 90 = .ok (.iload_n 2, 1) := by decide +kernel
theorem d_X12_cutAll_91 : decode (px_cc M_X12_cutAll) 91 = .ok (.iload 4, 2) := by decide +kernel
theorem d_X12_cutAll_93 : decode (px_cc M_X12_cutAll) 93 = .ok (.isub, 1) := by decide +kernel
theorem d_X12_cutAll_94 : decode (px_cc M_X12_cutAll) 94 = .ok (.bipush 8, 2) := by decide +kernel
theorem d_X12_cutAll_96 : decode (px_cc M_X12_cutAll) 96 = .ok (.if_icmp .ge 23, 3) := by decide +kernel
theorem d_X12_cutAll_99 : decode (px_cc M_X12_cutAll) 99 = .ok (.ldc2_w 168, 3) := by decide +kernel
theorem d_X12_cutAll_102 : decode (px_cc M_X12_cutAll) 102 = .ok (.lload 5, 2) := by decide +kernel
theorem d_X12_cutAll_104 : decode (px_cc M_X12_cutAll) 104 = .ok (.lmul, 1) := by decide +kernel
theorem d_X12_cutAll_105 : decode (px_cc M_X12_cutAll) 105 = .ok (.aload_n 0, 1) := by decide +kernel
theorem d_X12_cutAll_106 : decode (px_cc M_X12_cutAll) 106 = .ok (.getfield 7, 3) := by decide +kernel
theorem d_X12_cutAll_109 : decode (px_cc M_X12_cutAll) 109 = .ok (.iload_n 2, 1) := by decide +kernel
theorem d_X12_cutAll_110 : decode (px_cc M_X12_cutAll) 110 = .ok (.iaload, 1) := by decide +kernel
theorem d_X12_cutAll_111 : decode (px_cc M_X12_cutAll) 111 = .ok (.invokestatic 170, 3) := by decide +kernel
theorem d_X12_cutAll_114 : decode (px_cc M_X12_cutAll) 114 = .ok (.i2l, 1) := by decide +kernel
theorem d_X12_cutAll_115 : decode (px_cc M_X12_cutAll) 115 = .ok (.ladd, 1) := by decide +kernel
theorem d_X12_cutAll_116 : decode (px_cc M_X12_cutAll) 116 = .ok (.goto 5, 3) := by decide +kernel
theorem d_X12_cutAll_119 : decode (px_cc M_X12_cutAll) 119 = .ok (.lload 5, 2) := by decide +kernel
theorem d_X12_cutAll_121 : decode (px_cc M_X12_cutAll) 121 = .ok (.lstore 5, 2) := by decide +kernel
theorem d_X12_cutAll_123 : decode (px_cc M_X12_cutAll) 123 = .ok (.iinc 2 1, 3) := by decide +kernel
theorem d_X12_cutAll_126 : decode (px_cc M_X12_cutAll) 126 = .ok (.goto (-56), 3) := by decide +kernel
theorem d_X12_cutAll_129 : decode (px_cc M_X12_cutAll) 129 = .ok (.aload_n 0, 1) := by decide +kernel
theorem d_X12_cutAll_130 : decode (px_cc M_X12_cutAll) 130 = .ok (.getfield 13, 3) := by decide +kernel
theorem d_X12_cutAll_133 : decode (px_cc M_X12_cutAll) 133 = .ok (.iload_n 1, 1) := by decide +kernel
theorem d_X12_cutAll_134 : decode (px_cc M_X12_cutAll) 134 = .ok (.iload_n 2, 1) := by decide +kernel
theorem d_X12_cutAll_135 : decode (px_cc M_X12_cutAll) 135 = .ok (.iload 4, 2) := by decide +kernel
theorem d_X12_cutAll_137 : decode (px_cc M_X12_cutAll) 137 = .ok (.isub, 1) := by decide +kernel
theorem d_X12_cutAll_138 : decode (px_cc M_X12_cutAll) 138 = .ok (.bipush 8, 2) := by decide +kernel
theorem d_X12_cutAll_140 : decode (px_cc M_X12_cutAll) 140 = .ok (.if_icmp .le 7, 3) := by decide +kernel
theorem d_X12_cutAll_143 : decode (px_cc M_X12_cutAll) 143 = .ok (.iconst 4, 1) := by decide +kernel
theorem d_X12_cutAll_144 : decode (px_cc M_X12_cutAll) 144 = .ok (.goto 4, 3) := by decide +kernel
theorem d_X12_cutAll_147 : decode (px_cc M_X12_cutAll) 147 = .ok (.iconst 1, 1) := by decide +kernel
theorem d_X12_cutAll_148 : decode (px_cc M_X12_cutAll) 148 = .ok (.iastore, 1) := by decide +kernel
theorem d_X12_cutAll_149 : decode (px_cc M_X12_cutAll) 149 = .ok (.goto 116, 3) := by decide +kernel
theorem d_X12_cutAll_152 : decode (px_cc M_X12_cutAll) 152 = .ok (.iload_n 3, 1) := by decide +kernel
theorem d_X12_cutAll_153 : decode (px_cc M_X12_cutAll) 153 = .ok (.invokestatic 174, 3) := by decide +kernel
theorem d_X12_cutAll_156 : decode (px_cc M_X12_cutAll) 156 = .ok (.ifCond .eq 84, 3) := by decide +kernel
theorem d_X12_cutAll_159 : decode (px_cc M_X12_cutAll) 159 = .ok (.iload_n 2, 1) := by decide +kernel
theorem d_X12_cutAll_160 : decode (px_cc M_X12_cutAll) 160 = .ok (.aload_n 0, 1) := by decide +kernel
theorem d_X12_cutAll_161 : decode (px_cc M_X12_cutAll) 161 = .ok (.getfield 165, 3) := by decide +kernel
theorem d_X12_cutAll_164 : decode (px_cc M_X12_cutAll) 164 = .ok (.if_icmp .ge 54, 3) := by decide +kernel
theorem d_X12_cutAll_167 : decode (px_cc M_X12_cutAll) 167 = .ok (.aload_n 0, 1) := by decide +kernel
theorem d_X12_cutAll_168 : decode (px_cc M_X12_cutAll) 168 = .ok (.getfield 7, 3) := by decide +kernel
theorem d_X12_cutAll_171 : decode (px_cc M_X12_cutAll) 171 = .ok (.iload_n 2, 1) := by decide +kernel
theorem d_X12_cutAll_172 : decode (px_cc M_X12_cutAll) 172 = .ok (.iaload, 1) := by decide +kernel
theorem d_X12_cutAll_173 : decode (px_cc M_X12_cutAll) 173 = .ok (.invokestatic 174, 3) := by decide +kernel
theorem d_X12_cutAll_176 : decode (px_cc M_X12_cutAll) 176 = .ok (.ifCond .eq 42, 3) := by decide +kernel
theorem d_X12_cutAll_179 : decode (px_cc M_X12_cutAll) 179 = .ok (.iload_n 2, 1) := by decide +kernel
theorem d_X12_cutAll_180 : decode (px_cc M_X12_cutAll) 180 = .ok (.iload 4, 2) := by decide +kernel
theorem d_X12_cutAll_182 : decode (px_cc M_X12_cutAll) 182 = .ok (.isub, 1) := by decide +kernel
theorem d_X12_cutAll_183 : decode (px_cc M_X12_cutAll) 183 = .ok (.iconst 5, 1) := by decide +kernel
theorem d_X12_cutAll_184 : decode (px_cc M_X12_cutAll) 184 = .ok (.if_icmp .ge 24, 3) := by decide +kernel
theorem d_X12_cutAll_187 : decode (px_cc M_X12_cutAll) 187 = .ok (.ldc2_w 177, 3) := by decide +kernel
theorem d_X12_cutAll_190 : decode (px_cc M_X12_cutAll) 190 = .ok (.lload 5, 2) := by decide +kernel
theorem d_X12_cutAll_192 : decode (px_cc M_X12_cutAll) 192 = .ok (.lmul, 1) := by decide +kernel
theorem d_X12_cutAll_193 : decode (px_cc M_X12_cutAll) 193 = .ok (.aload_n 0, 1) := by decide +kernel
theorem d_X12_cutAll_194 : decode (px_cc M_X12_cutAll) 194 = .ok (.getfield 7, 3) := by decide +kernel
theorem d_X12_cutAll_197 : decode (px_cc M_X12_cutAll) 197 = .ok (.iload_n 2, 1) := by decide +kernel
theorem d_X12_cutAll_198 : decode (px_cc M_X12_cutAll) 198 = .ok (.iaload, 1) := by decide +kernel
theorem d_X12_cutAll_199 : decode (px_cc M_X12_cutAll) 199 = .ok (.i2l, 1) := by decide +kernel
theorem d_X12_cutAll_200 : decode (px_cc M_X12_cutAll) 200 = .ok (.ladd, 1) := by decide +kernel
theorem d_X12_cutAll_201 : decode (px_cc M_X12_cutAll) 201 = .ok (.ldc2_w 179, 3) := by decide +kernel
theorem d_X12_cutAll_204 : decode (px_cc M_X12_cutAll) 204 = .ok (.lsub, 1) := by decide +kernel
theorem d_X12_cutAll_205 : decode (px_cc M_X12_cutAll) 205 = .ok (.goto 5, 3) := by decide +kernel
theorem d_X12_cutAll_208 : decode (px_cc M_X12_cutAll) 208 = .ok (.lload 5, 2) := by decide +kernel
theorem d_X12_cutAll_210 : decode (px_cc M_X12_cutAll) 210 = .ok (.lstore 5, 2) := by decide +kernel
theorem d_X12_cutAll_212 : decode (px_cc M_X12_cutAll) 212 = .ok (.iinc 2 1, 3) := by decide +kernel
theorem d_X12_cutAll_215 : decode (px_cc M_X12_cutAll) 215 = .ok (.goto (-56), 3) := by decide +kernel
theorem d_X12_cutAll_218 : decode (px_cc M_X12_cutAll) 218 = .ok (.aload_n 0, 1) := by decide +kernel
theorem d_X12_cutAll_219 : decode (px_cc M_X12_cutAll) 219 = .ok (.getfield 13, 3) := by decide +kernel
theorem d_X12_cutAll_222 : decode (px_cc M_X12_cutAll) 222 = .ok (.iload_n 1, 1) := by decide +kernel
theorem d_X12_cutAll_223 : decode (px_cc M_X12_cutAll) 223 = .ok (.iload_n 2, 1) := by decide +kernel
theorem d_X12_cutAll_224 : decode (px_cc M_X12_cutAll) 224 = .ok (.iload 4, 2) := by decide +kernel
theorem d_X12_cutAll_226 : decode (px_cc M_X12_cutAll) 226 = .ok (.isub, 1) := by decide +kernel
theorem d_X12_cutAll_227 : decode (px_cc M_X12_cutAll) 227 = .ok (.iconst 5, 1) := by decide +kernel
theorem d_X12_cutAll_228 : decode (px_cc M_X12_cutAll) 228 = .ok (.if_icmp .le 7, 3) := by decide +kernel
theorem d_X12_cutAll_231 : decode (px_cc M_X12_cutAll) 231 = .ok (.iconst 4, 1) := by decide +kernel
theorem d_X12_cutAll_232 : decode (px_cc M_X12_cutAll) 232 = .ok (.goto 4, 3) := by decide +kernel
theorem d_X12_cutAll_235 : decode (px_cc M_X12_cutAll) 235 = .ok (.iconst 2, 1) := by decide +kernel
theorem d_X12_cutAll_236 : decode (px_cc M_X12_cutAll) 236 = .ok (.iastore, 1) := by decide +kernel
theorem d_X12_cutAll_237 : decode (px_cc M_X12_cutAll) 237 = .ok (.goto 28, 3) := by decide +kernel
theorem d_X12_cutAll_240 : decode (px_cc M_X12_cutAll) 240 = .ok (.iload_n 3, 1) := by decide +kernel
theorem d_X12_cutAll_241 : decode (px_cc M_X12_cutAll) 241 = .ok (.i2l, 1) := by decide +kernel
theorem d_X12_cutAll_242 : decode (px_cc M_X12_cutAll) 242 = .ok (.lstore 5, 2) := by decide +kernel
theorem d_X12_cutAll_244 : decode (px_cc M_X12_cutAll) 244 = .ok (.aload_n 0, 1) := by decide +kernel
theorem d_X12_cutAll_245 : decode (px_cc M_X12_cutAll) 245 = .ok (.getfield 13, 3) := by decide +kernel
theorem d_X12_cutAll_248 : decode (px_cc M_X12_cutAll) 248 = .ok (.iload_n 1, 1) := by decide +kernel
theorem d_X12_cutAll_249 : decode (px_cc M_X12_cutAll) 249 = .ok (.iload_n 3, 1) := by decide +kernel
theorem d_X12_cutAll_250 : decode (px_cc M_X12_cutAll) 250 = .ok (.invokestatic 181, 3) := by decide +kernel
theorem d_X12_cutAll_253 : decode (px_cc M_X12_cutAll) 253 = .ok (.ifCond .eq 7, 3) := by decide +kernel
theorem d_X12_cutAll_256 : decode (px_cc M_X12_cutAll) 256 = .ok (.iconst 3, 1) := by decide +kernel
theorem d_X12_cutAll_257 : decode (px_cc M_X12_cutAll) 257 = .ok (.goto 4, 3) := by decide +kernel
theorem d_X12_cutAll_260 : decode (px_cc M_X12_cutAll) 260 = .ok (.iconst 4, 1) := by decide +kernel
theorem d_X12_cutAll_261 : decode (px_cc M_X12_cutAll) 261 = .ok (.iastore, 1) := by decide +kernel
theorem d_X12_cutAll_262 : decode (px_cc M_X12_cutAll) 262 = .ok (.iinc 2 1, 3) := by decide +kernel
theorem d_X12_cutAll_265 : decode (px_cc M_X12_cutAll) 265 = .ok (.aload_n 0, 1) := by decide +kernel
theorem d_X12_cutAll_266 : decode (px_cc M_X12_cutAll) 266 = .ok (.getfield 19, 3) := by decide +kernel
theorem d_X12_cutAll_269 : decode (px_cc M_X12_cutAll) 269 = .ok (.iload_n 1, 1) := by decide +kernel
theorem d_X12_cutAll_270 : decode (px_cc M_X12_cutAll) 270 = .ok (.lload 5, 2) := by decide +kernel
theorem d_X12_cutAll_272 : decode (px_cc M_X12_cutAll) 272 = .ok (.lastore, 1) := by decide +kernel
theorem d_X12_cutAll_273 : decode (px_cc M_X12_cutAll) 273 = .ok (.iinc 1 1, 3) := by decide +kernel
theorem d_X12_cutAll_276 : decode (px_cc M_X12_cutAll) 276 = .ok (.goto (-259), 3) := by decide +kernel
theorem d_X12_cutAll_279 : decode (px_cc M_X12_cutAll) 279 = .ok (.aload_n 0, 1) := by decide +kernel
theorem d_X12_cutAll_280 : decode (px_cc M_X12_cutAll) 280 = .ok (.getfield 13, 3) := by decide +kernel
theorem d_X12_cutAll_283 : decode (px_cc M_X12_cutAll) 283 = .ok (.iload_n 1, 1) := by decide +kernel
theorem d_X12_cutAll_284 : decode (px_cc M_X12_cutAll) 284 = .ok (.iconst 0, 1) := by decide +kernel
theorem d_X12_cutAll_285 : decode (px_cc M_X12_cutAll) 285 = .ok (.iastore, 1) := by decide +kernel
theorem d_X12_cutAll_286 : decode (px_cc M_X12_cutAll) 286 = .ok (.aload_n 0, 1) := by decide +kernel
theorem d_X12_cutAll_287 : decode (px_cc M_X12_cutAll) 287 = .ok (.getfield 16, 3) := by decide +kernel
theorem d_X12_cutAll_290 : decode (px_cc M_X12_cutAll) 290 = .ok (.iload_n 1, 1) := by decide +kernel
theorem d_X12_cutAll_291 : decode (px_cc M_X12_cutAll) 291 = .ok (.aload_n 0, 1) := by decide +kernel
theorem d_X12_cutAll_292 : decode (px_cc M_X12_cutAll) 292 = .ok (.getfield 165, 3) := by decide +kernel
theorem d_X12_cutAll_295 : decode (px_cc M_X12_cutAll) 295 = .ok (.iastore, 1) := by decide +kernel
theorem d_X12_cutAll_296 : decode (px_cc M_X12_cutAll) 296 = .ok (.aload_n 0, 1) := by decide +kernel
theorem d_X12_cutAll_297 : decode (px_cc M_X12_cutAll) 297 = .ok (.iconst 0, 1) := by decide +kernel
theorem d_X12_cutAll_298 : decode (px_cc M_X12_cutAll) 298 = .ok (.putfield 184, 3) := by decide +kernel
theorem d_X12_cutAll_301 : decode (px_cc M_X12_cutAll) 301 = .ok (.aload_n 0, 1) := by decide +kernel
theorem d_X12_cutAll_302 : decode (px_cc M_X12_cutAll) 302 = .ok (.iconst 0, 1) := by decide +kernel
theorem d_X12_cutAll_303 : decode (px_cc M_X12_cutAll) 303 = .ok (.putfield 187, 3) := by decide +kernel
theorem d_X12_cutAll_306 : decode (px_cc M_X12_cutAll) 306 = .ok (.return_, 1) := by decide +kernel
theorem d_X12_wrong_0 : decode (px_cc M_X12_wrong) 0 = .ok (.aload_n 0, 1) := by decide +kernel
theorem d_X12_wrong_1 : decode (px_cc M_X12_wrong) 1 = .ok (.getfield 187, 3) := by decide +kernel
theorem d_X12_wrong_4 : decode (px_cc M_X12_wrong) 4 = .ok (.ifCond .ne 21, 3) := by decide +kernel
theorem d_X12_wrong_7 : decode (px_cc M_X12_wrong) 7 = .ok (.aload_n 0, 1) := by decide +kernel
theorem d_X12_wrong_8 : decode (px_cc M_X12_wrong) 8 = .ok (.iload_n 1, 1) := by decide +kernel
theorem d_X12_wrong_9 : decode (px_cc M_X12_wrong) 9 = .ok (.bipush 16, 2) := by decide +kernel
theorem d_X12_wrong_11 : decode (px_cc M_X12_wrong) 11 = .ok (.aload_n 0, 1) := by decide +kernel
theorem d_X12_wrong_12 : decode (px_cc M_X12_wrong) 12 = .ok (.getfield 16, 3) := by decide +kernel
theorem d_X12_wrong_15 : decode (px_cc M_X12_wrong) 15 = .ok (.aload_n 0, 1) := by decide +kernel
theorem d_X12_wrong_16 : decode (px_cc M_X12_wrong) 16 = .ok (.getfield 184, 3) := by decide +kernel
theorem d_X12_wrong_19 : decode (px_cc M_X12_wrong) 19 = .ok (.iaload, 1) := by decide +kernel
theorem d_X12_wrong_20 : decode (px_cc M_X12_wrong) 20 = .ok (.imul, 1) := by decide +kernel
theorem d_X12_wrong_21 : decode (px_cc M_X12_wrong) 21 = .ok (.iadd, 1) := by decide +kernel
theorem d_X12_wrong_22 : decode (px_cc M_X12_wrong) 22 = .ok (.putfield 187, 3) := by decide +kernel
theorem d_X12_wrong_25 : decode (px_cc M_X12_wrong) 25 = .ok (.return_, 1) := by decide +kernel
theorem d_X12_isSign_0 : decode (px_cc M_X12_isSign) 0 = .ok (.aload_n 0, 1) := by decide +kernel
theorem d_X12_isSign_1 : decode (px_cc M_X12_isSign) 1 = .ok (.getfield 187, 3) := by decide +kernel
theorem d_X12_isSign_4 : decode (px_cc M_X12_isSign) 4 = .ok (.ifCond .ne 35, 3) := by decide +kernel
theorem d_X12_isSign_7 : decode (px_cc M_X12_isSign) 7 = .ok (.aload_n 0, 1) := by decide +kernel
theorem d_X12_isSign_8 : decode (px_cc M_X12_isSign) 8 = .ok (.getfield 13, 3) := by decide +kernel
theorem d_X12_isSign_11 : decode (px_cc M_X12_isSign) 11 = .ok (.aload_n 0, 1) := by decide +kernel
theorem d_X12_isSign_12 : decode (px_cc M_X12_isSign) 12 = .ok (.getfield 184, 3) := by decide +kernel
theorem d_X12_isSign_15 : decode (px_cc M_X12_isSign) 15 = .ok (.iaload, 1) := by decide +kernel
theorem d_X12_isSign_16 : decode (px_cc M_X12_isSign) 16 = .ok (.iconst 3, 1) := by decide +kernel
theorem d_X12_isSign_17 : decode (px_cc M_X12_isSign) 17 = .ok (.if_icmp .ne 22, 3) := by decide +kernel
theorem d_X12_isSign_20 : decode (px_cc M_X12_isSign) 20 = .ok (.aload_n 0, 1) := by decide +kernel
theorem d_X12_isSign_21 : decode (px_cc M_X12_isSign) 21 = .ok (.getfield 19, 3) := by decide +kernel
theorem d_X12_isSign_24 : decode (px_cc M_X12_isSign) 24 = .ok (.aload_n 0, 1) := by decide +kernel
