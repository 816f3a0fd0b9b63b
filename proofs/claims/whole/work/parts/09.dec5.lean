theorem d_X12_findInterest_7 : decode (px_cc M_X12_findInterest) 7 = .ok (.bipush 24, 2) := by decide +kernel
theorem d_X12_findInterest_9 : decode (px_cc M_X12_findInterest) 9 = .ok (.if_icmp .ge 214, 3) := by decide +kernel
theorem d_X12_findInterest_12 : decode (px_cc M_X12_findInterest) 12 = .ok (.iload_n 3, 1) := by decide +kernel
theorem d_X12_findInterest_13 : decode (px_cc M_X12_findInterest) 13 = .ok (.aload_n 0, 1) := by decide +kernel
theorem d_X12_findInterest_14 : decode (px_cc M_X12_findInterest) 14 = .ok (.iload_n 1, 1) := by decide +kernel
theorem d_X12_findInterest_15 : decode (px_cc M_X12_findInterest) 15 = .ok (.bipush 30, 2) := by decide +kernel
theorem d_X12_findInterest_17 : decode (px_cc M_X12_findInterest) 17 = .ok (.iload 4, 2) := by decide +kernel
theorem d_X12_findInterest_19 : decode (px_cc M_X12_findInterest) 19 = .ok (.imul, 1) := by decide +kernel
theorem d_X12_findInterest_20 : decode (px_cc M_X12_findInterest) 20 = .ok (.iload_n 2, 1) := by decide +kernel
theorem d_X12_findInterest_21 : decode (px_cc M_X12_findInterest) 21 = .ok (.invokevirtual 271, 3) := by decide +kernel
theorem d_X12_findInterest_24 : decode (px_cc M_X12_findInterest) 24 = .ok (.iadd, 1) := by decide +kernel
theorem d_X12_findInterest_25 : decode (px_cc M_X12_findInterest) 25 = .ok (.istore 5, 2) := by decide +kernel
theorem d_X12_findInterest_27 : decode (px_cc M_X12_findInterest) 27 = .ok (.bipush 30, 2) := by decide +kernel
theorem d_X12_findInterest_29 : decode (px_cc M_X12_findInterest) 29 = .ok (.iload 4, 2) := by decide +kernel
theorem d_X12_findInterest_31 : decode (px_cc M_X12_findInterest) 31 = .ok (.imul, 1) := by decide +kernel
theorem d_X12_findInterest_32 : decode (px_cc M_X12_findInterest) 32 = .ok (.istore 6, 2) := by decide +kernel
theorem d_X12_findInterest_34 : decode (px_cc M_X12_findInterest) 34 = .ok (.iload 6, 2) := by decide +kernel
theorem d_X12_findInterest_36 : decode (px_cc M_X12_findInterest) 36 = .ok (.bipush 30, 2) := by decide +kernel
theorem d_X12_findInterest_38 : decode (px_cc M_X12_findInterest) 38 = .ok (.iload 4, 2) := by decide +kernel
theorem d_X12_findInterest_40 : decode (px_cc M_X12_findInterest) 40 = .ok (.imul, 1) := by decide +kernel
theorem d_X12_findInterest_41 : decode (px_cc M_X12_findInterest) 41 = .ok (.bipush 30, 2) := by decide +kernel
theorem d_X12_findInterest_43 : decode (px_cc M_X12_findInterest) 43 = .ok (.iadd, 1) := by decide +kernel
theorem d_X12_findInterest_44 : decode (px_cc M_X12_findInterest) 44 = .ok (.if_icmp .ge 37, 3) := by decide +kernel
theorem d_X12_findInterest_47 : decode (px_cc M_X12_findInterest) 47 = .ok (.iload_n 3, 1) := by decide +kernel
theorem d_X12_findInterest_48 : decode (px_cc M_X12_findInterest) 48 = .ok (.aload_n 0, 1) := by decide +kernel
theorem d_X12_findInterest_49 : decode (px_cc M_X12_findInterest) 49 = .ok (.iload_n 1, 1) := by decide +kernel
theorem d_X12_findInterest_50 : decode (px_cc M_X12_findInterest) 50 = .ok (.iload 6, 2) := by decide +kernel
theorem d_X12_findInterest_52 : decode (px_cc M_X12_findInterest) 52 = .ok (.iload_n 2, 1) := by decide +kernel
theorem d_X12_findInterest_53 : decode (px_cc M_X12_findInterest) 53 = .ok (.invokevirtual 271, 3) := by decide +kernel
theorem d_X12_findInterest_56 : decode (px_cc M_X12_findInterest) 56 = .ok (.iadd, 1) := by decide +kernel
theorem d_X12_findInterest_57 : decode (px_cc M_X12_findInterest) 57 = .ok (.istore 7, 2) := by decide +kernel
theorem d_X12_findInterest_59 : decode (px_cc M_X12_findInterest) 59 = .ok (.iload 7, 2) := by decide +kernel
theorem d_X12_findInterest_61 : decode (px_cc M_X12_findInterest) 61 = .ok (.iload 5, 2) := by decide +kernel
theorem d_X12_findInterest_63 : decode (px_cc M_X12_findInterest) 63 = .ok (.if_icmp .ge 8, 3) := by decide +kernel
theorem d_X12_findInterest_66 : decode (px_cc M_X12_findInterest) 66 = .ok (.iload 7, 2) := by decide +kernel
theorem d_X12_findInterest_68 : decode (px_cc M_X12_findInterest) 68 = .ok (.goto 5, 3) := by decide +kernel
theorem d_X12_findInterest_71 : decode (px_cc M_X12_findInterest) 71 = .ok (.iload 5, 2) := by decide +kernel
theorem d_X12_findInterest_73 : decode (px_cc M_X12_findInterest) 73 = .ok (.istore 5, 2) := by decide +kernel
theorem d_X12_findInterest_75 : decode (px_cc M_X12_findInterest) 75 = .ok (.iinc 6 1, 3) := by decide +kernel
theorem d_X12_findInterest_78 : decode (px_cc M_X12_findInterest) 78 = .ok (.goto (-44), 3) := by decide +kernel
theorem d_X12_findInterest_81 : decode (px_cc M_X12_findInterest) 81 = .ok (.iload 5, 2) := by decide +kernel
theorem d_X12_findInterest_83 : decode (px_cc M_X12_findInterest) 83 = .ok (.sipush 240, 3) := by decide +kernel
theorem d_X12_findInterest_86 : decode (px_cc M_X12_findInterest) 86 = .ok (.if_icmp .ge 7, 3) := by decide +kernel
theorem d_X12_findInterest_89 : decode (px_cc M_X12_findInterest) 89 = .ok (.iconst 0, 1) := by decide +kernel
theorem d_X12_findInterest_90 : decode (px_cc M_X12_findInterest) 90 = .ok (.goto 9, 3) := by decide +kernel
theorem d_X12_findInterest_93 : decode (px_cc M_X12_findInterest) 93 = .ok (.iload 5, 2) := by decide +kernel
theorem d_X12_findInterest_95 : decode (px_cc M_X12_findInterest) 95 = .ok (.sipush 240, 3) := by decide +kernel
theorem d_X12_findInterest_98 : decode (px_cc M_X12_findInterest) 98 = .ok (.idiv, 1) := by decide +kernel
theorem d_X12_findInterest_99 : decode (px_cc M_X12_findInterest) 99 = .ok (.istore 6, 2) := by decide +kernel
theorem d_X12_findInterest_101 : decode (px_cc M_X12_findInterest) 101 = .ok (.aload_n 0, 1) := by decide +kernel
theorem d_X12_findInterest_102 : decode (px_cc M_X12_findInterest) 102 = .ok (.getfield 78, 3) := by decide +kernel
theorem d_X12_findInterest_105 : decode (px_cc M_X12_findInterest) 105 = .ok (.iconst 0, 1) := by decide +kernel
theorem d_X12_findInterest_106 : decode (px_cc M_X12_findInterest) 106 = .ok (.aload_n 0, 1) := by decide +kernel
theorem d_X12_findInterest_107 : decode (px_cc M_X12_findInterest) 107 = .ok (.getfield 84, 3) := by decide +kernel
theorem d_X12_findInterest_110 : decode (px_cc M_X12_findInterest) 110 = .ok (.iload_n 1, 1) := by decide +kernel
theorem d_X12_findInterest_111 : decode (px_cc M_X12_findInterest) 111 = .ok (.iaload, 1) := by decide +kernel
theorem d_X12_findInterest_112 : decode (px_cc M_X12_findInterest) 112 = .ok (.iastore, 1) := by decide +kernel
theorem d_X12_findInterest_113 : decode (px_cc M_X12_findInterest) 113 = .ok (.aload_n 0, 1) := by decide +kernel
theorem d_X12_findInterest_114 : decode (px_cc M_X12_findInterest) 114 = .ok (.getfield 78, 3) := by decide +kernel
theorem d_X12_findInterest_117 : decode (px_cc M_X12_findInterest) 117 = .ok (.iconst 1, 1) := by decide +kernel
theorem d_X12_findInterest_118 : decode (px_cc M_X12_findInterest) 118 = .ok (.iload 6, 2) := by decide +kernel
theorem d_X12_findInterest_120 : decode (px_cc M_X12_findInterest) 120 = .ok (.iastore, 1) := by decide +kernel
theorem d_X12_findInterest_121 : decode (px_cc M_X12_findInterest) 121 = .ok (.aload_n 0, 1) := by decide +kernel
theorem d_X12_findInterest_122 : decode (px_cc M_X12_findInterest) 122 = .ok (.getfield 78, 3) := by decide +kernel
theorem d_X12_findInterest_125 : decode (px_cc M_X12_findInterest) 125 = .ok (.iconst 2, 1) := by decide +kernel
theorem d_X12_findInterest_126 : decode (px_cc M_X12_findInterest) 126 = .ok (.bipush 30, 2) := by decide +kernel
theorem d_X12_findInterest_128 : decode (px_cc M_X12_findInterest) 128 = .ok (.iload 4, 2) := by decide +kernel
theorem d_X12_findInterest_130 : decode (px_cc M_X12_findInterest) 130 = .ok (.imul, 1) := by decide +kernel
theorem d_X12_findInterest_131 : decode (px_cc M_X12_findInterest) 131 = .ok (.bipush 29, 2) := by decide +kernel
theorem d_X12_findInterest_133 : decode (px_cc M_X12_findInterest) 133 = .ok (.iadd, 1) := by decide +kernel
theorem d_X12_findInterest_134 : decode (px_cc M_X12_findInterest) 134 = .ok (.aload_n 0, 1) := by decide +kernel
theorem d_X12_findInterest_135 : decode (px_cc M_X12_findInterest) 135 = .ok (.getfield 90, 3) := by decide +kernel
theorem d_X12_findInterest_138 : decode (px_cc M_X12_findInterest) 138 = .ok (.iload_n 1, 1) := by decide +kernel
theorem d_X12_findInterest_139 : decode (px_cc M_X12_findInterest) 139 = .ok (.iaload, 1) := by decide +kernel
theorem d_X12_findInterest_140 : decode (px_cc M_X12_findInterest) 140 = .ok (.isub, 1) := by decide +kernel
theorem d_X12_findInterest_141 : decode (px_cc M_X12_findInterest) 141 = .ok (.iastore, 1) := by decide +kernel
theorem d_X12_findInterest_142 : decode (px_cc M_X12_findInterest) 142 = .ok (.aload_n 0, 1) := by decide +kernel
theorem d_X12_findInterest_143 : decode (px_cc M_X12_findInterest) 143 = .ok (.getfield 78, 3) := by decide +kernel
theorem d_X12_findInterest_146 : decode (px_cc M_X12_findInterest) 146 = .ok (.iconst 3, 1) := by decide +kernel
theorem d_X12_findInterest_147 : decode (px_cc M_X12_findInterest) 147 = .ok (.iload 4, 2) := by decide +kernel
theorem d_X12_findInterest_149 : decode (px_cc M_X12_findInterest) 149 = .ok (.iastore, 1) := by decide +kernel
theorem d_X12_findInterest_150 : decode (px_cc M_X12_findInterest) 150 = .ok (.aload_n 0, 1) := by decide +kernel
theorem d_X12_findInterest_151 : decode (px_cc M_X12_findInterest) 151 = .ok (.getfield 78, 3) := by decide +kernel
theorem d_X12_findInterest_154 : decode (px_cc M_X12_findInterest) 154 = .ok (.iconst 4, 1) := by decide +kernel
theorem d_X12_findInterest_155 : decode (px_cc M_X12_findInterest) 155 = .ok (.bipush 29, 2) := by decide +kernel
theorem d_X12_findInterest_157 : decode (px_cc M_X12_findInterest) 157 = .ok (.iastore, 1) := by decide +kernel
theorem d_X12_findInterest_158 : decode (px_cc M_X12_findInterest) 158 = .ok (.iload 6, 2) := by decide +kernel
theorem d_X12_findInterest_160 : decode (px_cc M_X12_findInterest) 160 = .ok (.ifCond .ne 7, 3) := by decide +kernel
theorem d_X12_findInterest_163 : decode (px_cc M_X12_findInterest) 163 = .ok (.iconst 0, 1) := by decide +kernel
theorem d_X12_findInterest_164 : decode (px_cc M_X12_findInterest) 164 = .ok (.goto 17, 3) := by decide +kernel
theorem d_X12_findInterest_167 : decode (px_cc M_X12_findInterest) 167 = .ok (.aload_n 0, 1) := by decide +kernel
theorem d_X12_findInterest_168 : decode (px_cc M_X12_findInterest) 168 = .ok (.iconst 0, 1) := by decide +kernel
theorem d_X12_findInterest_169 : decode (px_cc M_X12_findInterest) 169 = .ok (.bipush 30, 2) := by decide +kernel
theorem d_X12_findInterest_171 : decode (px_cc M_X12_findInterest) 171 = .ok (.iload 4, 2) := by decide +kernel
theorem d_X12_findInterest_173 : decode (px_cc M_X12_findInterest) 173 = .ok (.imul, 1) := by decide +kernel
theorem d_X12_findInterest_174 : decode (px_cc M_X12_findInterest) 174 = .ok (.bipush 29, 2) := by decide +kernel
theorem d_X12_findInterest_176 : decode (px_cc M_X12_findInterest) 176 = .ok (.iadd, 1) := by decide +kernel
theorem d_X12_findInterest_177 : decode (px_cc M_X12_findInterest) 177 = .ok (.iload_n 2, 1) := by decide +kernel
theorem d_X12_findInterest_178 : decode (px_cc M_X12_findInterest) 178 = .ok (.invokevirtual 275, 3) := by decide +kernel
theorem d_X12_findInterest_181 : decode (px_cc M_X12_findInterest) 181 = .ok (.istore 7, 2) := by decide +kernel
theorem d_X12_findInterest_183 : decode (px_cc M_X12_findInterest) 183 = .ok (.aload_n 0, 1) := by decide +kernel
theorem d_X12_findInterest_184 : decode (px_cc M_X12_findInterest) 184 = .ok (.getfield 111, 3) := by decide +kernel
theorem d_X12_findInterest_187 : decode (px_cc M_X12_findInterest) 187 = .ok (.iload 4, 2) := by decide +kernel
theorem d_X12_findInterest_189 : decode (px_cc M_X12_findInterest) 189 = .ok (.iload 7, 2) := by decide +kernel
theorem d_X12_findInterest_191 : decode (px_cc M_X12_findInterest) 191 = .ok (.ifCond .gt 7, 3) := by decide +kernel
theorem d_X12_findInterest_194 : decode (px_cc M_X12_findInterest) 194 = .ok (.iconst 0, 1) := by decide +kernel
theorem d_X12_findInterest_195 : decode (px_cc M_X12_findInterest) 195 = .ok (.goto 11, 3) := by decide +kernel
theorem d_X12_findInterest_198 : decode (px_cc M_X12_findInterest) 198 = .ok (.iload 6, 2) := by decide +kernel
theorem d_X12_findInterest_200 : decode (px_cc M_X12_findInterest) 200 = .ok (.iload 7, 2) := by decide +kernel
theorem d_X12_findInterest_202 : decode (px_cc M_X12_findInterest) 202 = .ok (.imul, 1) := by decide +kernel
theorem d_X12_findInterest_203 : decode (px_cc M_X12_findInterest) 203 = .ok (.bipush 100, 2) := by decide +kernel
theorem d_X12_findInterest_205 : decode (px_cc M_X12_findInterest) 205 = .ok (.idiv, 1) := by decide +kernel
theorem d_X12_findInterest_206 : decode (px_cc M_X12_findInterest) 206 = .ok (.iastore, 1) := by decide +kernel
theorem d_X12_findInterest_207 : decode (px_cc M_X12_findInterest) 207 = .ok (.iload_n 3, 1) := by decide +kernel
theorem d_X12_findInterest_208 : decode (px_cc M_X12_findInterest) 208 = .ok (.aload_n 0, 1) := by decide +kernel
theorem d_X12_findInterest_209 : decode (px_cc M_X12_findInterest) 209 = .ok (.getfield 111, 3) := by decide +kernel
theorem d_X12_findInterest_212 : decode (px_cc M_X12_findInterest) 212 = .ok (.iload 4, 2) := by decide +kernel
theorem d_X12_findInterest_214 : decode (px_cc M_X12_findInterest) 214 = .ok (.iaload, 1) := by decide +kernel
theorem d_X12_findInterest_215 : decode (px_cc M_X12_findInterest) 215 = .ok (.iadd, 1) := by decide +kernel
theorem d_X12_findInterest_216 : decode (px_cc M_X12_findInterest) 216 = .ok (.istore_n 3, 1) := by decide +kernel
theorem d_X12_findInterest_217 : decode (px_cc M_X12_findInterest) 217 = .ok (.iinc 4 1, 3) := by decide +kernel
theorem d_X12_findInterest_220 : decode (px_cc M_X12_findInterest) 220 = .ok (.goto (-215), 3) := by decide +kernel
theorem d_X12_findInterest_223 : decode (px_cc M_X12_findInterest) 223 = .ok (.return_, 1) := by decide +kernel
theorem d_X12_balanceAt_0 : decode (px_cc M_X12_balanceAt) 0 = .ok (.aload_n 0, 1) := by decide +kernel
theorem d_X12_balanceAt_1 : decode (px_cc M_X12_balanceAt) 1 = .ok (.iload_n 1, 1) := by decide +kernel
theorem d_X12_balanceAt_2 : decode (px_cc M_X12_balanceAt) 2 = .ok (.iload_n 3, 1) := by decide +kernel
theorem d_X12_balanceAt_3 : decode (px_cc M_X12_balanceAt) 3 = .ok (.invokevirtual 279, 3) := by decide +kernel
theorem d_X12_balanceAt_6 : decode (px_cc M_X12_balanceAt) 6 = .ok (.aload_n 0, 1) := by decide +kernel
theorem d_X12_balanceAt_7 : decode (px_cc M_X12_balanceAt) 7 = .ok (.iload_n 1, 1) := by decide +kernel
theorem d_X12_balanceAt_8 : decode (px_cc M_X12_balanceAt) 8 = .ok (.iload_n 2, 1) := by decide +kernel
theorem d_X12_balanceAt_9 : decode (px_cc M_X12_balanceAt) 9 = .ok (.iload_n 3, 1) := by decide +kernel
theorem d_X12_balanceAt_10 : decode (px_cc M_X12_balanceAt) 10 = .ok (.invokevirtual 271, 3) := by decide +kernel
theorem d_X12_balanceAt_13 : decode (px_cc M_X12_balanceAt) 13 = .ok (.istore 4, 2) := by decide +kernel
theorem d_X12_balanceAt_15 : decode (px_cc M_X12_balanceAt) 15 = .ok (.iconst 0, 1) := by decide +kernel
theorem d_X12_balanceAt_16 : decode (px_cc M_X12_balanceAt) 16 = .ok (.istore 5, 2) := by decide +kernel
theorem d_X12_balanceAt_18 : decode (px_cc M_X12_balanceAt) 18 = .ok (.iload 5, 2) := by decide +kernel
theorem d_X12_balanceAt_20 : decode (px_cc M_X12_balanceAt) 20 = .ok (.bipush 24, 2) := by decide +kernel
theorem d_X12_balanceAt_22 : decode (px_cc M_X12_balanceAt) 22 = .ok (.if_icmp .ge 37, 3) := by decide +kernel
theorem d_X12_balanceAt_25 : decode (px_cc M_X12_balanceAt) 25 = .ok (.iload 4, 2) := by decide +kernel
theorem d_X12_balanceAt_27 : decode (px_cc M_X12_balanceAt) 27 = .ok (.bipush 30, 2) := by decide +kernel
theorem d_X12_balanceAt_29 : decode (px_cc M_X12_balanceAt) 29 = .ok (.iload 5, 2) := by decide +kernel
theorem d_X12_balanceAt_31 : decode (px_cc M_X12_balanceAt) 31 = .ok (.imul, 1) := by decide +kernel
theorem d_X12_balanceAt_32 : decode (px_cc M_X12_balanceAt) 32 = .ok (.bipush 29, 2) := by decide +kernel
theorem d_X12_balanceAt_34 : decode (px_cc M_X12_balanceAt) 34 = .ok (.iadd, 1) := by decide +kernel
theorem d_X12_balanceAt_35 : decode (px_cc M_X12_balanceAt) 35 = .ok (.iload_n 2, 1) := by decide +kernel
theorem d_X12_balanceAt_36 : decode (px_cc M_X12_balanceAt) 36 = .ok (.if_icmp .ge 13, 3) := by decide +kernel
theorem d_X12_balanceAt_39 : decode (px_cc M_X12_balanceAt) 39 = .ok (.aload_n 0, 1) := by decide +kernel
theorem d_X12_balanceAt_40 : decode (px_cc M_X12_balanceAt) 40 = .ok (.getfield 111, 3) := by decide +kernel
theorem d_X12_balanceAt_43 : decode (px_cc M_X12_balanceAt) 43 = .ok (.iload 5, 2) := by decide +kernel
theorem d_X12_balanceAt_45 : decode (px_cc M_X12_balanceAt) 45 = .ok (.iaload, 1) := by decide +kernel
theorem d_X12_balanceAt_46 : decode (px_cc M_X12_balanceAt) 46 = .ok (.goto 4, 3) := by decide +kernel
theorem d_X12_balanceAt_49 : decode (px_cc M_X12_balanceAt) 49 = .ok (.iconst 0, 1) := by decide +kernel
theorem d_X12_balanceAt_50 : decode (px_cc M_X12_balanceAt) 50 = .ok (.iadd, 1) := by decide +kernel
theorem d_X12_balanceAt_51 : decode (px_cc M_X12_balanceAt) 51 = .ok (.istore 4, 2) := by decide +kernel
theorem d_X12_balanceAt_53 : decode (px_cc M_X12_balanceAt) 53 = .ok (.iinc 5 1, 3) := by decide +kernel
theorem d_X12_balanceAt_56 : decode (px_cc M_X12_balanceAt) 56 = .ok (.goto (-38), 3) := by decide +kernel
theorem d_X12_balanceAt_59 : decode (px_cc M_X12_balanceAt) 59 = .ok (.iload 4, 2) := by decide +kernel
theorem d_X12_balanceAt_61 : decode (px_cc M_X12_balanceAt) 61 = .ok (.ireturn, 1) := by decide +kernel
theorem d_X12_balance_0 : decode (px_cc M_X12_balance) 0 = .ok (.aload_n 0, 1) := by decide +kernel
theorem d_X12_balance_1 : decode (px_cc M_X12_balance) 1 = .ok (.aload_n 0, 1) := by decide +kernel
theorem d_X12_balance_2 : decode (px_cc M_X12_balance) 2 = .ok (.iload_n 1, 1) := by decide +kernel
theorem d_X12_balance_3 : decode (px_cc M_X12_balance) 3 = .ok (.invokevirtual 262, 3) := by decide +kernel
theorem d_X12_balance_6 : decode (px_cc M_X12_balance) 6 = .ok (.ifCond .eq 30, 3) := by decide +kernel
theorem d_X12_balance_9 : decode (px_cc M_X12_balance) 9 = .ok (.iload_n 2, 1) := by decide +kernel
theorem d_X12_balance_10 : decode (px_cc M_X12_balance) 10 = .ok (.ifCond .lt 26, 3) := by decide +kernel
theorem d_X12_balance_13 : decode (px_cc M_X12_balance) 13 = .ok (.iload_n 2, 1) := by decide +kernel
theorem d_X12_balance_14 : decode (px_cc M_X12_balance) 14 = .ok (.sipush 719, 3) := by decide +kernel
theorem d_X12_balance_17 : decode (px_cc M_X12_balance) 17 = .ok (.if_icmp .gt 19, 3) := by decide +kernel
theorem d_X12_balance_20 : decode (px_cc M_X12_balance) 20 = .ok (.iload_n 3, 1) := by decide +kernel
theorem d_X12_balance_21 : decode (px_cc M_X12_balance) 21 = .ok (.ifCond .lt 15, 3) := by decide +kernel
theorem d_X12_balance_24 : decode (px_cc M_X12_balance) 24 = .ok (.iload_n 3, 1) := by decide +kernel
theorem d_X12_balance_25 : decode (px_cc M_X12_balance) 25 = .ok (.aload_n 0, 1) := by decide +kernel
theorem d_X12_balance_26 : decode (px_cc M_X12_balance) 26 = .ok (.getfield 218, 3) := by decide +kernel
theorem d_X12_balance_29 : decode (px_cc M_X12_balance) 29 = .ok (.if_icmp .gt 7, 3) := by decide +kernel
theorem d_X12_balance_32 : decode (px_cc M_X12_balance) 32 = .ok (.iconst 0, 1) := by decide +kernel
theorem d_X12_balance_33 : decode (px_cc M_X12_balance) 33 = .ok (.goto 4, 3) := by decide +kernel
theorem d_X12_balance_36 : decode (px_cc M_X12_balance) 36 = .ok (.iconst 1, 1) := by decide +kernel
theorem d_X12_balance_37 : decode (px_cc M_X12_balance) 37 = .ok (.putfield 150, 3) := by decide +kernel
theorem d_X12_balance_40 : decode (px_cc M_X12_balance) 40 = .ok (.aload_n 0, 1) := by decide +kernel
theorem d_X12_balance_41 : decode (px_cc M_X12_balance) 41 = .ok (.getfield 150, 3) := by decide +kernel
theorem d_X12_balance_44 : decode (px_cc M_X12_balance) 44 = .ok (.ifCond .le 7, 3) := by decide +kernel
theorem d_X12_balance_47 : decode (px_cc M_X12_balance) 47 = .ok (.iconst 0, 1) := by decide +kernel
theorem d_X12_balance_48 : decode (px_cc M_X12_balance) 48 = .ok (.goto 10, 3) := by decide +kernel
theorem d_X12_balance_51 : decode (px_cc M_X12_balance) 51 = .ok (.aload_n 0, 1) := by decide +kernel
theorem d_X12_balance_52 : decode (px_cc M_X12_balance) 52 = .ok (.iload_n 1, 1) := by decide +kernel
theorem d_X12_balance_53 : decode (px_cc M_X12_balance) 53 = .ok (.iload_n 2, 1) := by decide +kernel
theorem d_X12_balance_54 : decode (px_cc M_X12_balance) 54 = .ok (.iload_n 3, 1) := by decide +kernel
theorem d_X12_balance_55 : decode (px_cc M_X12_balance) 55 = .ok (.invokevirtual 282, 3) := by decide +kernel
theorem d_X12_balance_58 : decode (px_cc M_X12_balance) 58 = .ok (.ireturn, 1) := by decide +kernel
theorem d_X12_interest_0 : decode (px_cc M_X12_interest) 0 = .ok (.aload_n 0, 1) := by decide +kernel
theorem d_X12_interest_1 : decode (px_cc M_X12_interest) 1 = .ok (.aload_n 0, 1) := by decide +kernel
theorem d_X12_interest_2 : decode (px_cc M_X12_interest) 2 = .ok (.iload_n 1, 1) := by decide +kernel
theorem d_X12_interest_3 : decode (px_cc M_X12_interest) 3 = .ok (.invokevirtual 262, 3) := by decide +kernel
theorem d_X12_interest_6 : decode (px_cc M_X12_interest) 6 = .ok (.ifCond .eq 29, 3) := by decide +kernel
theorem d_X12_interest_9 : decode (px_cc M_X12_interest) 9 = .ok (.iload_n 2, 1) := by decide +kernel
theorem d_X12_interest_10 : decode (px_cc M_X12_interest) 10 = .ok (.ifCond .lt 25, 3) := by decide +kernel
theorem d_X12_interest_13 : decode (px_cc M_X12_interest) 13 = .ok (.iload_n 2, 1) := by decide +kernel
theorem d_X12_interest_14 : decode (px_cc M_X12_interest) 14 = .ok (.bipush 23, 2) := by decide +kernel
theorem d_X12_interest_16 : decode (px_cc M_X12_interest) 16 = .ok (.if_icmp .gt 19, 3) := by decide +kernel
theorem d_X12_interest_19 : decode (px_cc M_X12_interest) 19 = .ok (.iload_n 3, 1) := by decide +kernel
theorem d_X12_interest_20 : decode (px_cc M_X12_interest) 20 = .ok (.ifCond .lt 15, 3) := by decide +kernel
theorem d_X12_interest_23 : decode (px_cc M_X12_interest) 23 = .ok (.iload_n 3, 1) := by decide +kernel
theorem d_X12_interest_24 : decode (px_cc M_X12_interest) 24 = .ok (.aload_n 0, 1) := by decide +kernel
theorem d_X12_interest_25 : decode (px_cc M_X12_interest) 25 = .ok (.getfield 218, 3) := by decide +kernel
theorem d_X12_interest_28 : decode (px_cc M_X12_interest) 28 = .ok (.if_icmp .gt 7, 3) := by decide +kernel
theorem d_X12_interest_31 : decode (px_cc M_X12_interest) 31 = .ok (.iconst 0, 1) := by decide +kernel
theorem d_X12_interest_32 : decode (px_cc M_X12_interest) 32 = .ok (.goto 4, 3) := by decide +kernel
theorem d_X12_interest_35 : decode (px_cc M_X12_interest) 35 = .ok (.iconst 1, 1) := by decide +kernel
theorem d_X12_interest_36 : decode (px_cc M_X12_interest) 36 = .ok (.putfield 150, 3) := by decide +kernel
theorem d_X12_interest_39 : decode (px_cc M_X12_interest) 39 = .ok (.aload_n 0, 1) := by decide +kernel
theorem d_X12_interest_40 : decode (px_cc M_X12_interest) 40 = .ok (.getfield 150, 3) := by decide +kernel
theorem d_X12_interest_43 : decode (px_cc M_X12_interest) 43 = .ok (.ifCond .le 5, 3) := by decide +kernel
theorem d_X12_interest_46 : decode (px_cc M_X12_interest) 46 = .ok (.iconst 0, 1) := by decide +kernel
theorem d_X12_interest_47 : decode (px_cc M_X12_interest) 47 = .ok (.ireturn, 1) := by decide +kernel
theorem d_X12_interest_48 : decode (px_cc M_X12_interest) 48 = .ok (.aload_n 0, 1) := by decide +kernel
theorem d_X12_interest_49 : decode (px_cc M_X12_interest) 49 = .ok (.iload_n 1, 1) := by decide +kernel
theorem d_X12_interest_50 : decode (px_cc M_X12_interest) 50 = .ok (.iload_n 3, 1) := by decide +kernel
theorem d_X12_interest_51 : decode (px_cc M_X12_interest) 51 = .ok (.invokevirtual 279, 3) := by decide +kernel
theorem d_X12_interest_54 : decode (px_cc M_X12_interest) 54 = .ok (.aload_n 0, 1) := by decide +kernel
theorem d_X12_interest_55 : decode (px_cc M_X12_interest) 55 = .ok (.getfield 111, 3) := by decide +kernel
theorem d_X12_interest_58 : decode (px_cc M_X12_interest) 58 = .ok (.iload_n 2, 1) := by decide +kernel
theorem d_X12_interest_59 : decode (px_cc M_X12_interest) 59 = .ok (.iaload, 1) := by decide +kernel
theorem d_X12_interest_60 : decode (px_cc M_X12_interest) 60 = .ok (.ireturn, 1) := by decide +kernel
theorem d_X12_notice_0 : decode (px_cc M_X12_notice) 0 = .ok (.aload_n 0, 1) := by decide +kernel
theorem d_X12_notice_1 : decode (px_cc M_X12_notice) 1 = .ok (.iconst 0, 1) := by decide +kernel
theorem d_X12_notice_2 : decode (px_cc M_X12_notice) 2 = .ok (.putfield 150, 3) := by decide +kernel
theorem d_X12_notice_5 : decode (px_cc M_X12_notice) 5 = .ok (.aload_n 0, 1) := by decide +kernel
theorem d_X12_notice_6 : decode (px_cc M_X12_notice) 6 = .ok (.iload_n 1, 1) := by decide +kernel
theorem d_X12_notice_7 : decode (px_cc M_X12_notice) 7 = .ok (.invokevirtual 262, 3) := by decide +kernel
theorem d_X12_notice_10 : decode (px_cc M_X12_notice) 10 = .ok (.ifCond .eq 34, 3) := by decide +kernel
theorem d_X12_notice_13 : decode (px_cc M_X12_notice) 13 = .ok (.aload_n 0, 1) := by decide +kernel
theorem d_X12_notice_14 : decode (px_cc M_X12_notice) 14 = .ok (.getfield 84, 3) := by decide +kernel
theorem d_X12_notice_17 : decode (px_cc M_X12_notice) 17 = .ok (.iload_n 1, 1) := by decide +kernel
theorem d_X12_notice_18 : decode (px_cc M_X12_notice) 18 = .ok (.iaload, 1) := by decide +kernel
theorem d_X12_notice_19 : decode (px_cc M_X12_notice) 19 = .ok (.iconst 3, 1) := by decide +kernel
theorem d_X12_notice_20 : decode (px_cc M_X12_notice) 20 = .ok (.if_icmp .ne 24, 3) := by decide +kernel
theorem d_X12_notice_23 : decode (px_cc M_X12_notice) 23 = .ok (.iload_n 2, 1) := by decide +kernel
theorem d_X12_notice_24 : decode (px_cc M_X12_notice) 24 = .ok (.iconst 1, 1) := by decide +kernel
theorem d_X12_notice_25 : decode (px_cc M_X12_notice) 25 = .ok (.if_icmp .lt 19, 3) := by decide +kernel
theorem d_X12_notice_28 : decode (px_cc M_X12_notice) 28 = .ok (.iload_n 2, 1) := by decide +kernel
theorem d_X12_notice_29 : decode (px_cc M_X12_notice) 29 = .ok (.ldc_w 266, 3) := by decide +kernel
theorem d_X12_notice_32 : decode (px_cc M_X12_notice) 32 = .ok (.if_icmp .gt 12, 3) := by decide +kernel
theorem d_X12_notice_35 : decode (px_cc M_X12_notice) 35 = .ok (.aload_n 0, 1) := by decide +kernel
theorem d_X12_notice_36 : decode (px_cc M_X12_notice) 36 = .ok (.getfield 285, 3) := by decide +kernel
theorem d_X12_notice_39 : decode (px_cc M_X12_notice) 39 = .ok (.bipush 60, 2) := by decide +kernel
theorem d_X12_notice_41 : decode (px_cc M_X12_notice) 41 = .ok (.if_icmp .ne 5, 3) := by decide +kernel
theorem d_X12_notice_44 : decode (px_cc M_X12_notice) 44 = .ok (.iconst 0, 1) := by decide +kernel
theorem d_X12_notice_45 : decode (px_cc M_X12_notice) 45 = .ok (.ireturn, 1) := by decide +kernel
theorem d_X12_notice_46 : decode (px_cc M_X12_notice) 46 = .ok (.aload_n 0, 1) := by decide +kernel
theorem d_X12_notice_47 : decode (px_cc M_X12_notice) 47 = .ok (.getfield 114, 3) := by decide +kernel
theorem d_X12_notice_50 : decode (px_cc M_X12_notice) 50 = .ok (.aload_n 0, 1) := by decide +kernel
theorem d_X12_notice_51 : decode (px_cc M_X12_notice) 51 = .ok (.getfield 285, 3) := by decide +kernel
theorem d_X12_notice_54 : decode (px_cc M_X12_notice) 54 = .ok (.iload_n 1, 1) := by decide +kernel
theorem d_X12_notice_55 : decode (px_cc M_X12_notice) 55 = .ok (.iastore, 1) := by decide +kernel
theorem d_X12_notice_56 : decode (px_cc M_X12_notice) 56 = .ok (.aload_n 0, 1) := by decide +kernel
theorem d_X12_notice_57 : decode (px_cc M_X12_notice) 57 = .ok (.getfield 117, 3) := by decide +kernel
theorem d_X12_notice_60 : decode (px_cc M_X12_notice) 60 = .ok (.aload_n 0, 1) := by decide +kernel
theorem d_X12_notice_61 : decode (px_cc M_X12_notice) 61 = .ok (.getfield 285, 3) := by decide +kernel
theorem d_X12_notice_64 : decode (px_cc M_X12_notice) 64 = .ok (.aload_n 0, 1) := by decide +kernel
theorem d_X12_notice_65 : decode (px_cc M_X12_notice) 65 = .ok (.getfield 218, 3) := by decide +kernel
theorem d_X12_notice_68 : decode (px_cc M_X12_notice) 68 = .ok (.iastore, 1) := by decide +kernel
theorem d_X12_notice_69 : decode (px_cc M_X12_notice) 69 = .ok (.aload_n 0, 1) := by decide +kernel
theorem d_X12_notice_70 : decode (px_cc M_X12_notice) 70 = .ok (.getfield 120, 3) := by decide +kernel
theorem d_X12_notice_73 : decode (px_cc M_X12_notice) 73 = .ok (.aload_n 0, 1) := by decide +kernel
theorem d_X12_notice_74 : decode (px_cc M_X12_notice) 74 = .ok (.getfield 285, 3) := by decide +kernel
theorem d_X12_notice_77 : decode (px_cc M_X12_notice) 77 = .ok (.iload_n 2, 1) := by decide +kernel
theorem d_X12_notice_78 : decode (px_cc M_X12_notice) 78 = .ok (.iastore, 1) := by decide +kernel
theorem d_X12_notice_79 : decode (px_cc M_X12_notice) 79 = .ok (.aload_n 0, 1) := by decide +kernel
theorem d_X12_notice_80 : decode (px_cc M_X12_notice) 80 = .ok (.dup, 1) := by decide +kernel
theorem d_X12_notice_81 : decode (px_cc M_X12_notice) 81 = .ok (.getfield 285, 3) := by decide +kernel
theorem d_X12_notice_84 : decode (px_cc M_X12_notice) 84 = .ok (.iconst 1, 1) := by decide +kernel
theorem d_X12_notice_85 : decode (px_cc M_X12_notice) 85 = .ok (.iadd, 1) := by decide +kernel
theorem d_X12_notice_86 : decode (px_cc M_X12_notice) 86 = .ok (.putfield 285, 3) := by decide +kernel
theorem d_X12_notice_89 : decode (px_cc M_X12_notice) 89 = .ok (.iconst 1, 1) := by decide +kernel
theorem d_X12_notice_90 : decode (px_cc M_X12_notice) 90 = .ok (.ireturn, 1) := by decide +kernel
theorem d_X12_noticeFor_0 : decode (px_cc M_X12_noticeFor) 0 = .ok (.iconst 0, 1) := by decide +kernel
theorem d_X12_noticeFor_1 : decode (px_cc M_X12_noticeFor) 1 = .ok (.istore_n 3, 1) := by decide +kernel
theorem d_X12_noticeFor_2 : decode (px_cc M_X12_noticeFor) 2 = .ok (.iload_n 3, 1) := by decide +kernel
theorem d_X12_noticeFor_3 : decode (px_cc M_X12_noticeFor) 3 = .ok (.aload_n 0, 1) := by decide +kernel
theorem d_X12_noticeFor_4 : decode (px_cc M_X12_noticeFor) 4 = .ok (.getfield 285, 3) := by decide +kernel
theorem d_X12_noticeFor_7 : decode (px_cc M_X12_noticeFor) 7 = .ok (.if_icmp .ge 60, 3) := by decide +kernel
theorem d_X12_noticeFor_10 : decode (px_cc M_X12_noticeFor) 10 = .ok (.aload_n 0, 1) := by decide +kernel
theorem d_X12_noticeFor_11 : decode (px_cc M_X12_noticeFor) 11 = .ok (.getfield 114, 3) := by decide +kernel
theorem d_X12_noticeFor_14 : decode (px_cc M_X12_noticeFor) 14 = .ok (.iload_n 3, 1) := by decide +kernel
theorem d_X12_noticeFor_15 : decode (px_cc M_X12_noticeFor) 15 = .ok (.iaload, 1) := by decide +kernel
theorem d_X12_noticeFor_16 : decode (px_cc M_X12_noticeFor) 16 = .ok (.iload_n 1, 1) := by decide +kernel
theorem d_X12_noticeFor_17 : decode (px_cc M_X12_noticeFor) 17 = .ok (.if_icmp .ne 44, 3) := by decide +kernel
theorem d_X12_noticeFor_20 : decode (px_cc M_X12_noticeFor) 20 = .ok (.aload_n 0, 1) := by decide +kernel
theorem d_X12_noticeFor_21 : decode (px_cc M_X12_noticeFor) 21 = .ok (.getfield 123, 3) := by decide +kernel
theorem d_X12_noticeFor_24 : decode (px_cc M_X12_noticeFor) 24 = .ok (.iload_n 3, 1) := by decide +kernel
theorem d_X12_noticeFor_25 : decode (px_cc M_X12_noticeFor) 25 = .ok (.baload, 1) := by decide +kernel
theorem d_X12_noticeFor_26 : decode (px_cc M_X12_noticeFor) 26 = .ok (.ifCond .ne 35, 3) := by decide +kernel
theorem d_X12_noticeFor_29 : decode (px_cc M_X12_noticeFor) 29 = .ok (.aload_n 0, 1) := by decide +kernel
theorem d_X12_noticeFor_30 : decode (px_cc M_X12_noticeFor) 30 = .ok (.getfield 120, 3) := by decide +kernel
theorem d_X12_noticeFor_33 : decode (px_cc M_X12_noticeFor) 33 = .ok (.iload_n 3, 1) := by decide +kernel
theorem d_X12_noticeFor_34 : decode (px_cc M_X12_noticeFor) 34 = .ok (.iaload, 1) := by decide +kernel
theorem d_X12_noticeFor_35 : decode (px_cc M_X12_noticeFor) 35 = .ok (.iload_n 2, 1) := by decide +kernel
theorem d_X12_noticeFor_36 : decode (px_cc M_X12_noticeFor) 36 = .ok (.if_icmp .lt 25, 3) := by decide +kernel
theorem d_X12_noticeFor_39 : decode (px_cc M_X12_noticeFor) 39 = .ok (.aload_n 0, 1) := by decide +kernel
theorem d_X12_noticeFor_40 : decode (px_cc M_X12_noticeFor) 40 = .ok (.getfield 117, 3) := by decide +kernel
theorem d_X12_noticeFor_43 : decode (px_cc M_X12_noticeFor) 43 = .ok (.iload_n 3, 1) := by decide +kernel
theorem d_X12_noticeFor_44 : decode (px_cc M_X12_noticeFor) 44 = .ok (.iaload, 1) := by decide +kernel
theorem d_X12_noticeFor_45 : decode (px_cc M_X12_noticeFor) 45 = .ok (.aload_n 0, 1) := by decide +kernel
theorem d_X12_noticeFor_46 : decode (px_cc M_X12_noticeFor) 46 = .ok (.getfield 218, 3) := by decide +kernel
theorem d_X12_noticeFor_49 : decode (px_cc M_X12_noticeFor) 49 = .ok (.aload_n 0, 1) := by decide +kernel
theorem d_X12_noticeFor_50 : decode (px_cc M_X12_noticeFor) 50 = .ok (.getfield 87, 3) := by decide +kernel
theorem d_X12_noticeFor_53 : decode (px_cc M_X12_noticeFor) 53 = .ok (.iload_n 1, 1) := by decide +kernel
theorem d_X12_noticeFor_54 : decode (px_cc M_X12_noticeFor) 54 = .ok (.iaload, 1) := by decide +kernel
theorem d_X12_noticeFor_55 : decode (px_cc M_X12_noticeFor) 55 = .ok (.isub, 1) := by decide +kernel
theorem d_X12_noticeFor_56 : decode (px_cc M_X12_noticeFor) 56 = .ok (.if_icmp .gt 5, 3) := by decide +kernel
theorem d_X12_noticeFor_59 : decode (px_cc M_X12_noticeFor) 59 = .ok (.iload_n 3, 1) := by decide +kernel
theorem d_X12_noticeFor_60 : decode (px_cc M_X12_noticeFor) 60 = .ok (.ireturn, 1) := by decide +kernel
theorem d_X12_noticeFor_61 : decode (px_cc M_X12_noticeFor) 61 = .ok (.iinc 3 1, 3) := by decide +kernel
theorem d_X12_noticeFor_64 : decode (px_cc M_X12_noticeFor) 64 = .ok (.goto (-62), 3) := by decide +kernel
theorem d_X12_noticeFor_67 : decode (px_cc M_X12_noticeFor) 67 = .ok (.iconst (-1), 1) := by decide +kernel
theorem d_X12_noticeFor_68 : decode (px_cc M_X12_noticeFor) 68 = .ok (.ireturn, 1) := by decide +kernel
theorem d_X12_isSigned_0 : decode (px_cc M_X12_isSigned) 0 = .ok (.aload_n 0, 1) := by decide +kernel
theorem d_X12_isSigned_1 : decode (px_cc M_X12_isSigned) 1 = .ok (.getfield 84, 3) := by decide +kernel
theorem d_X12_isSigned_4 : decode (px_cc M_X12_isSigned) 4 = .ok (.iload_n 1, 1) := by decide +kernel
theorem d_X12_isSigned_5 : decode (px_cc M_X12_isSigned) 5 = .ok (.iaload, 1) := by decide +kernel
theorem d_X12_isSigned_6 : decode (px_cc M_X12_isSigned) 6 = .ok (.iconst 1, 1) := by decide +kernel
theorem d_X12_isSigned_7 : decode (px_cc M_X12_isSigned) 7 = .ok (.if_icmp .ne 31, 3) := by decide +kernel
theorem d_X12_isSigned_10 : decode (px_cc M_X12_isSigned) 10 = .ok (.aload_n 0, 1) := by decide +kernel
theorem d_X12_isSigned_11 : decode (px_cc M_X12_isSigned) 11 = .ok (.getfield 218, 3) := by decide +kernel
theorem d_X12_isSigned_14 : decode (px_cc M_X12_isSigned) 14 = .ok (.aload_n 0, 1) := by decide +kernel
theorem d_X12_isSigned_15 : decode (px_cc M_X12_isSigned) 15 = .ok (.getfield 87, 3) := by decide +kernel
theorem d_X12_isSigned_18 : decode (px_cc M_X12_isSigned) 18 = .ok (.iload_n 1, 1) := by decide +kernel
theorem d_X12_isSigned_19 : decode (px_cc M_X12_isSigned) 19 = .ok (.iaload, 1) := by decide +kernel
theorem d_X12_isSigned_20 : decode (px_cc M_X12_isSigned) 20 = .ok (.if_icmp .ge 18, 3) := by decide +kernel
theorem d_X12_isSigned_23 : decode (px_cc M_X12_isSigned) 23 = .ok (.iload_n 2, 1) := by decide +kernel
theorem d_X12_isSigned_24 : decode (px_cc M_X12_isSigned) 24 = .ok (.bipush 8, 2) := by decide +kernel
theorem d_X12_isSigned_26 : decode (px_cc M_X12_isSigned) 26 = .ok (.iand, 1) := by decide +kernel
theorem d_X12_isSigned_27 : decode (px_cc M_X12_isSigned) 27 = .ok (.bipush 8, 2) := by decide +kernel
theorem d_X12_isSigned_29 : decode (px_cc M_X12_isSigned) 29 = .ok (.if_icmp .ne 7, 3) := by decide +kernel
theorem d_X12_isSigned_32 : decode (px_cc M_X12_isSigned) 32 = .ok (.iconst 1, 1) := by decide +kernel
theorem d_X12_isSigned_33 : decode (px_cc M_X12_isSigned) 33 = .ok (.goto 4, 3) := by decide +kernel
theorem d_X12_isSigned_36 : decode (px_cc M_X12_isSigned) 36 = .ok (.iconst 0, 1) := by decide +kernel
theorem d_X12_isSigned_37 : decode (px_cc M_X12_isSigned) 37 = .ok (.ireturn, 1) := by decide +kernel
theorem d_X12_isSigned_38 : decode (px_cc M_X12_isSigned) 38 = .ok (.aload_n 0, 1) := by decide +kernel
theorem d_X12_isSigned_39 : decode (px_cc M_X12_isSigned) 39 = .ok (.getfield 84, 3) := by decide +kernel
theorem d_X12_isSigned_42 : decode (px_cc M_X12_isSigned) 42 = .ok (.iload_n 1, 1) := by decide +kernel
theorem d_X12_isSigned_43 : decode (px_cc M_X12_isSigned) 43 = .ok (.iaload, 1) := by decide +kernel
theorem d_X12_isSigned_44 : decode (px_cc M_X12_isSigned) 44 = .ok (.iconst 2, 1) := by decide +kernel
theorem d_X12_isSigned_45 : decode (px_cc M_X12_isSigned) 45 = .ok (.if_icmp .ne 28, 3) := by decide +kernel
theorem d_X12_isSigned_48 : decode (px_cc M_X12_isSigned) 48 = .ok (.iload_n 2, 1) := by decide +kernel
theorem d_X12_isSigned_49 : decode (px_cc M_X12_isSigned) 49 = .ok (.iconst 1, 1) := by decide +kernel
theorem d_X12_isSigned_50 : decode (px_cc M_X12_isSigned) 50 = .ok (.iand, 1) := by decide +kernel
theorem d_X12_isSigned_51 : decode (px_cc M_X12_isSigned) 51 = .ok (.iload_n 2, 1) := by decide +kernel
theorem d_X12_isSigned_52 : decode (px_cc M_X12_isSigned) 52 = .ok (.iconst 1, 1) := by decide +kernel
theorem d_X12_isSigned_53 : decode (px_cc M_X12_isSigned) 53 = .ok (.ishr, 1) := by decide +kernel
theorem d_X12_isSigned_54 : decode (px_cc M_X12_isSigned) 54 = .ok (.iconst 1, 1) := by decide +kernel
theorem d_X12_isSigned_55 : decode (px_cc M_X12_isSigned) 55 = .ok (.iand, 1) := by decide +kernel
theorem d_X12_isSigned_56 : decode (px_cc M_X12_isSigned) 56 = .ok (.iadd, 1) := by decide +kernel
theorem d_X12_isSigned_57 : decode (px_cc M_X12_isSigned) 57 = .ok (.iload_n 2, 1) := by decide +kernel
theorem d_X12_isSigned_58 : decode (px_cc M_X12_isSigned) 58 = .ok (.iconst 2, 1) := by decide +kernel
theorem d_X12_isSigned_59 : decode (px_cc M_X12_isSigned) 59 = .ok (.ishr, 1) := by decide +kernel
theorem d_X12_isSigned_60 : decode (px_cc M_X12_isSigned) 60 = .ok (.iconst 1, 1) := by decide +kernel
theorem d_X12_isSigned_61 : decode (px_cc M_X12_isSigned) 61 = .ok (.iand, 1) := by decide +kernel
theorem d_X12_isSigned_62 : decode (px_cc M_X12_isSigned) 62 = .ok (.iadd, 1) := by decide +kernel
theorem d_X12_isSigned_63 : decode (px_cc M_X12_isSigned) 63 = .ok (.iconst 2, 1) := by decide +kernel
theorem d_X12_isSigned_64 : decode (px_cc M_X12_isSigned) 64 = .ok (.if_icmp .lt 7, 3) := by decide +kernel
theorem d_X12_isSigned_67 : decode (px_cc M_X12_isSigned) 67 = .ok (.iconst 1, 1) := by decide +kernel
theorem d_X12_isSigned_68 : decode (px_cc M_X12_isSigned) 68 = .ok (.goto 4, 3) := by decide +kernel
theorem d_X12_isSigned_71 : decode (px_cc M_X12_isSigned) 71 = .ok (.iconst 0, 1) := by decide +kernel
theorem d_X12_isSigned_72 : decode (px_cc M_X12_isSigned) 72 = .ok (.ireturn, 1) := by decide +kernel
theorem d_X12_isSigned_73 : decode (px_cc M_X12_isSigned) 73 = .ok (.iload_n 2, 1) := by decide +kernel
theorem d_X12_isSigned_74 : decode (px_cc M_X12_isSigned) 74 = .ok (.iconst 1, 1) := by decide +kernel
theorem d_X12_isSigned_75 : decode (px_cc M_X12_isSigned) 75 = .ok (.iand, 1) := by decide +kernel
theorem d_X12_isSigned_76 : decode (px_cc M_X12_isSigned) 76 = .ok (.iconst 1, 1) := by decide +kernel
theorem d_X12_isSigned_77 : decode (px_cc M_X12_isSigned) 77 = .ok (.if_icmp .ne 7, 3) := by decide +kernel
theorem d_X12_isSigned_80 : decode (px_cc M_X12_isSigned) 80 = .ok (.iconst 1, 1) := by decide +kernel
theorem d_X12_isSigned_81 : decode (px_cc M_X12_isSigned) 81 = .ok (.goto 4, 3) := by decide +kernel
theorem d_X12_isSigned_84 : decode (px_cc M_X12_isSigned) 84 = .ok (.iconst 0, 1) := by decide +kernel
theorem d_X12_isSigned_85 : decode (px_cc M_X12_isSigned) 85 = .ok (.ireturn, 1) := by decide +kernel
theorem d_X12_drawnNow_0 : decode (px_cc M_X12_drawnNow) 0 = .ok (.iconst 0, 1) := by decide +kernel
theorem d_X12_drawnNow_1 : decode (px_cc M_X12_drawnNow) 1 = .ok (.istore_n 2, 1) := by decide +kernel
theorem d_X12_drawnNow_2 : decode (px_cc M_X12_drawnNow) 2 = .ok (.iconst 0, 1) := by decide +kernel
theorem d_X12_drawnNow_3 : decode (px_cc M_X12_drawnNow) 3 = .ok (.istore_n 3, 1) := by decide +kernel
theorem d_X12_drawnNow_4 : decode (px_cc M_X12_drawnNow) 4 = .ok (.iload_n 3, 1) := by decide +kernel
theorem d_X12_drawnNow_5 : decode (px_cc M_X12_drawnNow) 5 = .ok (.aload_n 0, 1) := by decide +kernel
theorem d_X12_drawnNow_6 : decode (px_cc M_X12_drawnNow) 6 = .ok (.getfield 259, 3) := by decide +kernel
theorem d_X12_drawnNow_9 : decode (px_cc M_X12_drawnNow) 9 = .ok (.if_icmp .ge 55, 3) := by decide +kernel
theorem d_X12_drawnNow_12 : decode (px_cc M_X12_drawnNow) 12 = .ok (.iload_n 2, 1) := by decide +kernel
theorem d_X12_drawnNow_13 : decode (px_cc M_X12_drawnNow) 13 = .ok (.aload_n 0, 1) := by decide +kernel
theorem d_X12_drawnNow_14 : decode (px_cc M_X12_drawnNow) 14 = .ok (.getfield 96, 3) := by decide +kernel
theorem d_X12_drawnNow_17 : decode (px_cc M_X12_drawnNow) 17 = .ok (.iload_n 3, 1) := by decide +kernel
theorem d_X12_drawnNow_18 : decode (px_cc M_X12_drawnNow) 18 = .ok (.iaload, 1) := by decide +kernel
theorem d_X12_drawnNow_19 : decode (px_cc M_X12_drawnNow) 19 = .ok (.iload_n 1, 1) := by decide +kernel
theorem d_X12_drawnNow_20 : decode (px_cc M_X12_drawnNow) 20 = .ok (.if_icmp .ne 35, 3) := by decide +kernel
theorem d_X12_drawnNow_23 : decode (px_cc M_X12_drawnNow) 23 = .ok (.aload_n 0, 1) := by decide +kernel
theorem d_X12_drawnNow_24 : decode (px_cc M_X12_drawnNow) 24 = .ok (.getfield 99, 3) := by decide +kernel
theorem d_X12_drawnNow_27 : decode (px_cc M_X12_drawnNow) 27 = .ok (.iload_n 3, 1) := by decide +kernel
theorem d_X12_drawnNow_28 : decode (px_cc M_X12_drawnNow) 28 = .ok (.iaload, 1) := by decide +kernel
theorem d_X12_drawnNow_29 : decode (px_cc M_X12_drawnNow) 29 = .ok (.aload_n 0, 1) := by decide +kernel
theorem d_X12_drawnNow_30 : decode (px_cc M_X12_drawnNow) 30 = .ok (.getfield 218, 3) := by decide +kernel
theorem d_X12_drawnNow_33 : decode (px_cc M_X12_drawnNow) 33 = .ok (.if_icmp .ne 22, 3) := by decide +kernel
theorem d_X12_drawnNow_36 : decode (px_cc M_X12_drawnNow) 36 = .ok (.aload_n 0, 1) := by decide +kernel
theorem d_X12_drawnNow_37 : decode (px_cc M_X12_drawnNow) 37 = .ok (.getfield 102, 3) := by decide +kernel
theorem d_X12_drawnNow_40 : decode (px_cc M_X12_drawnNow) 40 = .ok (.iload_n 3, 1) := by decide +kernel
theorem d_X12_drawnNow_41 : decode (px_cc M_X12_drawnNow) 41 = .ok (.iaload, 1) := by decide +kernel
theorem d_X12_drawnNow_42 : decode (px_cc M_X12_drawnNow) 42 = .ok (.ifCond .ge 13, 3) := by decide +kernel
theorem d_X12_drawnNow_45 : decode (px_cc M_X12_drawnNow) 45 = .ok (.aload_n 0, 1) := by decide +kernel
theorem d_X12_drawnNow_46 : decode (px_cc M_X12_drawnNow) 46 = .ok (.getfield 102, 3) := by decide +kernel
theorem d_X12_drawnNow_49 : decode (px_cc M_X12_drawnNow) 49 = .ok (.iload_n 3, 1) := by decide +kernel
theorem d_X12_drawnNow_50 : decode (px_cc M_X12_drawnNow) 50 = .ok (.iaload, 1) := by decide +kernel
theorem d_X12_drawnNow_51 : decode (px_cc M_X12_drawnNow) 51 = .ok (.ineg, 1) := by decide +kernel
theorem d_X12_drawnNow_52 : decode (px_cc M_X12_drawnNow) 52 = .ok (.goto 4, 3) := by decide +kernel
theorem d_X12_drawnNow_55 : decode (px_cc M_X12_drawnNow) 55 = .ok (.iconst 0, 1) := by decide +kernel
theorem d_X12_drawnNow_56 : decode (px_cc M_X12_drawnNow) 56 = .ok (.iadd, 1) := by decide +kernel
theorem d_X12_drawnNow_57 : decode (px_cc M_X12_drawnNow) 57 = .ok (.istore_n 2, 1) := by decide +kernel
theorem d_X12_drawnNow_58 : decode (px_cc M_X12_drawnNow) 58 = .ok (.iinc 3 1, 3) := by decide +kernel
theorem d_X12_drawnNow_61 : decode (px_cc M_X12_drawnNow) 61 = .ok (.goto (-57), 3) := by decide +kernel
theorem d_X12_drawnNow_64 : decode (px_cc M_X12_drawnNow) 64 = .ok (.iload_n 2, 1) := by decide +kernel
theorem d_X12_drawnNow_65 : decode (px_cc M_X12_drawnNow) 65 = .ok (.ireturn, 1) := by decide +kernel
theorem d_X12_isLimited_0 : decode (px_cc M_X12_isLimited) 0 = .ok (.aload_n 0, 1) := by decide +kernel
theorem d_X12_isLimited_1 : decode (px_cc M_X12_isLimited) 1 = .ok (.getfield 218, 3) := by decide +kernel
theorem d_X12_isLimited_4 : decode (px_cc M_X12_isLimited) 4 = .ok (.ifCond .ne 7, 3) := by decide +kernel
theorem d_X12_isLimited_7 : decode (px_cc M_X12_isLimited) 7 = .ok (.iconst 0, 1) := by decide +kernel
theorem d_X12_isLimited_8 : decode (px_cc M_X12_isLimited) 8 = .ok (.goto 18, 3) := by decide +kernel
theorem d_X12_isLimited_11 : decode (px_cc M_X12_isLimited) 11 = .ok (.aload_n 0, 1) := by decide +kernel
theorem d_X12_isLimited_12 : decode (px_cc M_X12_isLimited) 12 = .ok (.iload_n 1, 1) := by decide +kernel
theorem d_X12_isLimited_13 : decode (px_cc M_X12_isLimited) 13 = .ok (.aload_n 0, 1) := by decide +kernel
theorem d_X12_isLimited_14 : decode (px_cc M_X12_isLimited) 14 = .ok (.getfield 218, 3) := by decide +kernel
theorem d_X12_isLimited_17 : decode (px_cc M_X12_isLimited) 17 = .ok (.iconst 1, 1) := by decide +kernel
theorem d_X12_isLimited_18 : decode (px_cc M_X12_isLimited) 18 = .ok (.isub, 1) := by decide +kernel
theorem d_X12_isLimited_19 : decode (px_cc M_X12_isLimited) 19 = .ok (.aload_n 0, 1) := by decide +kernel
theorem d_X12_isLimited_20 : decode (px_cc M_X12_isLimited) 20 = .ok (.getfield 218, 3) := by decide +kernel
theorem d_X12_isLimited_23 : decode (px_cc M_X12_isLimited) 23 = .ok (.invokevirtual 282, 3) := by decide +kernel
theorem d_X12_isLimited_26 : decode (px_cc M_X12_isLimited) 26 = .ok (.istore_n 3, 1) := by decide +kernel
theorem d_X12_isLimited_27 : decode (px_cc M_X12_isLimited) 27 = .ok (.aload_n 0, 1) := by decide +kernel
theorem d_X12_isLimited_28 : decode (px_cc M_X12_isLimited) 28 = .ok (.getfield 78, 3) := by decide +kernel
theorem d_X12_isLimited_31 : decode (px_cc M_X12_isLimited) 31 = .ok (.iconst 0, 1) := by decide +kernel
theorem d_X12_isLimited_32 : decode (px_cc M_X12_isLimited) 32 = .ok (.aload_n 0, 1) := by decide +kernel
theorem d_X12_isLimited_33 : decode (px_cc M_X12_isLimited) 33 = .ok (.getfield 84, 3) := by decide +kernel
theorem d_X12_isLimited_36 : decode (px_cc M_X12_isLimited) 36 = .ok (.iload_n 1, 1) := by decide +kernel
theorem d_X12_isLimited_37 : decode (px_cc M_X12_isLimited) 37 = .ok (.iaload, 1) := by decide +kernel
theorem d_X12_isLimited_38 : decode (px_cc M_X12_isLimited) 38 = .ok (.iastore, 1) := by decide +kernel
theorem d_X12_isLimited_39 : decode (px_cc M_X12_isLimited) 39 = .ok (.aload_n 0, 1) := by decide +kernel
theorem d_X12_isLimited_40 : decode (px_cc M_X12_isLimited) 40 = .ok (.getfield 78, 3) := by decide +kernel
theorem d_X12_isLimited_43 : decode (px_cc M_X12_isLimited) 43 = .ok (.iconst 1, 1) := by decide +kernel
theorem d_X12_isLimited_44 : decode (px_cc M_X12_isLimited) 44 = .ok (.iload_n 3, 1) := by decide +kernel
theorem d_X12_isLimited_45 : decode (px_cc M_X12_isLimited) 45 = .ok (.ifCond .ge 7, 3) := by decide +kernel
theorem d_X12_isLimited_48 : decode (px_cc M_X12_isLimited) 48 = .ok (.iconst 0, 1) := by decide +kernel
theorem d_X12_isLimited_49 : decode (px_cc M_X12_isLimited) 49 = .ok (.goto 8, 3) := by decide +kernel
theorem d_X12_isLimited_52 : decode (px_cc M_X12_isLimited) 52 = .ok (.iload_n 3, 1) := by decide +kernel
theorem d_X12_isLimited_53 : decode (px_cc M_X12_isLimited) 53 = .ok (.sipush 240, 3) := by decide +kernel
theorem d_X12_isLimited_56 : decode (px_cc M_X12_isLimited) 56 = .ok (.idiv, 1) := by decide +kernel
theorem d_X12_isLimited_57 : decode (px_cc M_X12_isLimited) 57 = .ok (.iastore, 1) := by decide +kernel
theorem d_X12_isLimited_58 : decode (px_cc M_X12_isLimited) 58 = .ok (.aload_n 0, 1) := by decide +kernel
theorem d_X12_isLimited_59 : decode (px_cc M_X12_isLimited) 59 = .ok (.getfield 78, 3) := by decide +kernel
theorem d_X12_isLimited_62 : decode (px_cc M_X12_isLimited) 62 = .ok (.iconst 2, 1) := by decide +kernel
theorem d_X12_isLimited_63 : decode (px_cc M_X12_isLimited) 63 = .ok (.aload_n 0, 1) := by decide +kernel
theorem d_X12_isLimited_64 : decode (px_cc M_X12_isLimited) 64 = .ok (.getfield 218, 3) := by decide +kernel
theorem d_X12_isLimited_67 : decode (px_cc M_X12_isLimited) 67 = .ok (.aload_n 0, 1) := by decide +kernel
theorem d_X12_isLimited_68 : decode (px_cc M_X12_isLimited) 68 = .ok (.getfield 90, 3) := by decide +kernel
theorem d_X12_isLimited_71 : decode (px_cc M_X12_isLimited) 71 = .ok (.iload_n 1, 1) := by decide +kernel
theorem d_X12_isLimited_72 : decode (px_cc M_X12_isLimited) 72 = .ok (.iaload, 1) := by decide +kernel
theorem d_X12_isLimited_73 : decode (px_cc M_X12_isLimited) 73 = .ok (.isub, 1) := by decide +kernel
theorem d_X12_isLimited_74 : decode (px_cc M_X12_isLimited) 74 = .ok (.iastore, 1) := by decide +kernel
theorem d_X12_isLimited_75 : decode (px_cc M_X12_isLimited) 75 = .ok (.aload_n 0, 1) := by decide +kernel
theorem d_X12_isLimited_76 : decode (px_cc M_X12_isLimited) 76 = .ok (.getfield 78, 3) := by decide +kernel
theorem d_X12_isLimited_79 : decode (px_cc M_X12_isLimited) 79 = .ok (.iconst 3, 1) := by decide +kernel
theorem d_X12_isLimited_80 : decode (px_cc M_X12_isLimited) 80 = .ok (.aload_n 0, 1) := by decide +kernel
theorem d_X12_isLimited_81 : decode (px_cc M_X12_isLimited) 81 = .ok (.getfield 218, 3) := by decide +kernel
theorem d_X12_isLimited_84 : decode (px_cc M_X12_isLimited) 84 = .ok (.bipush 30, 2) := by decide +kernel
theorem d_X12_isLimited_86 : decode (px_cc M_X12_isLimited) 86 = .ok (.idiv, 1) := by decide +kernel
theorem d_X12_isLimited_87 : decode (px_cc M_X12_isLimited) 87 = .ok (.iastore, 1) := by decide +kernel
theorem d_X12_isLimited_88 : decode (px_cc M_X12_isLimited) 88 = .ok (.aload_n 0, 1) := by decide +kernel
theorem d_X12_isLimited_89 : decode (px_cc M_X12_isLimited) 89 = .ok (.getfield 78, 3) := by decide +kernel
theorem d_X12_isLimited_92 : decode (px_cc M_X12_isLimited) 92 = .ok (.iconst 4, 1) := by decide +kernel
theorem d_X12_isLimited_93 : decode (px_cc M_X12_isLimited) 93 = .ok (.aload_n 0, 1) := by decide +kernel
theorem d_X12_isLimited_94 : decode (px_cc M_X12_isLimited) 94 = .ok (.getfield 218, 3) := by decide +kernel
theorem d_X12_isLimited_97 : decode (px_cc M_X12_isLimited) 97 = .ok (.bipush 30, 2) := by decide +kernel
theorem d_X12_isLimited_99 : decode (px_cc M_X12_isLimited) 99 = .ok (.irem, 1) := by decide +kernel
theorem d_X12_isLimited_100 : decode (px_cc M_X12_isLimited) 100 = .ok (.iastore, 1) := by decide +kernel
theorem d_X12_isLimited_101 : decode (px_cc M_X12_isLimited) 101 = .ok (.aload_n 0, 1) := by decide +kernel
theorem d_X12_isLimited_102 : decode (px_cc M_X12_isLimited) 102 = .ok (.iconst 1, 1) := by decide +kernel
theorem d_X12_isLimited_103 : decode (px_cc M_X12_isLimited) 103 = .ok (.aload_n 0, 1) := by decide +kernel
theorem d_X12_isLimited_104 : decode (px_cc M_X12_isLimited) 104 = .ok (.getfield 218, 3) := by decide +kernel
theorem d_X12_isLimited_107 : decode (px_cc M_X12_isLimited) 107 = .ok (.aload_n 0, 1) := by decide +kernel
theorem d_X12_isLimited_108 : decode (px_cc M_X12_isLimited) 108 = .ok (.getfield 218, 3) := by decide +kernel
theorem d_X12_isLimited_111 : decode (px_cc M_X12_isLimited) 111 = .ok (.invokevirtual 275, 3) := by decide +kernel
theorem d_X12_isLimited_114 : decode (px_cc M_X12_isLimited) 114 = .ok (.istore 4, 2) := by decide +kernel
theorem d_X12_isLimited_116 : decode (px_cc M_X12_isLimited) 116 = .ok (.iload 4, 2) := by decide +kernel
theorem d_X12_isLimited_118 : decode (px_cc M_X12_isLimited) 118 = .ok (.ifCond .lt 19, 3) := by decide +kernel
theorem d_X12_isLimited_121 : decode (px_cc M_X12_isLimited) 121 = .ok (.aload_n 0, 1) := by decide +kernel
theorem d_X12_isLimited_122 : decode (px_cc M_X12_isLimited) 122 = .ok (.iload_n 1, 1) := by decide +kernel
theorem d_X12_isLimited_123 : decode (px_cc M_X12_isLimited) 123 = .ok (.invokevirtual 288, 3) := by decide +kernel
theorem d_X12_isLimited_126 : decode (px_cc M_X12_isLimited) 126 = .ok (.iload_n 2, 1) := by decide +kernel
theorem d_X12_isLimited_127 : decode (px_cc M_X12_isLimited) 127 = .ok (.iadd, 1) := by decide +kernel
theorem d_X12_isLimited_128 : decode (px_cc M_X12_isLimited) 128 = .ok (.iload 4, 2) := by decide +kernel
theorem d_X12_isLimited_130 : decode (px_cc M_X12_isLimited) 130 = .ok (.if_icmp .le 7, 3) := by decide +kernel
theorem d_X12_isLimited_133 : decode (px_cc M_X12_isLimited) 133 = .ok (.iconst 1, 1) := by decide +kernel
theorem d_X12_isLimited_134 : decode (px_cc M_X12_isLimited) 134 = .ok (.goto 4, 3) := by decide +kernel
theorem d_X12_isLimited_137 : decode (px_cc M_X12_isLimited) 137 = .ok (.iconst 0, 1) := by decide +kernel
theorem d_X12_isLimited_138 : decode (px_cc M_X12_isLimited) 138 = .ok (.ireturn, 1) := by decide +kernel
theorem d_X12_why_0 : decode (px_cc M_X12_why) 0 = .ok (.aload_n 0, 1) := by decide +kernel
theorem d_X12_why_1 : decode (px_cc M_X12_why) 1 = .ok (.iload_n 1, 1) := by decide +kernel
theorem d_X12_why_2 : decode (px_cc M_X12_why) 2 = .ok (.invokevirtual 262, 3) := by decide +kernel
theorem d_X12_why_5 : decode (px_cc M_X12_why) 5 = .ok (.ifCond .eq 15, 3) := by decide +kernel
theorem d_X12_why_8 : decode (px_cc M_X12_why) 8 = .ok (.iload_n 2, 1) := by decide +kernel
theorem d_X12_why_9 : decode (px_cc M_X12_why) 9 = .ok (.iconst 1, 1) := by decide +kernel
theorem d_X12_why_10 : decode (px_cc M_X12_why) 10 = .ok (.if_icmp .lt 10, 3) := by decide +kernel
theorem d_X12_why_13 : decode (px_cc M_X12_why) 13 = .ok (.iload_n 2, 1) := by decide +kernel
theorem d_X12_why_14 : decode (px_cc M_X12_why) 14 = .ok (.ldc_w 266, 3) := by decide +kernel
theorem d_X12_why_17 : decode (px_cc M_X12_why) 17 = .ok (.if_icmp .le 5, 3) := by decide +kernel
theorem d_X12_why_20 : decode (px_cc M_X12_why) 20 = .ok (.iconst 1, 1) := by decide +kernel
theorem d_X12_why_21 : decode (px_cc M_X12_why) 21 = .ok (.ireturn, 1) := by decide +kernel
theorem d_X12_why_22 : decode (px_cc M_X12_why) 22 = .ok (.aload_n 0, 1) := by decide +kernel
theorem d_X12_why_23 : decode (px_cc M_X12_why) 23 = .ok (.iload_n 1, 1) := by decide +kernel
theorem d_X12_why_24 : decode (px_cc M_X12_why) 24 = .ok (.aload_n 0, 1) := by decide +kernel
theorem d_X12_why_25 : decode (px_cc M_X12_why) 25 = .ok (.getfield 218, 3) := by decide +kernel
theorem d_X12_why_28 : decode (px_cc M_X12_why) 28 = .ok (.aload_n 0, 1) := by decide +kernel
theorem d_X12_why_29 : decode (px_cc M_X12_why) 29 = .ok (.getfield 218, 3) := by decide +kernel
theorem d_X12_why_32 : decode (px_cc M_X12_why) 32 = .ok (.invokevirtual 282, 3) := by decide +kernel
theorem d_X12_why_35 : decode (px_cc M_X12_why) 35 = .ok (.iload_n 2, 1) := by decide +kernel
theorem d_X12_why_36 : decode (px_cc M_X12_why) 36 = .ok (.if_icmp .ge 5, 3) := by decide +kernel
theorem d_X12_why_39 : decode (px_cc M_X12_why) 39 = .ok (.iconst 2, 1) := by decide +kernel
theorem d_X12_why_40 : decode (px_cc M_X12_why) 40 = .ok (.ireturn, 1) := by decide +kernel
theorem d_X12_why_41 : decode (px_cc M_X12_why) 41 = .ok (.aload_n 0, 1) := by decide +kernel
theorem d_X12_why_42 : decode (px_cc M_X12_why) 42 = .ok (.iload_n 1, 1) := by decide +kernel
theorem d_X12_why_43 : decode (px_cc M_X12_why) 43 = .ok (.iload_n 3, 1) := by decide +kernel
theorem d_X12_why_44 : decode (px_cc M_X12_why) 44 = .ok (.invokevirtual 291, 3) := by decide +kernel
theorem d_X12_why_47 : decode (px_cc M_X12_why) 47 = .ok (.ifCond .ne 5, 3) := by decide +kernel
theorem d_X12_why_50 : decode (px_cc M_X12_why) 50 = .ok (.iconst 3, 1) := by decide +kernel
theorem d_X12_why_51 : decode (px_cc M_X12_why) 51 = .ok (.ireturn, 1) := by decide +kernel
theorem d_X12_why_52 : decode (px_cc M_X12_why) 52 = .ok (.aload_n 0, 1) := by decide +kernel
theorem d_X12_why_53 : decode (px_cc M_X12_why) 53 = .ok (.getfield 84, 3) := by decide +kernel
theorem d_X12_why_56 : decode (px_cc M_X12_why) 56 = .ok (.iload_n 1, 1) := by decide +kernel
theorem d_X12_why_57 : decode (px_cc M_X12_why) 57 = .ok (.iaload, 1) := by decide +kernel
theorem d_X12_why_58 : decode (px_cc M_X12_why) 58 = .ok (.iconst 3, 1) := by decide +kernel
theorem d_X12_why_59 : decode (px_cc M_X12_why) 59 = .ok (.if_icmp .ne 14, 3) := by decide +kernel
theorem d_X12_why_62 : decode (px_cc M_X12_why) 62 = .ok (.aload_n 0, 1) := by decide +kernel
theorem d_X12_why_63 : decode (px_cc M_X12_why) 63 = .ok (.iload_n 1, 1) := by decide +kernel
theorem d_X12_why_64 : decode (px_cc M_X12_why) 64 = .ok (.iload_n 2, 1) := by decide +kernel
theorem d_X12_why_65 : decode (px_cc M_X12_why) 65 = .ok (.invokevirtual 295, 3) := by decide +kernel
theorem d_X12_why_68 : decode (px_cc M_X12_why) 68 = .ok (.ifCond .ge 5, 3) := by decide +kernel
theorem d_X12_why_71 : decode (px_cc M_X12_why) 71 = .ok (.iconst 4, 1) := by decide +kernel
theorem d_X12_why_72 : decode (px_cc M_X12_why) 72 = .ok (.ireturn, 1) := by decide +kernel
theorem d_X12_why_73 : decode (px_cc M_X12_why) 73 = .ok (.aload_n 0, 1) := by decide +kernel
theorem d_X12_why_74 : decode (px_cc M_X12_why) 74 = .ok (.iload_n 1, 1) := by decide +kernel
theorem d_X12_why_75 : decode (px_cc M_X12_why) 75 = .ok (.iload_n 2, 1) := by decide +kernel
theorem d_X12_why_76 : decode (px_cc M_X12_why) 76 = .ok (.invokevirtual 299, 3) := by decide +kernel
theorem d_X12_why_79 : decode (px_cc M_X12_why) 79 = .ok (.ifCond .eq 7, 3) := by decide +kernel
theorem d_X12_why_82 : decode (px_cc M_X12_why) 82 = .ok (.iconst 5, 1) := by decide +kernel
theorem d_X12_why_83 : decode (px_cc M_X12_why) 83 = .ok (.goto 4, 3) := by decide +kernel
theorem d_X12_why_86 : decode (px_cc M_X12_why) 86 = .ok (.iconst 0, 1) := by decide +kernel
theorem d_X12_why_87 : decode (px_cc M_X12_why) 87 = .ok (.ireturn, 1) := by decide +kernel
theorem d_X12_may_0 : decode (px_cc M_X12_may) 0 = .ok (.aload_n 0, 1) := by decide +kernel
theorem d_X12_may_1 : decode (px_cc M_X12_may) 1 = .ok (.iconst 0, 1) := by decide +kernel
theorem d_X12_may_2 : decode (px_cc M_X12_may) 2 = .ok (.putfield 150, 3) := by decide +kernel
theorem d_X12_may_5 : decode (px_cc M_X12_may) 5 = .ok (.aload_n 0, 1) := by decide +kernel
theorem d_X12_may_6 : decode (px_cc M_X12_may) 6 = .ok (.iload_n 1, 1) := by decide +kernel
theorem d_X12_may_7 : decode (px_cc M_X12_may) 7 = .ok (.iload_n 2, 1) := by decide +kernel
theorem d_X12_may_8 : decode (px_cc M_X12_may) 8 = .ok (.iload_n 3, 1) := by decide +kernel
theorem d_X12_may_9 : decode (px_cc M_X12_may) 9 = .ok (.invokevirtual 302, 3) := by decide +kernel
theorem d_X12_may_12 : decode (px_cc M_X12_may) 12 = .ok (.ireturn, 1) := by decide +kernel
theorem d_X12_draw_0 : decode (px_cc M_X12_draw) 0 = .ok (.aload_n 0, 1) := by decide +kernel
theorem d_X12_draw_1 : decode (px_cc M_X12_draw) 1 = .ok (.iconst 0, 1) := by decide +kernel
theorem d_X12_draw_2 : decode (px_cc M_X12_draw) 2 = .ok (.putfield 150, 3) := by decide +kernel
theorem d_X12_draw_5 : decode (px_cc M_X12_draw) 5 = .ok (.aload_n 0, 1) := by decide +kernel
theorem d_X12_draw_6 : decode (px_cc M_X12_draw) 6 = .ok (.iload_n 1, 1) := by decide +kernel
theorem d_X12_draw_7 : decode (px_cc M_X12_draw) 7 = .ok (.iload_n 3, 1) := by decide +kernel
theorem d_X12_draw_8 : decode (px_cc M_X12_draw) 8 = .ok (.iload 4, 2) := by decide +kernel
theorem d_X12_draw_10 : decode (px_cc M_X12_draw) 10 = .ok (.invokevirtual 302, 3) := by decide +kernel
theorem d_X12_draw_13 : decode (px_cc M_X12_draw) 13 = .ok (.istore 5, 2) := by decide +kernel
theorem d_X12_draw_15 : decode (px_cc M_X12_draw) 15 = .ok (.iload 5, 2) := by decide +kernel
theorem d_X12_draw_17 : decode (px_cc M_X12_draw) 17 = .ok (.ifCond .le 6, 3) := by decide +kernel
theorem d_X12_draw_20 : decode (px_cc M_X12_draw) 20 = .ok (.iload 5, 2) := by decide +kernel
theorem d_X12_draw_22 : decode (px_cc M_X12_draw) 22 = .ok (.ireturn, 1) := by decide +kernel
theorem d_X12_draw_23 : decode (px_cc M_X12_draw) 23 = .ok (.iload_n 2, 1) := by decide +kernel
theorem d_X12_draw_24 : decode (px_cc M_X12_draw) 24 = .ok (.ifCond .lt 18, 3) := by decide +kernel
theorem d_X12_draw_27 : decode (px_cc M_X12_draw) 27 = .ok (.iload_n 2, 1) := by decide +kernel
theorem d_X12_draw_28 : decode (px_cc M_X12_draw) 28 = .ok (.iconst 3, 1) := by decide +kernel
theorem d_X12_draw_29 : decode (px_cc M_X12_draw) 29 = .ok (.if_icmp .gt 13, 3) := by decide +kernel
theorem d_X12_draw_32 : decode (px_cc M_X12_draw) 32 = .ok (.aload_n 0, 1) := by decide +kernel
theorem d_X12_draw_33 : decode (px_cc M_X12_draw) 33 = .ok (.getfield 259, 3) := by decide +kernel
theorem d_X12_draw_36 : decode (px_cc M_X12_draw) 36 = .ok (.sipush 400, 3) := by decide +kernel
theorem d_X12_draw_39 : decode (px_cc M_X12_draw) 39 = .ok (.if_icmp .ne 6, 3) := by decide +kernel
theorem d_X12_draw_42 : decode (px_cc M_X12_draw) 42 = .ok (.bipush 6, 2) := by decide +kernel
theorem d_X12_draw_44 : decode (px_cc M_X12_draw) 44 = .ok (.ireturn, 1) := by decide +kernel
theorem d_X12_draw_45 : decode (px_cc M_X12_draw) 45 = .ok (.aload_n 0, 1) := by decide +kernel
theorem d_X12_draw_46 : decode (px_cc M_X12_draw) 46 = .ok (.getfield 84, 3) := by decide +kernel
theorem d_X12_draw_49 : decode (px_cc M_X12_draw) 49 = .ok (.iload_n 1, 1) := by decide +kernel
theorem d_X12_draw_50 : decode (px_cc M_X12_draw) 50 = .ok (.iaload, 1) := by decide +kernel
theorem d_X12_draw_51 : decode (px_cc M_X12_draw) 51 = .ok (.iconst 3, 1) := by decide +kernel
theorem d_X12_draw_52 : decode (px_cc M_X12_draw) 52 = .ok (.if_icmp .ne 15, 3) := by decide +kernel
theorem d_X12_draw_55 : decode (px_cc M_X12_draw) 55 = .ok (.aload_n 0, 1) := by decide +kernel
theorem d_X12_draw_56 : decode (px_cc M_X12_draw) 56 = .ok (.getfield 123, 3) := by decide +kernel
theorem d_X12_draw_59 : decode (px_cc M_X12_draw) 59 = .ok (.aload_n 0, 1) := by decide +kernel
theorem d_X12_draw_60 : decode (px_cc M_X12_draw) 60 = .ok (.iload_n 1, 1) := by decide +kernel
theorem d_X12_draw_61 : decode (px_cc M_X12_draw) 61 = .ok (.iload_n 3, 1) := by decide +kernel
theorem d_X12_draw_62 : decode (px_cc M_X12_draw) 62 = .ok (.invokevirtual 295, 3) := by decide +kernel
theorem d_X12_draw_65 : decode (px_cc M_X12_draw) 65 = .ok (.iconst 1, 1) := by decide +kernel
theorem d_X12_draw_66 : decode (px_cc M_X12_draw) 66 = .ok (.bastore, 1) := by decide +kernel
theorem d_X12_draw_67 : decode (px_cc M_X12_draw) 67 = .ok (.aload_n 0, 1) := by decide +kernel
theorem d_X12_draw_68 : decode (px_cc M_X12_draw) 68 = .ok (.iload_n 1, 1) := by decide +kernel
theorem d_X12_draw_69 : decode (px_cc M_X12_draw) 69 = .ok (.iload_n 2, 1) := by decide +kernel
theorem d_X12_draw_70 : decode (px_cc M_X12_draw) 70 = .ok (.aload_n 0, 1) := by decide +kernel
theorem d_X12_draw_71 : decode (px_cc M_X12_draw) 71 = .ok (.getfield 218, 3) := by decide +kernel
theorem d_X12_draw_74 : decode (px_cc M_X12_draw) 74 = .ok (.iload_n 3, 1) := by decide +kernel
theorem d_X12_draw_75 : decode (px_cc M_X12_draw) 75 = .ok (.ineg, 1) := by decide +kernel
theorem d_X12_draw_76 : decode (px_cc M_X12_draw) 76 = .ok (.invokevirtual 267, 3) := by decide +kernel
theorem d_X12_draw_79 : decode (px_cc M_X12_draw) 79 = .ok (.iconst 0, 1) := by decide +kernel
theorem d_X12_draw_80 : decode (px_cc M_X12_draw) 80 = .ok (.ireturn, 1) := by decide +kernel
theorem d_X12_write_0 : decode (px_cc M_X12_write) 0 = .ok (.aload_n 0, 1) := by decide +kernel
theorem d_X12_write_1 : decode (px_cc M_X12_write) 1 = .ok (.iconst 0, 1) := by decide +kernel
theorem d_X12_write_2 : decode (px_cc M_X12_write) 2 = .ok (.putfield 150, 3) := by decide +kernel
theorem d_X12_write_5 : decode (px_cc M_X12_write) 5 = .ok (.aload_n 0, 1) := by decide +kernel
theorem d_X12_write_6 : decode (px_cc M_X12_write) 6 = .ok (.iload_n 1, 1) := by decide +kernel
theorem d_X12_write_7 : decode (px_cc M_X12_write) 7 = .ok (.invokevirtual 262, 3) := by decide +kernel
theorem d_X12_write_10 : decode (px_cc M_X12_write) 10 = .ok (.ifCond .eq 25, 3) := by decide +kernel
theorem d_X12_write_13 : decode (px_cc M_X12_write) 13 = .ok (.iload_n 2, 1) := by decide +kernel
theorem d_X12_write_14 : decode (px_cc M_X12_write) 14 = .ok (.ifCond .lt 21, 3) := by decide +kernel
theorem d_X12_write_17 : decode (px_cc M_X12_write) 17 = .ok (.iload_n 2, 1) := by decide +kernel
theorem d_X12_write_18 : decode (px_cc M_X12_write) 18 = .ok (.sipush 719, 3) := by decide +kernel
theorem d_X12_write_21 : decode (px_cc M_X12_write) 21 = .ok (.if_icmp .gt 14, 3) := by decide +kernel
theorem d_X12_write_24 : decode (px_cc M_X12_write) 24 = .ok (.aload_n 0, 1) := by decide +kernel
theorem d_X12_write_25 : decode (px_cc M_X12_write) 25 = .ok (.getfield 126, 3) := by decide +kernel
theorem d_X12_write_28 : decode (px_cc M_X12_write) 28 = .ok (.iload_n 1, 1) := by decide +kernel
theorem d_X12_write_29 : decode (px_cc M_X12_write) 29 = .ok (.iaload, 1) := by decide +kernel
theorem d_X12_write_30 : decode (px_cc M_X12_write) 30 = .ok (.bipush 40, 2) := by decide +kernel
theorem d_X12_write_32 : decode (px_cc M_X12_write) 32 = .ok (.if_icmp .ne 5, 3) := by decide +kernel
theorem d_X12_write_35 : decode (px_cc M_X12_write) 35 = .ok (.iconst (-1), 1) := by decide +kernel
theorem d_X12_write_36 : decode (px_cc M_X12_write) 36 = .ok (.ireturn, 1) := by decide +kernel
theorem d_X12_write_37 : decode (px_cc M_X12_write) 37 = .ok (.aload_n 0, 1) := by decide +kernel
theorem d_X12_write_38 : decode (px_cc M_X12_write) 38 = .ok (.getfield 129, 3) := by decide +kernel
theorem d_X12_write_41 : decode (px_cc M_X12_write) 41 = .ok (.bipush 40, 2) := by decide +kernel
theorem d_X12_write_43 : decode (px_cc M_X12_write) 43 = .ok (.iload_n 1, 1) := by decide +kernel
theorem d_X12_write_44 : decode (px_cc M_X12_write) 44 = .ok (.imul, 1) := by decide +kernel
theorem d_X12_write_45 : decode (px_cc M_X12_write) 45 = .ok (.aload_n 0, 1) := by decide +kernel
theorem d_X12_write_46 : decode (px_cc M_X12_write) 46 = .ok (.getfield 126, 3) := by decide +kernel
theorem d_X12_write_49 : decode (px_cc M_X12_write) 49 = .ok (.iload_n 1, 1) := by decide +kernel
theorem d_X12_write_50 : decode (px_cc M_X12_write) 50 = .ok (.iaload, 1) := by decide +kernel
theorem d_X12_write_51 : decode (px_cc M_X12_write) 51 = .ok (.iadd, 1) := by decide +kernel
theorem d_X12_write_52 : decode (px_cc M_X12_write) 52 = .ok (.iload_n 2, 1) := by decide +kernel
theorem d_X12_write_53 : decode (px_cc M_X12_write) 53 = .ok (.iastore, 1) := by decide +kernel
theorem d_X12_write_54 : decode (px_cc M_X12_write) 54 = .ok (.aload_n 0, 1) := by decide +kernel
theorem d_X12_write_55 : decode (px_cc M_X12_write) 55 = .ok (.getfield 132, 3) := by decide +kernel
theorem d_X12_write_58 : decode (px_cc M_X12_write) 58 = .ok (.bipush 40, 2) := by decide +kernel
theorem d_X12_write_60 : decode (px_cc M_X12_write) 60 = .ok (.iload_n 1, 1) := by decide +kernel
theorem d_X12_write_61 : decode (px_cc M_X12_write) 61 = .ok (.imul, 1) := by decide +kernel
theorem d_X12_write_62 : decode (px_cc M_X12_write) 62 = .ok (.aload_n 0, 1) := by decide +kernel
theorem d_X12_write_63 : decode (px_cc M_X12_write) 63 = .ok (.getfield 126, 3) := by decide +kernel
theorem d_X12_write_66 : decode (px_cc M_X12_write) 66 = .ok (.iload_n 1, 1) := by decide +kernel
theorem d_X12_write_67 : decode (px_cc M_X12_write) 67 = .ok (.iaload, 1) := by decide +kernel
theorem d_X12_write_68 : decode (px_cc M_X12_write) 68 = .ok (.iadd, 1) := by decide +kernel
theorem d_X12_write_69 : decode (px_cc M_X12_write) 69 = .ok (.iload_n 3, 1) := by decide +kernel
theorem d_X12_write_70 : decode (px_cc M_X12_write) 70 = .ok (.iastore, 1) := by decide +kernel
theorem d_X12_write_71 : decode (px_cc M_X12_write) 71 = .ok (.aload_n 0, 1) := by decide +kernel
theorem d_X12_write_72 : decode (px_cc M_X12_write) 72 = .ok (.getfield 126, 3) := by decide +kernel
theorem d_X12_write_75 : decode (px_cc M_X12_write) 75 = .ok (.iload_n 1, 1) := by decide +kernel
theorem d_X12_write_76 : decode (px_cc M_X12_write) 76 = .ok (.dup2, 1) := by decide +kernel
theorem d_X12_write_77 : decode (px_cc M_X12_write) 77 = .ok (.iaload, 1) := by decide +kernel
theorem d_X12_write_78 : decode (px_cc M_X12_write) 78 = .ok (.iconst 1, 1) := by decide +kernel
theorem d_X12_write_79 : decode (px_cc M_X12_write) 79 = .ok (.iadd, 1) := by decide +kernel
theorem d_X12_write_80 : decode (px_cc M_X12_write) 80 = .ok (.iastore, 1) := by decide +kernel
theorem d_X12_write_81 : decode (px_cc M_X12_write) 81 = .ok (.aload_n 0, 1) := by decide +kernel
theorem d_X12_write_82 : decode (px_cc M_X12_write) 82 = .ok (.getfield 126, 3) := by decide +kernel
theorem d_X12_write_85 : decode (px_cc M_X12_write) 85 = .ok (.iload_n 1, 1) := by decide +kernel
theorem d_X12_write_86 : decode (px_cc M_X12_write) 86 = .ok (.iaload, 1) := by decide +kernel
theorem d_X12_write_87 : decode (px_cc M_X12_write) 87 = .ok (.ireturn, 1) := by decide +kernel
theorem d_X12_compare_0 : decode (px_cc M_X12_compare) 0 = .ok (.aload_n 0, 1) := by decide +kernel
theorem d_X12_compare_1 : decode (px_cc M_X12_compare) 1 = .ok (.iconst 0, 1) := by decide +kernel
theorem d_X12_compare_2 : decode (px_cc M_X12_compare) 2 = .ok (.putfield 150, 3) := by decide +kernel
theorem d_X12_compare_5 : decode (px_cc M_X12_compare) 5 = .ok (.aload_n 0, 1) := by decide +kernel
theorem d_X12_compare_6 : decode (px_cc M_X12_compare) 6 = .ok (.iload_n 1, 1) := by decide +kernel
theorem d_X12_compare_7 : decode (px_cc M_X12_compare) 7 = .ok (.invokevirtual 262, 3) := by decide +kernel
theorem d_X12_compare_10 : decode (px_cc M_X12_compare) 10 = .ok (.ifCond .eq 12, 3) := by decide +kernel
theorem d_X12_compare_13 : decode (px_cc M_X12_compare) 13 = .ok (.iload_n 2, 1) := by decide +kernel
theorem d_X12_compare_14 : decode (px_cc M_X12_compare) 14 = .ok (.ifCond .lt 8, 3) := by decide +kernel
theorem d_X12_compare_17 : decode (px_cc M_X12_compare) 17 = .ok (.iload_n 2, 1) := by decide +kernel
theorem d_X12_compare_18 : decode (px_cc M_X12_compare) 18 = .ok (.iconst 2, 1) := by decide +kernel
theorem d_X12_compare_19 : decode (px_cc M_X12_compare) 19 = .ok (.if_icmp .le 5, 3) := by decide +kernel
theorem d_X12_compare_22 : decode (px_cc M_X12_compare) 22 = .ok (.iconst (-1), 1) := by decide +kernel
theorem d_X12_compare_23 : decode (px_cc M_X12_compare) 23 = .ok (.ireturn, 1) := by decide +kernel
theorem d_X12_compare_24 : decode (px_cc M_X12_compare) 24 = .ok (.iconst 0, 1) := by decide +kernel
theorem d_X12_compare_25 : decode (px_cc M_X12_compare) 25 = .ok (.istore_n 3, 1) := by decide +kernel
theorem d_X12_compare_26 : decode (px_cc M_X12_compare) 26 = .ok (.iconst 0, 1) := by decide +kernel
theorem d_X12_compare_27 : decode (px_cc M_X12_compare) 27 = .ok (.istore 4, 2) := by decide +kernel
theorem d_X12_compare_29 : decode (px_cc M_X12_compare) 29 = .ok (.iconst 0, 1) := by decide +kernel
theorem d_X12_compare_30 : decode (px_cc M_X12_compare) 30 = .ok (.istore 5, 2) := by decide +kernel
theorem d_X12_compare_32 : decode (px_cc M_X12_compare) 32 = .ok (.iload 5, 2) := by decide +kernel
theorem d_X12_compare_34 : decode (px_cc M_X12_compare) 34 = .ok (.aload_n 0, 1) := by decide +kernel
theorem d_X12_compare_35 : decode (px_cc M_X12_compare) 35 = .ok (.getfield 259, 3) := by decide +kernel
theorem d_X12_compare_38 : decode (px_cc M_X12_compare) 38 = .ok (.if_icmp .ge 53, 3) := by decide +kernel
theorem d_X12_compare_41 : decode (px_cc M_X12_compare) 41 = .ok (.aload_n 0, 1) := by decide +kernel
theorem d_X12_compare_42 : decode (px_cc M_X12_compare) 42 = .ok (.getfield 135, 3) := by decide +kernel
theorem d_X12_compare_45 : decode (px_cc M_X12_compare) 45 = .ok (.iload 5, 2) := by decide +kernel
theorem d_X12_compare_47 : decode (px_cc M_X12_compare) 47 = .ok (.aload_n 0, 1) := by decide +kernel
theorem d_X12_compare_48 : decode (px_cc M_X12_compare) 48 = .ok (.getfield 96, 3) := by decide +kernel
theorem d_X12_compare_51 : decode (px_cc M_X12_compare) 51 = .ok (.iload 5, 2) := by decide +kernel
theorem d_X12_compare_53 : decode (px_cc M_X12_compare) 53 = .ok (.iaload, 1) := by decide +kernel
theorem d_X12_compare_54 : decode (px_cc M_X12_compare) 54 = .ok (.iload_n 1, 1) := by decide +kernel
theorem d_X12_compare_55 : decode (px_cc M_X12_compare) 55 = .ok (.if_icmp .eq 7, 3) := by decide +kernel
theorem d_X12_compare_58 : decode (px_cc M_X12_compare) 58 = .ok (.iconst 1, 1) := by decide +kernel
theorem d_X12_compare_59 : decode (px_cc M_X12_compare) 59 = .ok (.goto 4, 3) := by decide +kernel
theorem d_X12_compare_62 : decode (px_cc M_X12_compare) 62 = .ok (.iconst 0, 1) := by decide +kernel
theorem d_X12_compare_63 : decode (px_cc M_X12_compare) 63 = .ok (.bastore, 1) := by decide +kernel
theorem d_X12_compare_64 : decode (px_cc M_X12_compare) 64 = .ok (.iload 4, 2) := by decide +kernel
theorem d_X12_compare_66 : decode (px_cc M_X12_compare) 66 = .ok (.aload_n 0, 1) := by decide +kernel
theorem d_X12_compare_67 : decode (px_cc M_X12_compare) 67 = .ok (.getfield 96, 3) := by decide +kernel
theorem d_X12_compare_70 : decode (px_cc M_X12_compare) 70 = .ok (.iload 5, 2) := by decide +kernel
theorem d_X12_compare_72 : decode (px_cc M_X12_compare) 72 = .ok (.iaload, 1) := by decide +kernel
theorem d_X12_compare_73 : decode (px_cc M_X12_compare) 73 = .ok (.iload_n 1, 1) := by decide +kernel
theorem d_X12_compare_74 : decode (px_cc M_X12_compare) 74 = .ok (.if_icmp .ne 7, 3) := by decide +kernel
theorem d_X12_compare_77 : decode (px_cc M_X12_compare) 77 = .ok (.iconst 1, 1) := by decide +kernel
theorem d_X12_compare_78 : decode (px_cc M_X12_compare) 78 = .ok (.goto 4, 3) := by decide +kernel
theorem d_X12_compare_81 : decode (px_cc M_X12_compare) 81 = .ok (.iconst 0, 1) := by decide +kernel
theorem d_X12_compare_82 : decode (px_cc M_X12_compare) 82 = .ok (.iadd, 1) := by decide +kernel
theorem d_X12_compare_83 : decode (px_cc M_X12_compare) 83 = .ok (.istore 4, 2) := by decide +kernel
theorem d_X12_compare_85 : decode (px_cc M_X12_compare) 85 = .ok (.iinc 5 1, 3) := by decide +kernel
theorem d_X12_compare_88 : decode (px_cc M_X12_compare) 88 = .ok (.goto (-56), 3) := by decide +kernel
theorem d_X12_compare_91 : decode (px_cc M_X12_compare) 91 = .ok (.bipush 40, 2) := by decide +kernel
theorem d_X12_compare_93 : decode (px_cc M_X12_compare) 93 = .ok (.iload_n 1, 1) := by decide +kernel
theorem d_X12_compare_94 : decode (px_cc M_X12_compare) 94 = .ok (.imul, 1) := by decide +kernel
theorem d_X12_compare_95 : decode (px_cc M_X12_compare) 95 = .ok (.istore 5, 2) := by decide +kernel
theorem d_X12_compare_97 : decode (px_cc M_X12_compare) 97 = .ok (.iload 5, 2) := by decide +kernel
theorem d_X12_compare_99 : decode (px_cc M_X12_compare) 99 = .ok (.bipush 40, 2) := by decide +kernel
theorem d_X12_compare_101 : decode (px_cc M_X12_compare) 101 = .ok (.iload_n 1, 1) := by decide +kernel
theorem d_X12_compare_102 : decode (px_cc M_X12_compare) 102 = .ok (.imul, 1) := by decide +kernel
theorem d_X12_compare_103 : decode (px_cc M_X12_compare) 103 = .ok (.aload_n 0, 1) := by decide +kernel
theorem d_X12_compare_104 : decode (px_cc M_X12_compare) 104 = .ok (.getfield 126, 3) := by decide +kernel
theorem d_X12_compare_107 : decode (px_cc M_X12_compare) 107 = .ok (.iload_n 1, 1) := by decide +kernel
theorem d_X12_compare_108 : decode (px_cc M_X12_compare) 108 = .ok (.iaload, 1) := by decide +kernel
theorem d_X12_compare_109 : decode (px_cc M_X12_compare) 109 = .ok (.iadd, 1) := by decide +kernel
theorem d_X12_compare_110 : decode (px_cc M_X12_compare) 110 = .ok (.if_icmp .ge 91, 3) := by decide +kernel
theorem d_X12_compare_113 : decode (px_cc M_X12_compare) 113 = .ok (.iconst 0, 1) := by decide +kernel
theorem d_X12_compare_114 : decode (px_cc M_X12_compare) 114 = .ok (.istore 6, 2) := by decide +kernel
theorem d_X12_compare_116 : decode (px_cc M_X12_compare) 116 = .ok (.iload 6, 2) := by decide +kernel
theorem d_X12_compare_118 : decode (px_cc M_X12_compare) 118 = .ok (.aload_n 0, 1) := by decide +kernel
theorem d_X12_compare_119 : decode (px_cc M_X12_compare) 119 = .ok (.getfield 259, 3) := by decide +kernel
theorem d_X12_compare_122 : decode (px_cc M_X12_compare) 122 = .ok (.if_icmp .ge 53, 3) := by decide +kernel
theorem d_X12_compare_125 : decode (px_cc M_X12_compare) 125 = .ok (.aload_n 0, 1) := by decide +kernel
theorem d_X12_compare_126 : decode (px_cc M_X12_compare) 126 = .ok (.getfield 135, 3) := by decide +kernel
theorem d_X12_compare_129 : decode (px_cc M_X12_compare) 129 = .ok (.iload 6, 2) := by decide +kernel
theorem d_X12_compare_131 : decode (px_cc M_X12_compare) 131 = .ok (.baload, 1) := by decide +kernel
theorem d_X12_compare_132 : decode (px_cc M_X12_compare) 132 = .ok (.ifCond .ne 37, 3) := by decide +kernel
theorem d_X12_compare_135 : decode (px_cc M_X12_compare) 135 = .ok (.aload_n 0, 1) := by decide +kernel
theorem d_X12_compare_136 : decode (px_cc M_X12_compare) 136 = .ok (.getfield 99, 3) := by decide +kernel
theorem d_X12_compare_139 : decode (px_cc M_X12_compare) 139 = .ok (.iload 6, 2) := by decide +kernel
theorem d_X12_compare_141 : decode (px_cc M_X12_compare) 141 = .ok (.iaload, 1) := by decide +kernel
theorem d_X12_compare_142 : decode (px_cc M_X12_compare) 142 = .ok (.aload_n 0, 1) := by decide +kernel
theorem d_X12_compare_143 : decode (px_cc M_X12_compare) 143 = .ok (.getfield 129, 3) := by decide +kernel
theorem d_X12_compare_146 : decode (px_cc M_X12_compare) 146 = .ok (.iload 5, 2) := by decide +kernel
theorem d_X12_compare_148 : decode (px_cc M_X12_compare) 148 = .ok (.iaload, 1) := by decide +kernel
theorem d_X12_compare_149 : decode (px_cc M_X12_compare) 149 = .ok (.if_icmp .ne 20, 3) := by decide +kernel
theorem d_X12_compare_152 : decode (px_cc M_X12_compare) 152 = .ok (.aload_n 0, 1) := by decide +kernel
theorem d_X12_compare_153 : decode (px_cc M_X12_compare) 153 = .ok (.getfield 102, 3) := by decide +kernel
theorem d_X12_compare_156 : decode (px_cc M_X12_compare) 156 = .ok (.iload 6, 2) := by decide +kernel
theorem d_X12_compare_158 : decode (px_cc M_X12_compare) 158 = .ok (.iaload, 1) := by decide +kernel
theorem d_X12_compare_159 : decode (px_cc M_X12_compare) 159 = .ok (.aload_n 0, 1) := by decide +kernel
theorem d_X12_compare_160 : decode (px_cc M_X12_compare) 160 = .ok (.getfield 132, 3) := by decide +kernel
theorem d_X12_compare_163 : decode (px_cc M_X12_compare) 163 = .ok (.iload 5, 2) := by decide +kernel
theorem d_X12_compare_165 : decode (px_cc M_X12_compare) 165 = .ok (.iaload, 1) := by decide +kernel
theorem d_X12_compare_166 : decode (px_cc M_X12_compare) 166 = .ok (.if_icmp .eq 9, 3) := by decide +kernel
theorem d_X12_compare_169 : decode (px_cc M_X12_compare) 169 = .ok (.iinc 6 1, 3) := by decide +kernel
theorem d_X12_compare_172 : decode (px_cc M_X12_compare) 172 = .ok (.goto (-56), 3) := by decide +kernel
theorem d_X12_compare_175 : decode (px_cc M_X12_compare) 175 = .ok (.iload 6, 2) := by decide +kernel
theorem d_X12_compare_177 : decode (px_cc M_X12_compare) 177 = .ok (.aload_n 0, 1) := by decide +kernel
theorem d_X12_compare_178 : decode (px_cc M_X12_compare) 178 = .ok (.getfield 259, 3) := by decide +kernel
theorem d_X12_compare_181 : decode (px_cc M_X12_compare) 181 = .ok (.if_icmp .ge 14, 3) := by decide +kernel
theorem d_X12_compare_184 : decode (px_cc M_X12_compare) 184 = .ok (.aload_n 0, 1) := by decide +kernel
theorem d_X12_compare_185 : decode (px_cc M_X12_compare) 185 = .ok (.getfield 135, 3) := by decide +kernel
theorem d_X12_compare_188 : decode (px_cc M_X12_compare) 188 = .ok (.iload 6, 2) := by decide +kernel
theorem d_X12_compare_190 : decode (px_cc M_X12_compare) 190 = .ok (.iconst 1, 1) := by decide +kernel
theorem d_X12_compare_191 : decode (px_cc M_X12_compare) 191 = .ok (.bastore, 1) := by decide +kernel
theorem d_X12_compare_192 : decode (px_cc M_X12_compare) 192 = .ok (.iinc 3 1, 3) := by decide +kernel
theorem d_X12_compare_195 : decode (px_cc M_X12_compare) 195 = .ok (.iinc 5 1, 3) := by decide +kernel
theorem d_X12_compare_198 : decode (px_cc M_X12_compare) 198 = .ok (.goto (-101), 3) := by decide +kernel
theorem d_X12_compare_201 : decode (px_cc M_X12_compare) 201 = .ok (.iload_n 2, 1) := by decide +kernel
theorem d_X12_compare_202 : decode (px_cc M_X12_compare) 202 = .ok (.ifCond .ne 7, 3) := by decide +kernel
theorem d_X12_compare_205 : decode (px_cc M_X12_compare) 205 = .ok (.iload_n 3, 1) := by decide +kernel
theorem d_X12_compare_206 : decode (px_cc M_X12_compare) 206 = .ok (.goto 23, 3) := by decide +kernel
theorem d_X12_compare_209 : decode (px_cc M_X12_compare) 209 = .ok (.iload_n 2, 1) := by decide +kernel
theorem d_X12_compare_210 : decode (px_cc M_X12_compare) 210 = .ok (.iconst 1, 1) := by decide +kernel
theorem d_X12_compare_211 : decode (px_cc M_X12_compare) 211 = .ok (.if_icmp .ne 14, 3) := by decide +kernel
theorem d_X12_compare_214 : decode (px_cc M_X12_compare) 214 = .ok (.aload_n 0, 1) := by decide +kernel
theorem d_X12_compare_215 : decode (px_cc M_X12_compare) 215 = .ok (.getfield 126, 3) := by decide +kernel
theorem d_X12_compare_218 : decode (px_cc M_X12_compare) 218 = .ok (.iload_n 1, 1) := by decide +kernel
theorem d_X12_compare_219 : decode (px_cc M_X12_compare) 219 = .ok (.iaload, 1) := by decide +kernel
theorem d_X12_compare_220 : decode (px_cc M_X12_compare) 220 = .ok (.iload_n 3, 1) := by decide +kernel
theorem d_X12_compare_221 : decode (px_cc M_X12_compare) 221 = .ok (.isub, 1) := by decide +kernel
theorem d_X12_compare_222 : decode (px_cc M_X12_compare) 222 = .ok (.goto 7, 3) := by decide +kernel
theorem d_X12_compare_225 : decode (px_cc M_X12_compare) 225 = .ok (.iload 4, 2) := by decide +kernel
theorem d_X12_compare_227 : decode (px_cc M_X12_compare) 227 = .ok (.iload_n 3, 1) := by decide +kernel
theorem d_X12_compare_228 : decode (px_cc M_X12_compare) 228 = .ok (.isub, 1) := by decide +kernel
theorem d_X12_compare_229 : decode (px_cc M_X12_compare) 229 = .ok (.ireturn, 1) := by decide +kernel
theorem d_X12_settle_0 : decode (px_cc M_X12_settle) 0 = .ok (.aload_n 0, 1) := by decide +kernel
theorem d_X12_settle_1 : decode (px_cc M_X12_settle) 1 = .ok (.aload_n 0, 1) := by decide +kernel
theorem d_X12_settle_2 : decode (px_cc M_X12_settle) 2 = .ok (.iload_n 1, 1) := by decide +kernel
theorem d_X12_settle_3 : decode (px_cc M_X12_settle) 3 = .ok (.invokevirtual 262, 3) := by decide +kernel
theorem d_X12_settle_6 : decode (px_cc M_X12_settle) 6 = .ok (.ifCond .eq 7, 3) := by decide +kernel
theorem d_X12_settle_9 : decode (px_cc M_X12_settle) 9 = .ok (.iconst 0, 1) := by decide +kernel
theorem d_X12_settle_10 : decode (px_cc M_X12_settle) 10 = .ok (.goto 4, 3) := by decide +kernel
theorem d_X12_settle_13 : decode (px_cc M_X12_settle) 13 = .ok (.iconst 1, 1) := by decide +kernel
theorem d_X12_settle_14 : decode (px_cc M_X12_settle) 14 = .ok (.putfield 150, 3) := by decide +kernel
theorem d_X12_settle_17 : decode (px_cc M_X12_settle) 17 = .ok (.aload_n 0, 1) := by decide +kernel
theorem d_X12_settle_18 : decode (px_cc M_X12_settle) 18 = .ok (.getfield 150, 3) := by decide +kernel
theorem d_X12_settle_21 : decode (px_cc M_X12_settle) 21 = .ok (.ifCond .le 5, 3) := by decide +kernel
theorem d_X12_settle_24 : decode (px_cc M_X12_settle) 24 = .ok (.iconst 0, 1) := by decide +kernel
theorem d_X12_settle_25 : decode (px_cc M_X12_settle) 25 = .ok (.ireturn, 1) := by decide +kernel
theorem d_X12_settle_26 : decode (px_cc M_X12_settle) 26 = .ok (.aload_n 0, 1) := by decide +kernel
theorem d_X12_settle_27 : decode (px_cc M_X12_settle) 27 = .ok (.iload_n 1, 1) := by decide +kernel
theorem d_X12_settle_28 : decode (px_cc M_X12_settle) 28 = .ok (.aload_n 0, 1) := by decide +kernel
theorem d_X12_settle_29 : decode (px_cc M_X12_settle) 29 = .ok (.getfield 218, 3) := by decide +kernel
theorem d_X12_settle_32 : decode (px_cc M_X12_settle) 32 = .ok (.invokevirtual 279, 3) := by decide +kernel
theorem d_X12_settle_35 : decode (px_cc M_X12_settle) 35 = .ok (.aload_n 0, 1) := by decide +kernel
theorem d_X12_settle_36 : decode (px_cc M_X12_settle) 36 = .ok (.getfield 93, 3) := by decide +kernel
theorem d_X12_settle_39 : decode (px_cc M_X12_settle) 39 = .ok (.iload_n 1, 1) := by decide +kernel
theorem d_X12_settle_40 : decode (px_cc M_X12_settle) 40 = .ok (.iaload, 1) := by decide +kernel
theorem d_X12_settle_41 : decode (px_cc M_X12_settle) 41 = .ok (.ineg, 1) := by decide +kernel
theorem d_X12_settle_42 : decode (px_cc M_X12_settle) 42 = .ok (.istore_n 2, 1) := by decide +kernel
theorem d_X12_settle_43 : decode (px_cc M_X12_settle) 43 = .ok (.iconst 0, 1) := by decide +kernel
theorem d_X12_settle_44 : decode (px_cc M_X12_settle) 44 = .ok (.istore_n 3, 1) := by decide +kernel
theorem d_X12_settle_45 : decode (px_cc M_X12_settle) 45 = .ok (.iload_n 3, 1) := by decide +kernel
theorem d_X12_settle_46 : decode (px_cc M_X12_settle) 46 = .ok (.bipush 24, 2) := by decide +kernel
theorem d_X12_settle_48 : decode (px_cc M_X12_settle) 48 = .ok (.if_icmp .ge 36, 3) := by decide +kernel
theorem d_X12_settle_51 : decode (px_cc M_X12_settle) 51 = .ok (.iload_n 2, 1) := by decide +kernel
theorem d_X12_settle_52 : decode (px_cc M_X12_settle) 52 = .ok (.bipush 30, 2) := by decide +kernel
theorem d_X12_settle_54 : decode (px_cc M_X12_settle) 54 = .ok (.iload_n 3, 1) := by decide +kernel
theorem d_X12_settle_55 : decode (px_cc M_X12_settle) 55 = .ok (.imul, 1) := by decide +kernel
theorem d_X12_settle_56 : decode (px_cc M_X12_settle) 56 = .ok (.bipush 29, 2) := by decide +kernel
theorem d_X12_settle_58 : decode (px_cc M_X12_settle) 58 = .ok (.iadd, 1) := by decide +kernel
theorem d_X12_settle_59 : decode (px_cc M_X12_settle) 59 = .ok (.aload_n 0, 1) := by decide +kernel
theorem d_X12_settle_60 : decode (px_cc M_X12_settle) 60 = .ok (.getfield 218, 3) := by decide +kernel
theorem d_X12_settle_63 : decode (px_cc M_X12_settle) 63 = .ok (.if_icmp .ge 12, 3) := by decide +kernel
theorem d_X12_settle_66 : decode (px_cc M_X12_settle) 66 = .ok (.aload_n 0, 1) := by decide +kernel
theorem d_X12_settle_67 : decode (px_cc M_X12_settle) 67 = .ok (.getfield 111, 3) := by decide +kernel
theorem d_X12_settle_70 : decode (px_cc M_X12_settle) 70 = .ok (.iload_n 3, 1) := by decide +kernel
theorem d_X12_settle_71 : decode (px_cc M_X12_settle) 71 = .ok (.iaload, 1) := by decide +kernel
theorem d_X12_settle_72 : decode (px_cc M_X12_settle) 72 = .ok (.goto 4, 3) := by decide +kernel
theorem d_X12_settle_75 : decode (px_cc M_X12_settle) 75 = .ok (.iconst 0, 1) := by decide +kernel
theorem d_X12_settle_76 : decode (px_cc M_X12_settle) 76 = .ok (.iadd, 1) := by decide +kernel
theorem d_X12_settle_77 : decode (px_cc M_X12_settle) 77 = .ok (.istore_n 2, 1) := by decide +kernel
theorem d_X12_settle_78 : decode (px_cc M_X12_settle) 78 = .ok (.iinc 3 1, 3) := by decide +kernel
theorem d_X12_settle_81 : decode (px_cc M_X12_settle) 81 = .ok (.goto (-36), 3) := by decide +kernel
theorem d_X12_settle_84 : decode (px_cc M_X12_settle) 84 = .ok (.aload_n 0, 1) := by decide +kernel
theorem d_X12_settle_85 : decode (px_cc M_X12_settle) 85 = .ok (.getfield 93, 3) := by decide +kernel
theorem d_X12_settle_88 : decode (px_cc M_X12_settle) 88 = .ok (.iload_n 1, 1) := by decide +kernel
theorem d_X12_settle_89 : decode (px_cc M_X12_settle) 89 = .ok (.dup2, 1) := by decide +kernel
theorem d_X12_settle_90 : decode (px_cc M_X12_settle) 90 = .ok (.iaload, 1) := by decide +kernel
theorem d_X12_settle_91 : decode (px_cc M_X12_settle) 91 = .ok (.iload_n 2, 1) := by decide +kernel
theorem d_X12_settle_92 : decode (px_cc M_X12_settle) 92 = .ok (.iadd, 1) := by decide +kernel
theorem d_X12_settle_93 : decode (px_cc M_X12_settle) 93 = .ok (.iastore, 1) := by decide +kernel
theorem d_X12_settle_94 : decode (px_cc M_X12_settle) 94 = .ok (.iload_n 2, 1) := by decide +kernel
theorem d_X12_settle_95 : decode (px_cc M_X12_settle) 95 = .ok (.ireturn, 1) := by decide +kernel
theorem d_X12_night_0 : decode (px_cc M_X12_night) 0 = .ok (.aload_n 0, 1) := by decide +kernel
theorem d_X12_night_1 : decode (px_cc M_X12_night) 1 = .ok (.iload_n 1, 1) := by decide +kernel
theorem d_X12_night_2 : decode (px_cc M_X12_night) 2 = .ok (.ifCond .lt 23, 3) := by decide +kernel
theorem d_X12_night_5 : decode (px_cc M_X12_night) 5 = .ok (.iload_n 1, 1) := by decide +kernel
theorem d_X12_night_6 : decode (px_cc M_X12_night) 6 = .ok (.iconst 3, 1) := by decide +kernel
theorem d_X12_night_7 : decode (px_cc M_X12_night) 7 = .ok (.if_icmp .gt 18, 3) := by decide +kernel
theorem d_X12_night_10 : decode (px_cc M_X12_night) 10 = .ok (.iload_n 2, 1) := by decide +kernel
theorem d_X12_night_11 : decode (px_cc M_X12_night) 11 = .ok (.ifCond .lt 14, 3) := by decide +kernel
theorem d_X12_night_14 : decode (px_cc M_X12_night) 14 = .ok (.iload_n 2, 1) := by decide +kernel
theorem d_X12_night_15 : decode (px_cc M_X12_night) 15 = .ok (.ldc_w 305, 3) := by decide +kernel
theorem d_X12_night_18 : decode (px_cc M_X12_night) 18 = .ok (.if_icmp .gt 7, 3) := by decide +kernel
theorem d_X12_night_21 : decode (px_cc M_X12_night) 21 = .ok (.iconst 0, 1) := by decide +kernel
theorem d_X12_night_22 : decode (px_cc M_X12_night) 22 = .ok (.goto 4, 3) := by decide +kernel
theorem d_X12_night_25 : decode (px_cc M_X12_night) 25 = .ok (.iconst 1, 1) := by decide +kernel
theorem d_X12_night_26 : decode (px_cc M_X12_night) 26 = .ok (.putfield 150, 3) := by decide +kernel
theorem d_X12_night_29 : decode (px_cc M_X12_night) 29 = .ok (.aload_n 0, 1) := by decide +kernel
theorem d_X12_night_30 : decode (px_cc M_X12_night) 30 = .ok (.getfield 150, 3) := by decide +kernel
theorem d_X12_night_33 : decode (px_cc M_X12_night) 33 = .ok (.ifCond .le 5, 3) := by decide +kernel
theorem d_X12_night_36 : decode (px_cc M_X12_night) 36 = .ok (.iconst 0, 1) := by decide +kernel
theorem d_X12_night_37 : decode (px_cc M_X12_night) 37 = .ok (.ireturn, 1) := by decide +kernel
theorem d_X12_night_38 : decode (px_cc M_X12_night) 38 = .ok (.iload_n 2, 1) := by decide +kernel
theorem d_X12_night_39 : decode (px_cc M_X12_night) 39 = .ok (.aload_n 0, 1) := by decide +kernel
theorem d_X12_night_40 : decode (px_cc M_X12_night) 40 = .ok (.getfield 108, 3) := by decide +kernel
theorem d_X12_night_43 : decode (px_cc M_X12_night) 43 = .ok (.iload_n 1, 1) := by decide +kernel
theorem d_X12_night_44 : decode (px_cc M_X12_night) 44 = .ok (.iaload, 1) := by decide +kernel
theorem d_X12_night_45 : decode (px_cc M_X12_night) 45 = .ok (.isub, 1) := by decide +kernel
theorem d_X12_night_46 : decode (px_cc M_X12_night) 46 = .ok (.istore_n 3, 1) := by decide +kernel
theorem d_X12_night_47 : decode (px_cc M_X12_night) 47 = .ok (.aload_n 0, 1) := by decide +kernel
theorem d_X12_night_48 : decode (px_cc M_X12_night) 48 = .ok (.getfield 108, 3) := by decide +kernel
theorem d_X12_night_51 : decode (px_cc M_X12_night) 51 = .ok (.iload_n 1, 1) := by decide +kernel
theorem d_X12_night_52 : decode (px_cc M_X12_night) 52 = .ok (.iload_n 2, 1) := by decide +kernel
theorem d_X12_night_53 : decode (px_cc M_X12_night) 53 = .ok (.iastore, 1) := by decide +kernel
theorem d_X12_night_54 : decode (px_cc M_X12_night) 54 = .ok (.aload_n 0, 1) := by decide +kernel
theorem d_X12_night_55 : decode (px_cc M_X12_night) 55 = .ok (.dup, 1) := by decide +kernel
theorem d_X12_night_56 : decode (px_cc M_X12_night) 56 = .ok (.getfield 306, 3) := by decide +kernel
theorem d_X12_night_59 : decode (px_cc M_X12_night) 59 = .ok (.iload_n 3, 1) := by decide +kernel
theorem d_X12_night_60 : decode (px_cc M_X12_night) 60 = .ok (.iadd, 1) := by decide +kernel
theorem d_X12_night_61 : decode (px_cc M_X12_night) 61 = .ok (.putfield 306, 3) := by decide +kernel
theorem d_X12_night_64 : decode (px_cc M_X12_night) 64 = .ok (.iload_n 3, 1) := by decide +kernel
theorem d_X12_night_65 : decode (px_cc M_X12_night) 65 = .ok (.ireturn, 1) := by decide +kernel
theorem d_X12_coin_0 : decode (px_cc M_X12_coin) 0 = .ok (.aload_n 0, 1) := by decide +kernel
theorem d_X12_coin_1 : decode (px_cc M_X12_coin) 1 = .ok (.iload_n 1, 1) := by decide +kernel
theorem d_X12_coin_2 : decode (px_cc M_X12_coin) 2 = .ok (.ifCond .lt 12, 3) := by decide +kernel
theorem d_X12_coin_5 : decode (px_cc M_X12_coin) 5 = .ok (.iload_n 1, 1) := by decide +kernel
theorem d_X12_coin_6 : decode (px_cc M_X12_coin) 6 = .ok (.iconst 3, 1) := by decide +kernel
theorem d_X12_coin_7 : decode (px_cc M_X12_coin) 7 = .ok (.if_icmp .gt 7, 3) := by decide +kernel
theorem d_X12_coin_10 : decode (px_cc M_X12_coin) 10 = .ok (.iconst 0, 1) := by decide +kernel
theorem d_X12_coin_11 : decode (px_cc M_X12_coin) 11 = .ok (.goto 4, 3) := by decide +kernel
theorem d_X12_coin_14 : decode (px_cc M_X12_coin) 14 = .ok (.iconst 1, 1) := by decide +kernel
theorem d_X12_coin_15 : decode (px_cc M_X12_coin) 15 = .ok (.putfield 150, 3) := by decide +kernel
theorem d_X12_coin_18 : decode (px_cc M_X12_coin) 18 = .ok (.aload_n 0, 1) := by decide +kernel
theorem d_X12_coin_19 : decode (px_cc M_X12_coin) 19 = .ok (.getfield 150, 3) := by decide +kernel
theorem d_X12_coin_22 : decode (px_cc M_X12_coin) 22 = .ok (.ifCond .le 7, 3) := by decide +kernel
theorem d_X12_coin_25 : decode (px_cc M_X12_coin) 25 = .ok (.iconst 0, 1) := by decide +kernel
theorem d_X12_coin_26 : decode (px_cc M_X12_coin) 26 = .ok (.goto 9, 3) := by decide +kernel
theorem d_X12_coin_29 : decode (px_cc M_X12_coin) 29 = .ok (.aload_n 0, 1) := by decide +kernel
theorem d_X12_coin_30 : decode (px_cc M_X12_coin) 30 = .ok (.getfield 108, 3) := by decide +kernel
theorem d_X12_coin_33 : decode (px_cc M_X12_coin) 33 = .ok (.iload_n 1, 1) := by decide +kernel
theorem d_X12_coin_34 : decode (px_cc M_X12_coin) 34 = .ok (.iaload, 1) := by decide +kernel
theorem d_X12_coin_35 : decode (px_cc M_X12_coin) 35 = .ok (.ireturn, 1) := by decide +kernel
theorem d_X12_holding_0 : decode (px_cc M_X12_holding) 0 = .ok (.aload_n 0, 1) := by decide +kernel
theorem d_X12_holding_1 : decode (px_cc M_X12_holding) 1 = .ok (.iconst 0, 1) := by decide +kernel
theorem d_X12_holding_2 : decode (px_cc M_X12_holding) 2 = .ok (.putfield 150, 3) := by decide +kernel
theorem d_X12_holding_5 : decode (px_cc M_X12_holding) 5 = .ok (.aload_n 0, 1) := by decide +kernel
theorem d_X12_holding_6 : decode (px_cc M_X12_holding) 6 = .ok (.getfield 309, 3) := by decide +kernel
theorem d_X12_holding_9 : decode (px_cc M_X12_holding) 9 = .ok (.bipush 6, 2) := by decide +kernel
theorem d_X12_holding_11 : decode (px_cc M_X12_holding) 11 = .ok (.if_icmp .ge 7, 3) := by decide +kernel
theorem d_X12_holding_14 : decode (px_cc M_X12_holding) 14 = .ok (.iconst 1, 1) := by decide +kernel
theorem d_X12_holding_15 : decode (px_cc M_X12_holding) 15 = .ok (.goto 4, 3) := by decide +kernel
theorem d_X12_holding_18 : decode (px_cc M_X12_holding) 18 = .ok (.iconst 0, 1) := by decide +kernel
theorem d_X12_holding_19 : decode (px_cc M_X12_holding) 19 = .ok (.istore_n 3, 1) := by decide +kernel
theorem d_X12_holding_20 : decode (px_cc M_X12_holding) 20 = .ok (.iconst 0, 1) := by decide +kernel
theorem d_X12_holding_21 : decode (px_cc M_X12_holding) 21 = .ok (.istore 4, 2) := by decide +kernel
theorem d_X12_holding_23 : decode (px_cc M_X12_holding) 23 = .ok (.iload 4, 2) := by decide +kernel
theorem d_X12_holding_25 : decode (px_cc M_X12_holding) 25 = .ok (.bipush 6, 2) := by decide +kernel
theorem d_X12_holding_27 : decode (px_cc M_X12_holding) 27 = .ok (.if_icmp .ge 46, 3) := by decide +kernel
theorem d_X12_holding_30 : decode (px_cc M_X12_holding) 30 = .ok (.iload_n 1, 1) := by decide +kernel
theorem d_X12_holding_31 : decode (px_cc M_X12_holding) 31 = .ok (.i2l, 1) := by decide +kernel
theorem d_X12_holding_32 : decode (px_cc M_X12_holding) 32 = .ok (.iload_n 2, 1) := by decide +kernel
theorem d_X12_holding_33 : decode (px_cc M_X12_holding) 33 = .ok (.i2l, 1) := by decide +kernel
theorem d_X12_holding_34 : decode (px_cc M_X12_holding) 34 = .ok (.iload 4, 2) := by decide +kernel
theorem d_X12_holding_36 : decode (px_cc M_X12_holding) 36 = .ok (.i2l, 1) := by decide +kernel
theorem d_X12_holding_37 : decode (px_cc M_X12_holding) 37 = .ok (.lmul, 1) := by decide +kernel
theorem d_X12_holding_38 : decode (px_cc M_X12_holding) 38 = .ok (.ladd, 1) := by decide +kernel
theorem d_X12_holding_39 : decode (px_cc M_X12_holding) 39 = .ok (.lstore 5, 2) := by decide +kernel
theorem d_X12_holding_41 : decode (px_cc M_X12_holding) 41 = .ok (.iload_n 3, 1) := by decide +kernel
theorem d_X12_holding_42 : decode (px_cc M_X12_holding) 42 = .ok (.ifCond .eq 23, 3) := by decide +kernel
theorem d_X12_holding_45 : decode (px_cc M_X12_holding) 45 = .ok (.lload 5, 2) := by decide +kernel
theorem d_X12_holding_47 : decode (px_cc M_X12_holding) 47 = .ok (.lconst 1, 1) := by decide +kernel
theorem d_X12_holding_48 : decode (px_cc M_X12_holding) 48 = .ok (.lcmp, 1) := by decide +kernel
theorem d_X12_holding_49 : decode (px_cc M_X12_holding) 49 = .ok (.ifCond .lt 16, 3) := by decide +kernel
theorem d_X12_holding_52 : decode (px_cc M_X12_holding) 52 = .ok (.lload 5, 2) := by decide +kernel
theorem d_X12_holding_54 : decode (px_cc M_X12_holding) 54 = .ok (.ldc2_w 312, 3) := by decide +kernel
theorem d_X12_holding_57 : decode (px_cc M_X12_holding) 57 = .ok (.lcmp, 1) := by decide +kernel
theorem d_X12_holding_58 : decode (px_cc M_X12_holding) 58 = .ok (.ifCond .gt 7, 3) := by decide +kernel
theorem d_X12_holding_61 : decode (px_cc M_X12_holding) 61 = .ok (.iconst 1, 1) := by decide +kernel
theorem d_X12_holding_62 : decode (px_cc M_X12_holding) 62 = .ok (.goto 4, 3) := by decide +kernel
theorem d_X12_holding_65 : decode (px_cc M_X12_holding) 65 = .ok (.iconst 0, 1) := by decide +kernel
theorem d_X12_holding_66 : decode (px_cc M_X12_holding) 66 = .ok (.istore_n 3, 1) := by decide +kernel
theorem d_X12_holding_67 : decode (px_cc M_X12_holding) 67 = .ok (.iinc 4 1, 3) := by decide +kernel
theorem d_X12_holding_70 : decode (px_cc M_X12_holding) 70 = .ok (.goto (-47), 3) := by decide +kernel
theorem d_X12_holding_73 : decode (px_cc M_X12_holding) 73 = .ok (.iload_n 3, 1) := by decide +kernel
theorem d_X12_holding_74 : decode (px_cc M_X12_holding) 74 = .ok (.ifCond .ne 5, 3) := by decide +kernel
theorem d_X12_holding_77 : decode (px_cc M_X12_holding) 77 = .ok (.iconst (-1), 1) := by decide +kernel
theorem d_X12_holding_78 : decode (px_cc M_X12_holding) 78 = .ok (.ireturn, 1) := by decide +kernel
theorem d_X12_holding_79 : decode (px_cc M_X12_holding) 79 = .ok (.iconst 0, 1) := by decide +kernel
theorem d_X12_holding_80 : decode (px_cc M_X12_holding) 80 = .ok (.istore 4, 2) := by decide +kernel
theorem d_X12_holding_82 : decode (px_cc M_X12_holding) 82 = .ok (.iload 4, 2) := by decide +kernel
theorem d_X12_holding_84 : decode (px_cc M_X12_holding) 84 = .ok (.bipush 6, 2) := by decide +kernel
theorem d_X12_holding_86 : decode (px_cc M_X12_holding) 86 = .ok (.if_icmp .ge 30, 3) := by decide +kernel
theorem d_X12_holding_89 : decode (px_cc M_X12_holding) 89 = .ok (.aload_n 0, 1) := by decide +kernel
theorem d_X12_holding_90 : decode (px_cc M_X12_holding) 90 = .ok (.getfield 138, 3) := by decide +kernel
theorem d_X12_holding_93 : decode (px_cc M_X12_holding) 93 = .ok (.bipush 6, 2) := by decide +kernel
theorem d_X12_holding_95 : decode (px_cc M_X12_holding) 95 = .ok (.aload_n 0, 1) := by decide +kernel
theorem d_X12_holding_96 : decode (px_cc M_X12_holding) 96 = .ok (.getfield 309, 3) := by decide +kernel
theorem d_X12_holding_99 : decode (px_cc M_X12_holding) 99 = .ok (.imul, 1) := by decide +kernel
theorem d_X12_holding_100 : decode (px_cc M_X12_holding) 100 = .ok (.iload 4, 2) := by decide +kernel
theorem d_X12_holding_102 : decode (px_cc M_X12_holding) 102 = .ok (.iadd, 1) := by decide +kernel
theorem d_X12_holding_103 : decode (px_cc M_X12_holding) 103 = .ok (.iload_n 1, 1) := by decide +kernel
theorem d_X12_holding_104 : decode (px_cc M_X12_holding) 104 = .ok (.iload_n 2, 1) := by decide +kernel
theorem d_X12_holding_105 : decode (px_cc M_X12_holding) 105 = .ok (.iload 4, 2) := by decide +kernel
theorem d_X12_holding_107 : decode (px_cc M_X12_holding) 107 = .ok (.imul, 1) := by decide +kernel
theorem d_X12_holding_108 : decode (px_cc M_X12_holding) 108 = .ok (.iadd, 1) := by decide +kernel
theorem d_X12_holding_109 : decode (px_cc M_X12_holding) 109 = .ok (.iastore, 1) := by decide +kernel
theorem d_X12_holding_110 : decode (px_cc M_X12_holding) 110 = .ok (.iinc 4 1, 3) := by decide +kernel
theorem d_X12_holding_113 : decode (px_cc M_X12_holding) 113 = .ok (.goto (-31), 3) := by decide +kernel
theorem d_X12_holding_116 : decode (px_cc M_X12_holding) 116 = .ok (.aload_n 0, 1) := by decide +kernel
theorem d_X12_holding_117 : decode (px_cc M_X12_holding) 117 = .ok (.dup, 1) := by decide +kernel
theorem d_X12_holding_118 : decode (px_cc M_X12_holding) 118 = .ok (.getfield 309, 3) := by decide +kernel
theorem d_X12_holding_121 : decode (px_cc M_X12_holding) 121 = .ok (.iconst 1, 1) := by decide +kernel
theorem d_X12_holding_122 : decode (px_cc M_X12_holding) 122 = .ok (.iadd, 1) := by decide +kernel
theorem d_X12_holding_123 : decode (px_cc M_X12_holding) 123 = .ok (.putfield 309, 3) := by decide +kernel
theorem d_X12_holding_126 : decode (px_cc M_X12_holding) 126 = .ok (.aload_n 0, 1) := by decide +kernel
theorem d_X12_holding_127 : decode (px_cc M_X12_holding) 127 = .ok (.getfield 309, 3) := by decide +kernel
theorem d_X12_holding_130 : decode (px_cc M_X12_holding) 130 = .ok (.iconst 1, 1) := by decide +kernel
theorem d_X12_holding_131 : decode (px_cc M_X12_holding) 131 = .ok (.isub, 1) := by decide +kernel
theorem d_X12_holding_132 : decode (px_cc M_X12_holding) 132 = .ok (.ireturn, 1) := by decide +kernel
theorem d_X12_need_0 : decode (px_cc M_X12_need) 0 = .ok (.aload_n 0, 1) := by decide +kernel
theorem d_X12_need_1 : decode (px_cc M_X12_need) 1 = .ok (.iconst 0, 1) := by decide +kernel
theorem d_X12_need_2 : decode (px_cc M_X12_need) 2 = .ok (.putfield 150, 3) := by decide +kernel
theorem d_X12_need_5 : decode (px_cc M_X12_need) 5 = .ok (.iload_n 1, 1) := by decide +kernel
theorem d_X12_need_6 : decode (px_cc M_X12_need) 6 = .ok (.ifCond .lt 19, 3) := by decide +kernel
theorem d_X12_need_9 : decode (px_cc M_X12_need) 9 = .ok (.iload_n 1, 1) := by decide +kernel
theorem d_X12_need_10 : decode (px_cc M_X12_need) 10 = .ok (.iconst 5, 1) := by decide +kernel
theorem d_X12_need_11 : decode (px_cc M_X12_need) 11 = .ok (.if_icmp .gt 14, 3) := by decide +kernel
theorem d_X12_need_14 : decode (px_cc M_X12_need) 14 = .ok (.iload_n 2, 1) := by decide +kernel
theorem d_X12_need_15 : decode (px_cc M_X12_need) 15 = .ok (.ifCond .lt 10, 3) := by decide +kernel
theorem d_X12_need_18 : decode (px_cc M_X12_need) 18 = .ok (.iload_n 2, 1) := by decide +kernel
theorem d_X12_need_19 : decode (px_cc M_X12_need) 19 = .ok (.ldc_w 314, 3) := by decide +kernel
theorem d_X12_need_22 : decode (px_cc M_X12_need) 22 = .ok (.if_icmp .le 5, 3) := by decide +kernel
theorem d_X12_need_25 : decode (px_cc M_X12_need) 25 = .ok (.iconst 0, 1) := by decide +kernel
theorem d_X12_need_26 : decode (px_cc M_X12_need) 26 = .ok (.ireturn, 1) := by decide +kernel
theorem d_X12_need_27 : decode (px_cc M_X12_need) 27 = .ok (.aload_n 0, 1) := by decide +kernel
theorem d_X12_need_28 : decode (px_cc M_X12_need) 28 = .ok (.getfield 141, 3) := by decide +kernel
theorem d_X12_need_31 : decode (px_cc M_X12_need) 31 = .ok (.iload_n 1, 1) := by decide +kernel
theorem d_X12_need_32 : decode (px_cc M_X12_need) 32 = .ok (.iload_n 2, 1) := by decide +kernel
theorem d_X12_need_33 : decode (px_cc M_X12_need) 33 = .ok (.iastore, 1) := by decide +kernel
theorem d_X12_need_34 : decode (px_cc M_X12_need) 34 = .ok (.iconst 1, 1) := by decide +kernel
theorem d_X12_need_35 : decode (px_cc M_X12_need) 35 = .ok (.ireturn, 1) := by decide +kernel
theorem d_X12_comesTo_0 : decode (px_cc M_X12_comesTo) 0 = .ok (.iconst 0, 1) := by decide +kernel
theorem d_X12_comesTo_1 : decode (px_cc M_X12_comesTo) 1 = .ok (.istore_n 1, 1) := by decide +kernel
theorem d_X12_comesTo_2 : decode (px_cc M_X12_comesTo) 2 = .ok (.iconst 0, 1) := by decide +kernel
theorem d_X12_comesTo_3 : decode (px_cc M_X12_comesTo) 3 = .ok (.istore_n 2, 1) := by decide +kernel
theorem d_X12_comesTo_4 : decode (px_cc M_X12_comesTo) 4 = .ok (.iconst 0, 1) := by decide +kernel
theorem d_X12_comesTo_5 : decode (px_cc M_X12_comesTo) 5 = .ok (.istore_n 3, 1) := by decide +kernel
theorem d_X12_comesTo_6 : decode (px_cc M_X12_comesTo) 6 = .ok (.iload_n 3, 1) := by decide +kernel
theorem d_X12_comesTo_7 : decode (px_cc M_X12_comesTo) 7 = .ok (.bipush 6, 2) := by decide +kernel
theorem d_X12_comesTo_9 : decode (px_cc M_X12_comesTo) 9 = .ok (.if_icmp .ge 73, 3) := by decide +kernel
theorem d_X12_comesTo_12 : decode (px_cc M_X12_comesTo) 12 = .ok (.iload_n 2, 1) := by decide +kernel
theorem d_X12_comesTo_13 : decode (px_cc M_X12_comesTo) 13 = .ok (.aload_n 0, 1) := by decide +kernel
theorem d_X12_comesTo_14 : decode (px_cc M_X12_comesTo) 14 = .ok (.getfield 141, 3) := by decide +kernel
theorem d_X12_comesTo_17 : decode (px_cc M_X12_comesTo) 17 = .ok (.iload_n 3, 1) := by decide +kernel
theorem d_X12_comesTo_18 : decode (px_cc M_X12_comesTo) 18 = .ok (.iaload, 1) := by decide +kernel
theorem d_X12_comesTo_19 : decode (px_cc M_X12_comesTo) 19 = .ok (.iadd, 1) := by decide +kernel
theorem d_X12_comesTo_20 : decode (px_cc M_X12_comesTo) 20 = .ok (.istore_n 2, 1) := by decide +kernel
theorem d_X12_comesTo_21 : decode (px_cc M_X12_comesTo) 21 = .ok (.iconst 0, 1) := by decide +kernel
theorem d_X12_comesTo_22 : decode (px_cc M_X12_comesTo) 22 = .ok (.istore 4, 2) := by decide +kernel
theorem d_X12_comesTo_24 : decode (px_cc M_X12_comesTo) 24 = .ok (.iload 4, 2) := by decide +kernel
theorem d_X12_comesTo_26 : decode (px_cc M_X12_comesTo) 26 = .ok (.aload_n 0, 1) := by decide +kernel
theorem d_X12_comesTo_27 : decode (px_cc M_X12_comesTo) 27 = .ok (.getfield 309, 3) := by decide +kernel
theorem d_X12_comesTo_30 : decode (px_cc M_X12_comesTo) 30 = .ok (.if_icmp .ge 39, 3) := by decide +kernel
theorem d_X12_comesTo_33 : decode (px_cc M_X12_comesTo) 33 = .ok (.iload_n 1, 1) := by decide +kernel
theorem d_X12_comesTo_34 : decode (px_cc M_X12_comesTo) 34 = .ok (.aload_n 0, 1) := by decide +kernel
theorem d_X12_comesTo_35 : decode (px_cc M_X12_comesTo) 35 = .ok (.getfield 144, 3) := by decide +kernel
theorem d_X12_comesTo_38 : decode (px_cc M_X12_comesTo) 38 = .ok (.iload 4, 2) := by decide +kernel
theorem d_X12_comesTo_40 : decode (px_cc M_X12_comesTo) 40 = .ok (.iaload, 1) := by decide +kernel
theorem d_X12_comesTo_41 : decode (px_cc M_X12_comesTo) 41 = .ok (.iload_n 3, 1) := by decide +kernel
theorem d_X12_comesTo_42 : decode (px_cc M_X12_comesTo) 42 = .ok (.if_icmp .ne 18, 3) := by decide +kernel
theorem d_X12_comesTo_45 : decode (px_cc M_X12_comesTo) 45 = .ok (.aload_n 0, 1) := by decide +kernel
theorem d_X12_comesTo_46 : decode (px_cc M_X12_comesTo) 46 = .ok (.getfield 138, 3) := by decide +kernel
theorem d_X12_comesTo_49 : decode (px_cc M_X12_comesTo) 49 = .ok (.bipush 6, 2) := by decide +kernel
theorem d_X12_comesTo_51 : decode (px_cc M_X12_comesTo) 51 = .ok (.iload 4, 2) := by decide +kernel
theorem d_X12_comesTo_53 : decode (px_cc M_X12_comesTo) 53 = .ok (.imul, 1) := by decide +kernel
theorem d_X12_comesTo_54 : decode (px_cc M_X12_comesTo) 54 = .ok (.iload_n 3, 1) := by decide +kernel
theorem d_X12_comesTo_55 : decode (px_cc M_X12_comesTo) 55 = .ok (.iadd, 1) := by decide +kernel
theorem d_X12_comesTo_56 : decode (px_cc M_X12_comesTo) 56 = .ok (.iaload, 1) := by decide +kernel
theorem d_X12_comesTo_57 : decode (px_cc M_X12_comesTo) 57 = .ok (.goto 4, 3) := by decide +kernel
theorem d_X12_comesTo_60 : decode (px_cc M_X12_comesTo) 60 = .ok (.iconst 0, 1) := by decide +kernel
theorem d_X12_comesTo_61 : decode (px_cc M_X12_comesTo) 61 = .ok (.iadd, 1) := by decide +kernel
theorem d_X12_comesTo_62 : decode (px_cc M_X12_comesTo) 62 = .ok (.istore_n 1, 1) := by decide +kernel
theorem d_X12_comesTo_63 : decode (px_cc M_X12_comesTo) 63 = .ok (.iinc 4 1, 3) := by decide +kernel
theorem d_X12_comesTo_66 : decode (px_cc M_X12_comesTo) 66 = .ok (.goto (-42), 3) := by decide +kernel
theorem d_X12_comesTo_69 : decode (px_cc M_X12_comesTo) 69 = .ok (.iload_n 1, 1) := by decide +kernel
theorem d_X12_comesTo_70 : decode (px_cc M_X12_comesTo) 70 = .ok (.iload_n 2, 1) := by decide +kernel
theorem d_X12_comesTo_71 : decode (px_cc M_X12_comesTo) 71 = .ok (.if_icmp .ge 5, 3) := by decide +kernel
theorem d_X12_comesTo_74 : decode (px_cc M_X12_comesTo) 74 = .ok (.iconst (-1), 1) := by decide +kernel
theorem d_X12_comesTo_75 : decode (px_cc M_X12_comesTo) 75 = .ok (.ireturn, 1) := by decide +kernel
theorem d_X12_comesTo_76 : decode (px_cc M_X12_comesTo) 76 = .ok (.iinc 3 1, 3) := by decide +kernel
theorem d_X12_comesTo_79 : decode (px_cc M_X12_comesTo) 79 = .ok (.goto (-73), 3) := by decide +kernel
theorem d_X12_comesTo_82 : decode (px_cc M_X12_comesTo) 82 = .ok (.iconst 0, 1) := by decide +kernel
theorem d_X12_comesTo_83 : decode (px_cc M_X12_comesTo) 83 = .ok (.istore_n 3, 1) := by decide +kernel
theorem d_X12_comesTo_84 : decode (px_cc M_X12_comesTo) 84 = .ok (.iload_n 3, 1) := by decide +kernel
theorem d_X12_comesTo_85 : decode (px_cc M_X12_comesTo) 85 = .ok (.aload_n 0, 1) := by decide +kernel
theorem d_X12_comesTo_86 : decode (px_cc M_X12_comesTo) 86 = .ok (.getfield 309, 3) := by decide +kernel
theorem d_X12_comesTo_89 : decode (px_cc M_X12_comesTo) 89 = .ok (.if_icmp .ge 38, 3) := by decide +kernel
theorem d_X12_comesTo_92 : decode (px_cc M_X12_comesTo) 92 = .ok (.iload_n 1, 1) := by decide +kernel
theorem d_X12_comesTo_93 : decode (px_cc M_X12_comesTo) 93 = .ok (.aload_n 0, 1) := by decide +kernel
theorem d_X12_comesTo_94 : decode (px_cc M_X12_comesTo) 94 = .ok (.getfield 144, 3) := by decide +kernel
theorem d_X12_comesTo_97 : decode (px_cc M_X12_comesTo) 97 = .ok (.iload_n 3, 1) := by decide +kernel
theorem d_X12_comesTo_98 : decode (px_cc M_X12_comesTo) 98 = .ok (.iaload, 1) := by decide +kernel
theorem d_X12_comesTo_99 : decode (px_cc M_X12_comesTo) 99 = .ok (.bipush 6, 2) := by decide +kernel
theorem d_X12_comesTo_101 : decode (px_cc M_X12_comesTo) 101 = .ok (.if_icmp .ne 17, 3) := by decide +kernel
theorem d_X12_comesTo_104 : decode (px_cc M_X12_comesTo) 104 = .ok (.aload_n 0, 1) := by decide +kernel
theorem d_X12_comesTo_105 : decode (px_cc M_X12_comesTo) 105 = .ok (.getfield 138, 3) := by decide +kernel
theorem d_X12_comesTo_108 : decode (px_cc M_X12_comesTo) 108 = .ok (.bipush 6, 2) := by decide +kernel
theorem d_X12_comesTo_110 : decode (px_cc M_X12_comesTo) 110 = .ok (.iload_n 3, 1) := by decide +kernel
theorem d_X12_comesTo_111 : decode (px_cc M_X12_comesTo) 111 = .ok (.imul, 1) := by decide +kernel
theorem d_X12_comesTo_112 : decode (px_cc M_X12_comesTo) 112 = .ok (.iconst 5, 1) := by decide +kernel
theorem d_X12_comesTo_113 : decode (px_cc M_X12_comesTo) 113 = .ok (.iadd, 1) := by decide +kernel
theorem d_X12_comesTo_114 : decode (px_cc M_X12_comesTo) 114 = .ok (.iaload, 1) := by decide +kernel
theorem d_X12_comesTo_115 : decode (px_cc M_X12_comesTo) 115 = .ok (.goto 4, 3) := by decide +kernel
theorem d_X12_comesTo_118 : decode (px_cc M_X12_comesTo) 118 = .ok (.iconst 0, 1) := by decide +kernel
theorem d_X12_comesTo_119 : decode (px_cc M_X12_comesTo) 119 = .ok (.iadd, 1) := by decide +kernel
theorem d_X12_comesTo_120 : decode (px_cc M_X12_comesTo) 120 = .ok (.istore_n 1, 1) := by decide +kernel
theorem d_X12_comesTo_121 : decode (px_cc M_X12_comesTo) 121 = .ok (.iinc 3 1, 3) := by decide +kernel
theorem d_X12_comesTo_124 : decode (px_cc M_X12_comesTo) 124 = .ok (.goto (-40), 3) := by decide +kernel
theorem d_X12_comesTo_127 : decode (px_cc M_X12_comesTo) 127 = .ok (.iload_n 1, 1) := by decide +kernel
theorem d_X12_comesTo_128 : decode (px_cc M_X12_comesTo) 128 = .ok (.ireturn, 1) := by decide +kernel
theorem d_X12_best_0 : decode (px_cc M_X12_best) 0 = .ok (.aload_n 0, 1) := by decide +kernel
theorem d_X12_best_1 : decode (px_cc M_X12_best) 1 = .ok (.iconst 0, 1) := by decide +kernel
theorem d_X12_best_2 : decode (px_cc M_X12_best) 2 = .ok (.putfield 150, 3) := by decide +kernel
theorem d_X12_best_5 : decode (px_cc M_X12_best) 5 = .ok (.iconst 1, 1) := by decide +kernel
theorem d_X12_best_6 : decode (px_cc M_X12_best) 6 = .ok (.istore_n 1, 1) := by decide +kernel
theorem d_X12_best_7 : decode (px_cc M_X12_best) 7 = .ok (.iconst 0, 1) := by decide +kernel
theorem d_X12_best_8 : decode (px_cc M_X12_best) 8 = .ok (.istore_n 2, 1) := by decide +kernel
theorem d_X12_best_9 : decode (px_cc M_X12_best) 9 = .ok (.iload_n 2, 1) := by decide +kernel
theorem d_X12_best_10 : decode (px_cc M_X12_best) 10 = .ok (.aload_n 0, 1) := by decide +kernel
theorem d_X12_best_11 : decode (px_cc M_X12_best) 11 = .ok (.getfield 309, 3) := by decide +kernel
theorem d_X12_best_14 : decode (px_cc M_X12_best) 14 = .ok (.if_icmp .ge 14, 3) := by decide +kernel
theorem d_X12_best_17 : decode (px_cc M_X12_best) 17 = .ok (.iload_n 1, 1) := by decide +kernel
theorem d_X12_best_18 : decode (px_cc M_X12_best) 18 = .ok (.bipush 7, 2) := by decide +kernel
theorem d_X12_best_20 : decode (px_cc M_X12_best) 20 = .ok (.imul, 1) := by decide +kernel
theorem d_X12_best_21 : decode (px_cc M_X12_best) 21 = .ok (.istore_n 1, 1) := by decide +kernel
