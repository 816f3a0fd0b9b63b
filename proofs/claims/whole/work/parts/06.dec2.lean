theorem d_X5_numberOf_87 : decode (px_cc M_X5_numberOf) 87 = .ok (.iconst 2, 1) := by decide +kernel
theorem d_X5_numberOf_88 : decode (px_cc M_X5_numberOf) 88 = .ok (.iadd, 1) := by decide +kernel
theorem d_X5_numberOf_89 : decode (px_cc M_X5_numberOf) 89 = .ok (.if_icmp .le 11, 3) := by decide +kernel
theorem d_X5_numberOf_92 : decode (px_cc M_X5_numberOf) 92 = .ok (.aload_n 0, 1) := by decide +kernel
theorem d_X5_numberOf_93 : decode (px_cc M_X5_numberOf) 93 = .ok (.aload_n 1, 1) := by decide +kernel
theorem d_X5_numberOf_94 : decode (px_cc M_X5_numberOf) 94 = .ok (.iload 4, 2) := by decide +kernel
theorem d_X5_numberOf_96 : decode (px_cc M_X5_numberOf) 96 = .ok (.iaload, 1) := by decide +kernel
theorem d_X5_numberOf_97 : decode (px_cc M_X5_numberOf) 97 = .ok (.invokevirtual 62, 3) := by decide +kernel
theorem d_X5_numberOf_100 : decode (px_cc M_X5_numberOf) 100 = .ok (.iinc 4 1, 3) := by decide +kernel
theorem d_X5_numberOf_103 : decode (px_cc M_X5_numberOf) 103 = .ok (.goto (-98), 3) := by decide +kernel
theorem d_X5_numberOf_106 : decode (px_cc M_X5_numberOf) 106 = .ok (.iconst (-1), 1) := by decide +kernel
theorem d_X5_numberOf_107 : decode (px_cc M_X5_numberOf) 107 = .ok (.ireturn, 1) := by decide +kernel
theorem d_X5_clearLevel_0 : decode (px_cc M_X5_clearLevel) 0 = .ok (.aload_n 0, 1) := by decide +kernel
theorem d_X5_clearLevel_1 : decode (px_cc M_X5_clearLevel) 1 = .ok (.getfield 9, 3) := by decide +kernel
theorem d_X5_clearLevel_4 : decode (px_cc M_X5_clearLevel) 4 = .ok (.aload_n 0, 1) := by decide +kernel
theorem d_X5_clearLevel_5 : decode (px_cc M_X5_clearLevel) 5 = .ok (.getfield 52, 3) := by decide +kernel
theorem d_X5_clearLevel_8 : decode (px_cc M_X5_clearLevel) 8 = .ok (.iconst 0, 1) := by decide +kernel
theorem d_X5_clearLevel_9 : decode (px_cc M_X5_clearLevel) 9 = .ok (.iastore, 1) := by decide +kernel
theorem d_X5_clearLevel_10 : decode (px_cc M_X5_clearLevel) 10 = .ok (.aload_n 0, 1) := by decide +kernel
theorem d_X5_clearLevel_11 : decode (px_cc M_X5_clearLevel) 11 = .ok (.getfield 15, 3) := by decide +kernel
theorem d_X5_clearLevel_14 : decode (px_cc M_X5_clearLevel) 14 = .ok (.aload_n 0, 1) := by decide +kernel
theorem d_X5_clearLevel_15 : decode (px_cc M_X5_clearLevel) 15 = .ok (.getfield 52, 3) := by decide +kernel
theorem d_X5_clearLevel_18 : decode (px_cc M_X5_clearLevel) 18 = .ok (.iconst 1, 1) := by decide +kernel
theorem d_X5_clearLevel_19 : decode (px_cc M_X5_clearLevel) 19 = .ok (.iastore, 1) := by decide +kernel
theorem d_X5_clearLevel_20 : decode (px_cc M_X5_clearLevel) 20 = .ok (.aload_n 0, 1) := by decide +kernel
theorem d_X5_clearLevel_21 : decode (px_cc M_X5_clearLevel) 21 = .ok (.getfield 21, 3) := by decide +kernel
theorem d_X5_clearLevel_24 : decode (px_cc M_X5_clearLevel) 24 = .ok (.aload_n 0, 1) := by decide +kernel
theorem d_X5_clearLevel_25 : decode (px_cc M_X5_clearLevel) 25 = .ok (.getfield 52, 3) := by decide +kernel
theorem d_X5_clearLevel_28 : decode (px_cc M_X5_clearLevel) 28 = .ok (.iconst 0, 1) := by decide +kernel
theorem d_X5_clearLevel_29 : decode (px_cc M_X5_clearLevel) 29 = .ok (.iastore, 1) := by decide +kernel
theorem d_X5_clearLevel_30 : decode (px_cc M_X5_clearLevel) 30 = .ok (.aload_n 0, 1) := by decide +kernel
theorem d_X5_clearLevel_31 : decode (px_cc M_X5_clearLevel) 31 = .ok (.getfield 24, 3) := by decide +kernel
theorem d_X5_clearLevel_34 : decode (px_cc M_X5_clearLevel) 34 = .ok (.aload_n 0, 1) := by decide +kernel
theorem d_X5_clearLevel_35 : decode (px_cc M_X5_clearLevel) 35 = .ok (.getfield 52, 3) := by decide +kernel
theorem d_X5_clearLevel_38 : decode (px_cc M_X5_clearLevel) 38 = .ok (.iconst 0, 1) := by decide +kernel
theorem d_X5_clearLevel_39 : decode (px_cc M_X5_clearLevel) 39 = .ok (.iastore, 1) := by decide +kernel
theorem d_X5_clearLevel_40 : decode (px_cc M_X5_clearLevel) 40 = .ok (.aload_n 0, 1) := by decide +kernel
theorem d_X5_clearLevel_41 : decode (px_cc M_X5_clearLevel) 41 = .ok (.getfield 27, 3) := by decide +kernel
theorem d_X5_clearLevel_44 : decode (px_cc M_X5_clearLevel) 44 = .ok (.aload_n 0, 1) := by decide +kernel
theorem d_X5_clearLevel_45 : decode (px_cc M_X5_clearLevel) 45 = .ok (.getfield 52, 3) := by decide +kernel
theorem d_X5_clearLevel_48 : decode (px_cc M_X5_clearLevel) 48 = .ok (.iconst 0, 1) := by decide +kernel
theorem d_X5_clearLevel_49 : decode (px_cc M_X5_clearLevel) 49 = .ok (.iastore, 1) := by decide +kernel
theorem d_X5_clearLevel_50 : decode (px_cc M_X5_clearLevel) 50 = .ok (.return_, 1) := by decide +kernel
theorem d_X5_take_0 : decode (px_cc M_X5_take) 0 = .ok (.iload_n 1, 1) := by decide +kernel
theorem d_X5_take_1 : decode (px_cc M_X5_take) 1 = .ok (.tableswitch 156 (-17) (-6) #[145, 134, 128, 128, 93, 63, 156, 156, 156, 156, 156, 122], 63) := by decide +kernel
theorem d_X5_take_64 : decode (px_cc M_X5_take) 64 = .ok (.aload_n 0, 1) := by decide +kernel
theorem d_X5_take_65 : decode (px_cc M_X5_take) 65 = .ok (.aload_n 0, 1) := by decide +kernel
theorem d_X5_take_66 : decode (px_cc M_X5_take) 66 = .ok (.getfield 52, 3) := by decide +kernel
theorem d_X5_take_69 : decode (px_cc M_X5_take) 69 = .ok (.iconst 5, 1) := by decide +kernel
theorem d_X5_take_70 : decode (px_cc M_X5_take) 70 = .ok (.if_icmp .ge 12, 3) := by decide +kernel
theorem d_X5_take_73 : decode (px_cc M_X5_take) 73 = .ok (.aload_n 0, 1) := by decide +kernel
theorem d_X5_take_74 : decode (px_cc M_X5_take) 74 = .ok (.getfield 52, 3) := by decide +kernel
theorem d_X5_take_77 : decode (px_cc M_X5_take) 77 = .ok (.iconst 1, 1) := by decide +kernel
theorem d_X5_take_78 : decode (px_cc M_X5_take) 78 = .ok (.iadd, 1) := by decide +kernel
theorem d_X5_take_79 : decode (px_cc M_X5_take) 79 = .ok (.goto 7, 3) := by decide +kernel
theorem d_X5_take_82 : decode (px_cc M_X5_take) 82 = .ok (.aload_n 0, 1) := by decide +kernel
theorem d_X5_take_83 : decode (px_cc M_X5_take) 83 = .ok (.getfield 52, 3) := by decide +kernel
theorem d_X5_take_86 : decode (px_cc M_X5_take) 86 = .ok (.putfield 52, 3) := by decide +kernel
theorem d_X5_take_89 : decode (px_cc M_X5_take) 89 = .ok (.aload_n 0, 1) := by decide +kernel
theorem d_X5_take_90 : decode (px_cc M_X5_take) 90 = .ok (.invokevirtual 55, 3) := by decide +kernel
theorem d_X5_take_93 : decode (px_cc M_X5_take) 93 = .ok (.return_, 1) := by decide +kernel
theorem d_X5_take_94 : decode (px_cc M_X5_take) 94 = .ok (.aload_n 0, 1) := by decide +kernel
theorem d_X5_take_95 : decode (px_cc M_X5_take) 95 = .ok (.invokevirtual 58, 3) := by decide +kernel
theorem d_X5_take_98 : decode (px_cc M_X5_take) 98 = .ok (.istore_n 2, 1) := by decide +kernel
theorem d_X5_take_99 : decode (px_cc M_X5_take) 99 = .ok (.aload_n 0, 1) := by decide +kernel
theorem d_X5_take_100 : decode (px_cc M_X5_take) 100 = .ok (.aload_n 0, 1) := by decide +kernel
theorem d_X5_take_101 : decode (px_cc M_X5_take) 101 = .ok (.getfield 52, 3) := by decide +kernel
theorem d_X5_take_104 : decode (px_cc M_X5_take) 104 = .ok (.ifCond .le 12, 3) := by decide +kernel
theorem d_X5_take_107 : decode (px_cc M_X5_take) 107 = .ok (.aload_n 0, 1) := by decide +kernel
theorem d_X5_take_108 : decode (px_cc M_X5_take) 108 = .ok (.getfield 52, 3) := by decide +kernel
theorem d_X5_take_111 : decode (px_cc M_X5_take) 111 = .ok (.iconst 1, 1) := by decide +kernel
theorem d_X5_take_112 : decode (px_cc M_X5_take) 112 = .ok (.isub, 1) := by decide +kernel
theorem d_X5_take_113 : decode (px_cc M_X5_take) 113 = .ok (.goto 4, 3) := by decide +kernel
theorem d_X5_take_116 : decode (px_cc M_X5_take) 116 = .ok (.iconst 0, 1) := by decide +kernel
theorem d_X5_take_117 : decode (px_cc M_X5_take) 117 = .ok (.putfield 52, 3) := by decide +kernel
theorem d_X5_take_120 : decode (px_cc M_X5_take) 120 = .ok (.goto 43, 3) := by decide +kernel
theorem d_X5_take_123 : decode (px_cc M_X5_take) 123 = .ok (.aload_n 0, 1) := by decide +kernel
theorem d_X5_take_124 : decode (px_cc M_X5_take) 124 = .ok (.invokevirtual 58, 3) := by decide +kernel
theorem d_X5_take_127 : decode (px_cc M_X5_take) 127 = .ok (.pop, 1) := by decide +kernel
theorem d_X5_take_128 : decode (px_cc M_X5_take) 128 = .ok (.return_, 1) := by decide +kernel
theorem d_X5_take_129 : decode (px_cc M_X5_take) 129 = .ok (.aload_n 0, 1) := by decide +kernel
theorem d_X5_take_130 : decode (px_cc M_X5_take) 130 = .ok (.iload_n 1, 1) := by decide +kernel
theorem d_X5_take_131 : decode (px_cc M_X5_take) 131 = .ok (.invokevirtual 66, 3) := by decide +kernel
theorem d_X5_take_134 : decode (px_cc M_X5_take) 134 = .ok (.return_, 1) := by decide +kernel
theorem d_X5_take_135 : decode (px_cc M_X5_take) 135 = .ok (.aload_n 0, 1) := by decide +kernel
theorem d_X5_take_136 : decode (px_cc M_X5_take) 136 = .ok (.getfield 15, 3) := by decide +kernel
theorem d_X5_take_139 : decode (px_cc M_X5_take) 139 = .ok (.aload_n 0, 1) := by decide +kernel
theorem d_X5_take_140 : decode (px_cc M_X5_take) 140 = .ok (.getfield 52, 3) := by decide +kernel
theorem d_X5_take_143 : decode (px_cc M_X5_take) 143 = .ok (.iconst 1, 1) := by decide +kernel
theorem d_X5_take_144 : decode (px_cc M_X5_take) 144 = .ok (.iastore, 1) := by decide +kernel
theorem d_X5_take_145 : decode (px_cc M_X5_take) 145 = .ok (.return_, 1) := by decide +kernel
theorem d_X5_take_146 : decode (px_cc M_X5_take) 146 = .ok (.aload_n 0, 1) := by decide +kernel
theorem d_X5_take_147 : decode (px_cc M_X5_take) 147 = .ok (.getfield 15, 3) := by decide +kernel
theorem d_X5_take_150 : decode (px_cc M_X5_take) 150 = .ok (.aload_n 0, 1) := by decide +kernel
theorem d_X5_take_151 : decode (px_cc M_X5_take) 151 = .ok (.getfield 52, 3) := by decide +kernel
theorem d_X5_take_154 : decode (px_cc M_X5_take) 154 = .ok (.iconst (-1), 1) := by decide +kernel
theorem d_X5_take_155 : decode (px_cc M_X5_take) 155 = .ok (.iastore, 1) := by decide +kernel
theorem d_X5_take_156 : decode (px_cc M_X5_take) 156 = .ok (.return_, 1) := by decide +kernel
theorem d_X5_take_157 : decode (px_cc M_X5_take) 157 = .ok (.aload_n 0, 1) := by decide +kernel
theorem d_X5_take_158 : decode (px_cc M_X5_take) 158 = .ok (.iload_n 1, 1) := by decide +kernel
theorem d_X5_take_159 : decode (px_cc M_X5_take) 159 = .ok (.invokevirtual 69, 3) := by decide +kernel
theorem d_X5_take_162 : decode (px_cc M_X5_take) 162 = .ok (.istore_n 2, 1) := by decide +kernel
theorem d_X5_take_163 : decode (px_cc M_X5_take) 163 = .ok (.aload_n 0, 1) := by decide +kernel
theorem d_X5_take_164 : decode (px_cc M_X5_take) 164 = .ok (.getfield 9, 3) := by decide +kernel
theorem d_X5_take_167 : decode (px_cc M_X5_take) 167 = .ok (.aload_n 0, 1) := by decide +kernel
theorem d_X5_take_168 : decode (px_cc M_X5_take) 168 = .ok (.getfield 52, 3) := by decide +kernel
theorem d_X5_take_171 : decode (px_cc M_X5_take) 171 = .ok (.dup2, 1) := by decide +kernel
theorem d_X5_take_172 : decode (px_cc M_X5_take) 172 = .ok (.iaload, 1) := by decide +kernel
theorem d_X5_take_173 : decode (px_cc M_X5_take) 173 = .ok (.aload_n 0, 1) := by decide +kernel
theorem d_X5_take_174 : decode (px_cc M_X5_take) 174 = .ok (.getfield 15, 3) := by decide +kernel
theorem d_X5_take_177 : decode (px_cc M_X5_take) 177 = .ok (.aload_n 0, 1) := by decide +kernel
theorem d_X5_take_178 : decode (px_cc M_X5_take) 178 = .ok (.getfield 52, 3) := by decide +kernel
theorem d_X5_take_181 : decode (px_cc M_X5_take) 181 = .ok (.iaload, 1) := by decide +kernel
theorem d_X5_take_182 : decode (px_cc M_X5_take) 182 = .ok (.iload_n 2, 1) := by decide +kernel
theorem d_X5_take_183 : decode (px_cc M_X5_take) 183 = .ok (.imul, 1) := by decide +kernel
theorem d_X5_take_184 : decode (px_cc M_X5_take) 184 = .ok (.iadd, 1) := by decide +kernel
theorem d_X5_take_185 : decode (px_cc M_X5_take) 185 = .ok (.iastore, 1) := by decide +kernel
theorem d_X5_take_186 : decode (px_cc M_X5_take) 186 = .ok (.return_, 1) := by decide +kernel
theorem d_X5_factOf_0 : decode (px_cc M_X5_factOf) 0 = .ok (.iload_n 1, 1) := by decide +kernel
theorem d_X5_factOf_1 : decode (px_cc M_X5_factOf) 1 = .ok (.tableswitch 60 (-11) (-7) #[55, 50, 45, 40, 35], 35) := by decide +kernel
theorem d_X5_factOf_36 : decode (px_cc M_X5_factOf) 36 = .ok (.aload_n 0, 1) := by decide +kernel
theorem d_X5_factOf_37 : decode (px_cc M_X5_factOf) 37 = .ok (.getfield 36, 3) := by decide +kernel
theorem d_X5_factOf_40 : decode (px_cc M_X5_factOf) 40 = .ok (.ireturn, 1) := by decide +kernel
theorem d_X5_factOf_41 : decode (px_cc M_X5_factOf) 41 = .ok (.aload_n 0, 1) := by decide +kernel
theorem d_X5_factOf_42 : decode (px_cc M_X5_factOf) 42 = .ok (.getfield 37, 3) := by decide +kernel
theorem d_X5_factOf_45 : decode (px_cc M_X5_factOf) 45 = .ok (.ireturn, 1) := by decide +kernel
theorem d_X5_factOf_46 : decode (px_cc M_X5_factOf) 46 = .ok (.aload_n 0, 1) := by decide +kernel
theorem d_X5_factOf_47 : decode (px_cc M_X5_factOf) 47 = .ok (.getfield 43, 3) := by decide +kernel
theorem d_X5_factOf_50 : decode (px_cc M_X5_factOf) 50 = .ok (.ireturn, 1) := by decide +kernel
theorem d_X5_factOf_51 : decode (px_cc M_X5_factOf) 51 = .ok (.aload_n 0, 1) := by decide +kernel
theorem d_X5_factOf_52 : decode (px_cc M_X5_factOf) 52 = .ok (.getfield 46, 3) := by decide +kernel
theorem d_X5_factOf_55 : decode (px_cc M_X5_factOf) 55 = .ok (.ireturn, 1) := by decide +kernel
theorem d_X5_factOf_56 : decode (px_cc M_X5_factOf) 56 = .ok (.aload_n 0, 1) := by decide +kernel
theorem d_X5_factOf_57 : decode (px_cc M_X5_factOf) 57 = .ok (.getfield 49, 3) := by decide +kernel
theorem d_X5_factOf_60 : decode (px_cc M_X5_factOf) 60 = .ok (.ireturn, 1) := by decide +kernel
theorem d_X5_factOf_61 : decode (px_cc M_X5_factOf) 61 = .ok (.iload_n 1, 1) := by decide +kernel
theorem d_X5_factOf_62 : decode (px_cc M_X5_factOf) 62 = .ok (.ireturn, 1) := by decide +kernel
theorem d_X5_compareWith_0 : decode (px_cc M_X5_compareWith) 0 = .ok (.aload_n 0, 1) := by decide +kernel
theorem d_X5_compareWith_1 : decode (px_cc M_X5_compareWith) 1 = .ok (.getfield 18, 3) := by decide +kernel
theorem d_X5_compareWith_4 : decode (px_cc M_X5_compareWith) 4 = .ok (.aload_n 0, 1) := by decide +kernel
theorem d_X5_compareWith_5 : decode (px_cc M_X5_compareWith) 5 = .ok (.getfield 52, 3) := by decide +kernel
theorem d_X5_compareWith_8 : decode (px_cc M_X5_compareWith) 8 = .ok (.aload_n 0, 1) := by decide +kernel
theorem d_X5_compareWith_9 : decode (px_cc M_X5_compareWith) 9 = .ok (.getfield 9, 3) := by decide +kernel
theorem d_X5_compareWith_12 : decode (px_cc M_X5_compareWith) 12 = .ok (.aload_n 0, 1) := by decide +kernel
theorem d_X5_compareWith_13 : decode (px_cc M_X5_compareWith) 13 = .ok (.getfield 52, 3) := by decide +kernel
theorem d_X5_compareWith_16 : decode (px_cc M_X5_compareWith) 16 = .ok (.iaload, 1) := by decide +kernel
theorem d_X5_compareWith_17 : decode (px_cc M_X5_compareWith) 17 = .ok (.iastore, 1) := by decide +kernel
theorem d_X5_compareWith_18 : decode (px_cc M_X5_compareWith) 18 = .ok (.aload_n 0, 1) := by decide +kernel
theorem d_X5_compareWith_19 : decode (px_cc M_X5_compareWith) 19 = .ok (.getfield 21, 3) := by decide +kernel
theorem d_X5_compareWith_22 : decode (px_cc M_X5_compareWith) 22 = .ok (.aload_n 0, 1) := by decide +kernel
theorem d_X5_compareWith_23 : decode (px_cc M_X5_compareWith) 23 = .ok (.getfield 52, 3) := by decide +kernel
theorem d_X5_compareWith_26 : decode (px_cc M_X5_compareWith) 26 = .ok (.iload_n 1, 1) := by decide +kernel
theorem d_X5_compareWith_27 : decode (px_cc M_X5_compareWith) 27 = .ok (.iastore, 1) := by decide +kernel
theorem d_X5_compareWith_28 : decode (px_cc M_X5_compareWith) 28 = .ok (.aload_n 0, 1) := by decide +kernel
theorem d_X5_compareWith_29 : decode (px_cc M_X5_compareWith) 29 = .ok (.getfield 9, 3) := by decide +kernel
theorem d_X5_compareWith_32 : decode (px_cc M_X5_compareWith) 32 = .ok (.aload_n 0, 1) := by decide +kernel
theorem d_X5_compareWith_33 : decode (px_cc M_X5_compareWith) 33 = .ok (.getfield 52, 3) := by decide +kernel
theorem d_X5_compareWith_36 : decode (px_cc M_X5_compareWith) 36 = .ok (.iconst 0, 1) := by decide +kernel
theorem d_X5_compareWith_37 : decode (px_cc M_X5_compareWith) 37 = .ok (.iastore, 1) := by decide +kernel
theorem d_X5_compareWith_38 : decode (px_cc M_X5_compareWith) 38 = .ok (.aload_n 0, 1) := by decide +kernel
theorem d_X5_compareWith_39 : decode (px_cc M_X5_compareWith) 39 = .ok (.getfield 15, 3) := by decide +kernel
theorem d_X5_compareWith_42 : decode (px_cc M_X5_compareWith) 42 = .ok (.aload_n 0, 1) := by decide +kernel
theorem d_X5_compareWith_43 : decode (px_cc M_X5_compareWith) 43 = .ok (.getfield 52, 3) := by decide +kernel
theorem d_X5_compareWith_46 : decode (px_cc M_X5_compareWith) 46 = .ok (.iconst 1, 1) := by decide +kernel
theorem d_X5_compareWith_47 : decode (px_cc M_X5_compareWith) 47 = .ok (.iastore, 1) := by decide +kernel
theorem d_X5_compareWith_48 : decode (px_cc M_X5_compareWith) 48 = .ok (.return_, 1) := by decide +kernel
theorem d_X5_endTest_0 : decode (px_cc M_X5_endTest) 0 = .ok (.aload_n 0, 1) := by decide +kernel
theorem d_X5_endTest_1 : decode (px_cc M_X5_endTest) 1 = .ok (.getfield 9, 3) := by decide +kernel
theorem d_X5_endTest_4 : decode (px_cc M_X5_endTest) 4 = .ok (.aload_n 0, 1) := by decide +kernel
theorem d_X5_endTest_5 : decode (px_cc M_X5_endTest) 5 = .ok (.getfield 52, 3) := by decide +kernel
theorem d_X5_endTest_8 : decode (px_cc M_X5_endTest) 8 = .ok (.iaload, 1) := by decide +kernel
theorem d_X5_endTest_9 : decode (px_cc M_X5_endTest) 9 = .ok (.istore_n 1, 1) := by decide +kernel
theorem d_X5_endTest_10 : decode (px_cc M_X5_endTest) 10 = .ok (.aload_n 0, 1) := by decide +kernel
theorem d_X5_endTest_11 : decode (px_cc M_X5_endTest) 11 = .ok (.getfield 21, 3) := by decide +kernel
theorem d_X5_endTest_14 : decode (px_cc M_X5_endTest) 14 = .ok (.aload_n 0, 1) := by decide +kernel
theorem d_X5_endTest_15 : decode (px_cc M_X5_endTest) 15 = .ok (.getfield 52, 3) := by decide +kernel
theorem d_X5_endTest_18 : decode (px_cc M_X5_endTest) 18 = .ok (.iaload, 1) := by decide +kernel
theorem d_X5_endTest_19 : decode (px_cc M_X5_endTest) 19 = .ok (.bipush (-14), 2) := by decide +kernel
theorem d_X5_endTest_21 : decode (px_cc M_X5_endTest) 21 = .ok (.if_icmp .ne 25, 3) := by decide +kernel
theorem d_X5_endTest_24 : decode (px_cc M_X5_endTest) 24 = .ok (.aload_n 0, 1) := by decide +kernel
theorem d_X5_endTest_25 : decode (px_cc M_X5_endTest) 25 = .ok (.getfield 18, 3) := by decide +kernel
theorem d_X5_endTest_28 : decode (px_cc M_X5_endTest) 28 = .ok (.aload_n 0, 1) := by decide +kernel
theorem d_X5_endTest_29 : decode (px_cc M_X5_endTest) 29 = .ok (.getfield 52, 3) := by decide +kernel
theorem d_X5_endTest_32 : decode (px_cc M_X5_endTest) 32 = .ok (.iaload, 1) := by decide +kernel
theorem d_X5_endTest_33 : decode (px_cc M_X5_endTest) 33 = .ok (.iload_n 1, 1) := by decide +kernel
theorem d_X5_endTest_34 : decode (px_cc M_X5_endTest) 34 = .ok (.if_icmp .ge 7, 3) := by decide +kernel
theorem d_X5_endTest_37 : decode (px_cc M_X5_endTest) 37 = .ok (.iconst 1, 1) := by decide +kernel
theorem d_X5_endTest_38 : decode (px_cc M_X5_endTest) 38 = .ok (.goto 4, 3) := by decide +kernel
theorem d_X5_endTest_41 : decode (px_cc M_X5_endTest) 41 = .ok (.iconst 0, 1) := by decide +kernel
theorem d_X5_endTest_42 : decode (px_cc M_X5_endTest) 42 = .ok (.istore_n 1, 1) := by decide +kernel
theorem d_X5_endTest_43 : decode (px_cc M_X5_endTest) 43 = .ok (.goto 36, 3) := by decide +kernel
theorem d_X5_endTest_46 : decode (px_cc M_X5_endTest) 46 = .ok (.aload_n 0, 1) := by decide +kernel
theorem d_X5_endTest_47 : decode (px_cc M_X5_endTest) 47 = .ok (.getfield 21, 3) := by decide +kernel
theorem d_X5_endTest_50 : decode (px_cc M_X5_endTest) 50 = .ok (.aload_n 0, 1) := by decide +kernel
theorem d_X5_endTest_51 : decode (px_cc M_X5_endTest) 51 = .ok (.getfield 52, 3) := by decide +kernel
theorem d_X5_endTest_54 : decode (px_cc M_X5_endTest) 54 = .ok (.iaload, 1) := by decide +kernel
theorem d_X5_endTest_55 : decode (px_cc M_X5_endTest) 55 = .ok (.bipush (-15), 2) := by decide +kernel
theorem d_X5_endTest_57 : decode (px_cc M_X5_endTest) 57 = .ok (.if_icmp .ne 22, 3) := by decide +kernel
theorem d_X5_endTest_60 : decode (px_cc M_X5_endTest) 60 = .ok (.aload_n 0, 1) := by decide +kernel
theorem d_X5_endTest_61 : decode (px_cc M_X5_endTest) 61 = .ok (.getfield 18, 3) := by decide +kernel
theorem d_X5_endTest_64 : decode (px_cc M_X5_endTest) 64 = .ok (.aload_n 0, 1) := by decide +kernel
theorem d_X5_endTest_65 : decode (px_cc M_X5_endTest) 65 = .ok (.getfield 52, 3) := by decide +kernel
theorem d_X5_endTest_68 : decode (px_cc M_X5_endTest) 68 = .ok (.iaload, 1) := by decide +kernel
theorem d_X5_endTest_69 : decode (px_cc M_X5_endTest) 69 = .ok (.iload_n 1, 1) := by decide +kernel
theorem d_X5_endTest_70 : decode (px_cc M_X5_endTest) 70 = .ok (.if_icmp .ne 7, 3) := by decide +kernel
theorem d_X5_endTest_73 : decode (px_cc M_X5_endTest) 73 = .ok (.iconst 1, 1) := by decide +kernel
theorem d_X5_endTest_74 : decode (px_cc M_X5_endTest) 74 = .ok (.goto 4, 3) := by decide +kernel
theorem d_X5_endTest_77 : decode (px_cc M_X5_endTest) 77 = .ok (.iconst 0, 1) := by decide +kernel
theorem d_X5_endTest_78 : decode (px_cc M_X5_endTest) 78 = .ok (.istore_n 1, 1) := by decide +kernel
theorem d_X5_endTest_79 : decode (px_cc M_X5_endTest) 79 = .ok (.aload_n 0, 1) := by decide +kernel
theorem d_X5_endTest_80 : decode (px_cc M_X5_endTest) 80 = .ok (.getfield 27, 3) := by decide +kernel
theorem d_X5_endTest_83 : decode (px_cc M_X5_endTest) 83 = .ok (.aload_n 0, 1) := by decide +kernel
theorem d_X5_endTest_84 : decode (px_cc M_X5_endTest) 84 = .ok (.getfield 52, 3) := by decide +kernel
theorem d_X5_endTest_87 : decode (px_cc M_X5_endTest) 87 = .ok (.aload_n 0, 1) := by decide +kernel
theorem d_X5_endTest_88 : decode (px_cc M_X5_endTest) 88 = .ok (.getfield 24, 3) := by decide +kernel
theorem d_X5_endTest_91 : decode (px_cc M_X5_endTest) 91 = .ok (.aload_n 0, 1) := by decide +kernel
theorem d_X5_endTest_92 : decode (px_cc M_X5_endTest) 92 = .ok (.getfield 52, 3) := by decide +kernel
theorem d_X5_endTest_95 : decode (px_cc M_X5_endTest) 95 = .ok (.iaload, 1) := by decide +kernel
theorem d_X5_endTest_96 : decode (px_cc M_X5_endTest) 96 = .ok (.ifCond .ne 7, 3) := by decide +kernel
theorem d_X5_endTest_99 : decode (px_cc M_X5_endTest) 99 = .ok (.iload_n 1, 1) := by decide +kernel
theorem d_X5_endTest_100 : decode (px_cc M_X5_endTest) 100 = .ok (.goto 24, 3) := by decide +kernel
theorem d_X5_endTest_103 : decode (px_cc M_X5_endTest) 103 = .ok (.aload_n 0, 1) := by decide +kernel
theorem d_X5_endTest_104 : decode (px_cc M_X5_endTest) 104 = .ok (.getfield 27, 3) := by decide +kernel
theorem d_X5_endTest_107 : decode (px_cc M_X5_endTest) 107 = .ok (.aload_n 0, 1) := by decide +kernel
theorem d_X5_endTest_108 : decode (px_cc M_X5_endTest) 108 = .ok (.getfield 52, 3) := by decide +kernel
theorem d_X5_endTest_111 : decode (px_cc M_X5_endTest) 111 = .ok (.iaload, 1) := by decide +kernel
theorem d_X5_endTest_112 : decode (px_cc M_X5_endTest) 112 = .ok (.ifCond .eq 11, 3) := by decide +kernel
theorem d_X5_endTest_115 : decode (px_cc M_X5_endTest) 115 = .ok (.iload_n 1, 1) := by decide +kernel
theorem d_X5_endTest_116 : decode (px_cc M_X5_endTest) 116 = .ok (.ifCond .eq 7, 3) := by decide +kernel
theorem d_X5_endTest_119 : decode (px_cc M_X5_endTest) 119 = .ok (.iconst 1, 1) := by decide +kernel
theorem d_X5_endTest_120 : decode (px_cc M_X5_endTest) 120 = .ok (.goto 4, 3) := by decide +kernel
theorem d_X5_endTest_123 : decode (px_cc M_X5_endTest) 123 = .ok (.iconst 0, 1) := by decide +kernel
theorem d_X5_endTest_124 : decode (px_cc M_X5_endTest) 124 = .ok (.iastore, 1) := by decide +kernel
theorem d_X5_endTest_125 : decode (px_cc M_X5_endTest) 125 = .ok (.aload_n 0, 1) := by decide +kernel
theorem d_X5_endTest_126 : decode (px_cc M_X5_endTest) 126 = .ok (.getfield 24, 3) := by decide +kernel
theorem d_X5_endTest_129 : decode (px_cc M_X5_endTest) 129 = .ok (.aload_n 0, 1) := by decide +kernel
theorem d_X5_endTest_130 : decode (px_cc M_X5_endTest) 130 = .ok (.getfield 52, 3) := by decide +kernel
theorem d_X5_endTest_133 : decode (px_cc M_X5_endTest) 133 = .ok (.dup2, 1) := by decide +kernel
theorem d_X5_endTest_134 : decode (px_cc M_X5_endTest) 134 = .ok (.iaload, 1) := by decide +kernel
theorem d_X5_endTest_135 : decode (px_cc M_X5_endTest) 135 = .ok (.iconst 1, 1) := by decide +kernel
theorem d_X5_endTest_136 : decode (px_cc M_X5_endTest) 136 = .ok (.iadd, 1) := by decide +kernel
theorem d_X5_endTest_137 : decode (px_cc M_X5_endTest) 137 = .ok (.iastore, 1) := by decide +kernel
theorem d_X5_endTest_138 : decode (px_cc M_X5_endTest) 138 = .ok (.aload_n 0, 1) := by decide +kernel
theorem d_X5_endTest_139 : decode (px_cc M_X5_endTest) 139 = .ok (.getfield 9, 3) := by decide +kernel
theorem d_X5_endTest_142 : decode (px_cc M_X5_endTest) 142 = .ok (.aload_n 0, 1) := by decide +kernel
theorem d_X5_endTest_143 : decode (px_cc M_X5_endTest) 143 = .ok (.getfield 52, 3) := by decide +kernel
theorem d_X5_endTest_146 : decode (px_cc M_X5_endTest) 146 = .ok (.iconst 0, 1) := by decide +kernel
theorem d_X5_endTest_147 : decode (px_cc M_X5_endTest) 147 = .ok (.iastore, 1) := by decide +kernel
theorem d_X5_endTest_148 : decode (px_cc M_X5_endTest) 148 = .ok (.aload_n 0, 1) := by decide +kernel
theorem d_X5_endTest_149 : decode (px_cc M_X5_endTest) 149 = .ok (.getfield 15, 3) := by decide +kernel
theorem d_X5_endTest_152 : decode (px_cc M_X5_endTest) 152 = .ok (.aload_n 0, 1) := by decide +kernel
theorem d_X5_endTest_153 : decode (px_cc M_X5_endTest) 153 = .ok (.getfield 52, 3) := by decide +kernel
theorem d_X5_endTest_156 : decode (px_cc M_X5_endTest) 156 = .ok (.iconst 1, 1) := by decide +kernel
theorem d_X5_endTest_157 : decode (px_cc M_X5_endTest) 157 = .ok (.iastore, 1) := by decide +kernel
theorem d_X5_endTest_158 : decode (px_cc M_X5_endTest) 158 = .ok (.aload_n 0, 1) := by decide +kernel
theorem d_X5_endTest_159 : decode (px_cc M_X5_endTest) 159 = .ok (.getfield 21, 3) := by decide +kernel
theorem d_X5_endTest_162 : decode (px_cc M_X5_endTest) 162 = .ok (.aload_n 0, 1) := by decide +kernel
theorem d_X5_endTest_163 : decode (px_cc M_X5_endTest) 163 = .ok (.getfield 52, 3) := by decide +kernel
theorem d_X5_endTest_166 : decode (px_cc M_X5_endTest) 166 = .ok (.iconst 0, 1) := by decide +kernel
theorem d_X5_endTest_167 : decode (px_cc M_X5_endTest) 167 = .ok (.iastore, 1) := by decide +kernel
theorem d_X5_endTest_168 : decode (px_cc M_X5_endTest) 168 = .ok (.aload_n 0, 1) := by decide +kernel
theorem d_X5_endTest_169 : decode (px_cc M_X5_endTest) 169 = .ok (.getfield 27, 3) := by decide +kernel
theorem d_X5_endTest_172 : decode (px_cc M_X5_endTest) 172 = .ok (.aload_n 0, 1) := by decide +kernel
theorem d_X5_endTest_173 : decode (px_cc M_X5_endTest) 173 = .ok (.getfield 52, 3) := by decide +kernel
theorem d_X5_endTest_176 : decode (px_cc M_X5_endTest) 176 = .ok (.iaload, 1) := by decide +kernel
theorem d_X5_endTest_177 : decode (px_cc M_X5_endTest) 177 = .ok (.ireturn, 1) := by decide +kernel
theorem d_X6_init_0 : decode (px_cc M_X6_init) 0 = .ok (.aload_n 0, 1) := by decide +kernel
theorem d_X6_init_1 : decode (px_cc M_X6_init) 1 = .ok (.invokespecial 3, 3) := by decide +kernel
theorem d_X6_init_4 : decode (px_cc M_X6_init) 4 = .ok (.aload_n 0, 1) := by decide +kernel
theorem d_X6_init_5 : decode (px_cc M_X6_init) 5 = .ok (.bipush 60, 2) := by decide +kernel
theorem d_X6_init_7 : decode (px_cc M_X6_init) 7 = .ok (.newarray .int, 2) := by decide +kernel
theorem d_X6_init_9 : decode (px_cc M_X6_init) 9 = .ok (.putfield 9, 3) := by decide +kernel
theorem d_X6_init_12 : decode (px_cc M_X6_init) 12 = .ok (.aload_n 0, 1) := by decide +kernel
theorem d_X6_init_13 : decode (px_cc M_X6_init) 13 = .ok (.bipush 60, 2) := by decide +kernel
theorem d_X6_init_15 : decode (px_cc M_X6_init) 15 = .ok (.newarray .int, 2) := by decide +kernel
theorem d_X6_init_17 : decode (px_cc M_X6_init) 17 = .ok (.putfield 15, 3) := by decide +kernel
theorem d_X6_init_20 : decode (px_cc M_X6_init) 20 = .ok (.aload_n 0, 1) := by decide +kernel
theorem d_X6_init_21 : decode (px_cc M_X6_init) 21 = .ok (.bipush 60, 2) := by decide +kernel
theorem d_X6_init_23 : decode (px_cc M_X6_init) 23 = .ok (.newarray .int, 2) := by decide +kernel
theorem d_X6_init_25 : decode (px_cc M_X6_init) 25 = .ok (.putfield 18, 3) := by decide +kernel
theorem d_X6_init_28 : decode (px_cc M_X6_init) 28 = .ok (.aload_n 0, 1) := by decide +kernel
theorem d_X6_init_29 : decode (px_cc M_X6_init) 29 = .ok (.bipush 60, 2) := by decide +kernel
theorem d_X6_init_31 : decode (px_cc M_X6_init) 31 = .ok (.newarray .boolean, 2) := by decide +kernel
theorem d_X6_init_33 : decode (px_cc M_X6_init) 33 = .ok (.putfield 21, 3) := by decide +kernel
theorem d_X6_init_36 : decode (px_cc M_X6_init) 36 = .ok (.return_, 1) := by decide +kernel
theorem d_X6_give_0 : decode (px_cc M_X6_give) 0 = .ok (.aload_n 0, 1) := by decide +kernel
theorem d_X6_give_1 : decode (px_cc M_X6_give) 1 = .ok (.getfield 25, 3) := by decide +kernel
theorem d_X6_give_4 : decode (px_cc M_X6_give) 4 = .ok (.bipush 60, 2) := by decide +kernel
theorem d_X6_give_6 : decode (px_cc M_X6_give) 6 = .ok (.if_icmp .lt 5, 3) := by decide +kernel
theorem d_X6_give_9 : decode (px_cc M_X6_give) 9 = .ok (.iconst 0, 1) := by decide +kernel
theorem d_X6_give_10 : decode (px_cc M_X6_give) 10 = .ok (.ireturn, 1) := by decide +kernel
theorem d_X6_give_11 : decode (px_cc M_X6_give) 11 = .ok (.aload_n 0, 1) := by decide +kernel
theorem d_X6_give_12 : decode (px_cc M_X6_give) 12 = .ok (.getfield 9, 3) := by decide +kernel
theorem d_X6_give_15 : decode (px_cc M_X6_give) 15 = .ok (.aload_n 0, 1) := by decide +kernel
theorem d_X6_give_16 : decode (px_cc M_X6_give) 16 = .ok (.getfield 25, 3) := by decide +kernel
theorem d_X6_give_19 : decode (px_cc M_X6_give) 19 = .ok (.iload_n 1, 1) := by decide +kernel
theorem d_X6_give_20 : decode (px_cc M_X6_give) 20 = .ok (.iastore, 1) := by decide +kernel
theorem d_X6_give_21 : decode (px_cc M_X6_give) 21 = .ok (.aload_n 0, 1) := by decide +kernel
theorem d_X6_give_22 : decode (px_cc M_X6_give) 22 = .ok (.getfield 15, 3) := by decide +kernel
theorem d_X6_give_25 : decode (px_cc M_X6_give) 25 = .ok (.aload_n 0, 1) := by decide +kernel
theorem d_X6_give_26 : decode (px_cc M_X6_give) 26 = .ok (.getfield 25, 3) := by decide +kernel
theorem d_X6_give_29 : decode (px_cc M_X6_give) 29 = .ok (.iload_n 2, 1) := by decide +kernel
theorem d_X6_give_30 : decode (px_cc M_X6_give) 30 = .ok (.iastore, 1) := by decide +kernel
theorem d_X6_give_31 : decode (px_cc M_X6_give) 31 = .ok (.aload_n 0, 1) := by decide +kernel
theorem d_X6_give_32 : decode (px_cc M_X6_give) 32 = .ok (.getfield 18, 3) := by decide +kernel
theorem d_X6_give_35 : decode (px_cc M_X6_give) 35 = .ok (.aload_n 0, 1) := by decide +kernel
theorem d_X6_give_36 : decode (px_cc M_X6_give) 36 = .ok (.getfield 25, 3) := by decide +kernel
theorem d_X6_give_39 : decode (px_cc M_X6_give) 39 = .ok (.iload_n 3, 1) := by decide +kernel
theorem d_X6_give_40 : decode (px_cc M_X6_give) 40 = .ok (.iastore, 1) := by decide +kernel
theorem d_X6_give_41 : decode (px_cc M_X6_give) 41 = .ok (.aload_n 0, 1) := by decide +kernel
theorem d_X6_give_42 : decode (px_cc M_X6_give) 42 = .ok (.dup, 1) := by decide +kernel
theorem d_X6_give_43 : decode (px_cc M_X6_give) 43 = .ok (.getfield 25, 3) := by decide +kernel
theorem d_X6_give_46 : decode (px_cc M_X6_give) 46 = .ok (.iconst 1, 1) := by decide +kernel
theorem d_X6_give_47 : decode (px_cc M_X6_give) 47 = .ok (.iadd, 1) := by decide +kernel
theorem d_X6_give_48 : decode (px_cc M_X6_give) 48 = .ok (.putfield 25, 3) := by decide +kernel
theorem d_X6_give_51 : decode (px_cc M_X6_give) 51 = .ok (.iconst 1, 1) := by decide +kernel
theorem d_X6_give_52 : decode (px_cc M_X6_give) 52 = .ok (.ireturn, 1) := by decide +kernel
theorem d_X6_eldest_0 : decode (px_cc M_X6_eldest) 0 = .ok (.iconst 0, 1) := by decide +kernel
theorem d_X6_eldest_1 : decode (px_cc M_X6_eldest) 1 = .ok (.istore 4, 2) := by decide +kernel
theorem d_X6_eldest_3 : decode (px_cc M_X6_eldest) 3 = .ok (.iload 4, 2) := by decide +kernel
theorem d_X6_eldest_5 : decode (px_cc M_X6_eldest) 5 = .ok (.aload_n 0, 1) := by decide +kernel
theorem d_X6_eldest_6 : decode (px_cc M_X6_eldest) 6 = .ok (.getfield 25, 3) := by decide +kernel
theorem d_X6_eldest_9 : decode (px_cc M_X6_eldest) 9 = .ok (.if_icmp .ge 55, 3) := by decide +kernel
theorem d_X6_eldest_12 : decode (px_cc M_X6_eldest) 12 = .ok (.aload_n 0, 1) := by decide +kernel
theorem d_X6_eldest_13 : decode (px_cc M_X6_eldest) 13 = .ok (.getfield 21, 3) := by decide +kernel
theorem d_X6_eldest_16 : decode (px_cc M_X6_eldest) 16 = .ok (.iload 4, 2) := by decide +kernel
theorem d_X6_eldest_18 : decode (px_cc M_X6_eldest) 18 = .ok (.baload, 1) := by decide +kernel
theorem d_X6_eldest_19 : decode (px_cc M_X6_eldest) 19 = .ok (.ifCond .ne 39, 3) := by decide +kernel
theorem d_X6_eldest_22 : decode (px_cc M_X6_eldest) 22 = .ok (.aload_n 0, 1) := by decide +kernel
theorem d_X6_eldest_23 : decode (px_cc M_X6_eldest) 23 = .ok (.getfield 9, 3) := by decide +kernel
theorem d_X6_eldest_26 : decode (px_cc M_X6_eldest) 26 = .ok (.iload 4, 2) := by decide +kernel
theorem d_X6_eldest_28 : decode (px_cc M_X6_eldest) 28 = .ok (.iaload, 1) := by decide +kernel
theorem d_X6_eldest_29 : decode (px_cc M_X6_eldest) 29 = .ok (.iload_n 1, 1) := by decide +kernel
theorem d_X6_eldest_30 : decode (px_cc M_X6_eldest) 30 = .ok (.if_icmp .ne 28, 3) := by decide +kernel
theorem d_X6_eldest_33 : decode (px_cc M_X6_eldest) 33 = .ok (.aload_n 0, 1) := by decide +kernel
theorem d_X6_eldest_34 : decode (px_cc M_X6_eldest) 34 = .ok (.getfield 15, 3) := by decide +kernel
theorem d_X6_eldest_37 : decode (px_cc M_X6_eldest) 37 = .ok (.iload 4, 2) := by decide +kernel
theorem d_X6_eldest_39 : decode (px_cc M_X6_eldest) 39 = .ok (.iaload, 1) := by decide +kernel
theorem d_X6_eldest_40 : decode (px_cc M_X6_eldest) 40 = .ok (.iload_n 2, 1) := by decide +kernel
theorem d_X6_eldest_41 : decode (px_cc M_X6_eldest) 41 = .ok (.if_icmp .lt 17, 3) := by decide +kernel
theorem d_X6_eldest_44 : decode (px_cc M_X6_eldest) 44 = .ok (.aload_n 0, 1) := by decide +kernel
theorem d_X6_eldest_45 : decode (px_cc M_X6_eldest) 45 = .ok (.getfield 18, 3) := by decide +kernel
theorem d_X6_eldest_48 : decode (px_cc M_X6_eldest) 48 = .ok (.iload 4, 2) := by decide +kernel
theorem d_X6_eldest_50 : decode (px_cc M_X6_eldest) 50 = .ok (.iaload, 1) := by decide +kernel
theorem d_X6_eldest_51 : decode (px_cc M_X6_eldest) 51 = .ok (.iload_n 3, 1) := by decide +kernel
theorem d_X6_eldest_52 : decode (px_cc M_X6_eldest) 52 = .ok (.if_icmp .gt 6, 3) := by decide +kernel
theorem d_X6_eldest_55 : decode (px_cc M_X6_eldest) 55 = .ok (.iload 4, 2) := by decide +kernel
theorem d_X6_eldest_57 : decode (px_cc M_X6_eldest) 57 = .ok (.ireturn, 1) := by decide +kernel
theorem d_X6_eldest_58 : decode (px_cc M_X6_eldest) 58 = .ok (.iinc 4 1, 3) := by decide +kernel
theorem d_X6_eldest_61 : decode (px_cc M_X6_eldest) 61 = .ok (.goto (-58), 3) := by decide +kernel
theorem d_X6_eldest_64 : decode (px_cc M_X6_eldest) 64 = .ok (.iconst (-1), 1) := by decide +kernel
theorem d_X6_eldest_65 : decode (px_cc M_X6_eldest) 65 = .ok (.ireturn, 1) := by decide +kernel
theorem d_X6_use_0 : decode (px_cc M_X6_use) 0 = .ok (.iload_n 1, 1) := by decide +kernel
theorem d_X6_use_1 : decode (px_cc M_X6_use) 1 = .ok (.ifCond .lt 18, 3) := by decide +kernel
theorem d_X6_use_4 : decode (px_cc M_X6_use) 4 = .ok (.iload_n 1, 1) := by decide +kernel
theorem d_X6_use_5 : decode (px_cc M_X6_use) 5 = .ok (.aload_n 0, 1) := by decide +kernel
theorem d_X6_use_6 : decode (px_cc M_X6_use) 6 = .ok (.getfield 25, 3) := by decide +kernel
theorem d_X6_use_9 : decode (px_cc M_X6_use) 9 = .ok (.if_icmp .ge 10, 3) := by decide +kernel
theorem d_X6_use_12 : decode (px_cc M_X6_use) 12 = .ok (.aload_n 0, 1) := by decide +kernel
theorem d_X6_use_13 : decode (px_cc M_X6_use) 13 = .ok (.getfield 21, 3) := by decide +kernel
theorem d_X6_use_16 : decode (px_cc M_X6_use) 16 = .ok (.iload_n 1, 1) := by decide +kernel
theorem d_X6_use_17 : decode (px_cc M_X6_use) 17 = .ok (.iconst 1, 1) := by decide +kernel
theorem d_X6_use_18 : decode (px_cc M_X6_use) 18 = .ok (.bastore, 1) := by decide +kernel
theorem d_X6_use_19 : decode (px_cc M_X6_use) 19 = .ok (.return_, 1) := by decide +kernel
theorem d_X7_init_0 : decode (px_cc M_X7_init) 0 = .ok (.aload_n 0, 1) := by decide +kernel
theorem d_X7_init_1 : decode (px_cc M_X7_init) 1 = .ok (.invokespecial 3, 3) := by decide +kernel
theorem d_X7_init_4 : decode (px_cc M_X7_init) 4 = .ok (.aload_n 0, 1) := by decide +kernel
theorem d_X7_init_5 : decode (px_cc M_X7_init) 5 = .ok (.sipush 720, 3) := by decide +kernel
theorem d_X7_init_8 : decode (px_cc M_X7_init) 8 = .ok (.newarray .int, 2) := by decide +kernel
theorem d_X7_init_10 : decode (px_cc M_X7_init) 10 = .ok (.putfield 9, 3) := by decide +kernel
theorem d_X7_init_13 : decode (px_cc M_X7_init) 13 = .ok (.aload_n 0, 1) := by decide +kernel
theorem d_X7_init_14 : decode (px_cc M_X7_init) 14 = .ok (.aload_n 1, 1) := by decide +kernel
theorem d_X7_init_15 : decode (px_cc M_X7_init) 15 = .ok (.putfield 15, 3) := by decide +kernel
theorem d_X7_init_18 : decode (px_cc M_X7_init) 18 = .ok (.aload_n 0, 1) := by decide +kernel
theorem d_X7_init_19 : decode (px_cc M_X7_init) 19 = .ok (.aload_n 2, 1) := by decide +kernel
theorem d_X7_init_20 : decode (px_cc M_X7_init) 20 = .ok (.putfield 19, 3) := by decide +kernel
theorem d_X7_init_23 : decode (px_cc M_X7_init) 23 = .ok (.aload_n 0, 1) := by decide +kernel
theorem d_X7_init_24 : decode (px_cc M_X7_init) 24 = .ok (.aload_n 3, 1) := by decide +kernel
theorem d_X7_init_25 : decode (px_cc M_X7_init) 25 = .ok (.putfield 23, 3) := by decide +kernel
theorem d_X7_init_28 : decode (px_cc M_X7_init) 28 = .ok (.return_, 1) := by decide +kernel
theorem d_X7_balanceAt_0 : decode (px_cc M_X7_balanceAt) 0 = .ok (.iload_n 2, 1) := by decide +kernel
theorem d_X7_balanceAt_1 : decode (px_cc M_X7_balanceAt) 1 = .ok (.invokestatic 27, 3) := by decide +kernel
theorem d_X7_balanceAt_4 : decode (px_cc M_X7_balanceAt) 4 = .ok (.ifCond .ne 5, 3) := by decide +kernel
theorem d_X7_balanceAt_7 : decode (px_cc M_X7_balanceAt) 7 = .ok (.iconst 0, 1) := by decide +kernel
theorem d_X7_balanceAt_8 : decode (px_cc M_X7_balanceAt) 8 = .ok (.ireturn, 1) := by decide +kernel
theorem d_X7_balanceAt_9 : decode (px_cc M_X7_balanceAt) 9 = .ok (.iload_n 2, 1) := by decide +kernel
theorem d_X7_balanceAt_10 : decode (px_cc M_X7_balanceAt) 10 = .ok (.bipush 30, 2) := by decide +kernel
theorem d_X7_balanceAt_12 : decode (px_cc M_X7_balanceAt) 12 = .ok (.idiv, 1) := by decide +kernel
theorem d_X7_balanceAt_13 : decode (px_cc M_X7_balanceAt) 13 = .ok (.istore 4, 2) := by decide +kernel
theorem d_X7_balanceAt_15 : decode (px_cc M_X7_balanceAt) 15 = .ok (.aload_n 0, 1) := by decide +kernel
theorem d_X7_balanceAt_16 : decode (px_cc M_X7_balanceAt) 16 = .ok (.aload_n 1, 1) := by decide +kernel
theorem d_X7_balanceAt_17 : decode (px_cc M_X7_balanceAt) 17 = .ok (.iload 4, 2) := by decide +kernel
theorem d_X7_balanceAt_19 : decode (px_cc M_X7_balanceAt) 19 = .ok (.iload_n 3, 1) := by decide +kernel
theorem d_X7_balanceAt_20 : decode (px_cc M_X7_balanceAt) 20 = .ok (.invokevirtual 31, 3) := by decide +kernel
theorem d_X7_balanceAt_23 : decode (px_cc M_X7_balanceAt) 23 = .ok (.iload 4, 2) := by decide +kernel
theorem d_X7_balanceAt_25 : decode (px_cc M_X7_balanceAt) 25 = .ok (.bipush 30, 2) := by decide +kernel
theorem d_X7_balanceAt_27 : decode (px_cc M_X7_balanceAt) 27 = .ok (.imul, 1) := by decide +kernel
theorem d_X7_balanceAt_28 : decode (px_cc M_X7_balanceAt) 28 = .ok (.istore 5, 2) := by decide +kernel
theorem d_X7_balanceAt_30 : decode (px_cc M_X7_balanceAt) 30 = .ok (.iload 5, 2) := by decide +kernel
theorem d_X7_balanceAt_32 : decode (px_cc M_X7_balanceAt) 32 = .ok (.iload_n 2, 1) := by decide +kernel
theorem d_X7_balanceAt_33 : decode (px_cc M_X7_balanceAt) 33 = .ok (.if_icmp .gt 25, 3) := by decide +kernel
theorem d_X7_balanceAt_36 : decode (px_cc M_X7_balanceAt) 36 = .ok (.aload_n 0, 1) := by decide +kernel
theorem d_X7_balanceAt_37 : decode (px_cc M_X7_balanceAt) 37 = .ok (.dup, 1) := by decide +kernel
theorem d_X7_balanceAt_38 : decode (px_cc M_X7_balanceAt) 38 = .ok (.getfield 35, 3) := by decide +kernel
theorem d_X7_balanceAt_41 : decode (px_cc M_X7_balanceAt) 41 = .ok (.aload_n 0, 1) := by decide +kernel
theorem d_X7_balanceAt_42 : decode (px_cc M_X7_balanceAt) 42 = .ok (.getfield 9, 3) := by decide +kernel
theorem d_X7_balanceAt_45 : decode (px_cc M_X7_balanceAt) 45 = .ok (.iload 5, 2) := by decide +kernel
theorem d_X7_balanceAt_47 : decode (px_cc M_X7_balanceAt) 47 = .ok (.iaload, 1) := by decide +kernel
theorem d_X7_balanceAt_48 : decode (px_cc M_X7_balanceAt) 48 = .ok (.iadd, 1) := by decide +kernel
theorem d_X7_balanceAt_49 : decode (px_cc M_X7_balanceAt) 49 = .ok (.putfield 35, 3) := by decide +kernel
theorem d_X7_balanceAt_52 : decode (px_cc M_X7_balanceAt) 52 = .ok (.iinc 5 1, 3) := by decide +kernel
theorem d_X7_balanceAt_55 : decode (px_cc M_X7_balanceAt) 55 = .ok (.goto (-25), 3) := by decide +kernel
theorem d_X7_balanceAt_58 : decode (px_cc M_X7_balanceAt) 58 = .ok (.aload_n 0, 1) := by decide +kernel
theorem d_X7_balanceAt_59 : decode (px_cc M_X7_balanceAt) 59 = .ok (.getfield 35, 3) := by decide +kernel
theorem d_X7_balanceAt_62 : decode (px_cc M_X7_balanceAt) 62 = .ok (.ireturn, 1) := by decide +kernel
theorem d_X7_earnedIn_0 : decode (px_cc M_X7_earnedIn) 0 = .ok (.aload_n 0, 1) := by decide +kernel
theorem d_X7_earnedIn_1 : decode (px_cc M_X7_earnedIn) 1 = .ok (.aload_n 1, 1) := by decide +kernel
theorem d_X7_earnedIn_2 : decode (px_cc M_X7_earnedIn) 2 = .ok (.iload_n 2, 1) := by decide +kernel
theorem d_X7_earnedIn_3 : decode (px_cc M_X7_earnedIn) 3 = .ok (.iconst 1, 1) := by decide +kernel
theorem d_X7_earnedIn_4 : decode (px_cc M_X7_earnedIn) 4 = .ok (.iadd, 1) := by decide +kernel
theorem d_X7_earnedIn_5 : decode (px_cc M_X7_earnedIn) 5 = .ok (.iload_n 3, 1) := by decide +kernel
theorem d_X7_earnedIn_6 : decode (px_cc M_X7_earnedIn) 6 = .ok (.invokevirtual 31, 3) := by decide +kernel
theorem d_X7_earnedIn_9 : decode (px_cc M_X7_earnedIn) 9 = .ok (.aload_n 0, 1) := by decide +kernel
theorem d_X7_earnedIn_10 : decode (px_cc M_X7_earnedIn) 10 = .ok (.getfield 39, 3) := by decide +kernel
theorem d_X7_earnedIn_13 : decode (px_cc M_X7_earnedIn) 13 = .ok (.ireturn, 1) := by decide +kernel
theorem d_X7_earnedAhead_0 : decode (px_cc M_X7_earnedAhead) 0 = .ok (.aload_n 0, 1) := by decide +kernel
theorem d_X7_earnedAhead_1 : decode (px_cc M_X7_earnedAhead) 1 = .ok (.aload_n 1, 1) := by decide +kernel
theorem d_X7_earnedAhead_2 : decode (px_cc M_X7_earnedAhead) 2 = .ok (.iload_n 2, 1) := by decide +kernel
theorem d_X7_earnedAhead_3 : decode (px_cc M_X7_earnedAhead) 3 = .ok (.bipush 30, 2) := by decide +kernel
theorem d_X7_earnedAhead_5 : decode (px_cc M_X7_earnedAhead) 5 = .ok (.idiv, 1) := by decide +kernel
theorem d_X7_earnedAhead_6 : decode (px_cc M_X7_earnedAhead) 6 = .ok (.iload_n 3, 1) := by decide +kernel
theorem d_X7_earnedAhead_7 : decode (px_cc M_X7_earnedAhead) 7 = .ok (.invokevirtual 31, 3) := by decide +kernel
theorem d_X7_earnedAhead_10 : decode (px_cc M_X7_earnedAhead) 10 = .ok (.aload_n 0, 1) := by decide +kernel
theorem d_X7_earnedAhead_11 : decode (px_cc M_X7_earnedAhead) 11 = .ok (.getfield 42, 3) := by decide +kernel
theorem d_X7_earnedAhead_14 : decode (px_cc M_X7_earnedAhead) 14 = .ok (.ireturn, 1) := by decide +kernel
theorem d_X7_reckon_0 : decode (px_cc M_X7_reckon) 0 = .ok (.aload_n 0, 1) := by decide +kernel
theorem d_X7_reckon_1 : decode (px_cc M_X7_reckon) 1 = .ok (.getfield 15, 3) := by decide +kernel
theorem d_X7_reckon_4 : decode (px_cc M_X7_reckon) 4 = .ok (.aload_n 1, 1) := by decide +kernel
theorem d_X7_reckon_5 : decode (px_cc M_X7_reckon) 5 = .ok (.getfield 45, 3) := by decide +kernel
theorem d_X7_reckon_8 : decode (px_cc M_X7_reckon) 8 = .ok (.iload_n 3, 1) := by decide +kernel
theorem d_X7_reckon_9 : decode (px_cc M_X7_reckon) 9 = .ok (.aload_n 0, 1) := by decide +kernel
theorem d_X7_reckon_10 : decode (px_cc M_X7_reckon) 10 = .ok (.getfield 9, 3) := by decide +kernel
theorem d_X7_reckon_13 : decode (px_cc M_X7_reckon) 13 = .ok (.invokevirtual 50, 3) := by decide +kernel
theorem d_X7_reckon_16 : decode (px_cc M_X7_reckon) 16 = .ok (.aload_n 0, 1) := by decide +kernel
theorem d_X7_reckon_17 : decode (px_cc M_X7_reckon) 17 = .ok (.iconst 0, 1) := by decide +kernel
theorem d_X7_reckon_18 : decode (px_cc M_X7_reckon) 18 = .ok (.putfield 35, 3) := by decide +kernel
theorem d_X7_reckon_21 : decode (px_cc M_X7_reckon) 21 = .ok (.aload_n 0, 1) := by decide +kernel
theorem d_X7_reckon_22 : decode (px_cc M_X7_reckon) 22 = .ok (.iconst 0, 1) := by decide +kernel
theorem d_X7_reckon_23 : decode (px_cc M_X7_reckon) 23 = .ok (.putfield 42, 3) := by decide +kernel
theorem d_X7_reckon_26 : decode (px_cc M_X7_reckon) 26 = .ok (.aload_n 0, 1) := by decide +kernel
theorem d_X7_reckon_27 : decode (px_cc M_X7_reckon) 27 = .ok (.iconst 0, 1) := by decide +kernel
theorem d_X7_reckon_28 : decode (px_cc M_X7_reckon) 28 = .ok (.putfield 39, 3) := by decide +kernel
theorem d_X7_reckon_31 : decode (px_cc M_X7_reckon) 31 = .ok (.iconst 0, 1) := by decide +kernel
theorem d_X7_reckon_32 : decode (px_cc M_X7_reckon) 32 = .ok (.istore 4, 2) := by decide +kernel
theorem d_X7_reckon_34 : decode (px_cc M_X7_reckon) 34 = .ok (.iload 4, 2) := by decide +kernel
theorem d_X7_reckon_36 : decode (px_cc M_X7_reckon) 36 = .ok (.iload_n 2, 1) := by decide +kernel
theorem d_X7_reckon_37 : decode (px_cc M_X7_reckon) 37 = .ok (.if_icmp .ge 84, 3) := by decide +kernel
theorem d_X7_reckon_40 : decode (px_cc M_X7_reckon) 40 = .ok (.iload 4, 2) := by decide +kernel
theorem d_X7_reckon_42 : decode (px_cc M_X7_reckon) 42 = .ok (.bipush 24, 2) := by decide +kernel
theorem d_X7_reckon_44 : decode (px_cc M_X7_reckon) 44 = .ok (.if_icmp .ge 77, 3) := by decide +kernel
theorem d_X7_reckon_47 : decode (px_cc M_X7_reckon) 47 = .ok (.aload_n 0, 1) := by decide +kernel
theorem d_X7_reckon_48 : decode (px_cc M_X7_reckon) 48 = .ok (.iload 4, 2) := by decide +kernel
theorem d_X7_reckon_50 : decode (px_cc M_X7_reckon) 50 = .ok (.invokevirtual 56, 3) := by decide +kernel
theorem d_X7_reckon_53 : decode (px_cc M_X7_reckon) 53 = .ok (.sipush 240, 3) := by decide +kernel
theorem d_X7_reckon_56 : decode (px_cc M_X7_reckon) 56 = .ok (.idiv, 1) := by decide +kernel
theorem d_X7_reckon_57 : decode (px_cc M_X7_reckon) 57 = .ok (.istore 5, 2) := by decide +kernel
theorem d_X7_reckon_59 : decode (px_cc M_X7_reckon) 59 = .ok (.aload_n 0, 1) := by decide +kernel
theorem d_X7_reckon_60 : decode (px_cc M_X7_reckon) 60 = .ok (.iload 5, 2) := by decide +kernel
theorem d_X7_reckon_62 : decode (px_cc M_X7_reckon) 62 = .ok (.iconst 1, 1) := by decide +kernel
theorem d_X7_reckon_63 : decode (px_cc M_X7_reckon) 63 = .ok (.if_icmp .ge 7, 3) := by decide +kernel
theorem d_X7_reckon_66 : decode (px_cc M_X7_reckon) 66 = .ok (.iconst 0, 1) := by decide +kernel
theorem d_X7_reckon_67 : decode (px_cc M_X7_reckon) 67 = .ok (.goto 19, 3) := by decide +kernel
theorem d_X7_reckon_70 : decode (px_cc M_X7_reckon) 70 = .ok (.iload 5, 2) := by decide +kernel
theorem d_X7_reckon_72 : decode (px_cc M_X7_reckon) 72 = .ok (.aload_n 0, 1) := by decide +kernel
theorem d_X7_reckon_73 : decode (px_cc M_X7_reckon) 73 = .ok (.aload_n 1, 1) := by decide +kernel
theorem d_X7_reckon_74 : decode (px_cc M_X7_reckon) 74 = .ok (.iload 4, 2) := by decide +kernel
theorem d_X7_reckon_76 : decode (px_cc M_X7_reckon) 76 = .ok (.iload 5, 2) := by decide +kernel
theorem d_X7_reckon_78 : decode (px_cc M_X7_reckon) 78 = .ok (.iload_n 3, 1) := by decide +kernel
theorem d_X7_reckon_79 : decode (px_cc M_X7_reckon) 79 = .ok (.invokevirtual 60, 3) := by decide +kernel
theorem d_X7_reckon_82 : decode (px_cc M_X7_reckon) 82 = .ok (.imul, 1) := by decide +kernel
theorem d_X7_reckon_83 : decode (px_cc M_X7_reckon) 83 = .ok (.bipush 100, 2) := by decide +kernel
theorem d_X7_reckon_85 : decode (px_cc M_X7_reckon) 85 = .ok (.idiv, 1) := by decide +kernel
theorem d_X7_reckon_86 : decode (px_cc M_X7_reckon) 86 = .ok (.putfield 39, 3) := by decide +kernel
theorem d_X7_reckon_89 : decode (px_cc M_X7_reckon) 89 = .ok (.aload_n 0, 1) := by decide +kernel
theorem d_X7_reckon_90 : decode (px_cc M_X7_reckon) 90 = .ok (.dup, 1) := by decide +kernel
theorem d_X7_reckon_91 : decode (px_cc M_X7_reckon) 91 = .ok (.getfield 42, 3) := by decide +kernel
theorem d_X7_reckon_94 : decode (px_cc M_X7_reckon) 94 = .ok (.aload_n 0, 1) := by decide +kernel
theorem d_X7_reckon_95 : decode (px_cc M_X7_reckon) 95 = .ok (.getfield 39, 3) := by decide +kernel
theorem d_X7_reckon_98 : decode (px_cc M_X7_reckon) 98 = .ok (.iadd, 1) := by decide +kernel
theorem d_X7_reckon_99 : decode (px_cc M_X7_reckon) 99 = .ok (.putfield 42, 3) := by decide +kernel
theorem d_X7_reckon_102 : decode (px_cc M_X7_reckon) 102 = .ok (.aload_n 0, 1) := by decide +kernel
theorem d_X7_reckon_103 : decode (px_cc M_X7_reckon) 103 = .ok (.dup, 1) := by decide +kernel
theorem d_X7_reckon_104 : decode (px_cc M_X7_reckon) 104 = .ok (.getfield 35, 3) := by decide +kernel
theorem d_X7_reckon_107 : decode (px_cc M_X7_reckon) 107 = .ok (.aload_n 0, 1) := by decide +kernel
theorem d_X7_reckon_108 : decode (px_cc M_X7_reckon) 108 = .ok (.getfield 39, 3) := by decide +kernel
theorem d_X7_reckon_111 : decode (px_cc M_X7_reckon) 111 = .ok (.iadd, 1) := by decide +kernel
theorem d_X7_reckon_112 : decode (px_cc M_X7_reckon) 112 = .ok (.putfield 35, 3) := by decide +kernel
theorem d_X7_reckon_115 : decode (px_cc M_X7_reckon) 115 = .ok (.iinc 4 1, 3) := by decide +kernel
theorem d_X7_reckon_118 : decode (px_cc M_X7_reckon) 118 = .ok (.goto (-84), 3) := by decide +kernel
theorem d_X7_reckon_121 : decode (px_cc M_X7_reckon) 121 = .ok (.return_, 1) := by decide +kernel
theorem d_X7_leastOf_0 : decode (px_cc M_X7_leastOf) 0 = .ok (.iload_n 1, 1) := by decide +kernel
theorem d_X7_leastOf_1 : decode (px_cc M_X7_leastOf) 1 = .ok (.bipush 30, 2) := by decide +kernel
theorem d_X7_leastOf_3 : decode (px_cc M_X7_leastOf) 3 = .ok (.imul, 1) := by decide +kernel
theorem d_X7_leastOf_4 : decode (px_cc M_X7_leastOf) 4 = .ok (.istore_n 2, 1) := by decide +kernel
theorem d_X7_leastOf_5 : decode (px_cc M_X7_leastOf) 5 = .ok (.aload_n 0, 1) := by decide +kernel
theorem d_X7_leastOf_6 : decode (px_cc M_X7_leastOf) 6 = .ok (.getfield 35, 3) := by decide +kernel
theorem d_X7_leastOf_9 : decode (px_cc M_X7_leastOf) 9 = .ok (.aload_n 0, 1) := by decide +kernel
theorem d_X7_leastOf_10 : decode (px_cc M_X7_leastOf) 10 = .ok (.getfield 9, 3) := by decide +kernel
theorem d_X7_leastOf_13 : decode (px_cc M_X7_leastOf) 13 = .ok (.iload_n 2, 1) := by decide +kernel
theorem d_X7_leastOf_14 : decode (px_cc M_X7_leastOf) 14 = .ok (.iaload, 1) := by decide +kernel
theorem d_X7_leastOf_15 : decode (px_cc M_X7_leastOf) 15 = .ok (.iadd, 1) := by decide +kernel
theorem d_X7_leastOf_16 : decode (px_cc M_X7_leastOf) 16 = .ok (.istore_n 3, 1) := by decide +kernel
theorem d_X7_leastOf_17 : decode (px_cc M_X7_leastOf) 17 = .ok (.iload_n 2, 1) := by decide +kernel
theorem d_X7_leastOf_18 : decode (px_cc M_X7_leastOf) 18 = .ok (.istore 4, 2) := by decide +kernel
theorem d_X7_leastOf_20 : decode (px_cc M_X7_leastOf) 20 = .ok (.iload 4, 2) := by decide +kernel
theorem d_X7_leastOf_22 : decode (px_cc M_X7_leastOf) 22 = .ok (.iload_n 2, 1) := by decide +kernel
theorem d_X7_leastOf_23 : decode (px_cc M_X7_leastOf) 23 = .ok (.bipush 30, 2) := by decide +kernel
theorem d_X7_leastOf_25 : decode (px_cc M_X7_leastOf) 25 = .ok (.iadd, 1) := by decide +kernel
theorem d_X7_leastOf_26 : decode (px_cc M_X7_leastOf) 26 = .ok (.if_icmp .ge 34, 3) := by decide +kernel
theorem d_X7_leastOf_29 : decode (px_cc M_X7_leastOf) 29 = .ok (.aload_n 0, 1) := by decide +kernel
theorem d_X7_leastOf_30 : decode (px_cc M_X7_leastOf) 30 = .ok (.dup, 1) := by decide +kernel
theorem d_X7_leastOf_31 : decode (px_cc M_X7_leastOf) 31 = .ok (.getfield 35, 3) := by decide +kernel
theorem d_X7_leastOf_34 : decode (px_cc M_X7_leastOf) 34 = .ok (.aload_n 0, 1) := by decide +kernel
theorem d_X7_leastOf_35 : decode (px_cc M_X7_leastOf) 35 = .ok (.getfield 9, 3) := by decide +kernel
theorem d_X7_leastOf_38 : decode (px_cc M_X7_leastOf) 38 = .ok (.iload 4, 2) := by decide +kernel
theorem d_X7_leastOf_40 : decode (px_cc M_X7_leastOf) 40 = .ok (.iaload, 1) := by decide +kernel
theorem d_X7_leastOf_41 : decode (px_cc M_X7_leastOf) 41 = .ok (.iadd, 1) := by decide +kernel
theorem d_X7_leastOf_42 : decode (px_cc M_X7_leastOf) 42 = .ok (.putfield 35, 3) := by decide +kernel
theorem d_X7_leastOf_45 : decode (px_cc M_X7_leastOf) 45 = .ok (.iload_n 3, 1) := by decide +kernel
theorem d_X7_leastOf_46 : decode (px_cc M_X7_leastOf) 46 = .ok (.aload_n 0, 1) := by decide +kernel
theorem d_X7_leastOf_47 : decode (px_cc M_X7_leastOf) 47 = .ok (.getfield 35, 3) := by decide +kernel
theorem d_X7_leastOf_50 : decode (px_cc M_X7_leastOf) 50 = .ok (.invokestatic 64, 3) := by decide +kernel
theorem d_X7_leastOf_53 : decode (px_cc M_X7_leastOf) 53 = .ok (.istore_n 3, 1) := by decide +kernel
theorem d_X7_leastOf_54 : decode (px_cc M_X7_leastOf) 54 = .ok (.iinc 4 1, 3) := by decide +kernel
theorem d_X7_leastOf_57 : decode (px_cc M_X7_leastOf) 57 = .ok (.goto (-37), 3) := by decide +kernel
theorem d_X7_leastOf_60 : decode (px_cc M_X7_leastOf) 60 = .ok (.iload_n 3, 1) := by decide +kernel
theorem d_X7_leastOf_61 : decode (px_cc M_X7_leastOf) 61 = .ok (.ireturn, 1) := by decide +kernel
theorem d_X7_rateOf_0 : decode (px_cc M_X7_rateOf) 0 = .ok (.iload_n 2, 1) := by decide +kernel
theorem d_X7_rateOf_1 : decode (px_cc M_X7_rateOf) 1 = .ok (.bipush 30, 2) := by decide +kernel
theorem d_X7_rateOf_3 : decode (px_cc M_X7_rateOf) 3 = .ok (.imul, 1) := by decide +kernel
theorem d_X7_rateOf_4 : decode (px_cc M_X7_rateOf) 4 = .ok (.bipush 30, 2) := by decide +kernel
theorem d_X7_rateOf_6 : decode (px_cc M_X7_rateOf) 6 = .ok (.iadd, 1) := by decide +kernel
theorem d_X7_rateOf_7 : decode (px_cc M_X7_rateOf) 7 = .ok (.iconst 1, 1) := by decide +kernel
theorem d_X7_rateOf_8 : decode (px_cc M_X7_rateOf) 8 = .ok (.isub, 1) := by decide +kernel
theorem d_X7_rateOf_9 : decode (px_cc M_X7_rateOf) 9 = .ok (.istore 5, 2) := by decide +kernel
theorem d_X7_rateOf_11 : decode (px_cc M_X7_rateOf) 11 = .ok (.aload_n 0, 1) := by decide +kernel
theorem d_X7_rateOf_12 : decode (px_cc M_X7_rateOf) 12 = .ok (.getfield 19, 3) := by decide +kernel
theorem d_X7_rateOf_15 : decode (px_cc M_X7_rateOf) 15 = .ok (.iload 5, 2) := by decide +kernel
theorem d_X7_rateOf_17 : decode (px_cc M_X7_rateOf) 17 = .ok (.iload 4, 2) := by decide +kernel
theorem d_X7_rateOf_19 : decode (px_cc M_X7_rateOf) 19 = .ok (.invokevirtual 70, 3) := by decide +kernel
theorem d_X7_rateOf_22 : decode (px_cc M_X7_rateOf) 22 = .ok (.astore 6, 2) := by decide +kernel
theorem d_X7_rateOf_24 : decode (px_cc M_X7_rateOf) 24 = .ok (.aload 6, 2) := by decide +kernel
theorem d_X7_rateOf_26 : decode (px_cc M_X7_rateOf) 26 = .ok (.ifnonnull 5, 3) := by decide +kernel
theorem d_X7_rateOf_29 : decode (px_cc M_X7_rateOf) 29 = .ok (.iconst 0, 1) := by decide +kernel
theorem d_X7_rateOf_30 : decode (px_cc M_X7_rateOf) 30 = .ok (.ireturn, 1) := by decide +kernel
theorem d_X7_rateOf_31 : decode (px_cc M_X7_rateOf) 31 = .ok (.aload_n 0, 1) := by decide +kernel
theorem d_X7_rateOf_32 : decode (px_cc M_X7_rateOf) 32 = .ok (.getfield 23, 3) := by decide +kernel
theorem d_X7_rateOf_35 : decode (px_cc M_X7_rateOf) 35 = .ok (.aload_n 1, 1) := by decide +kernel
theorem d_X7_rateOf_36 : decode (px_cc M_X7_rateOf) 36 = .ok (.iload_n 3, 1) := by decide +kernel
theorem d_X7_rateOf_37 : decode (px_cc M_X7_rateOf) 37 = .ok (.iload 5, 2) := by decide +kernel
theorem d_X7_rateOf_39 : decode (px_cc M_X7_rateOf) 39 = .ok (.invokevirtual 76, 3) := by decide +kernel
theorem d_X7_rateOf_42 : decode (px_cc M_X7_rateOf) 42 = .ok (.iconst 0, 1) := by decide +kernel
theorem d_X7_rateOf_43 : decode (px_cc M_X7_rateOf) 43 = .ok (.aload_n 0, 1) := by decide +kernel
theorem d_X7_rateOf_44 : decode (px_cc M_X7_rateOf) 44 = .ok (.getfield 23, 3) := by decide +kernel
theorem d_X7_rateOf_47 : decode (px_cc M_X7_rateOf) 47 = .ok (.aload 6, 2) := by decide +kernel
theorem d_X7_rateOf_49 : decode (px_cc M_X7_rateOf) 49 = .ok (.getfield 81, 3) := by decide +kernel
theorem d_X7_rateOf_52 : decode (px_cc M_X7_rateOf) 52 = .ok (.bipush (-3), 2) := by decide +kernel
theorem d_X7_rateOf_54 : decode (px_cc M_X7_rateOf) 54 = .ok (.invokevirtual 86, 3) := by decide +kernel
theorem d_X7_rateOf_57 : decode (px_cc M_X7_rateOf) 57 = .ok (.invokestatic 90, 3) := by decide +kernel
theorem d_X7_rateOf_60 : decode (px_cc M_X7_rateOf) 60 = .ok (.ireturn, 1) := by decide +kernel
theorem d_X8_init_0 : decode (px_cc M_X8_init) 0 = .ok (.aload_n 0, 1) := by decide +kernel
theorem d_X8_init_1 : decode (px_cc M_X8_init) 1 = .ok (.invokespecial 1, 3) := by decide +kernel
theorem d_X8_init_4 : decode (px_cc M_X8_init) 4 = .ok (.aload_n 0, 1) := by decide +kernel
theorem d_X8_init_5 : decode (px_cc M_X8_init) 5 = .ok (.iload_n 1, 1) := by decide +kernel
theorem d_X8_init_6 : decode (px_cc M_X8_init) 6 = .ok (.putfield 7, 3) := by decide +kernel
theorem d_X8_init_9 : decode (px_cc M_X8_init) 9 = .ok (.aload_n 0, 1) := by decide +kernel
theorem d_X8_init_10 : decode (px_cc M_X8_init) 10 = .ok (.iload_n 2, 1) := by decide +kernel
theorem d_X8_init_11 : decode (px_cc M_X8_init) 11 = .ok (.putfield 13, 3) := by decide +kernel
theorem d_X8_init_14 : decode (px_cc M_X8_init) 14 = .ok (.aload_n 0, 1) := by decide +kernel
theorem d_X8_init_15 : decode (px_cc M_X8_init) 15 = .ok (.aload_n 3, 1) := by decide +kernel
theorem d_X8_init_16 : decode (px_cc M_X8_init) 16 = .ok (.putfield 16, 3) := by decide +kernel
theorem d_X8_init_19 : decode (px_cc M_X8_init) 19 = .ok (.return_, 1) := by decide +kernel
theorem d_X9_init_0 : decode (px_cc M_X9_init) 0 = .ok (.aload_n 0, 1) := by decide +kernel
theorem d_X9_init_1 : decode (px_cc M_X9_init) 1 = .ok (.invokespecial 3, 3) := by decide +kernel
theorem d_X9_init_4 : decode (px_cc M_X9_init) 4 = .ok (.aload_n 0, 1) := by decide +kernel
theorem d_X9_init_5 : decode (px_cc M_X9_init) 5 = .ok (.sipush 600, 3) := by decide +kernel
theorem d_X9_init_8 : decode (px_cc M_X9_init) 8 = .ok (.newarray .char, 2) := by decide +kernel
theorem d_X9_init_10 : decode (px_cc M_X9_init) 10 = .ok (.putfield 9, 3) := by decide +kernel
theorem d_X9_init_13 : decode (px_cc M_X9_init) 13 = .ok (.return_, 1) := by decide +kernel
theorem d_X9_takeBytes_0 : decode (px_cc M_X9_takeBytes) 0 = .ok (.bipush 56, 2) := by decide +kernel
theorem d_X9_takeBytes_2 : decode (px_cc M_X9_takeBytes) 2 = .ok (.istore_n 3, 1) := by decide +kernel
theorem d_X9_takeBytes_3 : decode (px_cc M_X9_takeBytes) 3 = .ok (.iload_n 3, 1) := by decide +kernel
theorem d_X9_takeBytes_4 : decode (px_cc M_X9_takeBytes) 4 = .ok (.ifCond .lt 72, 3) := by decide +kernel
theorem d_X9_takeBytes_7 : decode (px_cc M_X9_takeBytes) 7 = .ok (.lload_n 1, 1) := by decide +kernel
theorem d_X9_takeBytes_8 : decode (px_cc M_X9_takeBytes) 8 = .ok (.iload_n 3, 1) := by decide +kernel
theorem d_X9_takeBytes_9 : decode (px_cc M_X9_takeBytes) 9 = .ok (.lushr, 1) := by decide +kernel
theorem d_X9_takeBytes_10 : decode (px_cc M_X9_takeBytes) 10 = .ok (.l2i, 1) := by decide +kernel
theorem d_X9_takeBytes_11 : decode (px_cc M_X9_takeBytes) 11 = .ok (.sipush 255, 3) := by decide +kernel
theorem d_X9_takeBytes_14 : decode (px_cc M_X9_takeBytes) 14 = .ok (.iand, 1) := by decide +kernel
theorem d_X9_takeBytes_15 : decode (px_cc M_X9_takeBytes) 15 = .ok (.istore 4, 2) := by decide +kernel
theorem d_X9_takeBytes_17 : decode (px_cc M_X9_takeBytes) 17 = .ok (.iload 4, 2) := by decide +kernel
theorem d_X9_takeBytes_19 : decode (px_cc M_X9_takeBytes) 19 = .ok (.bipush 10, 2) := by decide +kernel
theorem d_X9_takeBytes_21 : decode (px_cc M_X9_takeBytes) 21 = .ok (.if_icmp .eq 17, 3) := by decide +kernel
theorem d_X9_takeBytes_24 : decode (px_cc M_X9_takeBytes) 24 = .ok (.iload 4, 2) := by decide +kernel
theorem d_X9_takeBytes_26 : decode (px_cc M_X9_takeBytes) 26 = .ok (.bipush 32, 2) := by decide +kernel
theorem d_X9_takeBytes_28 : decode (px_cc M_X9_takeBytes) 28 = .ok (.if_icmp .lt 42, 3) := by decide +kernel
theorem d_X9_takeBytes_31 : decode (px_cc M_X9_takeBytes) 31 = .ok (.iload 4, 2) := by decide +kernel
theorem d_X9_takeBytes_33 : decode (px_cc M_X9_takeBytes) 33 = .ok (.bipush 126, 2) := by decide +kernel
theorem d_X9_takeBytes_35 : decode (px_cc M_X9_takeBytes) 35 = .ok (.if_icmp .gt 35, 3) := by decide +kernel
theorem d_X9_takeBytes_38 : decode (px_cc M_X9_takeBytes) 38 = .ok (.aload_n 0, 1) := by decide +kernel
theorem d_X9_takeBytes_39 : decode (px_cc M_X9_takeBytes) 39 = .ok (.getfield 15, 3) := by decide +kernel
theorem d_X9_takeBytes_42 : decode (px_cc M_X9_takeBytes) 42 = .ok (.sipush 600, 3) := by decide +kernel
theorem d_X9_takeBytes_45 : decode (px_cc M_X9_takeBytes) 45 = .ok (.if_icmp .ge 25, 3) := by decide +kernel
theorem d_X9_takeBytes_48 : decode (px_cc M_X9_takeBytes) 48 = .ok (.aload_n 0, 1) := by decide +kernel
theorem d_X9_takeBytes_49 : decode (px_cc M_X9_takeBytes) 49 = .ok (.getfield 9, 3) := by decide +kernel
theorem d_X9_takeBytes_52 : decode (px_cc M_X9_takeBytes) 52 = .ok (.aload_n 0, 1) := by decide +kernel
theorem d_X9_takeBytes_53 : decode (px_cc M_X9_takeBytes) 53 = .ok (.getfield 15, 3) := by decide +kernel
theorem d_X9_takeBytes_56 : decode (px_cc M_X9_takeBytes) 56 = .ok (.iload 4, 2) := by decide +kernel
theorem d_X9_takeBytes_58 : decode (px_cc M_X9_takeBytes) 58 = .ok (.i2c, 1) := by decide +kernel
theorem d_X9_takeBytes_59 : decode (px_cc M_X9_takeBytes) 59 = .ok (.castore, 1) := by decide +kernel
theorem d_X9_takeBytes_60 : decode (px_cc M_X9_takeBytes) 60 = .ok (.aload_n 0, 1) := by decide +kernel
theorem d_X9_takeBytes_61 : decode (px_cc M_X9_takeBytes) 61 = .ok (.dup, 1) := by decide +kernel
theorem d_X9_takeBytes_62 : decode (px_cc M_X9_takeBytes) 62 = .ok (.getfield 15, 3) := by decide +kernel
theorem d_X9_takeBytes_65 : decode (px_cc M_X9_takeBytes) 65 = .ok (.iconst 1, 1) := by decide +kernel
theorem d_X9_takeBytes_66 : decode (px_cc M_X9_takeBytes) 66 = .ok (.iadd, 1) := by decide +kernel
theorem d_X9_takeBytes_67 : decode (px_cc M_X9_takeBytes) 67 = .ok (.putfield 15, 3) := by decide +kernel
theorem d_X9_takeBytes_70 : decode (px_cc M_X9_takeBytes) 70 = .ok (.iinc 3 (-8), 3) := by decide +kernel
theorem d_X9_takeBytes_73 : decode (px_cc M_X9_takeBytes) 73 = .ok (.goto (-70), 3) := by decide +kernel
theorem d_X9_takeBytes_76 : decode (px_cc M_X9_takeBytes) 76 = .ok (.return_, 1) := by decide +kernel
theorem d_X9_makeEmpty_0 : decode (px_cc M_X9_makeEmpty) 0 = .ok (.aload_n 0, 1) := by decide +kernel
theorem d_X9_makeEmpty_1 : decode (px_cc M_X9_makeEmpty) 1 = .ok (.iconst 0, 1) := by decide +kernel
theorem d_X9_makeEmpty_2 : decode (px_cc M_X9_makeEmpty) 2 = .ok (.putfield 15, 3) := by decide +kernel
theorem d_X9_makeEmpty_5 : decode (px_cc M_X9_makeEmpty) 5 = .ok (.return_, 1) := by decide +kernel
theorem d_X9_rewind_0 : decode (px_cc M_X9_rewind) 0 = .ok (.aload_n 0, 1) := by decide +kernel
theorem d_X9_rewind_1 : decode (px_cc M_X9_rewind) 1 = .ok (.iconst 0, 1) := by decide +kernel
theorem d_X9_rewind_2 : decode (px_cc M_X9_rewind) 2 = .ok (.putfield 19, 3) := by decide +kernel
theorem d_X9_rewind_5 : decode (px_cc M_X9_rewind) 5 = .ok (.return_, 1) := by decide +kernel
theorem d_X9_nextToken_0 : decode (px_cc M_X9_nextToken) 0 = .ok (.aload_n 0, 1) := by decide +kernel
theorem d_X9_nextToken_1 : decode (px_cc M_X9_nextToken) 1 = .ok (.getfield 19, 3) := by decide +kernel
theorem d_X9_nextToken_4 : decode (px_cc M_X9_nextToken) 4 = .ok (.aload_n 0, 1) := by decide +kernel
theorem d_X9_nextToken_5 : decode (px_cc M_X9_nextToken) 5 = .ok (.getfield 15, 3) := by decide +kernel
theorem d_X9_nextToken_8 : decode (px_cc M_X9_nextToken) 8 = .ok (.if_icmp .ge 44, 3) := by decide +kernel
theorem d_X9_nextToken_11 : decode (px_cc M_X9_nextToken) 11 = .ok (.aload_n 0, 1) := by decide +kernel
theorem d_X9_nextToken_12 : decode (px_cc M_X9_nextToken) 12 = .ok (.getfield 9, 3) := by decide +kernel
theorem d_X9_nextToken_15 : decode (px_cc M_X9_nextToken) 15 = .ok (.aload_n 0, 1) := by decide +kernel
theorem d_X9_nextToken_16 : decode (px_cc M_X9_nextToken) 16 = .ok (.getfield 19, 3) := by decide +kernel
theorem d_X9_nextToken_19 : decode (px_cc M_X9_nextToken) 19 = .ok (.caload, 1) := by decide +kernel
theorem d_X9_nextToken_20 : decode (px_cc M_X9_nextToken) 20 = .ok (.bipush 10, 2) := by decide +kernel
theorem d_X9_nextToken_22 : decode (px_cc M_X9_nextToken) 22 = .ok (.if_icmp .eq 17, 3) := by decide +kernel
theorem d_X9_nextToken_25 : decode (px_cc M_X9_nextToken) 25 = .ok (.aload_n 0, 1) := by decide +kernel
theorem d_X9_nextToken_26 : decode (px_cc M_X9_nextToken) 26 = .ok (.getfield 9, 3) := by decide +kernel
theorem d_X9_nextToken_29 : decode (px_cc M_X9_nextToken) 29 = .ok (.aload_n 0, 1) := by decide +kernel
theorem d_X9_nextToken_30 : decode (px_cc M_X9_nextToken) 30 = .ok (.getfield 19, 3) := by decide +kernel
theorem d_X9_nextToken_33 : decode (px_cc M_X9_nextToken) 33 = .ok (.caload, 1) := by decide +kernel
theorem d_X9_nextToken_34 : decode (px_cc M_X9_nextToken) 34 = .ok (.bipush 32, 2) := by decide +kernel
theorem d_X9_nextToken_36 : decode (px_cc M_X9_nextToken) 36 = .ok (.if_icmp .ne 16, 3) := by decide +kernel
theorem d_X9_nextToken_39 : decode (px_cc M_X9_nextToken) 39 = .ok (.aload_n 0, 1) := by decide +kernel
theorem d_X9_nextToken_40 : decode (px_cc M_X9_nextToken) 40 = .ok (.dup, 1) := by decide +kernel
theorem d_X9_nextToken_41 : decode (px_cc M_X9_nextToken) 41 = .ok (.getfield 19, 3) := by decide +kernel
theorem d_X9_nextToken_44 : decode (px_cc M_X9_nextToken) 44 = .ok (.iconst 1, 1) := by decide +kernel
theorem d_X9_nextToken_45 : decode (px_cc M_X9_nextToken) 45 = .ok (.iadd, 1) := by decide +kernel
theorem d_X9_nextToken_46 : decode (px_cc M_X9_nextToken) 46 = .ok (.putfield 19, 3) := by decide +kernel
theorem d_X9_nextToken_49 : decode (px_cc M_X9_nextToken) 49 = .ok (.goto (-49), 3) := by decide +kernel
theorem d_X9_nextToken_52 : decode (px_cc M_X9_nextToken) 52 = .ok (.aload_n 0, 1) := by decide +kernel
theorem d_X9_nextToken_53 : decode (px_cc M_X9_nextToken) 53 = .ok (.aload_n 0, 1) := by decide +kernel
theorem d_X9_nextToken_54 : decode (px_cc M_X9_nextToken) 54 = .ok (.getfield 19, 3) := by decide +kernel
theorem d_X9_nextToken_57 : decode (px_cc M_X9_nextToken) 57 = .ok (.putfield 22, 3) := by decide +kernel
theorem d_X9_nextToken_60 : decode (px_cc M_X9_nextToken) 60 = .ok (.aload_n 0, 1) := by decide +kernel
theorem d_X9_nextToken_61 : decode (px_cc M_X9_nextToken) 61 = .ok (.getfield 19, 3) := by decide +kernel
theorem d_X9_nextToken_64 : decode (px_cc M_X9_nextToken) 64 = .ok (.aload_n 0, 1) := by decide +kernel
theorem d_X9_nextToken_65 : decode (px_cc M_X9_nextToken) 65 = .ok (.getfield 15, 3) := by decide +kernel
theorem d_X9_nextToken_68 : decode (px_cc M_X9_nextToken) 68 = .ok (.if_icmp .lt 5, 3) := by decide +kernel
theorem d_X9_nextToken_71 : decode (px_cc M_X9_nextToken) 71 = .ok (.iconst (-1), 1) := by decide +kernel
theorem d_X9_nextToken_72 : decode (px_cc M_X9_nextToken) 72 = .ok (.ireturn, 1) := by decide +kernel
theorem d_X9_nextToken_73 : decode (px_cc M_X9_nextToken) 73 = .ok (.aload_n 0, 1) := by decide +kernel
theorem d_X9_nextToken_74 : decode (px_cc M_X9_nextToken) 74 = .ok (.getfield 9, 3) := by decide +kernel
theorem d_X9_nextToken_77 : decode (px_cc M_X9_nextToken) 77 = .ok (.aload_n 0, 1) := by decide +kernel
theorem d_X9_nextToken_78 : decode (px_cc M_X9_nextToken) 78 = .ok (.getfield 19, 3) := by decide +kernel
theorem d_X9_nextToken_81 : decode (px_cc M_X9_nextToken) 81 = .ok (.caload, 1) := by decide +kernel
theorem d_X9_nextToken_82 : decode (px_cc M_X9_nextToken) 82 = .ok (.invokestatic 25, 3) := by decide +kernel
theorem d_X9_nextToken_85 : decode (px_cc M_X9_nextToken) 85 = .ok (.ifCond .eq 8, 3) := by decide +kernel
theorem d_X9_nextToken_88 : decode (px_cc M_X9_nextToken) 88 = .ok (.aload_n 0, 1) := by decide +kernel
theorem d_X9_nextToken_89 : decode (px_cc M_X9_nextToken) 89 = .ok (.invokevirtual 29, 3) := by decide +kernel
theorem d_X9_nextToken_92 : decode (px_cc M_X9_nextToken) 92 = .ok (.ireturn, 1) := by decide +kernel
theorem d_X9_nextToken_93 : decode (px_cc M_X9_nextToken) 93 = .ok (.aload_n 0, 1) := by decide +kernel
theorem d_X9_nextToken_94 : decode (px_cc M_X9_nextToken) 94 = .ok (.getfield 9, 3) := by decide +kernel
theorem d_X9_nextToken_97 : decode (px_cc M_X9_nextToken) 97 = .ok (.aload_n 0, 1) := by decide +kernel
theorem d_X9_nextToken_98 : decode (px_cc M_X9_nextToken) 98 = .ok (.getfield 19, 3) := by decide +kernel
theorem d_X9_nextToken_101 : decode (px_cc M_X9_nextToken) 101 = .ok (.caload, 1) := by decide +kernel
theorem d_X9_nextToken_102 : decode (px_cc M_X9_nextToken) 102 = .ok (.invokestatic 33, 3) := by decide +kernel
theorem d_X9_nextToken_105 : decode (px_cc M_X9_nextToken) 105 = .ok (.ifCond .eq 8, 3) := by decide +kernel
theorem d_X9_nextToken_108 : decode (px_cc M_X9_nextToken) 108 = .ok (.aload_n 0, 1) := by decide +kernel
theorem d_X9_nextToken_109 : decode (px_cc M_X9_nextToken) 109 = .ok (.invokevirtual 36, 3) := by decide +kernel
theorem d_X9_nextToken_112 : decode (px_cc M_X9_nextToken) 112 = .ok (.ireturn, 1) := by decide +kernel
theorem d_X9_nextToken_113 : decode (px_cc M_X9_nextToken) 113 = .ok (.aload_n 0, 1) := by decide +kernel
theorem d_X9_nextToken_114 : decode (px_cc M_X9_nextToken) 114 = .ok (.dup, 1) := by decide +kernel
theorem d_X9_nextToken_115 : decode (px_cc M_X9_nextToken) 115 = .ok (.getfield 19, 3) := by decide +kernel
theorem d_X9_nextToken_118 : decode (px_cc M_X9_nextToken) 118 = .ok (.iconst 1, 1) := by decide +kernel
theorem d_X9_nextToken_119 : decode (px_cc M_X9_nextToken) 119 = .ok (.iadd, 1) := by decide +kernel
theorem d_X9_nextToken_120 : decode (px_cc M_X9_nextToken) 120 = .ok (.putfield 19, 3) := by decide +kernel
theorem d_X9_nextToken_123 : decode (px_cc M_X9_nextToken) 123 = .ok (.aload_n 0, 1) := by decide +kernel
theorem d_X9_nextToken_124 : decode (px_cc M_X9_nextToken) 124 = .ok (.getfield 9, 3) := by decide +kernel
theorem d_X9_nextToken_127 : decode (px_cc M_X9_nextToken) 127 = .ok (.aload_n 0, 1) := by decide +kernel
theorem d_X9_nextToken_128 : decode (px_cc M_X9_nextToken) 128 = .ok (.getfield 22, 3) := by decide +kernel
theorem d_X9_nextToken_131 : decode (px_cc M_X9_nextToken) 131 = .ok (.caload, 1) := by decide +kernel
theorem d_X9_nextToken_132 : decode (px_cc M_X9_nextToken) 132 = .ok (.invokestatic 39, 3) := by decide +kernel
theorem d_X9_nextToken_135 : decode (px_cc M_X9_nextToken) 135 = .ok (.ireturn, 1) := by decide +kernel
theorem d_X9_wordToken_0 : decode (px_cc M_X9_wordToken) 0 = .ok (.aload_n 0, 1) := by decide +kernel
theorem d_X9_wordToken_1 : decode (px_cc M_X9_wordToken) 1 = .ok (.getfield 19, 3) := by decide +kernel
theorem d_X9_wordToken_4 : decode (px_cc M_X9_wordToken) 4 = .ok (.aload_n 0, 1) := by decide +kernel
theorem d_X9_wordToken_5 : decode (px_cc M_X9_wordToken) 5 = .ok (.getfield 15, 3) := by decide +kernel
theorem d_X9_wordToken_8 : decode (px_cc M_X9_wordToken) 8 = .ok (.if_icmp .ge 31, 3) := by decide +kernel
theorem d_X9_wordToken_11 : decode (px_cc M_X9_wordToken) 11 = .ok (.aload_n 0, 1) := by decide +kernel
theorem d_X9_wordToken_12 : decode (px_cc M_X9_wordToken) 12 = .ok (.getfield 9, 3) := by decide +kernel
theorem d_X9_wordToken_15 : decode (px_cc M_X9_wordToken) 15 = .ok (.aload_n 0, 1) := by decide +kernel
theorem d_X9_wordToken_16 : decode (px_cc M_X9_wordToken) 16 = .ok (.getfield 19, 3) := by decide +kernel
theorem d_X9_wordToken_19 : decode (px_cc M_X9_wordToken) 19 = .ok (.caload, 1) := by decide +kernel
theorem d_X9_wordToken_20 : decode (px_cc M_X9_wordToken) 20 = .ok (.invokestatic 25, 3) := by decide +kernel
theorem d_X9_wordToken_23 : decode (px_cc M_X9_wordToken) 23 = .ok (.ifCond .eq 16, 3) := by decide +kernel
theorem d_X9_wordToken_26 : decode (px_cc M_X9_wordToken) 26 = .ok (.aload_n 0, 1) := by decide +kernel
theorem d_X9_wordToken_27 : decode (px_cc M_X9_wordToken) 27 = .ok (.dup, 1) := by decide +kernel
theorem d_X9_wordToken_28 : decode (px_cc M_X9_wordToken) 28 = .ok (.getfield 19, 3) := by decide +kernel
theorem d_X9_wordToken_31 : decode (px_cc M_X9_wordToken) 31 = .ok (.iconst 1, 1) := by decide +kernel
theorem d_X9_wordToken_32 : decode (px_cc M_X9_wordToken) 32 = .ok (.iadd, 1) := by decide +kernel
theorem d_X9_wordToken_33 : decode (px_cc M_X9_wordToken) 33 = .ok (.putfield 19, 3) := by decide +kernel
theorem d_X9_wordToken_36 : decode (px_cc M_X9_wordToken) 36 = .ok (.goto (-36), 3) := by decide +kernel
theorem d_X9_wordToken_39 : decode (px_cc M_X9_wordToken) 39 = .ok (.aload_n 0, 1) := by decide +kernel
theorem d_X9_wordToken_40 : decode (px_cc M_X9_wordToken) 40 = .ok (.getfield 19, 3) := by decide +kernel
theorem d_X9_wordToken_43 : decode (px_cc M_X9_wordToken) 43 = .ok (.aload_n 0, 1) := by decide +kernel
theorem d_X9_wordToken_44 : decode (px_cc M_X9_wordToken) 44 = .ok (.getfield 22, 3) := by decide +kernel
theorem d_X9_wordToken_47 : decode (px_cc M_X9_wordToken) 47 = .ok (.isub, 1) := by decide +kernel
theorem d_X9_wordToken_48 : decode (px_cc M_X9_wordToken) 48 = .ok (.bipush 8, 2) := by decide +kernel
theorem d_X9_wordToken_50 : decode (px_cc M_X9_wordToken) 50 = .ok (.if_icmp .le 6, 3) := by decide +kernel
theorem d_X9_wordToken_53 : decode (px_cc M_X9_wordToken) 53 = .ok (.bipush (-2), 2) := by decide +kernel
theorem d_X9_wordToken_55 : decode (px_cc M_X9_wordToken) 55 = .ok (.ireturn, 1) := by decide +kernel
theorem d_X9_wordToken_56 : decode (px_cc M_X9_wordToken) 56 = .ok (.aload_n 0, 1) := by decide +kernel
theorem d_X9_wordToken_57 : decode (px_cc M_X9_wordToken) 57 = .ok (.ldc 43, 2) := by decide +kernel
theorem d_X9_wordToken_59 : decode (px_cc M_X9_wordToken) 59 = .ok (.invokevirtual 45, 3) := by decide +kernel
theorem d_X9_wordToken_62 : decode (px_cc M_X9_wordToken) 62 = .ok (.ifCond .eq 8, 3) := by decide +kernel
theorem d_X9_wordToken_65 : decode (px_cc M_X9_wordToken) 65 = .ok (.bipush (-3), 2) := by decide +kernel
theorem d_X9_wordToken_67 : decode (px_cc M_X9_wordToken) 67 = .ok (.goto 117, 3) := by decide +kernel
theorem d_X9_wordToken_70 : decode (px_cc M_X9_wordToken) 70 = .ok (.aload_n 0, 1) := by decide +kernel
theorem d_X9_wordToken_71 : decode (px_cc M_X9_wordToken) 71 = .ok (.ldc 49, 2) := by decide +kernel
theorem d_X9_wordToken_73 : decode (px_cc M_X9_wordToken) 73 = .ok (.invokevirtual 45, 3) := by decide +kernel
theorem d_X9_wordToken_76 : decode (px_cc M_X9_wordToken) 76 = .ok (.ifCond .eq 8, 3) := by decide +kernel
theorem d_X9_wordToken_79 : decode (px_cc M_X9_wordToken) 79 = .ok (.bipush (-4), 2) := by decide +kernel
theorem d_X9_wordToken_81 : decode (px_cc M_X9_wordToken) 81 = .ok (.goto 103, 3) := by decide +kernel
theorem d_X9_wordToken_84 : decode (px_cc M_X9_wordToken) 84 = .ok (.aload_n 0, 1) := by decide +kernel
theorem d_X9_wordToken_85 : decode (px_cc M_X9_wordToken) 85 = .ok (.ldc 51, 2) := by decide +kernel
theorem d_X9_wordToken_87 : decode (px_cc M_X9_wordToken) 87 = .ok (.invokevirtual 45, 3) := by decide +kernel
theorem d_X9_wordToken_90 : decode (px_cc M_X9_wordToken) 90 = .ok (.ifCond .eq 8, 3) := by decide +kernel
theorem d_X9_wordToken_93 : decode (px_cc M_X9_wordToken) 93 = .ok (.bipush (-5), 2) := by decide +kernel
theorem d_X9_wordToken_95 : decode (px_cc M_X9_wordToken) 95 = .ok (.goto 89, 3) := by decide +kernel
theorem d_X9_wordToken_98 : decode (px_cc M_X9_wordToken) 98 = .ok (.aload_n 0, 1) := by decide +kernel
theorem d_X9_wordToken_99 : decode (px_cc M_X9_wordToken) 99 = .ok (.ldc 53, 2) := by decide +kernel
theorem d_X9_wordToken_101 : decode (px_cc M_X9_wordToken) 101 = .ok (.invokevirtual 45, 3) := by decide +kernel
theorem d_X9_wordToken_104 : decode (px_cc M_X9_wordToken) 104 = .ok (.ifCond .eq 8, 3) := by decide +kernel
theorem d_X9_wordToken_107 : decode (px_cc M_X9_wordToken) 107 = .ok (.bipush (-6), 2) := by decide +kernel
theorem d_X9_wordToken_109 : decode (px_cc M_X9_wordToken) 109 = .ok (.goto 75, 3) := by decide +kernel
theorem d_X9_wordToken_112 : decode (px_cc M_X9_wordToken) 112 = .ok (.aload_n 0, 1) := by decide +kernel
theorem d_X9_wordToken_113 : decode (px_cc M_X9_wordToken) 113 = .ok (.ldc 55, 2) := by decide +kernel
theorem d_X9_wordToken_115 : decode (px_cc M_X9_wordToken) 115 = .ok (.invokevirtual 45, 3) := by decide +kernel
theorem d_X9_wordToken_118 : decode (px_cc M_X9_wordToken) 118 = .ok (.ifCond .eq 8, 3) := by decide +kernel
theorem d_X9_wordToken_121 : decode (px_cc M_X9_wordToken) 121 = .ok (.bipush (-7), 2) := by decide +kernel
theorem d_X9_wordToken_123 : decode (px_cc M_X9_wordToken) 123 = .ok (.goto 61, 3) := by decide +kernel
theorem d_X9_wordToken_126 : decode (px_cc M_X9_wordToken) 126 = .ok (.aload_n 0, 1) := by decide +kernel
theorem d_X9_wordToken_127 : decode (px_cc M_X9_wordToken) 127 = .ok (.ldc 57, 2) := by decide +kernel
theorem d_X9_wordToken_129 : decode (px_cc M_X9_wordToken) 129 = .ok (.invokevirtual 45, 3) := by decide +kernel
theorem d_X9_wordToken_132 : decode (px_cc M_X9_wordToken) 132 = .ok (.ifCond .eq 8, 3) := by decide +kernel
theorem d_X9_wordToken_135 : decode (px_cc M_X9_wordToken) 135 = .ok (.bipush (-8), 2) := by decide +kernel
theorem d_X9_wordToken_137 : decode (px_cc M_X9_wordToken) 137 = .ok (.goto 47, 3) := by decide +kernel
theorem d_X9_wordToken_140 : decode (px_cc M_X9_wordToken) 140 = .ok (.aload_n 0, 1) := by decide +kernel
theorem d_X9_wordToken_141 : decode (px_cc M_X9_wordToken) 141 = .ok (.ldc 59, 2) := by decide +kernel
theorem d_X9_wordToken_143 : decode (px_cc M_X9_wordToken) 143 = .ok (.invokevirtual 45, 3) := by decide +kernel
theorem d_X9_wordToken_146 : decode (px_cc M_X9_wordToken) 146 = .ok (.ifCond .eq 8, 3) := by decide +kernel
theorem d_X9_wordToken_149 : decode (px_cc M_X9_wordToken) 149 = .ok (.bipush (-9), 2) := by decide +kernel
theorem d_X9_wordToken_151 : decode (px_cc M_X9_wordToken) 151 = .ok (.goto 33, 3) := by decide +kernel
theorem d_X9_wordToken_154 : decode (px_cc M_X9_wordToken) 154 = .ok (.aload_n 0, 1) := by decide +kernel
theorem d_X9_wordToken_155 : decode (px_cc M_X9_wordToken) 155 = .ok (.ldc 61, 2) := by decide +kernel
theorem d_X9_wordToken_157 : decode (px_cc M_X9_wordToken) 157 = .ok (.invokevirtual 45, 3) := by decide +kernel
theorem d_X9_wordToken_160 : decode (px_cc M_X9_wordToken) 160 = .ok (.ifCond .eq 8, 3) := by decide +kernel
theorem d_X9_wordToken_163 : decode (px_cc M_X9_wordToken) 163 = .ok (.bipush (-10), 2) := by decide +kernel
theorem d_X9_wordToken_165 : decode (px_cc M_X9_wordToken) 165 = .ok (.goto 19, 3) := by decide +kernel
theorem d_X9_wordToken_168 : decode (px_cc M_X9_wordToken) 168 = .ok (.aload_n 0, 1) := by decide +kernel
theorem d_X9_wordToken_169 : decode (px_cc M_X9_wordToken) 169 = .ok (.ldc 63, 2) := by decide +kernel
theorem d_X9_wordToken_171 : decode (px_cc M_X9_wordToken) 171 = .ok (.invokevirtual 45, 3) := by decide +kernel
theorem d_X9_wordToken_174 : decode (px_cc M_X9_wordToken) 174 = .ok (.ifCond .eq 8, 3) := by decide +kernel
theorem d_X9_wordToken_177 : decode (px_cc M_X9_wordToken) 177 = .ok (.bipush (-11), 2) := by decide +kernel
theorem d_X9_wordToken_179 : decode (px_cc M_X9_wordToken) 179 = .ok (.goto 5, 3) := by decide +kernel
theorem d_X9_wordToken_182 : decode (px_cc M_X9_wordToken) 182 = .ok (.bipush (-2), 2) := by decide +kernel
theorem d_X9_wordToken_184 : decode (px_cc M_X9_wordToken) 184 = .ok (.ireturn, 1) := by decide +kernel
theorem d_X9_isWord_0 : decode (px_cc M_X9_isWord) 0 = .ok (.aload_n 1, 1) := by decide +kernel
theorem d_X9_isWord_1 : decode (px_cc M_X9_isWord) 1 = .ok (.invokevirtual 65, 3) := by decide +kernel
theorem d_X9_isWord_4 : decode (px_cc M_X9_isWord) 4 = .ok (.aload_n 0, 1) := by decide +kernel
theorem d_X9_isWord_5 : decode (px_cc M_X9_isWord) 5 = .ok (.getfield 19, 3) := by decide +kernel
theorem d_X9_isWord_8 : decode (px_cc M_X9_isWord) 8 = .ok (.aload_n 0, 1) := by decide +kernel
theorem d_X9_isWord_9 : decode (px_cc M_X9_isWord) 9 = .ok (.getfield 22, 3) := by decide +kernel
theorem d_X9_isWord_12 : decode (px_cc M_X9_isWord) 12 = .ok (.isub, 1) := by decide +kernel
theorem d_X9_isWord_13 : decode (px_cc M_X9_isWord) 13 = .ok (.if_icmp .eq 5, 3) := by decide +kernel
theorem d_X9_isWord_16 : decode (px_cc M_X9_isWord) 16 = .ok (.iconst 0, 1) := by decide +kernel
theorem d_X9_isWord_17 : decode (px_cc M_X9_isWord) 17 = .ok (.ireturn, 1) := by decide +kernel
theorem d_X9_isWord_18 : decode (px_cc M_X9_isWord) 18 = .ok (.iconst 0, 1) := by decide +kernel
theorem d_X9_isWord_19 : decode (px_cc M_X9_isWord) 19 = .ok (.istore_n 2, 1) := by decide +kernel
theorem d_X9_isWord_20 : decode (px_cc M_X9_isWord) 20 = .ok (.iload_n 2, 1) := by decide +kernel
theorem d_X9_isWord_21 : decode (px_cc M_X9_isWord) 21 = .ok (.aload_n 1, 1) := by decide +kernel
theorem d_X9_isWord_22 : decode (px_cc M_X9_isWord) 22 = .ok (.invokevirtual 65, 3) := by decide +kernel
theorem d_X9_isWord_25 : decode (px_cc M_X9_isWord) 25 = .ok (.if_icmp .ge 30, 3) := by decide +kernel
theorem d_X9_isWord_28 : decode (px_cc M_X9_isWord) 28 = .ok (.aload_n 0, 1) := by decide +kernel
theorem d_X9_isWord_29 : decode (px_cc M_X9_isWord) 29 = .ok (.getfield 9, 3) := by decide +kernel
theorem d_X9_isWord_32 : decode (px_cc M_X9_isWord) 32 = .ok (.aload_n 0, 1) := by decide +kernel
theorem d_X9_isWord_33 : decode (px_cc M_X9_isWord) 33 = .ok (.getfield 22, 3) := by decide +kernel
theorem d_X9_isWord_36 : decode (px_cc M_X9_isWord) 36 = .ok (.iload_n 2, 1) := by decide +kernel
theorem d_X9_isWord_37 : decode (px_cc M_X9_isWord) 37 = .ok (.iadd, 1) := by decide +kernel
theorem d_X9_isWord_38 : decode (px_cc M_X9_isWord) 38 = .ok (.caload, 1) := by decide +kernel
theorem d_X9_isWord_39 : decode (px_cc M_X9_isWord) 39 = .ok (.aload_n 1, 1) := by decide +kernel
theorem d_X9_isWord_40 : decode (px_cc M_X9_isWord) 40 = .ok (.iload_n 2, 1) := by decide +kernel
theorem d_X9_isWord_41 : decode (px_cc M_X9_isWord) 41 = .ok (.invokevirtual 70, 3) := by decide +kernel
theorem d_X9_isWord_44 : decode (px_cc M_X9_isWord) 44 = .ok (.if_icmp .eq 5, 3) := by decide +kernel
theorem d_X9_isWord_47 : decode (px_cc M_X9_isWord) 47 = .ok (.iconst 0, 1) := by decide +kernel
theorem d_X9_isWord_48 : decode (px_cc M_X9_isWord) 48 = .ok (.ireturn, 1) := by decide +kernel
theorem d_X9_isWord_49 : decode (px_cc M_X9_isWord) 49 = .ok (.iinc 2 1, 3) := by decide +kernel
theorem d_X9_isWord_52 : decode (px_cc M_X9_isWord) 52 = .ok (.goto (-32), 3) := by decide +kernel
theorem d_X9_isWord_55 : decode (px_cc M_X9_isWord) 55 = .ok (.iconst 1, 1) := by decide +kernel
theorem d_X9_isWord_56 : decode (px_cc M_X9_isWord) 56 = .ok (.ireturn, 1) := by decide +kernel
theorem d_X9_numberToken_0 : decode (px_cc M_X9_numberToken) 0 = .ok (.iconst 0, 1) := by decide +kernel
theorem d_X9_numberToken_1 : decode (px_cc M_X9_numberToken) 1 = .ok (.istore_n 1, 1) := by decide +kernel
theorem d_X9_numberToken_2 : decode (px_cc M_X9_numberToken) 2 = .ok (.aload_n 0, 1) := by decide +kernel
theorem d_X9_numberToken_3 : decode (px_cc M_X9_numberToken) 3 = .ok (.getfield 19, 3) := by decide +kernel
theorem d_X9_numberToken_6 : decode (px_cc M_X9_numberToken) 6 = .ok (.aload_n 0, 1) := by decide +kernel
theorem d_X9_numberToken_7 : decode (px_cc M_X9_numberToken) 7 = .ok (.getfield 15, 3) := by decide +kernel
theorem d_X9_numberToken_10 : decode (px_cc M_X9_numberToken) 10 = .ok (.if_icmp .ge 62, 3) := by decide +kernel
theorem d_X9_numberToken_13 : decode (px_cc M_X9_numberToken) 13 = .ok (.aload_n 0, 1) := by decide +kernel
theorem d_X9_numberToken_14 : decode (px_cc M_X9_numberToken) 14 = .ok (.getfield 9, 3) := by decide +kernel
theorem d_X9_numberToken_17 : decode (px_cc M_X9_numberToken) 17 = .ok (.aload_n 0, 1) := by decide +kernel
theorem d_X9_numberToken_18 : decode (px_cc M_X9_numberToken) 18 = .ok (.getfield 19, 3) := by decide +kernel
theorem d_X9_numberToken_21 : decode (px_cc M_X9_numberToken) 21 = .ok (.caload, 1) := by decide +kernel
theorem d_X9_numberToken_22 : decode (px_cc M_X9_numberToken) 22 = .ok (.invokestatic 33, 3) := by decide +kernel
theorem d_X9_numberToken_25 : decode (px_cc M_X9_numberToken) 25 = .ok (.ifCond .eq 47, 3) := by decide +kernel
theorem d_X9_numberToken_28 : decode (px_cc M_X9_numberToken) 28 = .ok (.aload_n 0, 1) := by decide +kernel
theorem d_X9_numberToken_29 : decode (px_cc M_X9_numberToken) 29 = .ok (.getfield 19, 3) := by decide +kernel
theorem d_X9_numberToken_32 : decode (px_cc M_X9_numberToken) 32 = .ok (.aload_n 0, 1) := by decide +kernel
theorem d_X9_numberToken_33 : decode (px_cc M_X9_numberToken) 33 = .ok (.getfield 22, 3) := by decide +kernel
theorem d_X9_numberToken_36 : decode (px_cc M_X9_numberToken) 36 = .ok (.isub, 1) := by decide +kernel
theorem d_X9_numberToken_37 : decode (px_cc M_X9_numberToken) 37 = .ok (.iconst 5, 1) := by decide +kernel
theorem d_X9_numberToken_38 : decode (px_cc M_X9_numberToken) 38 = .ok (.if_icmp .ge 21, 3) := by decide +kernel
theorem d_X9_numberToken_41 : decode (px_cc M_X9_numberToken) 41 = .ok (.iload_n 1, 1) := by decide +kernel
theorem d_X9_numberToken_42 : decode (px_cc M_X9_numberToken) 42 = .ok (.bipush 10, 2) := by decide +kernel
theorem d_X9_numberToken_44 : decode (px_cc M_X9_numberToken) 44 = .ok (.imul, 1) := by decide +kernel
theorem d_X9_numberToken_45 : decode (px_cc M_X9_numberToken) 45 = .ok (.aload_n 0, 1) := by decide +kernel
theorem d_X9_numberToken_46 : decode (px_cc M_X9_numberToken) 46 = .ok (.getfield 9, 3) := by decide +kernel
theorem d_X9_numberToken_49 : decode (px_cc M_X9_numberToken) 49 = .ok (.aload_n 0, 1) := by decide +kernel
theorem d_X9_numberToken_50 : decode (px_cc M_X9_numberToken) 50 = .ok (.getfield 19, 3) := by decide +kernel
theorem d_X9_numberToken_53 : decode (px_cc M_X9_numberToken) 53 = .ok (.caload, 1) := by decide +kernel
theorem d_X9_numberToken_54 : decode (px_cc M_X9_numberToken) 54 = .ok (.bipush 48, 2) := by decide +kernel
theorem d_X9_numberToken_56 : decode (px_cc M_X9_numberToken) 56 = .ok (.isub, 1) := by decide +kernel
theorem d_X9_numberToken_57 : decode (px_cc M_X9_numberToken) 57 = .ok (.iadd, 1) := by decide +kernel
theorem d_X9_numberToken_58 : decode (px_cc M_X9_numberToken) 58 = .ok (.istore_n 1, 1) := by decide +kernel
theorem d_X9_numberToken_59 : decode (px_cc M_X9_numberToken) 59 = .ok (.aload_n 0, 1) := by decide +kernel
theorem d_X9_numberToken_60 : decode (px_cc M_X9_numberToken) 60 = .ok (.dup, 1) := by decide +kernel
theorem d_X9_numberToken_61 : decode (px_cc M_X9_numberToken) 61 = .ok (.getfield 19, 3) := by decide +kernel
theorem d_X9_numberToken_64 : decode (px_cc M_X9_numberToken) 64 = .ok (.iconst 1, 1) := by decide +kernel
theorem d_X9_numberToken_65 : decode (px_cc M_X9_numberToken) 65 = .ok (.iadd, 1) := by decide +kernel
theorem d_X9_numberToken_66 : decode (px_cc M_X9_numberToken) 66 = .ok (.putfield 19, 3) := by decide +kernel
theorem d_X9_numberToken_69 : decode (px_cc M_X9_numberToken) 69 = .ok (.goto (-67), 3) := by decide +kernel
theorem d_X9_numberToken_72 : decode (px_cc M_X9_numberToken) 72 = .ok (.aload_n 0, 1) := by decide +kernel
theorem d_X9_numberToken_73 : decode (px_cc M_X9_numberToken) 73 = .ok (.getfield 19, 3) := by decide +kernel
theorem d_X9_numberToken_76 : decode (px_cc M_X9_numberToken) 76 = .ok (.aload_n 0, 1) := by decide +kernel
theorem d_X9_numberToken_77 : decode (px_cc M_X9_numberToken) 77 = .ok (.getfield 22, 3) := by decide +kernel
theorem d_X9_numberToken_80 : decode (px_cc M_X9_numberToken) 80 = .ok (.isub, 1) := by decide +kernel
theorem d_X9_numberToken_81 : decode (px_cc M_X9_numberToken) 81 = .ok (.iconst 5, 1) := by decide +kernel
theorem d_X9_numberToken_82 : decode (px_cc M_X9_numberToken) 82 = .ok (.if_icmp .le 8, 3) := by decide +kernel
theorem d_X9_numberToken_85 : decode (px_cc M_X9_numberToken) 85 = .ok (.bipush (-2), 2) := by decide +kernel
theorem d_X9_numberToken_87 : decode (px_cc M_X9_numberToken) 87 = .ok (.goto 4, 3) := by decide +kernel
theorem d_X9_numberToken_90 : decode (px_cc M_X9_numberToken) 90 = .ok (.iload_n 1, 1) := by decide +kernel
theorem d_X9_numberToken_91 : decode (px_cc M_X9_numberToken) 91 = .ok (.ireturn, 1) := by decide +kernel
theorem d_X9_signToken_0 : decode (px_cc M_X9_signToken) 0 = .ok (.iload_n 0, 1) := by decide +kernel
theorem d_X9_signToken_1 : decode (px_cc M_X9_signToken) 1 = .ok (.tableswitch 124 40 61 #[103, 106, 124, 115, 124, 118, 124, 124, 124, 124, 124, 124, 124, 124, 124, 124, 124, 124, 124, 121, 109, 112], 103) := by decide +kernel
theorem d_X9_signToken_104 : decode (px_cc M_X9_signToken) 104 = .ok (.bipush (-12), 2) := by decide +kernel
theorem d_X9_signToken_106 : decode (px_cc M_X9_signToken) 106 = .ok (.ireturn, 1) := by decide +kernel
theorem d_X9_signToken_107 : decode (px_cc M_X9_signToken) 107 = .ok (.bipush (-13), 2) := by decide +kernel
theorem d_X9_signToken_109 : decode (px_cc M_X9_signToken) 109 = .ok (.ireturn, 1) := by decide +kernel
theorem d_X9_signToken_110 : decode (px_cc M_X9_signToken) 110 = .ok (.bipush (-14), 2) := by decide +kernel
theorem d_X9_signToken_112 : decode (px_cc M_X9_signToken) 112 = .ok (.ireturn, 1) := by decide +kernel
theorem d_X9_signToken_113 : decode (px_cc M_X9_signToken) 113 = .ok (.bipush (-15), 2) := by decide +kernel
theorem d_X9_signToken_115 : decode (px_cc M_X9_signToken) 115 = .ok (.ireturn, 1) := by decide +kernel
theorem d_X9_signToken_116 : decode (px_cc M_X9_signToken) 116 = .ok (.bipush (-16), 2) := by decide +kernel
theorem d_X9_signToken_118 : decode (px_cc M_X9_signToken) 118 = .ok (.ireturn, 1) := by decide +kernel
theorem d_X9_signToken_119 : decode (px_cc M_X9_signToken) 119 = .ok (.bipush (-17), 2) := by decide +kernel
theorem d_X9_signToken_121 : decode (px_cc M_X9_signToken) 121 = .ok (.ireturn, 1) := by decide +kernel
theorem d_X9_signToken_122 : decode (px_cc M_X9_signToken) 122 = .ok (.bipush (-18), 2) := by decide +kernel
theorem d_X9_signToken_124 : decode (px_cc M_X9_signToken) 124 = .ok (.ireturn, 1) := by decide +kernel
theorem d_X9_signToken_125 : decode (px_cc M_X9_signToken) 125 = .ok (.bipush (-2), 2) := by decide +kernel
theorem d_X9_signToken_127 : decode (px_cc M_X9_signToken) 127 = .ok (.ireturn, 1) := by decide +kernel
theorem d_X9_isLetter_0 : decode (px_cc M_X9_isLetter) 0 = .ok (.iload_n 0, 1) := by decide +kernel
theorem d_X9_isLetter_1 : decode (px_cc M_X9_isLetter) 1 = .ok (.bipush 97, 2) := by decide +kernel
theorem d_X9_isLetter_3 : decode (px_cc M_X9_isLetter) 3 = .ok (.if_icmp .lt 13, 3) := by decide +kernel
theorem d_X9_isLetter_6 : decode (px_cc M_X9_isLetter) 6 = .ok (.iload_n 0, 1) := by decide +kernel
theorem d_X9_isLetter_7 : decode (px_cc M_X9_isLetter) 7 = .ok (.bipush 122, 2) := by decide +kernel
theorem d_X9_isLetter_9 : decode (px_cc M_X9_isLetter) 9 = .ok (.if_icmp .gt 7, 3) := by decide +kernel
theorem d_X9_isLetter_12 : decode (px_cc M_X9_isLetter) 12 = .ok (.iconst 1, 1) := by decide +kernel
theorem d_X9_isLetter_13 : decode (px_cc M_X9_isLetter) 13 = .ok (.goto 4, 3) := by decide +kernel
theorem d_X9_isLetter_16 : decode (px_cc M_X9_isLetter) 16 = .ok (.iconst 0, 1) := by decide +kernel
theorem d_X9_isLetter_17 : decode (px_cc M_X9_isLetter) 17 = .ok (.ireturn, 1) := by decide +kernel
theorem d_X9_isDigit_0 : decode (px_cc M_X9_isDigit) 0 = .ok (.iload_n 0, 1) := by decide +kernel
theorem d_X9_isDigit_1 : decode (px_cc M_X9_isDigit) 1 = .ok (.bipush 48, 2) := by decide +kernel
theorem d_X9_isDigit_3 : decode (px_cc M_X9_isDigit) 3 = .ok (.if_icmp .lt 13, 3) := by decide +kernel
theorem d_X9_isDigit_6 : decode (px_cc M_X9_isDigit) 6 = .ok (.iload_n 0, 1) := by decide +kernel
theorem d_X9_isDigit_7 : decode (px_cc M_X9_isDigit) 7 = .ok (.bipush 57, 2) := by decide +kernel
theorem d_X9_isDigit_9 : decode (px_cc M_X9_isDigit) 9 = .ok (.if_icmp .gt 7, 3) := by decide +kernel
theorem d_X9_isDigit_12 : decode (px_cc M_X9_isDigit) 12 = .ok (.iconst 1, 1) := by decide +kernel
theorem d_X9_isDigit_13 : decode (px_cc M_X9_isDigit) 13 = .ok (.goto 4, 3) := by decide +kernel
theorem d_X9_isDigit_16 : decode (px_cc M_X9_isDigit) 16 = .ok (.iconst 0, 1) := by decide +kernel
theorem d_X9_isDigit_17 : decode (px_cc M_X9_isDigit) 17 = .ok (.ireturn, 1) := by decide +kernel
theorem d_X10_init_0 : decode (px_cc M_X10_init) 0 = .ok (.aload_n 0, 1) := by decide +kernel
theorem d_X10_init_1 : decode (px_cc M_X10_init) 1 = .ok (.invokespecial 3, 3) := by decide +kernel
theorem d_X10_init_4 : decode (px_cc M_X10_init) 4 = .ok (.aload_n 0, 1) := by decide +kernel
theorem d_X10_init_5 : decode (px_cc M_X10_init) 5 = .ok (.bipush 8, 2) := by decide +kernel
theorem d_X10_init_7 : decode (px_cc M_X10_init) 7 = .ok (.anewarray 9, 3) := by decide +kernel
theorem d_X10_init_10 : decode (px_cc M_X10_init) 10 = .ok (.putfield 11, 3) := by decide +kernel
theorem d_X10_init_13 : decode (px_cc M_X10_init) 13 = .ok (.return_, 1) := by decide +kernel
theorem d_X10_mayFollow_0 : decode (px_cc M_X10_mayFollow) 0 = .ok (.aload_n 0, 1) := by decide +kernel
theorem d_X10_mayFollow_1 : decode (px_cc M_X10_mayFollow) 1 = .ok (.getfield 17, 3) := by decide +kernel
theorem d_X10_mayFollow_4 : decode (px_cc M_X10_mayFollow) 4 = .ok (.bipush 8, 2) := by decide +kernel
theorem d_X10_mayFollow_6 : decode (px_cc M_X10_mayFollow) 6 = .ok (.if_icmp .lt 5, 3) := by decide +kernel
theorem d_X10_mayFollow_9 : decode (px_cc M_X10_mayFollow) 9 = .ok (.iconst 0, 1) := by decide +kernel
theorem d_X10_mayFollow_10 : decode (px_cc M_X10_mayFollow) 10 = .ok (.ireturn, 1) := by decide +kernel
theorem d_X10_mayFollow_11 : decode (px_cc M_X10_mayFollow) 11 = .ok (.aload_n 0, 1) := by decide +kernel
theorem d_X10_mayFollow_12 : decode (px_cc M_X10_mayFollow) 12 = .ok (.getfield 17, 3) := by decide +kernel
theorem d_X10_mayFollow_15 : decode (px_cc M_X10_mayFollow) 15 = .ok (.ifCond .ne 7, 3) := by decide +kernel
theorem d_X10_mayFollow_18 : decode (px_cc M_X10_mayFollow) 18 = .ok (.aconst_null, 1) := by decide +kernel
theorem d_X10_mayFollow_19 : decode (px_cc M_X10_mayFollow) 19 = .ok (.goto 14, 3) := by decide +kernel
theorem d_X10_mayFollow_22 : decode (px_cc M_X10_mayFollow) 22 = .ok (.aload_n 0, 1) := by decide +kernel
theorem d_X10_mayFollow_23 : decode (px_cc M_X10_mayFollow) 23 = .ok (.getfield 11, 3) := by decide +kernel
theorem d_X10_mayFollow_26 : decode (px_cc M_X10_mayFollow) 26 = .ok (.aload_n 0, 1) := by decide +kernel
theorem d_X10_mayFollow_27 : decode (px_cc M_X10_mayFollow) 27 = .ok (.getfield 17, 3) := by decide +kernel
theorem d_X10_mayFollow_30 : decode (px_cc M_X10_mayFollow) 30 = .ok (.iconst 1, 1) := by decide +kernel
theorem d_X10_mayFollow_31 : decode (px_cc M_X10_mayFollow) 31 = .ok (.isub, 1) := by decide +kernel
theorem d_X10_mayFollow_32 : decode (px_cc M_X10_mayFollow) 32 = .ok (.aaload, 1) := by decide +kernel
theorem d_X10_mayFollow_33 : decode (px_cc M_X10_mayFollow) 33 = .ok (.astore_n 2, 1) := by decide +kernel
theorem d_X10_mayFollow_34 : decode (px_cc M_X10_mayFollow) 34 = .ok (.aload_n 2, 1) := by decide +kernel
theorem d_X10_mayFollow_35 : decode (px_cc M_X10_mayFollow) 35 = .ok (.ifnull 11, 3) := by decide +kernel
theorem d_X10_mayFollow_38 : decode (px_cc M_X10_mayFollow) 38 = .ok (.iload_n 1, 1) := by decide +kernel
theorem d_X10_mayFollow_39 : decode (px_cc M_X10_mayFollow) 39 = .ok (.aload_n 2, 1) := by decide +kernel
theorem d_X10_mayFollow_40 : decode (px_cc M_X10_mayFollow) 40 = .ok (.getfield 21, 3) := by decide +kernel
theorem d_X10_mayFollow_43 : decode (px_cc M_X10_mayFollow) 43 = .ok (.if_icmp .le 7, 3) := by decide +kernel
theorem d_X10_mayFollow_46 : decode (px_cc M_X10_mayFollow) 46 = .ok (.iconst 1, 1) := by decide +kernel
theorem d_X10_mayFollow_47 : decode (px_cc M_X10_mayFollow) 47 = .ok (.goto 4, 3) := by decide +kernel
theorem d_X10_mayFollow_50 : decode (px_cc M_X10_mayFollow) 50 = .ok (.iconst 0, 1) := by decide +kernel
theorem d_X10_mayFollow_51 : decode (px_cc M_X10_mayFollow) 51 = .ok (.ireturn, 1) := by decide +kernel
theorem d_X10_keep_0 : decode (px_cc M_X10_keep) 0 = .ok (.aload_n 0, 1) := by decide +kernel
theorem d_X10_keep_1 : decode (px_cc M_X10_keep) 1 = .ok (.getfield 17, 3) := by decide +kernel
theorem d_X10_keep_4 : decode (px_cc M_X10_keep) 4 = .ok (.bipush 8, 2) := by decide +kernel
theorem d_X10_keep_6 : decode (px_cc M_X10_keep) 6 = .ok (.if_icmp .ge 23, 3) := by decide +kernel
theorem d_X10_keep_9 : decode (px_cc M_X10_keep) 9 = .ok (.aload_n 0, 1) := by decide +kernel
theorem d_X10_keep_10 : decode (px_cc M_X10_keep) 10 = .ok (.getfield 11, 3) := by decide +kernel
theorem d_X10_keep_13 : decode (px_cc M_X10_keep) 13 = .ok (.aload_n 0, 1) := by decide +kernel
theorem d_X10_keep_14 : decode (px_cc M_X10_keep) 14 = .ok (.getfield 17, 3) := by decide +kernel
theorem d_X10_keep_17 : decode (px_cc M_X10_keep) 17 = .ok (.aload_n 1, 1) := by decide +kernel
theorem d_X10_keep_18 : decode (px_cc M_X10_keep) 18 = .ok (.aastore, 1) := by decide +kernel
theorem d_X10_keep_19 : decode (px_cc M_X10_keep) 19 = .ok (.aload_n 0, 1) := by decide +kernel
theorem d_X10_keep_20 : decode (px_cc M_X10_keep) 20 = .ok (.dup, 1) := by decide +kernel
theorem d_X10_keep_21 : decode (px_cc M_X10_keep) 21 = .ok (.getfield 17, 3) := by decide +kernel
theorem d_X10_keep_24 : decode (px_cc M_X10_keep) 24 = .ok (.iconst 1, 1) := by decide +kernel
theorem d_X10_keep_25 : decode (px_cc M_X10_keep) 25 = .ok (.iadd, 1) := by decide +kernel
theorem d_X10_keep_26 : decode (px_cc M_X10_keep) 26 = .ok (.putfield 17, 3) := by decide +kernel
theorem d_X10_keep_29 : decode (px_cc M_X10_keep) 29 = .ok (.return_, 1) := by decide +kernel
theorem d_X10_inForce_0 : decode (px_cc M_X10_inForce) 0 = .ok (.aload_n 0, 1) := by decide +kernel
theorem d_X10_inForce_1 : decode (px_cc M_X10_inForce) 1 = .ok (.getfield 17, 3) := by decide +kernel
theorem d_X10_inForce_4 : decode (px_cc M_X10_inForce) 4 = .ok (.iconst 1, 1) := by decide +kernel
theorem d_X10_inForce_5 : decode (px_cc M_X10_inForce) 5 = .ok (.isub, 1) := by decide +kernel
theorem d_X10_inForce_6 : decode (px_cc M_X10_inForce) 6 = .ok (.istore_n 3, 1) := by decide +kernel
theorem d_X10_inForce_7 : decode (px_cc M_X10_inForce) 7 = .ok (.iload_n 3, 1) := by decide +kernel
theorem d_X10_inForce_8 : decode (px_cc M_X10_inForce) 8 = .ok (.ifCond .lt 43, 3) := by decide +kernel
theorem d_X10_inForce_11 : decode (px_cc M_X10_inForce) 11 = .ok (.aload_n 0, 1) := by decide +kernel
theorem d_X10_inForce_12 : decode (px_cc M_X10_inForce) 12 = .ok (.getfield 11, 3) := by decide +kernel
theorem d_X10_inForce_15 : decode (px_cc M_X10_inForce) 15 = .ok (.iload_n 3, 1) := by decide +kernel
theorem d_X10_inForce_16 : decode (px_cc M_X10_inForce) 16 = .ok (.aaload, 1) := by decide +kernel
theorem d_X10_inForce_17 : decode (px_cc M_X10_inForce) 17 = .ok (.astore 4, 2) := by decide +kernel
theorem d_X10_inForce_19 : decode (px_cc M_X10_inForce) 19 = .ok (.aload 4, 2) := by decide +kernel
theorem d_X10_inForce_21 : decode (px_cc M_X10_inForce) 21 = .ok (.ifnull 24, 3) := by decide +kernel
theorem d_X10_inForce_24 : decode (px_cc M_X10_inForce) 24 = .ok (.aload 4, 2) := by decide +kernel
theorem d_X10_inForce_26 : decode (px_cc M_X10_inForce) 26 = .ok (.getfield 21, 3) := by decide +kernel
theorem d_X10_inForce_29 : decode (px_cc M_X10_inForce) 29 = .ok (.iload_n 1, 1) := by decide +kernel
theorem d_X10_inForce_30 : decode (px_cc M_X10_inForce) 30 = .ok (.if_icmp .gt 15, 3) := by decide +kernel
theorem d_X10_inForce_33 : decode (px_cc M_X10_inForce) 33 = .ok (.aload 4, 2) := by decide +kernel
theorem d_X10_inForce_35 : decode (px_cc M_X10_inForce) 35 = .ok (.getfield 24, 3) := by decide +kernel
theorem d_X10_inForce_38 : decode (px_cc M_X10_inForce) 38 = .ok (.iload_n 2, 1) := by decide +kernel
theorem d_X10_inForce_39 : decode (px_cc M_X10_inForce) 39 = .ok (.if_icmp .gt 6, 3) := by decide +kernel
theorem d_X10_inForce_42 : decode (px_cc M_X10_inForce) 42 = .ok (.aload 4, 2) := by decide +kernel
theorem d_X10_inForce_44 : decode (px_cc M_X10_inForce) 44 = .ok (.areturn, 1) := by decide +kernel
theorem d_X10_inForce_45 : decode (px_cc M_X10_inForce) 45 = .ok (.iinc 3 (-1), 3) := by decide +kernel
theorem d_X10_inForce_48 : decode (px_cc M_X10_inForce) 48 = .ok (.goto (-41), 3) := by decide +kernel
theorem d_X10_inForce_51 : decode (px_cc M_X10_inForce) 51 = .ok (.aconst_null, 1) := by decide +kernel
theorem d_X10_inForce_52 : decode (px_cc M_X10_inForce) 52 = .ok (.areturn, 1) := by decide +kernel
theorem d_X11_init_0 : decode (px_cc M_X11_init) 0 = .ok (.aload_n 0, 1) := by decide +kernel
theorem d_X11_init_1 : decode (px_cc M_X11_init) 1 = .ok (.invokespecial 3, 3) := by decide +kernel
theorem d_X11_init_4 : decode (px_cc M_X11_init) 4 = .ok (.aload_n 0, 1) := by decide +kernel
theorem d_X11_init_5 : decode (px_cc M_X11_init) 5 = .ok (.bipush 20, 2) := by decide +kernel
theorem d_X11_init_7 : decode (px_cc M_X11_init) 7 = .ok (.anewarray 9, 3) := by decide +kernel
theorem d_X11_init_10 : decode (px_cc M_X11_init) 10 = .ok (.putfield 11, 3) := by decide +kernel
theorem d_X11_init_13 : decode (px_cc M_X11_init) 13 = .ok (.aload_n 0, 1) := by decide +kernel
theorem d_X11_init_14 : decode (px_cc M_X11_init) 14 = .ok (.new 15, 3) := by decide +kernel
theorem d_X11_init_17 : decode (px_cc M_X11_init) 17 = .ok (.dup, 1) := by decide +kernel
theorem d_X11_init_18 : decode (px_cc M_X11_init) 18 = .ok (.invokespecial 17, 3) := by decide +kernel
theorem d_X11_init_21 : decode (px_cc M_X11_init) 21 = .ok (.putfield 18, 3) := by decide +kernel
theorem d_X11_init_24 : decode (px_cc M_X11_init) 24 = .ok (.aload_n 0, 1) := by decide +kernel
theorem d_X11_init_25 : decode (px_cc M_X11_init) 25 = .ok (.new 22, 3) := by decide +kernel
theorem d_X11_init_28 : decode (px_cc M_X11_init) 28 = .ok (.dup, 1) := by decide +kernel
theorem d_X11_init_29 : decode (px_cc M_X11_init) 29 = .ok (.invokespecial 24, 3) := by decide +kernel
theorem d_X11_init_32 : decode (px_cc M_X11_init) 32 = .ok (.putfield 25, 3) := by decide +kernel
theorem d_X11_init_35 : decode (px_cc M_X11_init) 35 = .ok (.aload_n 0, 1) := by decide +kernel
theorem d_X11_init_36 : decode (px_cc M_X11_init) 36 = .ok (.new 29, 3) := by decide +kernel
theorem d_X11_init_39 : decode (px_cc M_X11_init) 39 = .ok (.dup, 1) := by decide +kernel
theorem d_X11_init_40 : decode (px_cc M_X11_init) 40 = .ok (.invokespecial 31, 3) := by decide +kernel
theorem d_X11_init_43 : decode (px_cc M_X11_init) 43 = .ok (.putfield 32, 3) := by decide +kernel
theorem d_X11_init_46 : decode (px_cc M_X11_init) 46 = .ok (.aload_n 0, 1) := by decide +kernel
theorem d_X11_init_47 : decode (px_cc M_X11_init) 47 = .ok (.new 36, 3) := by decide +kernel
theorem d_X11_init_50 : decode (px_cc M_X11_init) 50 = .ok (.dup, 1) := by decide +kernel
theorem d_X11_init_51 : decode (px_cc M_X11_init) 51 = .ok (.invokespecial 38, 3) := by decide +kernel
theorem d_X11_init_54 : decode (px_cc M_X11_init) 54 = .ok (.putfield 39, 3) := by decide +kernel
theorem d_X11_init_57 : decode (px_cc M_X11_init) 57 = .ok (.aload_n 0, 1) := by decide +kernel
theorem d_X11_init_58 : decode (px_cc M_X11_init) 58 = .ok (.new 43, 3) := by decide +kernel
theorem d_X11_init_61 : decode (px_cc M_X11_init) 61 = .ok (.dup, 1) := by decide +kernel
theorem d_X11_init_62 : decode (px_cc M_X11_init) 62 = .ok (.invokespecial 45, 3) := by decide +kernel
theorem d_X11_init_65 : decode (px_cc M_X11_init) 65 = .ok (.putfield 46, 3) := by decide +kernel
theorem d_X11_init_68 : decode (px_cc M_X11_init) 68 = .ok (.aload_n 0, 1) := by decide +kernel
theorem d_X11_init_69 : decode (px_cc M_X11_init) 69 = .ok (.new 50, 3) := by decide +kernel
theorem d_X11_init_72 : decode (px_cc M_X11_init) 72 = .ok (.dup, 1) := by decide +kernel
theorem d_X11_init_73 : decode (px_cc M_X11_init) 73 = .ok (.aload_n 0, 1) := by decide +kernel
theorem d_X11_init_74 : decode (px_cc M_X11_init) 74 = .ok (.getfield 18, 3) := by decide +kernel
theorem d_X11_init_77 : decode (px_cc M_X11_init) 77 = .ok (.aload_n 0, 1) := by decide +kernel
theorem d_X11_init_78 : decode (px_cc M_X11_init) 78 = .ok (.getfield 39, 3) := by decide +kernel
theorem d_X11_init_81 : decode (px_cc M_X11_init) 81 = .ok (.aload_n 0, 1) := by decide +kernel
theorem d_X11_init_82 : decode (px_cc M_X11_init) 82 = .ok (.getfield 46, 3) := by decide +kernel
theorem d_X11_init_85 : decode (px_cc M_X11_init) 85 = .ok (.invokespecial 52, 3) := by decide +kernel
theorem d_X11_init_88 : decode (px_cc M_X11_init) 88 = .ok (.putfield 55, 3) := by decide +kernel
theorem d_X11_init_91 : decode (px_cc M_X11_init) 91 = .ok (.aload_n 0, 1) := by decide +kernel
theorem d_X11_init_92 : decode (px_cc M_X11_init) 92 = .ok (.new 59, 3) := by decide +kernel
theorem d_X11_init_95 : decode (px_cc M_X11_init) 95 = .ok (.dup, 1) := by decide +kernel
theorem d_X11_init_96 : decode (px_cc M_X11_init) 96 = .ok (.invokespecial 61, 3) := by decide +kernel
theorem d_X11_init_99 : decode (px_cc M_X11_init) 99 = .ok (.putfield 62, 3) := by decide +kernel
theorem d_X11_init_102 : decode (px_cc M_X11_init) 102 = .ok (.aload_n 0, 1) := by decide +kernel
theorem d_X11_init_103 : decode (px_cc M_X11_init) 103 = .ok (.new 66, 3) := by decide +kernel
theorem d_X11_init_106 : decode (px_cc M_X11_init) 106 = .ok (.dup, 1) := by decide +kernel
theorem d_X11_init_107 : decode (px_cc M_X11_init) 107 = .ok (.invokespecial 68, 3) := by decide +kernel
theorem d_X11_init_110 : decode (px_cc M_X11_init) 110 = .ok (.putfield 69, 3) := by decide +kernel
theorem d_X11_init_113 : decode (px_cc M_X11_init) 113 = .ok (.aload_n 0, 1) := by decide +kernel
theorem d_X11_init_114 : decode (px_cc M_X11_init) 114 = .ok (.new 73, 3) := by decide +kernel
theorem d_X11_init_117 : decode (px_cc M_X11_init) 117 = .ok (.dup, 1) := by decide +kernel
theorem d_X11_init_118 : decode (px_cc M_X11_init) 118 = .ok (.invokespecial 75, 3) := by decide +kernel
theorem d_X11_init_121 : decode (px_cc M_X11_init) 121 = .ok (.putfield 76, 3) := by decide +kernel
theorem d_X11_init_124 : decode (px_cc M_X11_init) 124 = .ok (.return_, 1) := by decide +kernel
theorem d_X11_account_0 : decode (px_cc M_X11_account) 0 = .ok (.iload_n 1, 1) := by decide +kernel
theorem d_X11_account_1 : decode (px_cc M_X11_account) 1 = .ok (.ifCond .lt 17, 3) := by decide +kernel
theorem d_X11_account_4 : decode (px_cc M_X11_account) 4 = .ok (.iload_n 1, 1) := by decide +kernel
theorem d_X11_account_5 : decode (px_cc M_X11_account) 5 = .ok (.iconst 3, 1) := by decide +kernel
theorem d_X11_account_6 : decode (px_cc M_X11_account) 6 = .ok (.if_icmp .gt 12, 3) := by decide +kernel
theorem d_X11_account_9 : decode (px_cc M_X11_account) 9 = .ok (.aload_n 0, 1) := by decide +kernel
theorem d_X11_account_10 : decode (px_cc M_X11_account) 10 = .ok (.getfield 80, 3) := by decide +kernel
theorem d_X11_account_13 : decode (px_cc M_X11_account) 13 = .ok (.bipush 20, 2) := by decide +kernel
theorem d_X11_account_15 : decode (px_cc M_X11_account) 15 = .ok (.if_icmp .lt 5, 3) := by decide +kernel
theorem d_X11_account_18 : decode (px_cc M_X11_account) 18 = .ok (.iconst (-1), 1) := by decide +kernel
theorem d_X11_account_19 : decode (px_cc M_X11_account) 19 = .ok (.ireturn, 1) := by decide +kernel
theorem d_X11_account_20 : decode (px_cc M_X11_account) 20 = .ok (.iload_n 1, 1) := by decide +kernel
theorem d_X11_account_21 : decode (px_cc M_X11_account) 21 = .ok (.iconst 1, 1) := by decide +kernel
theorem d_X11_account_22 : decode (px_cc M_X11_account) 22 = .ok (.if_icmp .eq 8, 3) := by decide +kernel
theorem d_X11_account_25 : decode (px_cc M_X11_account) 25 = .ok (.iload_n 1, 1) := by decide +kernel
theorem d_X11_account_26 : decode (px_cc M_X11_account) 26 = .ok (.iconst 3, 1) := by decide +kernel
theorem d_X11_account_27 : decode (px_cc M_X11_account) 27 = .ok (.if_icmp .ne 12, 3) := by decide +kernel
theorem d_X11_account_30 : decode (px_cc M_X11_account) 30 = .ok (.iload_n 2, 1) := by decide +kernel
theorem d_X11_account_31 : decode (px_cc M_X11_account) 31 = .ok (.invokestatic 84, 3) := by decide +kernel
theorem d_X11_account_34 : decode (px_cc M_X11_account) 34 = .ok (.ifCond .ne 5, 3) := by decide +kernel
theorem d_X11_account_37 : decode (px_cc M_X11_account) 37 = .ok (.iconst (-1), 1) := by decide +kernel
theorem d_X11_account_38 : decode (px_cc M_X11_account) 38 = .ok (.ireturn, 1) := by decide +kernel
theorem d_X11_account_39 : decode (px_cc M_X11_account) 39 = .ok (.aload_n 0, 1) := by decide +kernel
theorem d_X11_account_40 : decode (px_cc M_X11_account) 40 = .ok (.getfield 11, 3) := by decide +kernel
theorem d_X11_account_43 : decode (px_cc M_X11_account) 43 = .ok (.aload_n 0, 1) := by decide +kernel
theorem d_X11_account_44 : decode (px_cc M_X11_account) 44 = .ok (.getfield 80, 3) := by decide +kernel
theorem d_X11_account_47 : decode (px_cc M_X11_account) 47 = .ok (.new 9, 3) := by decide +kernel
theorem d_X11_account_50 : decode (px_cc M_X11_account) 50 = .ok (.dup, 1) := by decide +kernel
theorem d_X11_account_51 : decode (px_cc M_X11_account) 51 = .ok (.aload_n 0, 1) := by decide +kernel
theorem d_X11_account_52 : decode (px_cc M_X11_account) 52 = .ok (.getfield 80, 3) := by decide +kernel
theorem d_X11_account_55 : decode (px_cc M_X11_account) 55 = .ok (.iload_n 1, 1) := by decide +kernel
theorem d_X11_account_56 : decode (px_cc M_X11_account) 56 = .ok (.iload_n 2, 1) := by decide +kernel
theorem d_X11_account_57 : decode (px_cc M_X11_account) 57 = .ok (.aload_n 0, 1) := by decide +kernel
theorem d_X11_account_58 : decode (px_cc M_X11_account) 58 = .ok (.getfield 88, 3) := by decide +kernel
theorem d_X11_account_61 : decode (px_cc M_X11_account) 61 = .ok (.invokespecial 91, 3) := by decide +kernel
theorem d_X11_account_64 : decode (px_cc M_X11_account) 64 = .ok (.aastore, 1) := by decide +kernel
theorem d_X11_account_65 : decode (px_cc M_X11_account) 65 = .ok (.aload_n 0, 1) := by decide +kernel
theorem d_X11_account_66 : decode (px_cc M_X11_account) 66 = .ok (.dup, 1) := by decide +kernel
theorem d_X11_account_67 : decode (px_cc M_X11_account) 67 = .ok (.getfield 80, 3) := by decide +kernel
theorem d_X11_account_70 : decode (px_cc M_X11_account) 70 = .ok (.iconst 1, 1) := by decide +kernel
theorem d_X11_account_71 : decode (px_cc M_X11_account) 71 = .ok (.iadd, 1) := by decide +kernel
theorem d_X11_account_72 : decode (px_cc M_X11_account) 72 = .ok (.putfield 80, 3) := by decide +kernel
theorem d_X11_account_75 : decode (px_cc M_X11_account) 75 = .ok (.aload_n 0, 1) := by decide +kernel
theorem d_X11_account_76 : decode (px_cc M_X11_account) 76 = .ok (.getfield 80, 3) := by decide +kernel
theorem d_X11_account_79 : decode (px_cc M_X11_account) 79 = .ok (.iconst 1, 1) := by decide +kernel
theorem d_X11_account_80 : decode (px_cc M_X11_account) 80 = .ok (.isub, 1) := by decide +kernel
theorem d_X11_account_81 : decode (px_cc M_X11_account) 81 = .ok (.ireturn, 1) := by decide +kernel
theorem d_X11_days_0 : decode (px_cc M_X11_days) 0 = .ok (.iload_n 1, 1) := by decide +kernel
