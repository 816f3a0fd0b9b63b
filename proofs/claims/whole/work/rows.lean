section
-- ===== PART A: goes FIRST, ahead of the names: the tables' words, and 'selects' of the private methods out of them =====
/-- a private method of a class that the tables say can be made, by its rows of tables_1 -/
def lw_okq (q : MethodName × Nat) : Prop := (q.1.cls ≠ "java/lang/invoke/MethodHandle" ∧ q.1.cls ≠ "java/lang/invoke/VarHandle") ∧ Cond.instantiable q.1.cls q.2 ∈ tables_1 ∧ Cond.privateMethod q.1 ∈ tables_1 ∧ Cond.instanceMethod q.1 ∈ tables_1
theorem lw_p0 : lw_okq (⟨"PennyBank", "accountOf", "(I)LPennyBank$Account;"⟩, 12) := ⟨⟨by decide +kernel, by decide +kernel⟩, List.mem_of_getElem? (i := 27) (by decide +kernel), List.mem_of_getElem? (i := 356) (by decide +kernel), List.mem_of_getElem? (i := 357) (by decide +kernel)⟩
theorem lw_p1 : lw_okq (⟨"PennyBank", "isPassed", "(I)Z"⟩, 12) := ⟨⟨by decide +kernel, by decide +kernel⟩, List.mem_of_getElem? (i := 27) (by decide +kernel), List.mem_of_getElem? (i := 363) (by decide +kernel), List.mem_of_getElem? (i := 364) (by decide +kernel)⟩
theorem lw_p2 : lw_okq (⟨"PennyBank", "enter", "(IIII)I"⟩, 12) := ⟨⟨by decide +kernel, by decide +kernel⟩, List.mem_of_getElem? (i := 27) (by decide +kernel), List.mem_of_getElem? (i := 373) (by decide +kernel), List.mem_of_getElem? (i := 374) (by decide +kernel)⟩
theorem lw_p3 : lw_okq (⟨"PennyBank$Tape", "wordToken", "()I"⟩, 4) := ⟨⟨by decide +kernel, by decide +kernel⟩, List.mem_of_getElem? (i := 61) (by decide +kernel), List.mem_of_getElem? (i := 418) (by decide +kernel), List.mem_of_getElem? (i := 419) (by decide +kernel)⟩
theorem lw_p4 : lw_okq (⟨"PennyBank$Tape", "isWord", "(Ljava/lang/String;)Z"⟩, 4) := ⟨⟨by decide +kernel, by decide +kernel⟩, List.mem_of_getElem? (i := 61) (by decide +kernel), List.mem_of_getElem? (i := 423) (by decide +kernel), List.mem_of_getElem? (i := 424) (by decide +kernel)⟩
theorem lw_p5 : lw_okq (⟨"PennyBank$Tape", "numberToken", "()I"⟩, 4) := ⟨⟨by decide +kernel, by decide +kernel⟩, List.mem_of_getElem? (i := 61) (by decide +kernel), List.mem_of_getElem? (i := 486) (by decide +kernel), List.mem_of_getElem? (i := 487) (by decide +kernel)⟩
theorem lw_p6 : lw_okq (⟨"PennyBank$Grammar", "wrongness", "(I)I"⟩, 7) := ⟨⟨by decide +kernel, by decide +kernel⟩, List.mem_of_getElem? (i := 83) (by decide +kernel), List.mem_of_getElem? (i := 493) (by decide +kernel), List.mem_of_getElem? (i := 494) (by decide +kernel)⟩
theorem lw_p7 : lw_okq (⟨"PennyBank$Grammar", "mayStandBehindPart", "(I)Z"⟩, 7) := ⟨⟨by decide +kernel, by decide +kernel⟩, List.mem_of_getElem? (i := 83) (by decide +kernel), List.mem_of_getElem? (i := 500) (by decide +kernel), List.mem_of_getElem? (i := 501) (by decide +kernel)⟩
theorem lw_p8 : lw_okq (⟨"PennyBank$Grammar", "step", "(I)V"⟩, 7) := ⟨⟨by decide +kernel, by decide +kernel⟩, List.mem_of_getElem? (i := 83) (by decide +kernel), List.mem_of_getElem? (i := 504) (by decide +kernel), List.mem_of_getElem? (i := 505) (by decide +kernel)⟩
theorem lw_p9 : lw_okq (⟨"PennyBank$Grammar", "stepIntoPart", "(I)V"⟩, 7) := ⟨⟨by decide +kernel, by decide +kernel⟩, List.mem_of_getElem? (i := 83) (by decide +kernel), List.mem_of_getElem? (i := 508) (by decide +kernel), List.mem_of_getElem? (i := 509) (by decide +kernel)⟩
theorem lw_p10 : lw_okq (⟨"PennyBank$Grammar", "stepBehindPart", "(I)V"⟩, 7) := ⟨⟨by decide +kernel, by decide +kernel⟩, List.mem_of_getElem? (i := 83) (by decide +kernel), List.mem_of_getElem? (i := 512) (by decide +kernel), List.mem_of_getElem? (i := 513) (by decide +kernel)⟩
theorem lw_p11 : lw_okq (⟨"PennyBank", "whyNot", "(LPennyBank$Account;II)I"⟩, 12) := ⟨⟨by decide +kernel, by decide +kernel⟩, List.mem_of_getElem? (i := 27) (by decide +kernel), List.mem_of_getElem? (i := 569) (by decide +kernel), List.mem_of_getElem? (i := 570) (by decide +kernel)⟩
theorem lw_p12 : lw_okq (⟨"PennyBank$Reckoner", "reckon", "(LPennyBank$Account;II)V"⟩, 7) := ⟨⟨by decide +kernel, by decide +kernel⟩, List.mem_of_getElem? (i := 171) (by decide +kernel), List.mem_of_getElem? (i := 581) (by decide +kernel), List.mem_of_getElem? (i := 582) (by decide +kernel)⟩
theorem lw_p13 : lw_okq (⟨"PennyBank$Reckoner", "leastOf", "(I)I"⟩, 7) := ⟨⟨by decide +kernel, by decide +kernel⟩, List.mem_of_getElem? (i := 171) (by decide +kernel), List.mem_of_getElem? (i := 592) (by decide +kernel), List.mem_of_getElem? (i := 593) (by decide +kernel)⟩
theorem lw_p14 : lw_okq (⟨"PennyBank$Reckoner", "rateOf", "(LPennyBank$Account;III)I"⟩, 7) := ⟨⟨by decide +kernel, by decide +kernel⟩, List.mem_of_getElem? (i := 171) (by decide +kernel), List.mem_of_getElem? (i := 597) (by decide +kernel), List.mem_of_getElem? (i := 598) (by decide +kernel)⟩
theorem lw_p15 : lw_okq (⟨"PennyBank$Judge", "clearLevel", "()V"⟩, 12) := ⟨⟨by decide +kernel, by decide +kernel⟩, List.mem_of_getElem? (i := 128) (by decide +kernel), List.mem_of_getElem? (i := 613) (by decide +kernel), List.mem_of_getElem? (i := 614) (by decide +kernel)⟩
def lw_privs_1 : List (MethodName × Nat) := [(⟨"PennyBank", "accountOf", "(I)LPennyBank$Account;"⟩, 12), (⟨"PennyBank", "isPassed", "(I)Z"⟩, 12), (⟨"PennyBank", "enter", "(IIII)I"⟩, 12), (⟨"PennyBank$Tape", "wordToken", "()I"⟩, 4), (⟨"PennyBank$Tape", "isWord", "(Ljava/lang/String;)Z"⟩, 4), (⟨"PennyBank$Tape", "numberToken", "()I"⟩, 4), (⟨"PennyBank$Grammar", "wrongness", "(I)I"⟩, 7), (⟨"PennyBank$Grammar", "mayStandBehindPart", "(I)Z"⟩, 7), (⟨"PennyBank$Grammar", "step", "(I)V"⟩, 7), (⟨"PennyBank$Grammar", "stepIntoPart", "(I)V"⟩, 7), (⟨"PennyBank$Grammar", "stepBehindPart", "(I)V"⟩, 7), (⟨"PennyBank", "whyNot", "(LPennyBank$Account;II)I"⟩, 12), (⟨"PennyBank$Reckoner", "reckon", "(LPennyBank$Account;II)V"⟩, 7), (⟨"PennyBank$Reckoner", "leastOf", "(I)I"⟩, 7), (⟨"PennyBank$Reckoner", "rateOf", "(LPennyBank$Account;III)I"⟩, 7), (⟨"PennyBank$Judge", "clearLevel", "()V"⟩, 12)]
theorem lw_r1 : ∀ q ∈ lw_privs_1, lw_okq q := List.forall_mem_cons.mpr ⟨lw_p0, List.forall_mem_cons.mpr ⟨lw_p1, List.forall_mem_cons.mpr ⟨lw_p2, List.forall_mem_cons.mpr ⟨lw_p3, List.forall_mem_cons.mpr ⟨lw_p4, List.forall_mem_cons.mpr ⟨lw_p5, List.forall_mem_cons.mpr ⟨lw_p6, List.forall_mem_cons.mpr ⟨lw_p7, List.forall_mem_cons.mpr ⟨lw_p8, List.forall_mem_cons.mpr ⟨lw_p9, List.forall_mem_cons.mpr ⟨lw_p10, List.forall_mem_cons.mpr ⟨lw_p11, List.forall_mem_cons.mpr ⟨lw_p12, List.forall_mem_cons.mpr ⟨lw_p13, List.forall_mem_cons.mpr ⟨lw_p14, List.forall_mem_cons.mpr ⟨lw_p15, fun _ h => absurd h List.not_mem_nil⟩⟩⟩⟩⟩⟩⟩⟩⟩⟩⟩⟩⟩⟩⟩⟩
theorem lw_p16 : lw_okq (⟨"PennyBank$Judge", "endTest", "()I"⟩, 12) := ⟨⟨by decide +kernel, by decide +kernel⟩, List.mem_of_getElem? (i := 128) (by decide +kernel), List.mem_of_getElem? (i := 617) (by decide +kernel), List.mem_of_getElem? (i := 618) (by decide +kernel)⟩
theorem lw_p17 : lw_okq (⟨"PennyBank$Judge", "take", "(I)V"⟩, 12) := ⟨⟨by decide +kernel, by decide +kernel⟩, List.mem_of_getElem? (i := 128) (by decide +kernel), List.mem_of_getElem? (i := 621) (by decide +kernel), List.mem_of_getElem? (i := 622) (by decide +kernel)⟩
theorem lw_p18 : lw_okq (⟨"PennyBank$Judge", "compareWith", "(I)V"⟩, 12) := ⟨⟨by decide +kernel, by decide +kernel⟩, List.mem_of_getElem? (i := 128) (by decide +kernel), List.mem_of_getElem? (i := 625) (by decide +kernel), List.mem_of_getElem? (i := 626) (by decide +kernel)⟩
theorem lw_p19 : lw_okq (⟨"PennyBank$Judge", "factOf", "(I)I"⟩, 12) := ⟨⟨by decide +kernel, by decide +kernel⟩, List.mem_of_getElem? (i := 128) (by decide +kernel), List.mem_of_getElem? (i := 629) (by decide +kernel), List.mem_of_getElem? (i := 630) (by decide +kernel)⟩
theorem lw_p20 : lw_okq (⟨"PennyBank", "limitFor", "(LPennyBank$Account;I)I"⟩, 12) := ⟨⟨by decide +kernel, by decide +kernel⟩, List.mem_of_getElem? (i := 27) (by decide +kernel), List.mem_of_getElem? (i := 650) (by decide +kernel), List.mem_of_getElem? (i := 651) (by decide +kernel)⟩
theorem lw_p21 : lw_okq (⟨"PennyBank$Account", "linesLike", "(I)I"⟩, 8) := ⟨⟨by decide +kernel, by decide +kernel⟩, List.mem_of_getElem? (i := 310) (by decide +kernel), List.mem_of_getElem? (i := 693) (by decide +kernel), List.mem_of_getElem? (i := 694) (by decide +kernel)⟩
theorem lw_p22 : lw_okq (⟨"PennyBank$Holdings", "letGo", "(I)V"⟩, 7) := ⟨⟨by decide +kernel, by decide +kernel⟩, List.mem_of_getElem? (i := 237) (by decide +kernel), List.mem_of_getElem? (i := 739) (by decide +kernel), List.mem_of_getElem? (i := 740) (by decide +kernel)⟩
theorem lw_p23 : lw_okq (⟨"PennyBank$Holdings", "dropBelow", "(I)V"⟩, 7) := ⟨⟨by decide +kernel, by decide +kernel⟩, List.mem_of_getElem? (i := 237) (by decide +kernel), List.mem_of_getElem? (i := 750) (by decide +kernel), List.mem_of_getElem? (i := 751) (by decide +kernel)⟩
theorem lw_p24 : lw_okq (⟨"PennyBank$Holdings", "keepPlan", "(J)V"⟩, 7) := ⟨⟨by decide +kernel, by decide +kernel⟩, List.mem_of_getElem? (i := 237) (by decide +kernel), List.mem_of_getElem? (i := 754) (by decide +kernel), List.mem_of_getElem? (i := 755) (by decide +kernel)⟩
theorem lw_p25 : lw_okq (⟨"java/lang/Throwable", "fillInStackTrace", "(I)Ljava/lang/Throwable;"⟩, 6) := ⟨⟨by decide +kernel, by decide +kernel⟩, List.mem_of_getElem? (i := 814) (by decide +kernel), List.mem_of_getElem? (i := 812) (by decide +kernel), List.mem_of_getElem? (i := 813) (by decide +kernel)⟩
theorem lw_p26 : lw_okq (⟨"PennyBankModel", "lay", "(J)V"⟩, 55) := ⟨⟨by decide +kernel, by decide +kernel⟩, List.mem_of_getElem? (i := 888) (by decide +kernel), List.mem_of_getElem? (i := 1077) (by decide +kernel), List.mem_of_getElem? (i := 1078) (by decide +kernel)⟩
theorem lw_p27 : lw_okq (⟨"PennyBankModel", "cutAll", "()V"⟩, 55) := ⟨⟨by decide +kernel, by decide +kernel⟩, List.mem_of_getElem? (i := 888) (by decide +kernel), List.mem_of_getElem? (i := 1085) (by decide +kernel), List.mem_of_getElem? (i := 1086) (by decide +kernel)⟩
theorem lw_p28 : lw_okq (⟨"PennyBankModel", "line", "()V"⟩, 55) := ⟨⟨by decide +kernel, by decide +kernel⟩, List.mem_of_getElem? (i := 888) (by decide +kernel), List.mem_of_getElem? (i := 1104) (by decide +kernel), List.mem_of_getElem? (i := 1105) (by decide +kernel)⟩
theorem lw_p29 : lw_okq (⟨"PennyBankModel", "isWord", "(I)Z"⟩, 55) := ⟨⟨by decide +kernel, by decide +kernel⟩, List.mem_of_getElem? (i := 888) (by decide +kernel), List.mem_of_getElem? (i := 1108) (by decide +kernel), List.mem_of_getElem? (i := 1109) (by decide +kernel)⟩
theorem lw_p30 : lw_okq (⟨"PennyBankModel", "wrong", "(I)V"⟩, 55) := ⟨⟨by decide +kernel, by decide +kernel⟩, List.mem_of_getElem? (i := 888) (by decide +kernel), List.mem_of_getElem? (i := 1112) (by decide +kernel), List.mem_of_getElem? (i := 1113) (by decide +kernel)⟩
theorem lw_p31 : lw_okq (⟨"PennyBankModel", "takeWord", "(I)V"⟩, 55) := ⟨⟨by decide +kernel, by decide +kernel⟩, List.mem_of_getElem? (i := 888) (by decide +kernel), List.mem_of_getElem? (i := 1117) (by decide +kernel), List.mem_of_getElem? (i := 1118) (by decide +kernel)⟩
def lw_privs_2 : List (MethodName × Nat) := [(⟨"PennyBank$Judge", "endTest", "()I"⟩, 12), (⟨"PennyBank$Judge", "take", "(I)V"⟩, 12), (⟨"PennyBank$Judge", "compareWith", "(I)V"⟩, 12), (⟨"PennyBank$Judge", "factOf", "(I)I"⟩, 12), (⟨"PennyBank", "limitFor", "(LPennyBank$Account;I)I"⟩, 12), (⟨"PennyBank$Account", "linesLike", "(I)I"⟩, 8), (⟨"PennyBank$Holdings", "letGo", "(I)V"⟩, 7), (⟨"PennyBank$Holdings", "dropBelow", "(I)V"⟩, 7), (⟨"PennyBank$Holdings", "keepPlan", "(J)V"⟩, 7), (⟨"java/lang/Throwable", "fillInStackTrace", "(I)Ljava/lang/Throwable;"⟩, 6), (⟨"PennyBankModel", "lay", "(J)V"⟩, 55), (⟨"PennyBankModel", "cutAll", "()V"⟩, 55), (⟨"PennyBankModel", "line", "()V"⟩, 55), (⟨"PennyBankModel", "isWord", "(I)Z"⟩, 55), (⟨"PennyBankModel", "wrong", "(I)V"⟩, 55), (⟨"PennyBankModel", "takeWord", "(I)V"⟩, 55)]
theorem lw_r2 : ∀ q ∈ lw_privs_2, lw_okq q := List.forall_mem_cons.mpr ⟨lw_p16, List.forall_mem_cons.mpr ⟨lw_p17, List.forall_mem_cons.mpr ⟨lw_p18, List.forall_mem_cons.mpr ⟨lw_p19, List.forall_mem_cons.mpr ⟨lw_p20, List.forall_mem_cons.mpr ⟨lw_p21, List.forall_mem_cons.mpr ⟨lw_p22, List.forall_mem_cons.mpr ⟨lw_p23, List.forall_mem_cons.mpr ⟨lw_p24, List.forall_mem_cons.mpr ⟨lw_p25, List.forall_mem_cons.mpr ⟨lw_p26, List.forall_mem_cons.mpr ⟨lw_p27, List.forall_mem_cons.mpr ⟨lw_p28, List.forall_mem_cons.mpr ⟨lw_p29, List.forall_mem_cons.mpr ⟨lw_p30, List.forall_mem_cons.mpr ⟨lw_p31, fun _ h => absurd h List.not_mem_nil⟩⟩⟩⟩⟩⟩⟩⟩⟩⟩⟩⟩⟩⟩⟩⟩
theorem lw_p32 : lw_okq (⟨"PennyBankModel", "hasWord", "(I)Z"⟩, 55) := ⟨⟨by decide +kernel, by decide +kernel⟩, List.mem_of_getElem? (i := 888) (by decide +kernel), List.mem_of_getElem? (i := 1121) (by decide +kernel), List.mem_of_getElem? (i := 1122) (by decide +kernel)⟩
theorem lw_p33 : lw_okq (⟨"PennyBankModel", "opens", "()V"⟩, 55) := ⟨⟨by decide +kernel, by decide +kernel⟩, List.mem_of_getElem? (i := 888) (by decide +kernel), List.mem_of_getElem? (i := 1125) (by decide +kernel), List.mem_of_getElem? (i := 1126) (by decide +kernel)⟩
theorem lw_p34 : lw_okq (⟨"PennyBankModel", "part", "()Z"⟩, 55) := ⟨⟨by decide +kernel, by decide +kernel⟩, List.mem_of_getElem? (i := 888) (by decide +kernel), List.mem_of_getElem? (i := 1129) (by decide +kernel), List.mem_of_getElem? (i := 1130) (by decide +kernel)⟩
theorem lw_p35 : lw_okq (⟨"PennyBankModel", "partWord", "()I"⟩, 55) := ⟨⟨by decide +kernel, by decide +kernel⟩, List.mem_of_getElem? (i := 888) (by decide +kernel), List.mem_of_getElem? (i := 1133) (by decide +kernel), List.mem_of_getElem? (i := 1134) (by decide +kernel)⟩
theorem lw_p36 : lw_okq (⟨"PennyBankModel", "isSign", "(I)Z"⟩, 55) := ⟨⟨by decide +kernel, by decide +kernel⟩, List.mem_of_getElem? (i := 888) (by decide +kernel), List.mem_of_getElem? (i := 1137) (by decide +kernel), List.mem_of_getElem? (i := 1138) (by decide +kernel)⟩
theorem lw_p37 : lw_okq (⟨"PennyBankModel", "hasSign", "(I)Z"⟩, 55) := ⟨⟨by decide +kernel, by decide +kernel⟩, List.mem_of_getElem? (i := 888) (by decide +kernel), List.mem_of_getElem? (i := 1141) (by decide +kernel), List.mem_of_getElem? (i := 1142) (by decide +kernel)⟩
theorem lw_p38 : lw_okq (⟨"PennyBankModel", "emit", "(II)V"⟩, 55) := ⟨⟨by decide +kernel, by decide +kernel⟩, List.mem_of_getElem? (i := 888) (by decide +kernel), List.mem_of_getElem? (i := 1145) (by decide +kernel), List.mem_of_getElem? (i := 1146) (by decide +kernel)⟩
theorem lw_p39 : lw_okq (⟨"PennyBankModel", "goesOnBehind", "()Z"⟩, 55) := ⟨⟨by decide +kernel, by decide +kernel⟩, List.mem_of_getElem? (i := 888) (by decide +kernel), List.mem_of_getElem? (i := 1149) (by decide +kernel), List.mem_of_getElem? (i := 1150) (by decide +kernel)⟩
theorem lw_p40 : lw_okq (⟨"PennyBankModel", "takeSign", "(I)V"⟩, 55) := ⟨⟨by decide +kernel, by decide +kernel⟩, List.mem_of_getElem? (i := 888) (by decide +kernel), List.mem_of_getElem? (i := 1153) (by decide +kernel), List.mem_of_getElem? (i := 1154) (by decide +kernel)⟩
theorem lw_p41 : lw_okq (⟨"PennyBankModel", "keeps", "(I)V"⟩, 55) := ⟨⟨by decide +kernel, by decide +kernel⟩, List.mem_of_getElem? (i := 888) (by decide +kernel), List.mem_of_getElem? (i := 1157) (by decide +kernel), List.mem_of_getElem? (i := 1158) (by decide +kernel)⟩
theorem lw_p42 : lw_okq (⟨"PennyBankModel", "isAccount", "(I)Z"⟩, 55) := ⟨⟨by decide +kernel, by decide +kernel⟩, List.mem_of_getElem? (i := 888) (by decide +kernel), List.mem_of_getElem? (i := 1173) (by decide +kernel), List.mem_of_getElem? (i := 1174) (by decide +kernel)⟩
theorem lw_p43 : lw_okq (⟨"PennyBankModel", "posts", "(IIII)V"⟩, 55) := ⟨⟨by decide +kernel, by decide +kernel⟩, List.mem_of_getElem? (i := 888) (by decide +kernel), List.mem_of_getElem? (i := 1179) (by decide +kernel), List.mem_of_getElem? (i := 1180) (by decide +kernel)⟩
theorem lw_p44 : lw_okq (⟨"PennyBankModel", "balanceAt", "(III)I"⟩, 55) := ⟨⟨by decide +kernel, by decide +kernel⟩, List.mem_of_getElem? (i := 888) (by decide +kernel), List.mem_of_getElem? (i := 1187) (by decide +kernel), List.mem_of_getElem? (i := 1188) (by decide +kernel)⟩
theorem lw_p45 : lw_okq (⟨"PennyBankModel", "findInterest", "(II)V"⟩, 55) := ⟨⟨by decide +kernel, by decide +kernel⟩, List.mem_of_getElem? (i := 888) (by decide +kernel), List.mem_of_getElem? (i := 1191) (by decide +kernel), List.mem_of_getElem? (i := 1192) (by decide +kernel)⟩
theorem lw_p46 : lw_okq (⟨"PennyBankModel", "entriesTo", "(III)I"⟩, 55) := ⟨⟨by decide +kernel, by decide +kernel⟩, List.mem_of_getElem? (i := 888) (by decide +kernel), List.mem_of_getElem? (i := 1195) (by decide +kernel), List.mem_of_getElem? (i := 1196) (by decide +kernel)⟩
theorem lw_p47 : lw_okq (⟨"PennyBankModel", "firstOf", "(ZII)I"⟩, 55) := ⟨⟨by decide +kernel, by decide +kernel⟩, List.mem_of_getElem? (i := 888) (by decide +kernel), List.mem_of_getElem? (i := 1199) (by decide +kernel), List.mem_of_getElem? (i := 1200) (by decide +kernel)⟩
def lw_privs_3 : List (MethodName × Nat) := [(⟨"PennyBankModel", "hasWord", "(I)Z"⟩, 55), (⟨"PennyBankModel", "opens", "()V"⟩, 55), (⟨"PennyBankModel", "part", "()Z"⟩, 55), (⟨"PennyBankModel", "partWord", "()I"⟩, 55), (⟨"PennyBankModel", "isSign", "(I)Z"⟩, 55), (⟨"PennyBankModel", "hasSign", "(I)Z"⟩, 55), (⟨"PennyBankModel", "emit", "(II)V"⟩, 55), (⟨"PennyBankModel", "goesOnBehind", "()Z"⟩, 55), (⟨"PennyBankModel", "takeSign", "(I)V"⟩, 55), (⟨"PennyBankModel", "keeps", "(I)V"⟩, 55), (⟨"PennyBankModel", "isAccount", "(I)Z"⟩, 55), (⟨"PennyBankModel", "posts", "(IIII)V"⟩, 55), (⟨"PennyBankModel", "balanceAt", "(III)I"⟩, 55), (⟨"PennyBankModel", "findInterest", "(II)V"⟩, 55), (⟨"PennyBankModel", "entriesTo", "(III)I"⟩, 55), (⟨"PennyBankModel", "firstOf", "(ZII)I"⟩, 55)]
theorem lw_r3 : ∀ q ∈ lw_privs_3, lw_okq q := List.forall_mem_cons.mpr ⟨lw_p32, List.forall_mem_cons.mpr ⟨lw_p33, List.forall_mem_cons.mpr ⟨lw_p34, List.forall_mem_cons.mpr ⟨lw_p35, List.forall_mem_cons.mpr ⟨lw_p36, List.forall_mem_cons.mpr ⟨lw_p37, List.forall_mem_cons.mpr ⟨lw_p38, List.forall_mem_cons.mpr ⟨lw_p39, List.forall_mem_cons.mpr ⟨lw_p40, List.forall_mem_cons.mpr ⟨lw_p41, List.forall_mem_cons.mpr ⟨lw_p42, List.forall_mem_cons.mpr ⟨lw_p43, List.forall_mem_cons.mpr ⟨lw_p44, List.forall_mem_cons.mpr ⟨lw_p45, List.forall_mem_cons.mpr ⟨lw_p46, List.forall_mem_cons.mpr ⟨lw_p47, fun _ h => absurd h List.not_mem_nil⟩⟩⟩⟩⟩⟩⟩⟩⟩⟩⟩⟩⟩⟩⟩⟩
theorem lw_p48 : lw_okq (⟨"PennyBankModel", "worth", "(I)I"⟩, 55) := ⟨⟨by decide +kernel, by decide +kernel⟩, List.mem_of_getElem? (i := 888) (by decide +kernel), List.mem_of_getElem? (i := 1203) (by decide +kernel), List.mem_of_getElem? (i := 1204) (by decide +kernel)⟩
theorem lw_p49 : lw_okq (⟨"PennyBankModel", "why", "(III)I"⟩, 55) := ⟨⟨by decide +kernel, by decide +kernel⟩, List.mem_of_getElem? (i := 888) (by decide +kernel), List.mem_of_getElem? (i := 1219) (by decide +kernel), List.mem_of_getElem? (i := 1220) (by decide +kernel)⟩
theorem lw_p50 : lw_okq (⟨"PennyBankModel", "isSigned", "(II)Z"⟩, 55) := ⟨⟨by decide +kernel, by decide +kernel⟩, List.mem_of_getElem? (i := 888) (by decide +kernel), List.mem_of_getElem? (i := 1223) (by decide +kernel), List.mem_of_getElem? (i := 1224) (by decide +kernel)⟩
theorem lw_p51 : lw_okq (⟨"PennyBankModel", "noticeFor", "(II)I"⟩, 55) := ⟨⟨by decide +kernel, by decide +kernel⟩, List.mem_of_getElem? (i := 888) (by decide +kernel), List.mem_of_getElem? (i := 1227) (by decide +kernel), List.mem_of_getElem? (i := 1228) (by decide +kernel)⟩
theorem lw_p52 : lw_okq (⟨"PennyBankModel", "isLimited", "(II)Z"⟩, 55) := ⟨⟨by decide +kernel, by decide +kernel⟩, List.mem_of_getElem? (i := 888) (by decide +kernel), List.mem_of_getElem? (i := 1231) (by decide +kernel), List.mem_of_getElem? (i := 1232) (by decide +kernel)⟩
theorem lw_p53 : lw_okq (⟨"PennyBankModel", "drawnNow", "(I)I"⟩, 55) := ⟨⟨by decide +kernel, by decide +kernel⟩, List.mem_of_getElem? (i := 888) (by decide +kernel), List.mem_of_getElem? (i := 1235) (by decide +kernel), List.mem_of_getElem? (i := 1236) (by decide +kernel)⟩
theorem lw_p54 : lw_okq (⟨"PennyBankModel", "comesTo", "()I"⟩, 55) := ⟨⟨by decide +kernel, by decide +kernel⟩, List.mem_of_getElem? (i := 888) (by decide +kernel), List.mem_of_getElem? (i := 1278) (by decide +kernel), List.mem_of_getElem? (i := 1279) (by decide +kernel)⟩
def lw_privs_4 : List (MethodName × Nat) := [(⟨"PennyBankModel", "worth", "(I)I"⟩, 55), (⟨"PennyBankModel", "why", "(III)I"⟩, 55), (⟨"PennyBankModel", "isSigned", "(II)Z"⟩, 55), (⟨"PennyBankModel", "noticeFor", "(II)I"⟩, 55), (⟨"PennyBankModel", "isLimited", "(II)Z"⟩, 55), (⟨"PennyBankModel", "drawnNow", "(I)I"⟩, 55), (⟨"PennyBankModel", "comesTo", "()I"⟩, 55)]
theorem lw_r4 : ∀ q ∈ lw_privs_4, lw_okq q := List.forall_mem_cons.mpr ⟨lw_p48, List.forall_mem_cons.mpr ⟨lw_p49, List.forall_mem_cons.mpr ⟨lw_p50, List.forall_mem_cons.mpr ⟨lw_p51, List.forall_mem_cons.mpr ⟨lw_p52, List.forall_mem_cons.mpr ⟨lw_p53, List.forall_mem_cons.mpr ⟨lw_p54, fun _ h => absurd h List.not_mem_nil⟩⟩⟩⟩⟩⟩⟩
def lw_privs : List (MethodName × Nat) := lw_privs_1 ++ (lw_privs_2 ++ (lw_privs_3 ++ (lw_privs_4)))
def lw_tbl : List Cond := k2_sels lw_privs ++ tables_1
theorem lw_privs_ok : ∀ q ∈ lw_privs, lw_okq q := by
  show ∀ q ∈ lw_privs_1 ++ (lw_privs_2 ++ (lw_privs_3 ++ (lw_privs_4))), lw_okq q
  exact List.forall_mem_append.mpr ⟨lw_r1, List.forall_mem_append.mpr ⟨lw_r2, List.forall_mem_append.mpr ⟨lw_r3, lw_r4⟩⟩⟩

/-- the words that travel from caller to callee -/
def px_TB : List Cond := lw_tbl.filter goodWord
theorem px_tb {w : Cond} (h : w ∈ lw_tbl) (g : goodWord w = true) : w ∈ px_TB := List.mem_filter.mpr ⟨h, g⟩
theorem px_t1 {w : Cond} (i : Nat) (h : tables_1[i]? = some w) (g : goodWord w = true) : w ∈ px_TB := px_tb (List.mem_append_right _ (List.mem_of_getElem? h)) g
theorem px_ts {w : Cond} (i : Nat) (h : (k2_sels lw_privs)[i]? = some w) (g : goodWord w = true) : w ∈ px_TB := px_tb (List.mem_append_left _ (List.mem_of_getElem? h)) g
theorem px_good : GoodIn px_TB px_TB := fun w h => ⟨h, good_of_word (List.mem_filter.mp h).2⟩
end
section
/-! ===== BEGIN words of one list among another's, by their places ===== -/
theorem goodIn_r {big : List Cond} (ws : List Cond) (ps : List Nat) (hp : ws = ps.filterMap (fun i => big[i]?)) (h : ws.all goodWord = true) : GoodIn big ws := by
  intro w hw
  have h1 := List.all_eq_true.mp h w hw
  rw [hp] at hw
  obtain ⟨i, -, hi⟩ := List.mem_filterMap.mp hw
  have hm : w ∈ big := by first | exact List.mem_of_getElem? hi | exact List.getElem?_mem hi
  exact ⟨hm, good_of_word h1⟩
theorem goodIn_app {big a b : List Cond} (ha : GoodIn big a) (hb : GoodIn big b) : GoodIn big (a ++ b) := fun w h => (List.mem_append.mp h).elim (ha w) (hb w)
theorem goodIn_ca {big a b : List Cond} {c : Cond} (ha : GoodIn big (c :: a)) (hb : GoodIn big b) : GoodIn big (c :: (a ++ b)) := fun w h => (List.mem_cons.mp h).elim (fun e => ha w (List.mem_cons.mpr (Or.inl e))) (fun h => (List.mem_append.mp h).elim (fun h => ha w (List.mem_cons.mpr (Or.inr h))) (hb w))
theorem goodIn_sub {big ws : List Cond} (hm : ∀ w ∈ ws, w ∈ big) (h : ws.all goodWord = true) : GoodIn big ws := fun w hw => ⟨hm w hw, good_of_word (List.all_eq_true.mp h w hw)⟩
/-! ===== END ===== -/

/-! ===== BEGIN exceptions that leave a method, and their catching by the caller (launches without stack traces) ===== -/
section VXA
/-! The laws vx_back, vx_callV, vx_callS, vx_callSW, vx_throw0, vx_throwS follow proofs of the library, with one case more: JvmDerived/Free/Laws.lean (Back.of_free), Shelf42/LK1.lean (callV, callS), Shelf/KitTraced.lean (throwNew0V, throwNewS). -/
/-- where a method has thrown q: the class by its name, the cell, what was written, the world -/
def vx_T (XC : String → State → State → Prop) (st : State) (q : Addr) (t : State) (mc ms : Nat) (free : Addr → Prop) : Prop :=
  ∃ (E : String) (ce : Cell) (L : List Loc), XC E st t ∧ t.heap[q]? = some ce ∧ ce.vm = .none ∧ st.vm.findClass E = some ce.cls ∧ st.WarmedH t.vm ∧ st.sameButNew ({ t with vm := st.vm } : State) L mc ms ∧ ∀ z ∈ L, free z.base
def vx_Q (Qc : Array Value → State → Outcome → State → Prop) (XC : String → State → State → Prop) (mc ms : Nat) (free : Addr → Prop) : Array Value → State → Outcome → State → Prop := fun a st o t =>
  (Qc a st o t ∧ ∃ L, FrameEnd st o t L mc ms ∧ ∀ q ∈ L, free q.base) ∨ ∃ q, o = .threw q ∧ vx_T XC st q t mc ms free
/-- a callee that returns or throws -/
def vx_Met (l : Launch) (y : MethodName) (ws : List Cond) (rm : Room) (Pc : Array Value → State → Prop) (Qc : Array Value → State → Outcome → State → Prop) (XC : String → State → State → Prop) (mc ms : Nat) (free : Addr → Prop) : Prop :=
  MetFree l y (headSpec ws rm) Pc (fun _ _ _ _ _ => True) (vx_Q Qc XC mc ms free)
def vx_Post (XC : String → State → State → Prop) (mc ms : Nat) (free : Addr → Prop) : Pt → Array Value → Addr → Pt → Prop := fun A a q B =>
  ∃ (g : JFrame) (mk : MethodId) (t : State) (L : List Loc) (E : String) (ce : Cell), B.U.heap = t.heap ∧ B.U.vm = t.vm ∧ XC E (A.U.calling g mk a) t ∧ t.heap[q]? = some ce ∧ ce.vm = .none ∧ A.U.vm.findClass E = some ce.cls ∧ B.locs = A.locs ++ L ∧ (∀ z ∈ L, free z.base) ∧ B.cells = A.cells + mc ∧ B.slots = A.slots + ms
def vx_Back (l : Launch) (R : Room) (p : Program) (e : Env) (below : List Frame) (s : State) (sargs : Array Value) (y : MethodName) (len W9 : Nat)
    (Pre : Pt → Array Value → Prop) (Post : Pt → Array Value → Option Value → Pt → Prop) (PostX : Pt → Array Value → Addr → Pt → Prop) : Prop :=
  ∀ (m : MethodId) (meth : Method) (c : Code) (A : Pt) (g : JFrame) (ig : Instr) (mk : MethodId) (a : Array Value),
    Stand p l e R s m sargs below meth c A.U A.locs A.cells A.slots → g.method = m → g.locals.size = c.maxLocals → decode c.code g.pc = .ok (ig, len) →
    2 * g.monitorRoom + (g.stack.map fun v => v.category).sum ≤ W9 → A.U.methodNamed? y = some mk → Pre A a →
    (∃ (v : Option Value) (B : Pt), Stand p l e R s m sargs below meth c B.U B.locs B.cells B.slots ∧ Post A a v B ∧
      Steps p.tables e below (doInvoke e (A.U.setTop g) [] mk a).1 (B.U.setTop { g with pc := g.pc + len, stack := v.toList ++ g.stack })) ∨
    (∃ (q : Addr) (B : Pt), Stand p l e R s m sargs below meth c B.U B.locs B.cells B.slots ∧ PostX A a q B ∧
      Steps p.tables e below (doInvoke e (A.U.setTop g) [] mk a).1 ((B.U.setTop g).pushFrame (.throwing q)))
section Payer
variable {l : Launch} {R : Room} {p : Program} {e : Env} {below : List Frame} {s : State} {sargs : Array Value} {y : MethodName} {len W9 : Nat}
theorem vx_back {ws : List Cond} {rm : Room} {Pc : Array Value → State → Prop} {Qc : Array Value → State → Outcome → State → Prop} {XC : String → State → State → Prop} {mc ms : Nat} {free : Addr → Prop} {bytes : ByteArray} {maxL : Nat} {ret : Option FieldType}
    (hM : vx_Met l y ws rm Pc Qc XC mc ms free) (hblind : FrameBlind Pc) (hrc : rm.cells = mc) (hrs : rm.slots = ms)
    (hframes : rm.frames + 1 ≤ R.frames) (hlocals : W9 + (maxL + 11) + rm.locals ≤ R.locals)
    (hws : ∀ w ∈ ws, ∀ a' U, s.WarmedH U.vm → w.before a' U = true) (hcode : Cond.code y bytes maxL ret ∈ ws) (hinit : ∀ a' U, s.WarmedH U.vm → (Cond.initialized y.cls).before a' U = true) :
    vx_Back l R p e below s sargs y len W9 (PreOf R mc ms Pc) (PostOf Qc mc ms free) (vx_Post XC mc ms free) := by
  intro m meth c A g ig mk a X hg hsize hdg hW hn hp
  have h1 : (headSpec ws rm).pre.before a A.U = true := atoms_intro fun w hw => hws w hw _ _ X.warmed
  have h2 : (Cond.code y bytes maxL ret).before a A.U = true := hws _ hcode _ _ X.warmed
  have h3 : (Cond.initialized y.cls).before a A.U = true := hinit _ _ X.warmed
  have h4 : A.cells + (headSpec ws rm).room.cells ≤ R.cells := by rw [show (headSpec ws rm).room.cells = mc from hrc]; exact hp.1
  have h5 : A.slots + (headSpec ws rm).room.slots ≤ R.slots := by rw [show (headSpec ws rm).room.slots = ms from hrs]; exact hp.2.1
  have hPc : Pc a (A.U.calling g mk a) := hblind _ _ _ _ hp.2.2
  obtain ⟨U, Ls, c0, s0⟩ := A
  dsimp only [Pt.U, Pt.locs, Pt.cells, Pt.slots] at h1 h2 h3 h4 h5 X hn hPc ⊢
  obtain ⟨methY, cY, hmY, hcY, -, hlY, -, -, -, -⟩ := Cond.code_spec hn h2
  obtain ⟨kY, hkY, -⟩ := className_of_methodNamed hn
  have hinitY : kY.init = .initialized := Cond.initialized_spec (findClass_of_methodNamed hn) hkY h3
  have h : At U g.method c below := by rw [hg]; exact X.here
  have hlocals9 : W9 + (maxL + 11) + (headSpec ws rm).room.locals ≤ R.locals := hlocals
  have happ : (headSpec ws rm).appliesLoose y e.platform (U.calling g mk a) = true :=
    Spec.appliesLoose_calling (g := g) h hdg hn hkY hinitY
      (X.room_calling (g := g) (R' := (headSpec ws rm).room) hsize hmY hcY hframes (by rw [hlY]; omega) h4 h5) h1
  obtain ⟨mid, hmid⟩ := h.above
  have hfr : (U.setTop g).frames = (.java g :: mid) ++ below := by rw [State.frames_setTop' g h.top, hmid]; rfl
  obtain ⟨o, s₂, hsteps, -, hend, hq⟩ := Steps.callFree hM p X.admits X.cas X.clock (acts := []) hfr happ hPc trivial
  have hq' : vx_Q Qc XC mc ms free a (U.calling g mk a) o s₂ := hq
  rw [State.frames_setTop' g h.top] at hend
  obtain ⟨g₀, hg0⟩ := Option.isSome_iff_exists.mp h.top
  obtain ⟨r, hr⟩ := State.topJava?_eq_some.mp hg0
  have hr' : (({ U with heap := s₂.heap, slotsUsed := s₂.slotsUsed } : State).setVm s₂.vm).frames = .java g₀ :: r := hr
  rcases hq' with ⟨hqc, L, hfe, hL⟩ | ⟨q, rfl, E, ce, L, hx, hce, hcv, hcl, hW₂, hsm, hL⟩
  · obtain ⟨⟨v, rfl⟩, hW₂, e2, q2, q3, q4, q5, q6⟩ := id hfe
    have e3 : s₂ = ({ (U.calling g mk a).setFrames s₂.frames with heap := s₂.heap, slotsUsed := s₂.slotsUsed } : State).setVm s₂.vm := by
      have : s₂ = ({ s₂ with vm := (U.calling g mk a).vm } : State).setVm s₂.vm := rfl
      rw [e2] at this
      exact this
    obtain ⟨c₂, i₂, len₂, hc₂, hd₂, hf₂⟩ := hend
    have hW' : U.WarmedH s₂.vm := hW₂
    have hcc : c₂ = c := by
      have h1 : s₂.code? g.method = U.code? g.method := by
        rw [State.code?_eq, State.code?_eq, hW'.alike.method?]
      exact Option.some.inj (hc₂.symm.trans (h1.trans h.code))
    subst hcc
    have hlen : len₂ = len := by rw [hdg] at hd₂; cases hd₂; rfl
    subst hlen
    have hs₂ : s₂ = (({ U with heap := s₂.heap, slotsUsed := s₂.slotsUsed } : State).setVm s₂.vm).setTop { g with pc := g.pc + len₂, stack := v.toList ++ g.stack } := by
      refine e3.trans ?_
      rw [hf₂, State.calling_eq h.top, State.setFrames_setFrames, State.setTop_of_frames _ hr', hr]
      rfl
    have hsame : U.sameButNew ({ U with heap := s₂.heap, slotsUsed := s₂.slotsUsed } : State) L mc ms := by
      refine ⟨?_, q2, q3, q4, q5, q6⟩
      obtain ⟨t, ht, -⟩ := State.frames_cons hr
      show ({ U with heap := s₂.heap, slotsUsed := s₂.slotsUsed } : State) = { U.setFrames U.frames with heap := s₂.heap, slotsUsed := s₂.slotsUsed }
      rw [State.setFrames_self ht]
    subst hg
    refine Or.inl ⟨v, ⟨(({ U with heap := s₂.heap, slotsUsed := s₂.slotsUsed } : State).setVm s₂.vm), Ls ++ L, c0 + mc, s0 + ms⟩,
      ⟨X.admits, X.cas, X.clock, X.frames, X.room, X.hears, X.method, X.code, (X.here.setHeapUsed s₂.heap s₂.slotsUsed).setVm hW'.alike, X.tail, State.WarmedH.trans X.warmed hW', X.limits, X.bytes, X.same.trans (hsame.setVm s.vm)⟩,
      ⟨g, mk, s₂, L, rfl, rfl, hqc, rfl, hL, rfl, rfl⟩, ?_⟩
    show Steps p.tables e below _ ((({ U with heap := s₂.heap, slotsUsed := s₂.slotsUsed } : State).setVm s₂.vm).setTop { g with pc := g.pc + len₂, stack := v.toList ++ g.stack })
    rw [← hs₂]
    exact hsteps
  · obtain ⟨e2, q2, q3, q4, q5, q6⟩ := id hsm
    have e3 : s₂ = ({ (U.calling g mk a).setFrames s₂.frames with heap := s₂.heap, slotsUsed := s₂.slotsUsed } : State).setVm s₂.vm := by
      have : s₂ = ({ s₂ with vm := (U.calling g mk a).vm } : State).setVm s₂.vm := rfl
      rw [e2] at this
      exact this
    have hf₂ : s₂.frames = .throwing q :: .java g :: U.frames.tail := hend
    have hW' : U.WarmedH s₂.vm := hW₂
    have hs₂ : s₂ = ((({ U with heap := s₂.heap, slotsUsed := s₂.slotsUsed } : State).setVm s₂.vm).setTop g).pushFrame (.throwing q) := by
      refine e3.trans ?_
      rw [hf₂, State.calling_eq h.top, State.setFrames_setFrames, State.pushFrame, State.frames_setTop _ hr', State.setTop_of_frames _ hr', State.setFrames_setFrames, hr]
      rfl
    have hsame : U.sameButNew ({ U with heap := s₂.heap, slotsUsed := s₂.slotsUsed } : State) L mc ms := by
      refine ⟨?_, q2, q3, q4, q5, q6⟩
      obtain ⟨t, ht, -⟩ := State.frames_cons hr
      show ({ U with heap := s₂.heap, slotsUsed := s₂.slotsUsed } : State) = { U.setFrames U.frames with heap := s₂.heap, slotsUsed := s₂.slotsUsed }
      rw [State.setFrames_self ht]
    subst hg
    refine Or.inr ⟨q, ⟨(({ U with heap := s₂.heap, slotsUsed := s₂.slotsUsed } : State).setVm s₂.vm), Ls ++ L, c0 + mc, s0 + ms⟩,
      ⟨X.admits, X.cas, X.clock, X.frames, X.room, X.hears, X.method, X.code, (X.here.setHeapUsed s₂.heap s₂.slotsUsed).setVm hW'.alike, X.tail, State.WarmedH.trans X.warmed hW', X.limits, X.bytes, X.same.trans (hsame.setVm s.vm)⟩,
      ⟨g, mk, s₂, L, E, ce, rfl, rfl, hx, hce, hcv, hcl, rfl, hL, rfl, rfl⟩, ?_⟩
    show Steps p.tables e below _ (((({ U with heap := s₂.heap, slotsUsed := s₂.slotsUsed } : State).setVm s₂.vm).setTop g).pushFrame (.throwing q))
    rw [← hs₂]
    exact hsteps
end Payer
section Calls
variable {p : Program} {l : Launch} {e : Env} {R : Room} {s : State} {m : MethodId} {args : Array Value} {below : List Frame} {meth : Method} {c : Code} {T : State} {locs : List Loc} {cells slots : Nat}
theorem vx_callV (X : Stand p l e R s m args below meth c T locs cells slots) (hexec : p.tables.exec = Jvm.exec) {own C : String} {index : Nat} {y : MethodName} {bytes : ByteArray} {maxL : Nat} {ret : Option FieldType}
    (hown : s.vm.findClass own = some m.cls) (hlink : (Cond.methodLink own index y).before args s = true) (hinst : (Cond.instanceMethod y).before args s = true) (hsel : (Cond.selects C y y).before args s = true)
    (hcode : (Cond.code y bytes maxL ret).before args s = true) (hy : y.cls ≠ "java/lang/invoke/MethodHandle" ∧ y.cls ≠ "java/lang/invoke/VarHandle")
    {W9 : Nat} {Pre : Pt → Array Value → Prop} {Post : Pt → Array Value → Option Value → Pt → Prop} {PostX : Pt → Array Value → Addr → Pt → Prop} (hK : vx_Back l R p e below s args y 3 W9 Pre Post PostX)
    {b : Addr} {cellB : Cell} (hcell : T.heap[b]? = some cellB) (hobj : cellB.vm.isStatics = false) (hcls : s.vm.findClass C = some cellB.cls)
    {g : JFrame} (hg : g.method = m) (hsize : g.locals.size = c.maxLocals) {argsL rest : List Value} (hlen : ∀ sig, parseMethodDescriptor y.desc = some sig → argsL.length = sig.parameters.length)
    (hstack : g.stack = argsL.reverse ++ .ref b :: rest) (hW : 2 * g.monitorRoom + (rest.map fun v => v.category).sum ≤ W9) (hdg : decode c.code g.pc = .ok (.invokevirtual index, 3))
    (hpre : ∀ vm₁, s.WarmedH vm₁ → Pre ⟨T.setVm vm₁, locs, cells, slots⟩ (Value.ref b :: argsL).toArray) :
    (∃ (v : Option Value) (vm₁ : Vm) (B : Pt), s.WarmedH vm₁ ∧ Stand p l e R s m args below meth c B.U B.locs B.cells B.slots ∧ Post ⟨T.setVm vm₁, locs, cells, slots⟩ (Value.ref b :: argsL).toArray v B ∧
      ∀ target, Steps p.tables e below (B.U.setTop { g with pc := g.pc + 3, stack := v.toList ++ rest }) target → Steps p.tables e below (T.setTop g) target) ∨
    (∃ (q : Addr) (vm₁ : Vm) (B : Pt), s.WarmedH vm₁ ∧ Stand p l e R s m args below meth c B.U B.locs B.cells B.slots ∧ PostX ⟨T.setVm vm₁, locs, cells, slots⟩ (Value.ref b :: argsL).toArray q B ∧
      Steps p.tables e below (T.setTop g) ((B.U.setTop { g with stack := rest }).pushFrame (.throwing q))) := by
  obtain ⟨mk, methM, hnamed, hmethM, hstM, habM⟩ := Cond.instanceMethod_spec hinst
  obtain ⟨methM', cM, hmethM', -, -, -, -, -, -, hsigM⟩ := Cond.code_spec hnamed hcode
  cases hmethM.symm.trans hmethM'
  obtain ⟨c2, r2, m2, q1, q2, q3, q4, kP, hkP, hkPi⟩ := Cond.selects_spec hsel
  cases hcls.symm.trans q1
  cases (State.methodFound?_of_named hnamed hy).symm.trans q2
  cases hnamed.symm.trans q3
  have hselP : selectMethod e.platform s.vm cellB.cls mk = .method mk := by rw [Launch.admits_selectMethod X.admits]; exact q4
  obtain ⟨vm₁, X₁, hstep₁⟩ := X.invokevirtual hexec hown hlink hnamed hmethM hstM hkP hkPi hy (a := b) (cell := cellB) hcell
    (fun z h => by rw [h] at hobj; cases hobj) hselP hmethM habM hkP hkPi (g := g) hg (argsL := argsL) (rest := rest) (hlen _ hsigM) hstack hdg
  rcases hK m meth c ⟨T.setVm vm₁, locs, cells, slots⟩ { g with stack := rest } (.invokevirtual index) mk (Value.ref b :: argsL).toArray X₁ hg hsize hdg hW (X₁.named hnamed) (hpre vm₁ X₁.warmed) with ⟨v, B, X', hpost, hsteps⟩ | ⟨q, B, X', hpost, hsteps⟩
  · exact Or.inl ⟨v, vm₁, B, X₁.warmed, X', hpost, fun target h => hstep₁ _ fun acts => by rw [doInvoke_state]; exact hsteps.trans h⟩
  · exact Or.inr ⟨q, vm₁, B, X₁.warmed, X', hpost, hstep₁ _ fun acts => by rw [doInvoke_state]; exact hsteps⟩
theorem vx_callS (X : Stand p l e R s m args below meth c T locs cells slots) (hexec : p.tables.exec = Jvm.exec) {own : String} {index : Nat} {y : MethodName} {bytes : ByteArray} {maxL : Nat} {ret : Option FieldType}
    (hown : s.vm.findClass own = some m.cls) (hlink : (Cond.methodLink own index y).before args s = true) (hstat : (Cond.static y).before args s = true) (hinit : (Cond.initialized y.cls).before args s = true)
    (hcode : (Cond.code y bytes maxL ret).before args s = true) (hy : y.cls ≠ "java/lang/invoke/MethodHandle" ∧ y.cls ≠ "java/lang/invoke/VarHandle")
    {W9 : Nat} {Pre : Pt → Array Value → Prop} {Post : Pt → Array Value → Option Value → Pt → Prop} {PostX : Pt → Array Value → Addr → Pt → Prop} (hK : vx_Back l R p e below s args y 3 W9 Pre Post PostX)
    {g : JFrame} (hg : g.method = m) (hsize : g.locals.size = c.maxLocals) {argsL rest : List Value} (hlen : ∀ sig, parseMethodDescriptor y.desc = some sig → argsL.length = sig.parameters.length)
    (hstack : g.stack = argsL.reverse ++ rest) (hW : 2 * g.monitorRoom + (rest.map fun v => v.category).sum ≤ W9) (hdg : decode c.code g.pc = .ok (.invokestatic index, 3))
    (hpre : ∀ vm₁, s.WarmedH vm₁ → Pre ⟨T.setVm vm₁, locs, cells, slots⟩ argsL.toArray) :
    (∃ (v : Option Value) (vm₁ : Vm) (B : Pt), s.WarmedH vm₁ ∧ Stand p l e R s m args below meth c B.U B.locs B.cells B.slots ∧ Post ⟨T.setVm vm₁, locs, cells, slots⟩ argsL.toArray v B ∧
      ∀ target, Steps p.tables e below (B.U.setTop { g with pc := g.pc + 3, stack := v.toList ++ rest }) target → Steps p.tables e below (T.setTop g) target) ∨
    (∃ (q : Addr) (vm₁ : Vm) (B : Pt), s.WarmedH vm₁ ∧ Stand p l e R s m args below meth c B.U B.locs B.cells B.slots ∧ PostX ⟨T.setVm vm₁, locs, cells, slots⟩ argsL.toArray q B ∧
      Steps p.tables e below (T.setTop g) ((B.U.setTop { g with stack := rest }).pushFrame (.throwing q))) := by
  obtain ⟨mk, hnamed⟩ := Cond.code_named hcode
  obtain ⟨methM, cM, hmethM, -, -, -, -, -, -, hsigM⟩ := Cond.code_spec hnamed hcode
  have hstatic : methM.isStatic = true := Cond.static_spec hnamed hmethM hstat
  obtain ⟨kP, hkP, -⟩ := className_of_methodNamed hnamed
  have hinitP : kP.init = .initialized := Cond.initialized_spec (findClass_of_methodNamed hnamed) hkP hinit
  obtain ⟨vm₁, X₁, hstep₁⟩ := X.invokestatic hexec hown hlink hnamed hmethM hstatic hkP hinitP hy (g := g) hg (argsL := argsL) (rest := rest) (hlen _ hsigM) hstack hdg
  rcases hK m meth c ⟨T.setVm vm₁, locs, cells, slots⟩ { g with stack := rest } (.invokestatic index) mk argsL.toArray X₁ hg hsize hdg hW (X₁.named hnamed) (hpre vm₁ X₁.warmed) with ⟨v, B, X', hpost, hsteps⟩ | ⟨q, B, X', hpost, hsteps⟩
  · exact Or.inl ⟨v, vm₁, B, X₁.warmed, X', hpost, fun target h => hstep₁ _ fun acts => by rw [doInvoke_state]; exact hsteps.trans h⟩
  · exact Or.inr ⟨q, vm₁, B, X₁.warmed, X', hpost, hstep₁ _ fun acts => by rw [doInvoke_state]; exact hsteps⟩
end Calls
theorem vx_cls {s : State} {T : State} {vm₁ : Vm} {E : String} {k : ClassId} (hW : s.WarmedH vm₁) (h : (T.setVm vm₁).vm.findClass E = some k) : s.vm.findClass E = some k := by
  have h1 : vm₁.findClass E = some k := h
  rw [hW.alike.findClass] at h1
  exact h1
/-- the method's frame g, with q thrown over it -/
def vx_W (p : Program) (l : Launch) (e : Env) (R : Room) (s : State) (m : MethodId) (args : Array Value) (below : List Frame) (meth : Method) (c : Code) (H : Heap) (locs : List Loc) (cells slots : Nat) (Q : State → Prop) (g : JFrame) (q : Addr) : Prop :=
  ∀ T : State, T.heap = H → Stand p l e R s m args below meth c T locs cells slots → ∃ t, Steps p.tables e below ((T.setTop g).pushFrame (.throwing q)) t ∧ Q t
def vx_Run (p : Program) (l : Launch) (e : Env) (R : Room) (s : State) (m : MethodId) (args : Array Value) (below : List Frame) (meth : Method) (c : Code) (H : Heap) (locs : List Loc) (cells slots mc ms : Nat) (g : JFrame) (rest : List Value) (Qa : State → Outcome → State → Prop) (XC : String → State → State → Prop) (free : Addr → Prop) : Prop :=
  ∀ T : State, T.heap = H → Stand p l e R s m args below meth c T locs cells slots →
    (∃ (v : Option Value) (st₀ t T' : State) (L : List Loc), st₀.heap = H ∧ Stand p l e R s m args below meth c T' (locs ++ L) (cells + mc) (slots + ms) ∧ (∀ q ∈ L, free q.base) ∧ T'.heap = t.heap ∧ T'.vm = t.vm ∧ Qa st₀ (.returned v) t ∧
      Goes p e below T g T' { g with pc := g.pc + 3, stack := v.toList ++ rest }) ∨
    (∃ (q : Addr) (st₀ t T' : State) (L : List Loc) (E : String) (ce : Cell), st₀.heap = H ∧ Stand p l e R s m args below meth c T' (locs ++ L) (cells + mc) (slots + ms) ∧ (∀ z ∈ L, free z.base) ∧ T'.heap = t.heap ∧ T'.vm = t.vm ∧ XC E st₀ t ∧ t.heap[q]? = some ce ∧ ce.vm = .none ∧ s.vm.findClass E = some ce.cls ∧
      Steps p.tables e below (T.setTop g) ((T'.setTop { g with stack := rest }).pushFrame (.throwing q)))
def vx_X {S : Type} (px : S → Prop) (B : String → S → State → Prop) (A : Nat → Prop) : String → State → State → Prop := fun E st t => ∃ u : S, px u ∧ B E u t ∧ va_F A st t
section Runs
variable {p : Program} {l : Launch} {e : Env} {R : Room} {s : State} {m : MethodId} {args : Array Value} {below : List Frame} {meth : Method} {c : Code} {H : Heap} {locs : List Loc} {cells slots : Nat}
variable {y : MethodName} {bytes cc : ByteArray} {maxL nL mc ms n index : Nat} {ret : Option FieldType} {ws : List Cond} {rm : Room} {Pc : Array Value → State → Prop} {Qc : Array Value → State → Outcome → State → Prop} {XC : String → State → State → Prop} {free : Addr → Prop} {Ts : List Cond} {own C : String} {b : Addr} {As rest : List Value} {g : JFrame}
theorem vx_callBack (cb : CallB R s args own index y bytes maxL ret ws rm mc ms n) (hM : vx_Met l y ws rm Pc Qc XC mc ms free) (hbl : FrameBlind Pc) : vx_Back l R p e below s args y 3 8 (PreOf R mc ms Pc) (PostOf Qc mc ms free) (vx_Post XC mc ms free) := by
  obtain ⟨hrc, hrs, hfr, hlo, hws, hcw, -, hini, -⟩ := cb
  exact vx_back (bytes := bytes) (maxL := maxL) (ret := ret) hM hbl hrc hrs hfr hlo hws hcw (fun a' U hW => word_at hW (Or.inl (by first | rfl | simp [Cond.onTables, Cond.keeps, Cond.steady])) hini)
theorem vx_runV (S : CallFix p m c cc nL s args Ts own) (hM : vx_Met l y ws rm Pc Qc XC mc ms free) (cw : CallW R s args own C index y bytes maxL ret ws rm mc ms n) (hp : PreV s H C b Pc As)
    (hg : g.method = m) (hn : As.length = n) (hsize : g.locals.size = nL) (hstack : g.stack = As.reverse ++ .ref b :: rest) (hW : 2 * g.monitorRoom + (rest.map fun v => v.category).sum ≤ 8) (hdg : decode cc g.pc = .ok (.invokevirtual index, 3)) (hf : cells + mc ≤ R.cells ∧ slots + ms ≤ R.slots) :
    vx_Run p l e R s m args below meth c H locs cells slots mc ms g rest (Qc (Value.ref b :: As).toArray) XC free := by
  have hK : vx_Back l R p e below s args y 3 8 (PreOf R mc ms Pc) (PostOf Qc mc ms free) (vx_Post XC mc ms free) := vx_callBack cw.1 hM hp.1
  obtain ⟨⟨-, -, -, -, -, -, hcode, -, hy, hlen, hl⟩, hin, hse⟩ := cw
  obtain ⟨hx, hb, hml, ho, -⟩ := S
  obtain ⟨-, ⟨cellB, hcB, hoB, hclB⟩, hPc⟩ := hp
  intro T hT X
  rcases vx_callV X hx (C := C) (bytes := bytes) (maxL := maxL) (ret := ret) ho hl hin hse hcode hy hK (by rw [hT]; exact hcB) hoB hclB hg (hsize.trans hml.symm) (argsL := As) (rest := rest) (fun sig h => hn.trans (hlen sig h)) hstack hW (by rw [hb]; exact hdg)
    (fun vm₁ hW₁ => ⟨hf.1, hf.2, hPc (T.setVm vm₁) hT hW₁⟩) with ⟨v, vm₁, ⟨U', l2, c2, s2⟩, hW₁, X', ⟨g', mk, t, L, e1, e2, hq, h1, hL, h2, h3⟩, st⟩ | ⟨q, vm₁, ⟨U', l2, c2, s2⟩, hW₁, X', ⟨g', mk, t, L, E, ce, e1, e2, hq, hce, hcv, hcl, h1, hL, h2, h3⟩, st⟩
  · dsimp only [Pt.U, Pt.locs, Pt.cells, Pt.slots] at X' e1 e2 h1 h2 h3 st
    subst h1; subst h2; subst h3
    exact Or.inl ⟨v, (T.setVm vm₁).calling g' mk (Value.ref b :: As).toArray, t, U', L, hT, X', hL, e1, e2, hq, st⟩
  · dsimp only [Pt.U, Pt.locs, Pt.cells, Pt.slots] at X' e1 e2 h1 h2 h3 st hcl
    subst h1; subst h2; subst h3
    exact Or.inr ⟨q, (T.setVm vm₁).calling g' mk (Value.ref b :: As).toArray, t, U', L, E, ce, hT, X', hL, e1, e2, hq, hce, hcv, vx_cls hW₁ hcl, st⟩
theorem vx_runS (S : CallFix p m c cc nL s args Ts own) (hM : vx_Met l y ws rm Pc Qc XC mc ms free) (cw : CallB R s args own index y bytes maxL ret ws rm mc ms n ∧ (Cond.static y).before args s = true) (hp : PreS s H Pc As)
    (hg : g.method = m) (hn : As.length = n) (hsize : g.locals.size = nL) (hstack : g.stack = As.reverse ++ rest) (hW : 2 * g.monitorRoom + (rest.map fun v => v.category).sum ≤ 8) (hdg : decode cc g.pc = .ok (.invokestatic index, 3)) (hf : cells + mc ≤ R.cells ∧ slots + ms ≤ R.slots) :
    vx_Run p l e R s m args below meth c H locs cells slots mc ms g rest (Qc As.toArray) XC free := by
  have hK : vx_Back l R p e below s args y 3 8 (PreOf R mc ms Pc) (PostOf Qc mc ms free) (vx_Post XC mc ms free) := vx_callBack cw.1 hM hp.1
  obtain ⟨⟨-, -, -, -, -, -, hcode, hini, hy, hlen, hl⟩, hstt⟩ := cw
  obtain ⟨hx, hb, hml, ho, -⟩ := S
  intro T hT X
  rcases vx_callS X hx (bytes := bytes) (maxL := maxL) (ret := ret) ho hl hstt hini hcode hy hK hg (hsize.trans hml.symm) (argsL := As) (rest := rest) (fun sig h => hn.trans (hlen sig h)) hstack hW (by rw [hb]; exact hdg)
    (fun vm₁ hW₁ => ⟨hf.1, hf.2, hp.2 (T.setVm vm₁) hT hW₁⟩) with ⟨v, vm₁, ⟨U', l2, c2, s2⟩, hW₁, X', ⟨g', mk, t, L, e1, e2, hq, h1, hL, h2, h3⟩, st⟩ | ⟨q, vm₁, ⟨U', l2, c2, s2⟩, hW₁, X', ⟨g', mk, t, L, E, ce, e1, e2, hq, hce, hcv, hcl, h1, hL, h2, h3⟩, st⟩
  · dsimp only [Pt.U, Pt.locs, Pt.cells, Pt.slots] at X' e1 e2 h1 h2 h3 st
    subst h1; subst h2; subst h3
    exact Or.inl ⟨v, (T.setVm vm₁).calling g' mk As.toArray, t, U', L, hT, X', hL, e1, e2, hq, st⟩
  · dsimp only [Pt.U, Pt.locs, Pt.cells, Pt.slots] at X' e1 e2 h1 h2 h3 st hcl
    subst h1; subst h2; subst h3
    exact Or.inr ⟨q, (T.setVm vm₁).calling g' mk As.toArray, t, U', L, E, ce, hT, X', hL, e1, e2, hq, hce, hcv, vx_cls hW₁ hcl, st⟩
end Runs
section Rows
variable {p : Program} {l : Launch} {e : Env} {R : Room} {s : State} {m : MethodId} {args : Array Value} {below : List Frame} {meth : Method} {c : Code} {H : Heap} {locs : List Loc} {cells slots : Nat} {Q : State → Prop}
variable {mc ms : Nat} {free : Addr → Prop} {A0 A1 : Nat → Prop} {H0 : Heap} {a : Array Value} {pc : Nat} {ls : Array Slot} {st0 rest : List Value}
theorem vx_keep {st₀ t T' : State} {L : List Loc} (h0 : st₀.heap = H) (e1 : T'.heap = t.heap) (hS : va_S A0 H0 H locs) (hA : ∀ q, q < H.size → A1 q → A0 q) (hf : ∀ q, free q → A0 q) (hL : ∀ q ∈ L, free q.base) (hF : va_F A1 st₀ t) :
    H.size ≤ T'.heap.size ∧ (∀ q : Nat, q < H.size → ¬ A1 q → T'.heap[q]? = H[q]?) ∧ va_S A0 H0 T'.heap (locs ++ L) := by
  obtain ⟨hz, hk⟩ := hF
  rw [h0] at hz hk
  exact ⟨by rw [e1]; exact hz, fun q h1 h2 => by rw [e1]; exact hk q h1 h2,
    ⟨Nat.le_trans hS.1 (by rw [e1]; exact hz), fun q h1 h2 => by rw [e1, hk q (Nat.lt_of_lt_of_le h1 hS.1) (fun z => h2 (hA q (Nat.lt_of_lt_of_le h1 hS.1) z))]; exact hS.2.1 q h1 h2, fun q hq => by
      rcases List.mem_append.mp hq with h | h
      · exact hS.2.2 q h
      · exact hf _ (hL q h)⟩⟩
theorem vx_calli {S SX : Type} {post : Int32 → S → Prop} {px : SX → Prop} {B : S → State → Prop} {BX : String → SX → State → Prop} {AX : Nat → Prop} (hr : vx_Run p l e R s m args below meth c H locs cells slots mc ms (F0 m pc ls st0) rest (va_Qi post B A1 a) (vx_X px BX AX) free) (hS : va_S A0 H0 H locs) (hA : ∀ q, q < H.size → A1 q → A0 q) (hf : ∀ q, free q → A0 q) (hAX : ∀ q, q < H.size → AX q → A0 q)
    (kx : ∀ (E : String) (ce : Cell) (q9 : Addr) (u : SX) (t : State) (H1 : Heap) (locs1 : List Loc), t.heap = H1 → s.vm.Alike t.vm → px u → BX E u t → H.size ≤ H1.size → (∀ q : Nat, q < H.size → ¬ AX q → H1[q]? = H[q]?) → va_S A0 H0 H1 locs1 → H1[q9]? = some ce → ce.vm = .none → s.vm.findClass E = some ce.cls → vx_W p l e R s m args below meth c H1 locs1 (cells + mc) (slots + ms) Q (F0 m pc ls rest) q9)
    (kk : ∀ (r : Int32) (u : S) (t : State) (H1 : Heap) (locs1 : List Loc), t.heap = H1 → s.vm.Alike t.vm → post r u → B u t → H.size ≤ H1.size → (∀ q : Nat, q < H.size → ¬ A1 q → H1[q]? = H[q]?) → va_S A0 H0 H1 locs1 → W p l e R s m args below meth c H1 locs1 (cells + mc) (slots + ms) Q (F0 m (pc + 3) ls (.int r :: rest))) : W p l e R s m args below meth c H locs cells slots Q (F0 m pc ls st0) := by
  intro T hT X
  rcases hr T hT X with ⟨v, st₀, t, T', L, h0, X', hL, e1, e2, ⟨⟨r, u, hv, hp, hb⟩, hF⟩, st⟩ | ⟨q, st₀, t, T', L, E, ce, h0, X', hL, e1, e2, ⟨u, hp, hb, hF⟩, hce, hcv, hcl, st⟩
  · cases hv
    obtain ⟨k1, k2, k3⟩ := vx_keep h0 e1 hS hA hf hL hF
    obtain ⟨t2, a1, b1⟩ := kk r u t T'.heap (locs ++ L) e1.symm (by rw [← e2]; exact X'.warmed.alike) hp hb k1 k2 k3 T' rfl X'
    exact ⟨t2, st t2 a1, b1⟩
  · obtain ⟨k1, k2, k3⟩ := vx_keep h0 e1 hS hAX hf hL hF
    obtain ⟨t2, a1, b1⟩ := kx E ce q u t T'.heap (locs ++ L) e1.symm (by rw [← e2]; exact X'.warmed.alike) hp hb k1 k2 k3 (by rw [e1]; exact hce) hcv hcl T' rfl X'
    exact ⟨t2, st.trans a1, b1⟩
theorem vx_calll {S SX : Type} {post : Int64 → S → Prop} {px : SX → Prop} {B : S → State → Prop} {BX : String → SX → State → Prop} {AX : Nat → Prop} (hr : vx_Run p l e R s m args below meth c H locs cells slots mc ms (F0 m pc ls st0) rest (va_Ql post B A1 a) (vx_X px BX AX) free) (hS : va_S A0 H0 H locs) (hA : ∀ q, q < H.size → A1 q → A0 q) (hf : ∀ q, free q → A0 q) (hAX : ∀ q, q < H.size → AX q → A0 q)
    (kx : ∀ (E : String) (ce : Cell) (q9 : Addr) (u : SX) (t : State) (H1 : Heap) (locs1 : List Loc), t.heap = H1 → s.vm.Alike t.vm → px u → BX E u t → H.size ≤ H1.size → (∀ q : Nat, q < H.size → ¬ AX q → H1[q]? = H[q]?) → va_S A0 H0 H1 locs1 → H1[q9]? = some ce → ce.vm = .none → s.vm.findClass E = some ce.cls → vx_W p l e R s m args below meth c H1 locs1 (cells + mc) (slots + ms) Q (F0 m pc ls rest) q9)
    (kk : ∀ (r : Int64) (u : S) (t : State) (H1 : Heap) (locs1 : List Loc), t.heap = H1 → s.vm.Alike t.vm → post r u → B u t → H.size ≤ H1.size → (∀ q : Nat, q < H.size → ¬ A1 q → H1[q]? = H[q]?) → va_S A0 H0 H1 locs1 → W p l e R s m args below meth c H1 locs1 (cells + mc) (slots + ms) Q (F0 m (pc + 3) ls (.long r :: rest))) : W p l e R s m args below meth c H locs cells slots Q (F0 m pc ls st0) := by
  intro T hT X
  rcases hr T hT X with ⟨v, st₀, t, T', L, h0, X', hL, e1, e2, ⟨⟨r, u, hv, hp, hb⟩, hF⟩, st⟩ | ⟨q, st₀, t, T', L, E, ce, h0, X', hL, e1, e2, ⟨u, hp, hb, hF⟩, hce, hcv, hcl, st⟩
  · cases hv
    obtain ⟨k1, k2, k3⟩ := vx_keep h0 e1 hS hA hf hL hF
    obtain ⟨t2, a1, b1⟩ := kk r u t T'.heap (locs ++ L) e1.symm (by rw [← e2]; exact X'.warmed.alike) hp hb k1 k2 k3 T' rfl X'
    exact ⟨t2, st t2 a1, b1⟩
  · obtain ⟨k1, k2, k3⟩ := vx_keep h0 e1 hS hAX hf hL hF
    obtain ⟨t2, a1, b1⟩ := kx E ce q u t T'.heap (locs ++ L) e1.symm (by rw [← e2]; exact X'.warmed.alike) hp hb k1 k2 k3 (by rw [e1]; exact hce) hcv hcl T' rfl X'
    exact ⟨t2, st.trans a1, b1⟩
theorem vx_callf {S SX : Type} {post : UInt32 → S → Prop} {px : SX → Prop} {B : S → State → Prop} {BX : String → SX → State → Prop} {AX : Nat → Prop} (hr : vx_Run p l e R s m args below meth c H locs cells slots mc ms (F0 m pc ls st0) rest (va_Qf post B A1 a) (vx_X px BX AX) free) (hS : va_S A0 H0 H locs) (hA : ∀ q, q < H.size → A1 q → A0 q) (hf : ∀ q, free q → A0 q) (hAX : ∀ q, q < H.size → AX q → A0 q)
    (kx : ∀ (E : String) (ce : Cell) (q9 : Addr) (u : SX) (t : State) (H1 : Heap) (locs1 : List Loc), t.heap = H1 → s.vm.Alike t.vm → px u → BX E u t → H.size ≤ H1.size → (∀ q : Nat, q < H.size → ¬ AX q → H1[q]? = H[q]?) → va_S A0 H0 H1 locs1 → H1[q9]? = some ce → ce.vm = .none → s.vm.findClass E = some ce.cls → vx_W p l e R s m args below meth c H1 locs1 (cells + mc) (slots + ms) Q (F0 m pc ls rest) q9)
    (kk : ∀ (r : UInt32) (u : S) (t : State) (H1 : Heap) (locs1 : List Loc), t.heap = H1 → s.vm.Alike t.vm → post r u → B u t → H.size ≤ H1.size → (∀ q : Nat, q < H.size → ¬ A1 q → H1[q]? = H[q]?) → va_S A0 H0 H1 locs1 → W p l e R s m args below meth c H1 locs1 (cells + mc) (slots + ms) Q (F0 m (pc + 3) ls (.float r :: rest))) : W p l e R s m args below meth c H locs cells slots Q (F0 m pc ls st0) := by
  intro T hT X
  rcases hr T hT X with ⟨v, st₀, t, T', L, h0, X', hL, e1, e2, ⟨⟨r, u, hv, hp, hb⟩, hF⟩, st⟩ | ⟨q, st₀, t, T', L, E, ce, h0, X', hL, e1, e2, ⟨u, hp, hb, hF⟩, hce, hcv, hcl, st⟩
  · cases hv
    obtain ⟨k1, k2, k3⟩ := vx_keep h0 e1 hS hA hf hL hF
    obtain ⟨t2, a1, b1⟩ := kk r u t T'.heap (locs ++ L) e1.symm (by rw [← e2]; exact X'.warmed.alike) hp hb k1 k2 k3 T' rfl X'
    exact ⟨t2, st t2 a1, b1⟩
  · obtain ⟨k1, k2, k3⟩ := vx_keep h0 e1 hS hAX hf hL hF
    obtain ⟨t2, a1, b1⟩ := kx E ce q u t T'.heap (locs ++ L) e1.symm (by rw [← e2]; exact X'.warmed.alike) hp hb k1 k2 k3 (by rw [e1]; exact hce) hcv hcl T' rfl X'
    exact ⟨t2, st.trans a1, b1⟩
theorem vx_calld {S SX : Type} {post : UInt64 → S → Prop} {px : SX → Prop} {B : S → State → Prop} {BX : String → SX → State → Prop} {AX : Nat → Prop} (hr : vx_Run p l e R s m args below meth c H locs cells slots mc ms (F0 m pc ls st0) rest (va_Qd post B A1 a) (vx_X px BX AX) free) (hS : va_S A0 H0 H locs) (hA : ∀ q, q < H.size → A1 q → A0 q) (hf : ∀ q, free q → A0 q) (hAX : ∀ q, q < H.size → AX q → A0 q)
    (kx : ∀ (E : String) (ce : Cell) (q9 : Addr) (u : SX) (t : State) (H1 : Heap) (locs1 : List Loc), t.heap = H1 → s.vm.Alike t.vm → px u → BX E u t → H.size ≤ H1.size → (∀ q : Nat, q < H.size → ¬ AX q → H1[q]? = H[q]?) → va_S A0 H0 H1 locs1 → H1[q9]? = some ce → ce.vm = .none → s.vm.findClass E = some ce.cls → vx_W p l e R s m args below meth c H1 locs1 (cells + mc) (slots + ms) Q (F0 m pc ls rest) q9)
    (kk : ∀ (r : UInt64) (u : S) (t : State) (H1 : Heap) (locs1 : List Loc), t.heap = H1 → s.vm.Alike t.vm → post r u → B u t → H.size ≤ H1.size → (∀ q : Nat, q < H.size → ¬ A1 q → H1[q]? = H[q]?) → va_S A0 H0 H1 locs1 → W p l e R s m args below meth c H1 locs1 (cells + mc) (slots + ms) Q (F0 m (pc + 3) ls (.double r :: rest))) : W p l e R s m args below meth c H locs cells slots Q (F0 m pc ls st0) := by
  intro T hT X
  rcases hr T hT X with ⟨v, st₀, t, T', L, h0, X', hL, e1, e2, ⟨⟨r, u, hv, hp, hb⟩, hF⟩, st⟩ | ⟨q, st₀, t, T', L, E, ce, h0, X', hL, e1, e2, ⟨u, hp, hb, hF⟩, hce, hcv, hcl, st⟩
  · cases hv
    obtain ⟨k1, k2, k3⟩ := vx_keep h0 e1 hS hA hf hL hF
    obtain ⟨t2, a1, b1⟩ := kk r u t T'.heap (locs ++ L) e1.symm (by rw [← e2]; exact X'.warmed.alike) hp hb k1 k2 k3 T' rfl X'
    exact ⟨t2, st t2 a1, b1⟩
  · obtain ⟨k1, k2, k3⟩ := vx_keep h0 e1 hS hAX hf hL hF
    obtain ⟨t2, a1, b1⟩ := kx E ce q u t T'.heap (locs ++ L) e1.symm (by rw [← e2]; exact X'.warmed.alike) hp hb k1 k2 k3 (by rw [e1]; exact hce) hcv hcl T' rfl X'
    exact ⟨t2, st.trans a1, b1⟩
theorem vx_callv {S SX : Type} {post : S → Prop} {px : SX → Prop} {B : S → State → Prop} {BX : String → SX → State → Prop} {AX : Nat → Prop} (hr : vx_Run p l e R s m args below meth c H locs cells slots mc ms (F0 m pc ls st0) rest (va_Qv post B A1 a) (vx_X px BX AX) free) (hS : va_S A0 H0 H locs) (hA : ∀ q, q < H.size → A1 q → A0 q) (hf : ∀ q, free q → A0 q) (hAX : ∀ q, q < H.size → AX q → A0 q)
    (kx : ∀ (E : String) (ce : Cell) (q9 : Addr) (u : SX) (t : State) (H1 : Heap) (locs1 : List Loc), t.heap = H1 → s.vm.Alike t.vm → px u → BX E u t → H.size ≤ H1.size → (∀ q : Nat, q < H.size → ¬ AX q → H1[q]? = H[q]?) → va_S A0 H0 H1 locs1 → H1[q9]? = some ce → ce.vm = .none → s.vm.findClass E = some ce.cls → vx_W p l e R s m args below meth c H1 locs1 (cells + mc) (slots + ms) Q (F0 m pc ls rest) q9)
    (kk : ∀ (u : S) (t : State) (H1 : Heap) (locs1 : List Loc), t.heap = H1 → s.vm.Alike t.vm → post u → B u t → H.size ≤ H1.size → (∀ q : Nat, q < H.size → ¬ A1 q → H1[q]? = H[q]?) → va_S A0 H0 H1 locs1 → W p l e R s m args below meth c H1 locs1 (cells + mc) (slots + ms) Q (F0 m (pc + 3) ls (rest))) : W p l e R s m args below meth c H locs cells slots Q (F0 m pc ls st0) := by
  intro T hT X
  rcases hr T hT X with ⟨v, st₀, t, T', L, h0, X', hL, e1, e2, ⟨⟨u, hv, hp, hb⟩, hF⟩, st⟩ | ⟨q, st₀, t, T', L, E, ce, h0, X', hL, e1, e2, ⟨u, hp, hb, hF⟩, hce, hcv, hcl, st⟩
  · cases hv
    obtain ⟨k1, k2, k3⟩ := vx_keep h0 e1 hS hA hf hL hF
    obtain ⟨t2, a1, b1⟩ := kk u t T'.heap (locs ++ L) e1.symm (by rw [← e2]; exact X'.warmed.alike) hp hb k1 k2 k3 T' rfl X'
    exact ⟨t2, st t2 a1, b1⟩
  · obtain ⟨k1, k2, k3⟩ := vx_keep h0 e1 hS hAX hf hL hF
    obtain ⟨t2, a1, b1⟩ := kx E ce q u t T'.heap (locs ++ L) e1.symm (by rw [← e2]; exact X'.warmed.alike) hp hb k1 k2 k3 (by rw [e1]; exact hce) hcv hcl T' rfl X'
    exact ⟨t2, st.trans a1, b1⟩
/-- caught by the row x of this method's table; the rows ahead don't take it -/
theorem vx_catch {own name : String} {E : String} {ce : Cell} {q : Addr} (hown : s.vm.findClass own = some m.cls) (pre : List ExceptionTableEntry) (x : ExceptionTableEntry) (suf : List ExceptionTableEntry) (hsplit : c.exceptionTable.toList = pre ++ x :: suf)
    (hpass : ∀ z ∈ pre, covers z pc = false ∨ (z.catchType ≠ 0 ∧ ∃ nm : String, (Cond.classLink own z.catchType nm).before args s = true ∧ va_Nc E nm s)) (hx : covers x pc = true) (h0 : x.catchType ≠ 0)
    (hlink : (Cond.classLink own x.catchType name).before args s = true) (hcast : (Cond.castable E name).before args s = true) (hcell : H[q]? = some ce) (hv : ce.vm = .none) (hcl : s.vm.findClass E = some ce.cls)
    (kk : W p l e R s m args below meth c H locs cells slots Q (F0 m x.handlerPc ls [.ref q])) : vx_W p l e R s m args below meth c H locs cells slots Q (F0 m pc ls rest) q := by
  intro T hT X
  have hpl : e.platform.magicAccessors = ({} : Platform).magicAccessors := by rw [X.admits.platform]
  obtain ⟨c3, c4, hc3, hc4, hasg⟩ := Cond.castable_spec hcast
  cases Option.some.inj (hc3.symm.trans hcl)
  obtain ⟨c5, hc5, hcl5⟩ := Cond.classLink_spec hown hlink e.platform hpl
  cases Option.some.inj (hc4.symm.trans hc5)
  obtain ⟨vm', X', st⟩ := Jvm.Stand.thenCaughtThrough X q (g := F0 m pc ls rest) rfl (Steps.refl _) (by rw [hT]; exact hcell) (by rw [hv]; rfl) (by obtain ⟨k9, h9, -⟩ := Vm.findClass_spec hcl; exact ⟨k9, h9⟩) pre x suf hsplit
    (fun z hz => by
      rcases hpass z hz with h | ⟨hz0, nm, hl1, hn1⟩
      · exact Or.inl h
      · obtain ⟨c6, hc6, hcl6⟩ := Cond.classLink_spec hown hl1 e.platform hpl
        obtain ⟨a8, b8, h1, h2, h3⟩ := hn1
        cases Option.some.inj (h1.symm.trans hcl)
        cases Option.some.inj (h2.symm.trans hc6)
        exact Or.inr ⟨hz0, _, hcl6, h3⟩) hx (Or.inr ⟨h0, c4, hcl5, hasg⟩)
  obtain ⟨t, a1, b1⟩ := kk (T.setVm vm') hT X'
  exact ⟨t, st.trans a1, b1⟩
end Rows
section Ends
variable {p : Program} {l : Launch} {e : Env} {R : Room} {s : State} {m : MethodId} {args : Array Value} {below : List Frame} {meth : Method} {c : Code} {H : Heap} {locs : List Loc} {cells slots : Nat} {Q : State → Prop}
variable {mc ms : Nat} {free : Addr → Prop} {A0 A1 : Nat → Prop} {H0 : Heap} {a : Array Value} {ls : Array Slot} {st0 rest : List Value}
variable {Qc : Array Value → State → Outcome → State → Prop} {XC : String → State → State → Prop}
/-- what a body that may throw owes at its end -/
def vx_MQ (below : List Frame) (Qc : Array Value → State → Outcome → State → Prop) (XC : String → State → State → Prop) (a : Array Value) (s : State) (mc ms : Nat) (free : Addr → Prop) : State → Prop := fun t =>
  ∃ o, t.status = .running ∧ Ended t below o ∧ vx_Q Qc XC mc ms free a s o t
theorem vx_ret {g : JFrame} {mc ms : Nat} (k : W p l e R s m args below meth c H locs cells slots (MQ below Qc args s mc ms free) g) : W p l e R s m args below meth c H locs cells slots (vx_MQ below Qc XC args s mc ms free) g := by
  intro T hT X
  obtain ⟨t, a1, o, b1, b2, b3, b4⟩ := k T hT X
  exact ⟨t, a1, o, b1, b2, Or.inl ⟨b3, b4⟩⟩
/-- not caught here: it goes on to the caller -/
theorem vx_widen {g : JFrame} {q : Addr} {k n : Nat} (h1 : cells ≤ k) (h2 : slots ≤ n) (kk : vx_W p l e R s m args below meth c H locs k n Q g q) : vx_W p l e R s m args below meth c H locs cells slots Q g q := fun T hT X => kk T hT (stand_widen X h1 h2)
theorem vx_out {pc : Nat} {E : String} {ce : Cell} {q : Addr} {mc ms : Nat} (hout : ∀ x ∈ c.exceptionTable.toList, covers x pc = false) (hlocks : meth.locks = false) (hcell : H[q]? = some ce) (hv : ce.vm = .none) (hcl : s.vm.findClass E = some ce.cls)
    (hx : ∀ t : State, t.heap = H → s.vm.Alike t.vm → XC E s t) (hf : ∀ z ∈ locs, free z.base) (hc : cells ≤ mc) (hs : slots ≤ ms) :
    vx_W p l e R s m args below meth c H locs cells slots (vx_MQ below Qc XC args s mc ms free) (F0 m pc ls rest) q := by
  intro T hT X
  obtain ⟨st1, hrun, hend, hW, hsm⟩ := X.leaveThrown q (g := F0 m pc ls rest) rfl rfl rfl hout hlocks
  have hcell9 : (T.setFrames (.throwing q :: below)).heap[q]? = some ce := by
    show T.heap[q]? = some ce
    rw [hT]; exact hcell
  exact ⟨_, st1, .threw q, hrun, hend, Or.inr ⟨q, rfl, E, ce, locs, hx _ hT hW.alike, hcell9, hv, hcl, hW, hsm.mono hc hs, hf⟩⟩
theorem vx_frame {U : State} {k n : Nat} (h : s.sameButNew ({ U with vm := s.vm } : State) locs k n) : s.heap.size ≤ U.heap.size ∧ ∀ q : Nat, q < s.heap.size → (∀ z ∈ locs, z.base ≠ q) → U.heap[q]? = s.heap[q]? := by
  obtain ⟨-, h2, -, -, -, h6⟩ := h
  refine ⟨h2, fun q hq hz => ?_⟩
  obtain ⟨c9, e1, e2, e3, e4⟩ := h6 q _ (Array.getElem?_eq_getElem hq)
  have hs : c9.slots = (s.heap[q]).slots := Array.ext_getElem? fun i => e4 i fun hm => hz _ hm rfl
  have h9 : c9 = s.heap[q] := by
    rw [hs] at e2
    exact e2
  have e5 : U.heap[q]? = some c9 := e1
  rw [e5, h9, Array.getElem?_eq_getElem hq]
/-- the words of a throw but the four that speak of the heap -/
def vx_no (w : Cond) : Bool := decide (w ≠ .isRef (.static Bundle.tN "UNASSIGNED_STACK" Bundle.steD)) && decide (w ≠ .isRef (.static Bundle.tN "SUPPRESSED_SENTINEL" Bundle.listD)) && decide (w ≠ .laysStatic Bundle.tN "UNASSIGNED_STACK" Bundle.steD) && decide (w ≠ .laysStatic Bundle.tN "SUPPRESSED_SENTINEL" Bundle.listD)
def vx_at0 (own : String) (ic : Nat) (X : String) (names : List String) : List Cond := (Bundle.ownAtoms0 own ic X names).filter vx_no
def vx_atS (own : String) (ic : Nat) (X : String) (names : List String) : List Cond := (Bundle.ownAtoms own ic X names).filter vx_no
/-- a word that the tables alone decide, or a good one -/
def vx_ot (w : Cond) : Bool := w.onTables || goodWord w
theorem vx_ot_at {args a' : Array Value} {s U : State} {w : Cond} (hW : s.WarmedH U.vm) (hvm : s.vm = U.vm) (hg : vx_ot w = true) (h : w.before args s = true) : w.before a' U = true := by
  simp only [vx_ot, Bool.or_eq_true] at hg
  rcases hg with hg | hg
  · exact va_tabs hg hvm h
  · exact word_at hW (good_of_word hg) h
/-- a list's words: the good ones out of the method's own list, the others by premises of their own -/
theorem vx_hat {args : Array Value} {s : State} {L B : List Cond} (h1 : ∀ w ∈ L.filter goodWord, w.before args s = true) (h2 : ∀ w ∈ L.filter (fun w => !goodWord w), w ∈ B) (h3 : ∀ w ∈ B, w.before args s = true) : ∀ w ∈ L, w.before args s = true := by
  intro w hw
  by_cases g : goodWord w = true
  · exact h1 w (List.mem_filter.mpr ⟨hw, g⟩)
  · refine h3 w (h2 w (List.mem_filter.mpr ⟨hw, ?_⟩))
    show (!goodWord w) = true
    cases hgw : goodWord w
    · rfl
    · exact absurd hgw g
theorem vx_c {args : Array Value} {s : State} {w : Cond} {B : List Cond} (h : w.before args s = true) (t : ∀ w ∈ B, w.before args s = true) : ∀ w' ∈ w :: B, w'.before args s = true := fun w' h' => (List.mem_cons.mp h').elim (fun e => by rw [e]; exact h) (t w')
theorem vx_n {args : Array Value} {s : State} : ∀ w ∈ ([] : List Cond), w.before args s = true := fun _ h => nomatch h
theorem vx_own {args : Array Value} {s : State} {L : List Cond} (h1 : ∀ w ∈ L.filter vx_no, w.before args s = true)
    (hU : (Cond.isRef (.static Bundle.tN "UNASSIGNED_STACK" Bundle.steD)).before args s = true) (hN : (Cond.isRef (.static Bundle.tN "SUPPRESSED_SENTINEL" Bundle.listD)).before args s = true)
    (lU : (Cond.laysStatic Bundle.tN "UNASSIGNED_STACK" Bundle.steD).before args s = true) (lN : (Cond.laysStatic Bundle.tN "SUPPRESSED_SENTINEL" Bundle.listD).before args s = true) : ∀ w ∈ L, w.before args s = true := by
  intro w hw
  by_cases e1 : w = .isRef (.static Bundle.tN "UNASSIGNED_STACK" Bundle.steD)
  · rw [e1]; exact hU
  · by_cases e2 : w = .isRef (.static Bundle.tN "SUPPRESSED_SENTINEL" Bundle.listD)
    · rw [e2]; exact hN
    · by_cases e3 : w = .laysStatic Bundle.tN "UNASSIGNED_STACK" Bundle.steD
      · rw [e3]; exact lU
      · by_cases e4 : w = .laysStatic Bundle.tN "SUPPRESSED_SENTINEL" Bundle.listD
        · rw [e4]; exact lN
        · exact h1 w (List.mem_filter.mpr ⟨hw, by unfold vx_no; rw [decide_eq_true e1, decide_eq_true e2, decide_eq_true e3, decide_eq_true e4]; rfl⟩)
/-- where a static field lies, its class's statics cell in H -/
def vx_L (C n d : String) (A : Nat → Prop) (U : State) (H : Heap) : Prop := ∃ (c : ClassId) (k : Class) (i : Nat) (f : Field) (a : Nat) (cell : Cell), U.vm.findClass C = some c ∧ U.fieldFound? C n d = some (c, k, i, f) ∧ f.isStatic = true ∧ k.statics = some a ∧ H[a]? = some cell ∧ cell.vm.isStatics = true ∧ cell.cls = c ∧ f.slot < cell.slots.size ∧ k.staticTypes[f.slot]? = some f.type ∧ ¬ A a
theorem vx_L.moved {C n d : String} {A : Nat → Prop} {u U : State} {H : Heap} (hvm : u.vm.Alike U.vm) (h : vx_L C n d A u H) : vx_L C n d A U H := by
  obtain ⟨c, k, i, f, a, cell, h1, h2, h3, h4, h5, h6, h7, h8, h9, h10⟩ := h
  obtain ⟨k', hi', he⟩ := State.fieldFound?_setVm hvm h2
  exact ⟨c, k', i, f, a, cell, by rw [hvm.findClass]; exact h1, hi', h3, by rw [he]; exact h4, h5, h6, h7, h8, by rw [he]; exact h9, h10⟩
theorem vx_L.kept {C n d : String} {A : Nat → Prop} {U : State} {H H1 : Heap} (h : vx_L C n d A U H) (hq : ∀ a : Nat, a < H.size → ¬ A a → H1[a]? = H[a]?) : vx_L C n d A U H1 := by
  obtain ⟨c, k, i, f, a, cell, h1, h2, h3, h4, h5, h6, h7, h8, h9, h10⟩ := h
  exact ⟨c, k, i, f, a, cell, h1, h2, h3, h4, by rw [hq a (Array.getElem?_eq_some_iff.mp h5).1 h10]; exact h5, h6, h7, h8, h9, h10⟩
theorem vx_L.narrow {C n d : String} {A B : Nat → Prop} {U : State} {H : Heap} (h : vx_L C n d A U H) (hAB : ∀ q, B q → A q) : vx_L C n d B U H := by
  obtain ⟨c, k, i, f, a, cell, h1, h2, h3, h4, h5, h6, h7, h8, h9, h10⟩ := h
  exact ⟨c, k, i, f, a, cell, h1, h2, h3, h4, h5, h6, h7, h8, h9, fun z => h10 (hAB _ z)⟩
theorem vx_L.word {C n d : String} {A : Nat → Prop} {s : State} {args : Array Value} (h : vx_L C n d A s s.heap) : (Cond.laysStatic C n d).before args s = true := by
  obtain ⟨c, k, i, f, a, cell, h1, h2, h3, h4, h5, h6, h7, h8, h9, -⟩ := h
  show (Cond.laysStatic C n d).holds args s none s [] = true
  exact Cond.laysStatic_of h1 h2 h3 h4 h5 h6 h7 h8 h9
/-- .. and what it holds: null or some reference -/
def vx_Zq (C n d : String) (A : Nat → Prop) (U : State) (H : Heap) : Prop := va_Zq C n d A U H ∧ vx_L C n d A U H
theorem vx_Zq.moved {C n d : String} {A : Nat → Prop} {u U : State} {H : Heap} (hvm : u.vm.Alike U.vm) (h : vx_Zq C n d A u H) : vx_Zq C n d A U H := ⟨va_Zq.moved hvm h.1, vx_L.moved hvm h.2⟩
theorem vx_Zq.kept {C n d : String} {A : Nat → Prop} {U : State} {H H1 : Heap} (h : vx_Zq C n d A U H) (hq : ∀ a : Nat, a < H.size → ¬ A a → H1[a]? = H[a]?) : vx_Zq C n d A U H1 := ⟨va_Zq.kept h.1 hq, vx_L.kept h.2 hq⟩
theorem vx_Zq.narrow {C n d : String} {A B : Nat → Prop} {U : State} {H : Heap} (h : vx_Zq C n d A U H) (hAB : ∀ q, B q → A q) : vx_Zq C n d B U H := ⟨va_Zq.narrow h.1 hAB, vx_L.narrow h.2 hAB⟩
theorem vx_Zqof {args : Array Value} {s : State} {C n d : String} {A : Nat → Prop} (hl : (Cond.laysStatic C n d).before args s = true) (hini : (Cond.initialized C).before args s = true) (h : (Cond.isRef (.static C n d)).before args s = true) (hA : ∀ a : Nat, a < s.heap.size → ¬ A a) : vx_Zq C n d A s s.heap := by
  refine ⟨va_Zqof hl hini h hA, ?_⟩
  obtain ⟨c, k, i, f, a, cell, h1, h2, h3, h4, h5, h6, h7, h8, h9⟩ := Cond.laysStatic_spec hl
  exact ⟨c, k, i, f, a, cell, h1, h2, h3, h4, h5, h6, h7, h8, h9, hA a (Array.getElem?_eq_some_iff.mp h5).1⟩
theorem vx_isRef {C n d : String} {v : Value} {A : Nat → Prop} {s : State} {args : Array Value} (h : va_Z C n d v A s s.heap) (hv : v.isRef = true) : (Cond.isRef (.static C n d)).before args s = true := by
  obtain ⟨cf, kf, fi, f, a, cell, h1, h2, h3, h4, h5, h6, h7, -⟩ := h
  have he : (Term.static C n d).eval args s none [] s = some v := by
    simp [Term.eval, State.fieldNamed?, h1, h2, h4, h5, h6, h7]
  simp only [Cond.before, Cond.holds, Cond.value, he]
  cases v <;> simp_all [Value.isRef]
theorem vx_isRefq {C n d : String} {A : Nat → Prop} {s : State} {args : Array Value} (h : va_Zq C n d A s s.heap) : (Cond.isRef (.static C n d)).before args s = true := by
  rcases h with h | ⟨t, h⟩
  · exact vx_isRef h rfl
  · exact vx_isRef h rfl
/-- the same frame, seen from here: as if the method were called anew in this heap -/
theorem vx_rebase {T : State} (X : Stand p l e R s m args below meth c T locs cells slots) {R' : Room} (hf : R'.frames ≤ R.frames) (hl : R'.locals ≤ R.locals) (hc : cells + R'.cells ≤ R.cells) (hs : slots + R'.slots ≤ R.slots) :
    Stand p l e R' ((T.setVm s.vm).setFrames (.invoking m args :: below)) m args below meth c T [] 0 0 := by
  have htop : (T.setVm s.vm).topJava?.isSome := X.here.top
  have hF : ((T.setVm s.vm).setFrames (.invoking m args :: below)).frames = .invoking m args :: below := State.frames_setFrames _ (State.cur_lt_of_top htop)
  obtain ⟨g₀, hg0⟩ := Option.isSome_iff_exists.mp htop
  obtain ⟨r, hr⟩ := State.topJava?_eq_some.mp hg0
  have hl9 : e.platform.stackLimits (T.setVm s.vm).me = e.platform.stackLimits s.me := X.limits
  have hb9 : (T.setVm s.vm).me.stackBytes = s.me.stackBytes := X.bytes
  refine ⟨X.admits, X.cas, X.clock, hF, ?_, X.hears, X.method, X.code, X.here, X.tail, X.warmed, ?_, ?_, ?_⟩
  · have h := X.room
    have hU : ((T.setVm s.vm).setFrames (.invoking m args :: below)).localsInUse = s.localsInUse := by
      rw [State.localsInUse_invoking hF (meth := meth) (c := c) X.method X.code, State.localsInUse_invoking X.frames X.method X.code]
    simp only [State.hasRoom, Bool.and_eq_true, decide_eq_true_eq] at h ⊢
    obtain ⟨⟨⟨⟨h1, h2, h3, h4, h5, h6⟩, h7⟩, h8⟩, h9⟩ := h
    rw [X.frames, List.length_cons] at h2 h3
    have q1 := X.heapSize
    have q2 := X.used
    simp only [hF, hU, List.length_cons, State.stackLimits_setFrames, State.stackBytes_setFrames, hl9, hb9]
    refine ⟨⟨⟨⟨by omega, by omega, by omega, by omega, by omega, h6⟩, ?_⟩, ?_⟩, X.book⟩
    · show T.heap.size + R'.cells ≤ e.platform.maxCells
      omega
    · show T.slotsUsed + R'.slots ≤ e.platform.maxSlots
      omega
  · rw [State.stackLimits_setFrames]; rfl
  · rw [State.stackBytes_setFrames]; rfl
  · refine ⟨?_, Nat.le_refl _, Nat.le_refl _, ?_, ?_, fun a c9 h9 => ⟨c9, h9, rfl, rfl, fun _ _ => rfl⟩⟩
    · obtain ⟨t, ht, -⟩ := State.frames_cons hr
      show T.setVm s.vm = { ((T.setVm s.vm).setFrames (.invoking m args :: below)).setFrames (T.setVm s.vm).frames with heap := T.heap, slotsUsed := T.slotsUsed }
      rw [State.setFrames_setFrames, State.setFrames_self ht]
      rfl
    · show T.slotsUsed = T.slotsUsed + ((T.heap.toList.drop T.heap.size).map (·.slots.size)).sum
      rw [List.drop_eq_nil_of_le (Nat.le_of_eq Array.length_toList)]
      rfl
    · show ((T.heap.toList.drop T.heap.size).map (·.slots.size)).sum ≤ 0
      rw [List.drop_eq_nil_of_le (Nat.le_of_eq Array.length_toList)]
      exact Nat.le_refl _
/-- 'throw new E()': new; dup; invokespecial; athrow -/
theorem vx_throw0 {cc : ByteArray} {pc : Nat} (hexec : p.tables.exec = Jvm.exec) (hb : c.code = cc) (hl : l.stackTraces = false) {own cls : String} {names : List String} {ik ic mc ms : Nat} {A : Nat → Prop}
    (hown : s.vm.findClass own = some m.cls) (hcls : Bundle.fit cls = true) (hnames : ∀ n ∈ names, Bundle.fit n = true)
    (hk : (Cond.classLink own ik cls).before args s = true) (hini : (Cond.initialized cls).before args s = true) (hat : ∀ w ∈ vx_at0 own ic cls names, w.before args s = true)
    (hgood : ∀ w ∈ Cond.classLink own ik cls :: Cond.initialized cls :: vx_at0 own ic cls names, vx_ot w = true)
    (hU : vx_Zq Bundle.tN "UNASSIGNED_STACK" Bundle.steD A s s.heap) (hN : vx_Zq Bundle.tN "SUPPRESSED_SENTINEL" Bundle.listD A s s.heap) (hS : va_S A s.heap H locs) (hsize : ls.size = c.maxLocals)
    (d0 : decode cc pc = .ok (.new ik, 3)) (d3 : decode cc (pc + 3) = .ok (.dup, 1)) (d4 : decode cc (pc + 4) = .ok (.invokespecial ic, 3)) (d7 : decode cc (pc + 7) = .ok (.athrow, 1))
    (hout : ∀ x ∈ c.exceptionTable.toList, covers x (pc + 7) = false)
    (hRframes : names.length + 3 < R.frames) (hRlocals : (rest.map fun v => v.category).sum + (13 * (names.length + 1) + 42) ≤ R.locals) (hRcells : cells + 1 ≤ R.cells) (hRslots : slots + 6 ≤ R.slots) (hlocks : meth.locks = false)
    (hx : ∀ t : State, s.vm.Alike t.vm → H.size ≤ t.heap.size → (∀ q : Nat, q < H.size → t.heap[q]? = H[q]?) → XC cls s t)
    (hf : ∀ z ∈ locs, free z.base) (hc : cells + 1 ≤ mc) (hs : slots + 6 ≤ ms) :
    W p l e R s m args below meth c H locs cells slots (vx_MQ below Qc XC args s mc ms free) (F0 m pc ls rest) := by
  intro T hT X
  have htr : e.platform.stackTraces = false := (show e.platform.stackTraces = l.stackTraces by rw [X.admits.platform]).trans hl
  have Y := vx_rebase X (R' := { frames := R.frames, locals := R.locals, cells := 1, slots := 6 }) (Nat.le_refl _) (Nat.le_refl _) hRcells hRslots
  obtain ⟨s', hA⟩ : ∃ z, z = (T.setVm s.vm).setFrames (.invoking m args :: below) := ⟨_, rfl⟩
  rw [← hA] at Y
  have hvm : s'.vm = s.vm := by rw [hA]; rfl
  have hhp : s'.heap = H := by rw [hA]; exact hT
  have hW0 : s.WarmedH s'.vm := by rw [hvm]; exact State.WarmedH.refl s
  have hat' : ∀ w ∈ vx_at0 own ic cls names, w.before args s' = true := fun w hw => vx_ot_at hW0 hvm.symm (hgood w (List.mem_cons_of_mem _ (List.mem_cons_of_mem _ hw))) (hat w hw)
  have hk' : (Cond.classLink own ik cls).before args s' = true := vx_ot_at hW0 hvm.symm (hgood _ List.mem_cons_self) hk
  have hini' : (Cond.initialized cls).before args s' = true := vx_ot_at hW0 hvm.symm (hgood _ (List.mem_cons_of_mem _ List.mem_cons_self)) hini
  have hU' : vx_Zq Bundle.tN "UNASSIGNED_STACK" Bundle.steD A s' s'.heap := by rw [hhp]; exact vx_Zq.moved hW0.alike (hU.kept hS.2.1)
  have hN' : vx_Zq Bundle.tN "SUPPRESSED_SENTINEL" Bundle.listD A s' s'.heap := by rw [hhp]; exact vx_Zq.moved hW0.alike (hN.kept hS.2.1)
  have h : ∀ w ∈ Bundle.ownAtoms0 own ic cls names, w.before args s' = true := vx_own hat' (vx_isRefq hU'.1) (vx_isRefq hN'.1) hU'.2.word hN'.2.word
  have hown' : s'.vm.findClass own = some m.cls := by rw [hvm]; exact hown
  have hins : (Cond.instantiable cls 6).before args s' = true := h _ (by simp [Bundle.ownAtoms0])
  obtain ⟨vm₁, cX, kX, hfX, hkX, -, -, X₁, st1⟩ := Y.newCold hexec (own := own) (C := cls) (index := ik) (n := 6) hown' hk' hins hini'
    (g := F0 m pc ls rest) rfl (by rw [hb]; exact d0) (Nat.le_refl _) (Nat.le_refl _)
  generalize hT1 : (T.setVm vm₁).pushCell { cls := cX, slots := kX.instanceTypes.map defaultValue, vm := .none } = T1 at X₁ st1
  have hcat : (Value.ref T.heap.size).category = 1 := rfl
  have hcellA : T1.heap[T.heap.size]? = some (freshCell cX kX) := by rw [← hT1]; exact State.heap_pushCell_size _ _
  have d3' : decode c.code (pc + 3) = .ok (.dup, 1) := by rw [hb]; exact d3
  obtain ⟨U, hsteps, hrun, hend, hW, hsame, ce, hce, hO⟩ := X₁.ctorThrow0 hexec htr (own := own) (cls := cls) (names := names) (ic := ic) hown' hcls hnames h (fun x hx => nomatch hx) hfX hkX hcellA (by rw [hhp, hT]; exact Nat.le_refl _)
    (g := { method := m, pc := pc + 4, locals := ls, stack := .ref T.heap.size :: .ref T.heap.size :: rest, locked := none }) rfl hsize rfl rfl (rest := rest) rfl
    (by rw [hb]; exact d4) (by rw [hb]; exact d7) hout hRframes (by simp only [List.map_cons, List.sum_cons, hcat]; omega) hlocks
  obtain ⟨f1, f2⟩ := vx_frame hsame
  rw [hhp] at f1 f2
  have hWs : s.WarmedH U.vm := State.WarmedH.trans hW0 hW
  have hcl : s.vm.findClass cls = some ce.cls := by
    have h9 := hO.cls
    rw [hvm] at h9
    exact h9
  have hall : s.sameButNew ({ U with vm := s.vm } : State) locs mc ms := by
    subst hA
    obtain ⟨e1, e2⟩ := hsame
    rw [State.setFrames_setFrames] at e1
    have h2 : (T.setVm s.vm).sameButNew ({ U with vm := s.vm } : State) [] (0 + 1) (0 + 6) := ⟨e1, e2⟩
    have h3 := X.same.trans h2
    rw [List.append_nil] at h3
    exact h3.mono hc hs
  refine ⟨U, ?_, .threw T.heap.size, hrun, hend, Or.inr ⟨T.heap.size, rfl, cls, ce, locs, hx U hWs.alike f1 (fun q hq => f2 q hq (fun z hz => nomatch hz)), hce, hO.vm, hcl, hWs, hall, hf⟩⟩
  refine st1 _ ?_
  show Steps p.tables e below (T1.setTop { method := m, pc := pc + 3, locals := ls, stack := .ref T.heap.size :: rest, locked := none }) _
  jvm_step X₁.here [X₁.here.top, hexec, d3', Value.category]
  exact hsteps
/-- 'throw new E("text")': new; dup; ldc; invokespecial; athrow -/
theorem vx_throwS {cc : ByteArray} {pc : Nat} (hexec : p.tables.exec = Jvm.exec) (hb : c.code = cc) (hl : l.stackTraces = false) {own cls text : String} {names : List String} {ik is ic mc ms sa : Nat} {A : Nat → Prop}
    (hown : s.vm.findClass own = some m.cls) (hcls : Bundle.fit cls = true) (hnames : ∀ n ∈ names, Bundle.fit n = true)
    (hk : (Cond.classLink own ik cls).before args s = true) (hini : (Cond.initialized cls).before args s = true) (hstr : vk_R own is text sa s) (hat : ∀ w ∈ vx_atS own ic cls names, w.before args s = true)
    (hgood : ∀ w ∈ Cond.classLink own ik cls :: Cond.initialized cls :: vx_atS own ic cls names, vx_ot w = true)
    (hU : vx_Zq Bundle.tN "UNASSIGNED_STACK" Bundle.steD A s s.heap) (hN : vx_Zq Bundle.tN "SUPPRESSED_SENTINEL" Bundle.listD A s s.heap) (hS : va_S A s.heap H locs) (hsize : ls.size = c.maxLocals)
    (d0 : decode cc pc = .ok (.new ik, 3)) (d3 : decode cc (pc + 3) = .ok (.dup, 1)) (d4 : decode cc (pc + 4) = .ok (.ldc is, 2)) (d6 : decode cc (pc + 6) = .ok (.invokespecial ic, 3)) (d9 : decode cc (pc + 9) = .ok (.athrow, 1))
    (hout : ∀ x ∈ c.exceptionTable.toList, covers x (pc + 9) = false)
    (hRframes : names.length + 3 < R.frames) (hRlocals : (rest.map fun v => v.category).sum + (13 * (names.length + 1) + 43) ≤ R.locals) (hRcells : cells + 1 ≤ R.cells) (hRslots : slots + 6 ≤ R.slots) (hlocks : meth.locks = false)
    (hx : ∀ t : State, s.vm.Alike t.vm → t.heap.size = H.size + 1 → (∀ q : Nat, q < H.size → t.heap[q]? = H[q]?) → XC cls s t)
    (hf : ∀ z ∈ locs, free z.base) (hc : cells + 1 ≤ mc) (hs : slots + 6 ≤ ms) :
    W p l e R s m args below meth c H locs cells slots (vx_MQ below Qc XC args s mc ms free) (F0 m pc ls rest) := by
  intro T hT X
  have htr : e.platform.stackTraces = false := (show e.platform.stackTraces = l.stackTraces by rw [X.admits.platform]).trans hl
  have Y := vx_rebase X (R' := { frames := R.frames, locals := R.locals, cells := 1, slots := 6 }) (Nat.le_refl _) (Nat.le_refl _) hRcells hRslots
  obtain ⟨s', hA⟩ : ∃ z, z = (T.setVm s.vm).setFrames (.invoking m args :: below) := ⟨_, rfl⟩
  rw [← hA] at Y
  have hvm : s'.vm = s.vm := by rw [hA]; rfl
  have hhp : s'.heap = H := by rw [hA]; exact hT
  have hW0 : s.WarmedH s'.vm := by rw [hvm]; exact State.WarmedH.refl s
  have hat' : ∀ w ∈ vx_atS own ic cls names, w.before args s' = true := fun w hw => vx_ot_at hW0 hvm.symm (hgood w (List.mem_cons_of_mem _ (List.mem_cons_of_mem _ hw))) (hat w hw)
  have hk' : (Cond.classLink own ik cls).before args s' = true := vx_ot_at hW0 hvm.symm (hgood _ List.mem_cons_self) hk
  have hini' : (Cond.initialized cls).before args s' = true := vx_ot_at hW0 hvm.symm (hgood _ (List.mem_cons_of_mem _ List.mem_cons_self)) hini
  have hU' : vx_Zq Bundle.tN "UNASSIGNED_STACK" Bundle.steD A s' s'.heap := by rw [hhp]; exact vx_Zq.moved hW0.alike (hU.kept hS.2.1)
  have hN' : vx_Zq Bundle.tN "SUPPRESSED_SENTINEL" Bundle.listD A s' s'.heap := by rw [hhp]; exact vx_Zq.moved hW0.alike (hN.kept hS.2.1)
  have h : ∀ w ∈ Bundle.ownAtoms own ic cls names, w.before args s' = true := vx_own hat' (vx_isRefq hU'.1) (vx_isRefq hN'.1) hU'.2.word hN'.2.word
  have hown' : s'.vm.findClass own = some m.cls := by rw [hvm]; exact hown
  have hins : (Cond.instantiable cls 6).before args s' = true := h _ (by simp [Bundle.ownAtoms])
  obtain ⟨vm₁, cX, kX, hfX, hkX, -, -, X₁, st1⟩ := Y.newCold hexec (own := own) (C := cls) (index := ik) (n := 6) hown' hk' hins hini'
    (g := F0 m pc ls rest) rfl (by rw [hb]; exact d0) (Nat.le_refl _) (Nat.le_refl _)
  generalize hT1 : (T.setVm vm₁).pushCell { cls := cX, slots := kX.instanceTypes.map defaultValue, vm := .none } = T1 at X₁ st1
  have hcat : (Value.ref T.heap.size).category = 1 := rfl
  have hcellA : T1.heap[T.heap.size]? = some (freshCell cX kX) := by rw [← hT1]; exact State.heap_pushCell_size _ _
  have d3' : decode c.code (pc + 3) = .ok (.dup, 1) := by rw [hb]; exact d3
  have d4' : decode c.code (pc + 4) = .ok (.ldc is, 2) := by rw [hb]; exact d4
  have hstr' : vk_R own is text sa s' := vk_R.warm hW0 hstr
  obtain ⟨U, hsteps, hrun, hend, hW, hsame, ce, hce, hO⟩ := X₁.ctorThrowS hexec htr (own := own) (cls := cls) (names := names) (ic := ic) hown' hcls hnames h (fun x hx => nomatch hx) hfX hkX hcellA (by rw [hhp, hT]; exact Nat.le_refl _) (msg := .ref sa) rfl
    (g := { method := m, pc := pc + 6, locals := ls, stack := .ref sa :: .ref T.heap.size :: .ref T.heap.size :: rest, locked := none }) rfl hsize rfl rfl (rest := rest) rfl
    (by rw [hb]; exact d6) (by rw [hb]; exact d9) hout hRframes (by simp only [List.map_cons, List.sum_cons, hcat]; omega) hlocks
  obtain ⟨f1, f2⟩ := vx_frame hsame
  rw [hhp] at f1 f2
  have f1x : U.heap.size = H.size + 1 := by
    have q3 : U.heap.size ≤ s'.heap.size + (0 + 1) := hsame.2.2.1
    have q4 : T.heap.size < U.heap.size := (Array.getElem?_eq_some_iff.mp hce).1
    rw [hhp] at q3
    rw [hT] at q4
    omega
  have hWs : s.WarmedH U.vm := State.WarmedH.trans hW0 hW
  have hcl : s.vm.findClass cls = some ce.cls := by
    have h9 := hO.cls
    rw [hvm] at h9
    exact h9
  have hall : s.sameButNew ({ U with vm := s.vm } : State) locs mc ms := by
    subst hA
    obtain ⟨e1, e2⟩ := hsame
    rw [State.setFrames_setFrames] at e1
    have h2 : (T.setVm s.vm).sameButNew ({ U with vm := s.vm } : State) [] (0 + 1) (0 + 6) := ⟨e1, e2⟩
    have h3 := X.same.trans h2
    rw [List.append_nil] at h3
    exact h3.mono hc hs
  refine ⟨U, ?_, .threw T.heap.size, hrun, hend, Or.inr ⟨T.heap.size, rfl, cls, ce, locs, hx U hWs.alike f1x (fun q hq => f2 q hq (fun z hz => nomatch hz)), hce, hO.vm, hcl, hWs, hall, hf⟩⟩
  refine st1 _ ?_
  show Steps p.tables e below (T1.setTop { method := m, pc := pc + 3, locals := ls, stack := .ref T.heap.size :: rest, locked := none }) _
  jvm_step X₁.here [X₁.here.top, hexec, d3', Value.category]
  exact X₁.ldcString hexec (own := own) (text := text) (index := is) (a := sa) hown' hstr'.1 hstr'.2
    (g := { method := m, pc := pc + 4, locals := ls, stack := .ref T.heap.size :: .ref T.heap.size :: rest, locked := none }) rfl d4' _ hsteps
/-- 'throw new E("text")', the text by a wide index -/
theorem vx_throwSW {cc : ByteArray} {pc : Nat} (hexec : p.tables.exec = Jvm.exec) (hb : c.code = cc) (hl : l.stackTraces = false) {own cls text : String} {names : List String} {ik is ic mc ms sa : Nat} {A : Nat → Prop}
    (hown : s.vm.findClass own = some m.cls) (hcls : Bundle.fit cls = true) (hnames : ∀ n ∈ names, Bundle.fit n = true)
    (hk : (Cond.classLink own ik cls).before args s = true) (hini : (Cond.initialized cls).before args s = true) (hstr : vk_R own is text sa s) (hat : ∀ w ∈ vx_atS own ic cls names, w.before args s = true)
    (hgood : ∀ w ∈ Cond.classLink own ik cls :: Cond.initialized cls :: vx_atS own ic cls names, vx_ot w = true)
    (hU : vx_Zq Bundle.tN "UNASSIGNED_STACK" Bundle.steD A s s.heap) (hN : vx_Zq Bundle.tN "SUPPRESSED_SENTINEL" Bundle.listD A s s.heap) (hS : va_S A s.heap H locs) (hsize : ls.size = c.maxLocals)
    (d0 : decode cc pc = .ok (.new ik, 3)) (d3 : decode cc (pc + 3) = .ok (.dup, 1)) (d4 : decode cc (pc + 4) = .ok (.ldc_w is, 3)) (d7 : decode cc (pc + 7) = .ok (.invokespecial ic, 3)) (d10 : decode cc (pc + 10) = .ok (.athrow, 1))
    (hout : ∀ x ∈ c.exceptionTable.toList, covers x (pc + 10) = false)
    (hRframes : names.length + 3 < R.frames) (hRlocals : (rest.map fun v => v.category).sum + (13 * (names.length + 1) + 43) ≤ R.locals) (hRcells : cells + 1 ≤ R.cells) (hRslots : slots + 6 ≤ R.slots) (hlocks : meth.locks = false)
    (hx : ∀ t : State, s.vm.Alike t.vm → H.size ≤ t.heap.size → (∀ q : Nat, q < H.size → t.heap[q]? = H[q]?) → XC cls s t)
    (hf : ∀ z ∈ locs, free z.base) (hc : cells + 1 ≤ mc) (hs : slots + 6 ≤ ms) :
    W p l e R s m args below meth c H locs cells slots (vx_MQ below Qc XC args s mc ms free) (F0 m pc ls rest) := by
  intro T hT X
  have htr : e.platform.stackTraces = false := (show e.platform.stackTraces = l.stackTraces by rw [X.admits.platform]).trans hl
  have Y := vx_rebase X (R' := { frames := R.frames, locals := R.locals, cells := 1, slots := 6 }) (Nat.le_refl _) (Nat.le_refl _) hRcells hRslots
  obtain ⟨s', hA⟩ : ∃ z, z = (T.setVm s.vm).setFrames (.invoking m args :: below) := ⟨_, rfl⟩
  rw [← hA] at Y
  have hvm : s'.vm = s.vm := by rw [hA]; rfl
  have hhp : s'.heap = H := by rw [hA]; exact hT
  have hW0 : s.WarmedH s'.vm := by rw [hvm]; exact State.WarmedH.refl s
  have hat' : ∀ w ∈ vx_atS own ic cls names, w.before args s' = true := fun w hw => vx_ot_at hW0 hvm.symm (hgood w (List.mem_cons_of_mem _ (List.mem_cons_of_mem _ hw))) (hat w hw)
  have hk' : (Cond.classLink own ik cls).before args s' = true := vx_ot_at hW0 hvm.symm (hgood _ List.mem_cons_self) hk
  have hini' : (Cond.initialized cls).before args s' = true := vx_ot_at hW0 hvm.symm (hgood _ (List.mem_cons_of_mem _ List.mem_cons_self)) hini
  have hU' : vx_Zq Bundle.tN "UNASSIGNED_STACK" Bundle.steD A s' s'.heap := by rw [hhp]; exact vx_Zq.moved hW0.alike (hU.kept hS.2.1)
  have hN' : vx_Zq Bundle.tN "SUPPRESSED_SENTINEL" Bundle.listD A s' s'.heap := by rw [hhp]; exact vx_Zq.moved hW0.alike (hN.kept hS.2.1)
  have h : ∀ w ∈ Bundle.ownAtoms own ic cls names, w.before args s' = true := vx_own hat' (vx_isRefq hU'.1) (vx_isRefq hN'.1) hU'.2.word hN'.2.word
  have hown' : s'.vm.findClass own = some m.cls := by rw [hvm]; exact hown
  have hins : (Cond.instantiable cls 6).before args s' = true := h _ (by simp [Bundle.ownAtoms])
  obtain ⟨vm₁, cX, kX, hfX, hkX, -, -, X₁, st1⟩ := Y.newCold hexec (own := own) (C := cls) (index := ik) (n := 6) hown' hk' hins hini'
    (g := F0 m pc ls rest) rfl (by rw [hb]; exact d0) (Nat.le_refl _) (Nat.le_refl _)
  generalize hT1 : (T.setVm vm₁).pushCell { cls := cX, slots := kX.instanceTypes.map defaultValue, vm := .none } = T1 at X₁ st1
  have hcat : (Value.ref T.heap.size).category = 1 := rfl
  have hcellA : T1.heap[T.heap.size]? = some (freshCell cX kX) := by rw [← hT1]; exact State.heap_pushCell_size _ _
  have d3' : decode c.code (pc + 3) = .ok (.dup, 1) := by rw [hb]; exact d3
  have d4' : decode c.code (pc + 4) = .ok (.ldc_w is, 3) := by rw [hb]; exact d4
  have hstr' : vk_R own is text sa s' := vk_R.warm hW0 hstr
  obtain ⟨U, hsteps, hrun, hend, hW, hsame, ce, hce, hO⟩ := X₁.ctorThrowS hexec htr (own := own) (cls := cls) (names := names) (ic := ic) hown' hcls hnames h (fun x hx => nomatch hx) hfX hkX hcellA (by rw [hhp, hT]; exact Nat.le_refl _) (msg := .ref sa) rfl
    (g := { method := m, pc := pc + 7, locals := ls, stack := .ref sa :: .ref T.heap.size :: .ref T.heap.size :: rest, locked := none }) rfl hsize rfl rfl (rest := rest) rfl
    (by rw [hb]; exact d7) (by rw [hb]; exact d10) hout hRframes (by simp only [List.map_cons, List.sum_cons, hcat]; omega) hlocks
  obtain ⟨f1, f2⟩ := vx_frame hsame
  rw [hhp] at f1 f2
  have hWs : s.WarmedH U.vm := State.WarmedH.trans hW0 hW
  have hcl : s.vm.findClass cls = some ce.cls := by
    have h9 := hO.cls
    rw [hvm] at h9
    exact h9
  have hall : s.sameButNew ({ U with vm := s.vm } : State) locs mc ms := by
    subst hA
    obtain ⟨e1, e2⟩ := hsame
    rw [State.setFrames_setFrames] at e1
    have h2 : (T.setVm s.vm).sameButNew ({ U with vm := s.vm } : State) [] (0 + 1) (0 + 6) := ⟨e1, e2⟩
    have h3 := X.same.trans h2
    rw [List.append_nil] at h3
    exact h3.mono hc hs
  refine ⟨U, ?_, .threw T.heap.size, hrun, hend, Or.inr ⟨T.heap.size, rfl, cls, ce, locs, hx U hWs.alike f1 (fun q hq => f2 q hq (fun z hz => nomatch hz)), hce, hO.vm, hcl, hWs, hall, hf⟩⟩
  refine st1 _ ?_
  show Steps p.tables e below (T1.setTop { method := m, pc := pc + 3, locals := ls, stack := .ref T.heap.size :: rest, locked := none }) _
  jvm_step X₁.here [X₁.here.top, hexec, d3', Value.category]
  exact X₁.ldcStringW hexec (own := own) (text := text) (index := is) (a := sa) hown' hstr'.1 hstr'.2
    (g := { method := m, pc := pc + 4, locals := ls, stack := .ref T.heap.size :: .ref T.heap.size :: rest, locked := none }) rfl d4' _ hsteps
end Ends
section Bodies
variable {l : Launch}
theorem vx_ofW {y : MethodName} {ws ws' : List Cond} {rm : Room} {Pc : Array Value → State → Prop} {Qc : Array Value → State → Outcome → State → Prop} {XC : String → State → State → Prop} {mc ms : Nat} {free : Addr → Prop} {cc : ByteArray} {maxL : Nat} {ret : Option FieldType}
    (hy : plainName y.cls = true) (hw : ws = Cond.code y cc maxL ret :: ws')
    (body : ∀ p e s m args below meth c s₁, BodyLoose p l y (headSpec ws rm) cc maxL ret e s m args below meth c s₁ → c.maxLocals = maxL → (∀ x ∈ c.exceptionTable.toList, False) → Pc args s →
      W p l e (headSpec ws rm).room s m args below meth c s.heap [] 0 0 (vx_MQ below Qc XC args s mc ms free) (entryFrame m args maxL)) : vx_Met l y ws rm Pc Qc XC mc ms free := by
  refine MetFree.of_bodyS (code := cc) (maxLocals := maxL) (ret := ret) hy ?_ ?_
  · intro args s m h hn
    obtain ⟨meth, c, h1, h2, h3, h4, h5, h6, -, -⟩ := Cond.code_spec hn (atoms_spec (ws := ws) h _ (by rw [hw]; exact List.mem_cons_self))
    exact ⟨meth, c, h1, h2, h3, h4, h5, h6⟩
  · intro p e s m args below meth c s₁ B hml hP _
    have hh0 : s₁.heap = s.heap := by rw [B.state]; rfl
    have ht : ∀ x ∈ c.exceptionTable.toList, False := by
      obtain ⟨meth9, c9, h1, h2, -, -, -, -, h7, -⟩ := Cond.code_spec B.named (atoms_spec (ws := ws) B.pre _ (by rw [hw]; exact List.mem_cons_self))
      cases Option.some.inj (h1.symm.trans B.method)
      cases Option.some.inj (h2.symm.trans (Stand.of_body B).code)
      intro x hx
      rw [Array.isEmpty_iff.mp h7] at hx
      cases hx
    obtain ⟨t, a1, o, b1, b2, b3⟩ := body p e s m args below meth c s₁ B hml ht hP s₁ hh0 (Stand.of_body B)
    exact ⟨t, o, a1, b1, b2, b3⟩
/-- the table of a body with handlers -/
theorem vx_table {p : Program} {x y : MethodName} {S : Spec} {cc bytes : ByteArray} {maxL maxL' : Nat} {ret ret' : Option FieldType} {e : Env} {s s₁ : State} {m : MethodId} {args : Array Value} {below : List Frame} {meth : Method} {c : Code} {hh : List (Nat × Nat × Nat × Nat)}
    (B : BodyLoose p l y S cc maxL ret e s m args below meth c s₁) (h : (Cond.codeWith y bytes maxL' ret' hh).before args s = true) : c.exceptionTable.toList = tableOf hh := by
  obtain ⟨m9, meth9, c9, hn9, h1, h2, -, -, h6, -⟩ := Cond.codeWith_spec h
  cases Option.some.inj (hn9.symm.trans B.named)
  cases Option.some.inj (h1.symm.trans B.method)
  cases Option.some.inj (h2.symm.trans (Stand.of_body B).code)
  rw [← h6, table_eq]
end Bodies
end VXA
/-! ===== END ===== -/
/-! ===== BEGIN a static call of a method with an exception table ===== -/
section VXS
variable {p : Program} {l : Launch} {e : Env} {R : Room} {s : State} {m : MethodId} {args : Array Value} {below : List Frame} {meth : Method} {c : Code} {T : State} {H : Heap} {locs : List Loc} {cells slots : Nat}
abbrev vx_CSW (R : Room) (s : State) (args : Array Value) (own : String) (index : Nat) (y : MethodName) (bytes : ByteArray) (maxL : Nat) (ret : Option FieldType) (hh : List (Nat × Nat × Nat × Nat)) (ws : List Cond) (rm : Room) (mc ms n : Nat) : Prop :=
  (rm.cells = mc ∧ rm.slots = ms ∧ rm.frames + 1 ≤ R.frames ∧ 8 + (maxL + 11) + rm.locals ≤ R.locals ∧ (∀ w ∈ ws, ∀ (a' : Array Value) (U : State), s.WarmedH U.vm → w.before a' U = true) ∧ Cond.codeWith y bytes maxL ret hh ∈ ws) ∧
  (Cond.codeWith y bytes maxL ret hh).before args s = true ∧ (Cond.initialized y.cls).before args s = true ∧ (y.cls ≠ "java/lang/invoke/MethodHandle" ∧ y.cls ≠ "java/lang/invoke/VarHandle") ∧
  (∀ sig, parseMethodDescriptor y.desc = some sig → n = sig.parameters.length) ∧ (Cond.methodLink own index y).before args s = true ∧ (Cond.static y).before args s = true
theorem vx_cwSW {own : String} {index maxL mc ms : Nat} {y : MethodName} {bytes : ByteArray} {ret : Option FieldType} {hh : List (Nat × Nat × Nat × Nat)} {Ts ws ws' : List Cond} {rm : Room} (n : Nat) (ht : ∀ w ∈ Ts, w.before args s = true) (hT : GoodIn Ts (va_wsS own index y ws)) (hw : ws = Cond.codeWith y bytes maxL ret hh :: ws') (hrc : rm.cells = mc) (hrs : rm.slots = ms)
    (hd : y.cls ≠ "java/lang/invoke/MethodHandle" ∧ y.cls ≠ "java/lang/invoke/VarHandle" ∧ (parseMethodDescriptor y.desc).map (fun d => d.parameters.length) = some n) (hR : rm.frames + 1 ≤ R.frames ∧ 8 + (maxL + 11) + rm.locals ≤ R.locals) :
    vx_CSW R s args own index y bytes maxL ret hh ws rm mc ms n := by
  have ok : ∀ w ∈ va_wsS own index y ws, w.before args s = true := fun w h => ht w (hT w h).1
  have hG : GoodIn Ts ws := fun w h => hT w (by unfold va_wsS; exact List.mem_append_right _ h)
  have hc : Cond.codeWith y bytes maxL ret hh ∈ ws := by rw [hw]; exact List.mem_cons_self
  refine ⟨⟨hrc, hrs, hR.1, hR.2, pay_in ht hG, hc⟩, ht _ (hG _ hc).1, ok _ (by simp [va_wsS]), ⟨hd.1, hd.2.1⟩, fun sig h => ?_, ok _ (by simp [va_wsS]), ok _ (by simp [va_wsS])⟩
  have h2 := hd.2.2
  rw [h] at h2
  exact (Option.some.inj h2).symm
theorem vx_callSW (X : Stand p l e R s m args below meth c T locs cells slots) (hexec : p.tables.exec = Jvm.exec) {own : String} {index : Nat} {y : MethodName} {bytes : ByteArray} {maxL : Nat} {ret : Option FieldType} {hh : List (Nat × Nat × Nat × Nat)}
    (hown : s.vm.findClass own = some m.cls) (hlink : (Cond.methodLink own index y).before args s = true) (hstat : (Cond.static y).before args s = true) (hinit : (Cond.initialized y.cls).before args s = true)
    (hcode : (Cond.codeWith y bytes maxL ret hh).before args s = true) (hy : y.cls ≠ "java/lang/invoke/MethodHandle" ∧ y.cls ≠ "java/lang/invoke/VarHandle")
    {W9 : Nat} {Pre : Pt → Array Value → Prop} {Post : Pt → Array Value → Option Value → Pt → Prop} (hK : Back l R p e below s args y 3 W9 Pre Post)
    {g : JFrame} (hg : g.method = m) (hsize : g.locals.size = c.maxLocals) {argsL rest : List Value} (hlen : ∀ sig, parseMethodDescriptor y.desc = some sig → argsL.length = sig.parameters.length)
    (hstack : g.stack = argsL.reverse ++ rest) (hW : 2 * g.monitorRoom + (rest.map fun v => v.category).sum ≤ W9) (hdg : decode c.code g.pc = .ok (.invokestatic index, 3))
    (hpre : ∀ vm₁, s.WarmedH vm₁ → Pre ⟨T.setVm vm₁, locs, cells, slots⟩ argsL.toArray) :
    ∃ (v : Option Value) (vm₁ : Vm) (B : Pt), s.WarmedH vm₁ ∧ Stand p l e R s m args below meth c B.U B.locs B.cells B.slots ∧ Post ⟨T.setVm vm₁, locs, cells, slots⟩ argsL.toArray v B ∧
      ∀ target, Steps p.tables e below (B.U.setTop { g with pc := g.pc + 3, stack := v.toList ++ rest }) target → Steps p.tables e below (T.setTop g) target := by
  obtain ⟨mk, methM, cM, hnamed, hmethM, -, -, -, -, -, -, hsigM⟩ := Cond.codeWith_spec hcode
  have hstatic : methM.isStatic = true := Cond.static_spec hnamed hmethM hstat
  obtain ⟨kP, hkP, -⟩ := className_of_methodNamed hnamed
  have hinitP : kP.init = .initialized := Cond.initialized_spec (findClass_of_methodNamed hnamed) hkP hinit
  obtain ⟨vm₁, X₁, hstep₁⟩ := X.invokestatic hexec hown hlink hnamed hmethM hstatic hkP hinitP hy (g := g) hg (argsL := argsL) (rest := rest) (hlen _ hsigM) hstack hdg
  obtain ⟨v, B, X', hpost, hsteps⟩ := hK m meth c ⟨T.setVm vm₁, locs, cells, slots⟩ { g with stack := rest } (.invokestatic index) mk argsL.toArray X₁ hg hsize hdg hW (X₁.named hnamed) (hpre vm₁ X₁.warmed)
  exact ⟨v, vm₁, B, X₁.warmed, X', hpost, fun target h => hstep₁ _ fun acts => by rw [doInvoke_state]; exact hsteps.trans h⟩
theorem vx_runSW {y : MethodName} {bytes cc : ByteArray} {maxL nL mc ms n index : Nat} {ret : Option FieldType} {hh : List (Nat × Nat × Nat × Nat)} {ws : List Cond} {rm : Room} {Pc : Array Value → State → Prop} {Qc : Array Value → State → Outcome → State → Prop} {free : Addr → Prop} {Ts : List Cond} {own : String} {As rest : List Value} {g : JFrame}
    (S : CallFix p m c cc nL s args Ts own) (hM : Met l y ws rm Pc Qc mc ms free) (cw : vx_CSW R s args own index y bytes maxL ret hh ws rm mc ms n) (hp : PreS s H Pc As)
    (hg : g.method = m) (hn : As.length = n) (hsize : g.locals.size = nL) (hstack : g.stack = As.reverse ++ rest) (hW : 2 * g.monitorRoom + (rest.map fun v => v.category).sum ≤ 8) (hdg : decode cc g.pc = .ok (.invokestatic index, 3)) (hf : cells + mc ≤ R.cells ∧ slots + ms ≤ R.slots) :
    va_Run p l e R s m args below meth c H locs cells slots mc ms g rest (Qc As.toArray) (free) := by
  obtain ⟨⟨hrc, hrs, hfr, hlo, hws, hcw⟩, hcode, hini, hy, hlen, hl, hstt⟩ := cw
  have hK : Back l R p e below s args y 3 8 (PreOf R mc ms Pc) (PostOf Qc mc ms free) := va_backW (hh := hh) (bytes := bytes) (maxL := maxL) (ret := ret) hM hp.1 hrc hrs hfr hlo hws hcw (fun a' U hW => word_at hW (Or.inl (by first | rfl | simp [Cond.onTables, Cond.keeps, Cond.steady])) hini)
  obtain ⟨hx, hb, hml, ho, -⟩ := S
  intro T hT X
  obtain ⟨v, vm₁, ⟨U', l2, c2, s2⟩, hW₁, X', ⟨g', mk, t, L, e1, e2, hq, h1, hL, h2, h3⟩, st⟩ := vx_callSW X hx (hh := hh) (bytes := bytes) (maxL := maxL) (ret := ret) ho hl hstt hini hcode hy hK hg (hsize.trans hml.symm) (argsL := As) (rest := rest) (fun sig h => hn.trans (hlen sig h)) hstack hW (by rw [hb]; exact hdg)
    (fun vm₁ hW₁ => ⟨hf.1, hf.2, hp.2 (T.setVm vm₁) hT hW₁⟩)
  dsimp only [Pt.U, Pt.locs, Pt.cells, Pt.slots] at X' e1 e2 h1 h2 h3 st
  subst h1; subst h2; subst h3
  exact ⟨v, (T.setVm vm₁).calling g' mk As.toArray, t, U', L, hT, X', hL, e1, e2, hq, st⟩
/-- a thing of a world lies in the heap -/
theorem vx_lt {D : va_G} {cl : List vw_C} {ws : va_W} {H1 : Heap} (h : va_P D cl ws H1) {k : Nat} {q : Nat × va_E} (hk : ws[k]? = some q) : q.1 < H1.size := (h k q hk).lt
end VXS
/-! ===== END ===== -/
end
section
def TX0 : u_T := fun k => match k with
  | 0 => ("PennyBank$Account", "number", "I", true)
  | 1 => ("PennyBank$Account", "kind", "I", true)
  | 2 => ("PennyBank$Account", "with", "I", true)
  | 3 => ("PennyBank$Account", "opened", "I", true)
  | 4 => ("PennyBank$Account", "lineDays", "[I", true)
  | 5 => ("PennyBank$Account", "lineSums", "[I", true)
  | 6 => ("PennyBank$Account", "lines", "I", false)
  | _ => ("PennyBank$Account", "settled", "I", false)
def TX1 : u_T := fun k => match k with
  | 0 => ("PennyBank$Coins", "at", "[I", true)
  | _ => ("PennyBank$Coins", "overInAll", "I", false)
def TX2 : u_T := fun k => match k with
  | 0 => ("PennyBank$Entries", "accounts", "[I", true)
  | 1 => ("PennyBank$Entries", "days", "[I", true)
  | 2 => ("PennyBank$Entries", "sums", "[I", true)
  | 3 => ("PennyBank$Entries", "knownFrom", "[I", true)
  | _ => ("PennyBank$Entries", "size", "I", false)
def TX3 : u_T := fun k => match k with
  | 0 => ("PennyBank$Grammar", "tokens", "[I", true)
  | 1 => ("PennyBank$Grammar", "size", "I", false)
  | 2 => ("PennyBank$Grammar", "state", "I", false)
  | 3 => ("PennyBank$Grammar", "lines", "I", false)
  | 4 => ("PennyBank$Grammar", "rule", "I", false)
  | 5 => ("PennyBank$Grammar", "depth", "I", false)
  | _ => ("PennyBank$Grammar", "compared", "[Z", true)
def TX4 : u_T := fun k => match k with
  | 0 => ("PennyBank$Holdings", "prices", "[I", true)
  | 1 => ("PennyBank$Holdings", "changes", "[I", true)
  | 2 => ("PennyBank$Holdings", "needs", "[I", true)
  | 3 => ("PennyBank$Holdings", "size", "I", false)
  | 4 => ("PennyBank$Holdings", "plan", "[I", true)
  | 5 => ("PennyBank$Holdings", "planned", "I", false)
  | _ => ("PennyBank$Holdings", "reached", "[J", true)
def TX5 : u_T := fun k => match k with
  | 0 => ("PennyBank$Judge", "kind", "I", false)
  | 1 => ("PennyBank$Judge", "base", "I", false)
  | 2 => ("PennyBank$Judge", "age", "I", false)
  | 3 => ("PennyBank$Judge", "month", "I", false)
  | 4 => ("PennyBank$Judge", "day", "I", false)
  | 5 => ("PennyBank$Judge", "level", "I", false)
  | 6 => ("PennyBank$Judge", "sums", "[I", true)
  | 7 => ("PennyBank$Judge", "signs", "[I", true)
  | 8 => ("PennyBank$Judge", "lefts", "[I", true)
  | 9 => ("PennyBank$Judge", "relations", "[I", true)
  | 10 => ("PennyBank$Judge", "tests", "[I", true)
  | _ => ("PennyBank$Judge", "worths", "[I", true)
def TX6 : u_T := fun k => match k with
  | 0 => ("PennyBank$Notices", "accounts", "[I", true)
  | 1 => ("PennyBank$Notices", "sums", "[I", true)
  | 2 => ("PennyBank$Notices", "days", "[I", true)
  | 3 => ("PennyBank$Notices", "used", "[Z", true)
  | _ => ("PennyBank$Notices", "size", "I", false)
def TX7 : u_T := fun k => match k with
  | 0 => ("PennyBank$Reckoner", "entries", "LPennyBank$Entries;", true)
  | 1 => ("PennyBank$Reckoner", "texts", "LPennyBank$Texts;", true)
  | 2 => ("PennyBank$Reckoner", "judge", "LPennyBank$Judge;", true)
  | 3 => ("PennyBank$Reckoner", "moved", "[I", true)
  | 4 => ("PennyBank$Reckoner", "balance", "I", false)
  | 5 => ("PennyBank$Reckoner", "earned", "I", false)
  | _ => ("PennyBank$Reckoner", "earnedLast", "I", false)
def TX8 : u_T := fun k => match k with
  | 0 => ("PennyBank$RuleText", "from", "I", true)
  | 1 => ("PennyBank$RuleText", "knownFrom", "I", true)
  | _ => ("PennyBank$RuleText", "tokens", "[I", true)
def TX9 : u_T := fun k => match k with
  | 0 => ("PennyBank$Tape", "signs", "[C", true)
  | 1 => ("PennyBank$Tape", "size", "I", false)
  | 2 => ("PennyBank$Tape", "place", "I", false)
  | _ => ("PennyBank$Tape", "at", "I", false)
def TX10 : u_T := fun k => match k with
  | 0 => ("PennyBank$Texts", "kept", "[LPennyBank$RuleText;", true)
  | _ => ("PennyBank$Texts", "size", "I", false)
def TX11 : u_T := fun k => match k with
  | 0 => ("PennyBank", "accounts", "[LPennyBank$Account;", true)
  | 1 => ("PennyBank", "entries", "LPennyBank$Entries;", true)
  | 2 => ("PennyBank", "tape", "LPennyBank$Tape;", true)
  | 3 => ("PennyBank", "grammar", "LPennyBank$Grammar;", true)
  | 4 => ("PennyBank", "texts", "LPennyBank$Texts;", true)
  | 5 => ("PennyBank", "judge", "LPennyBank$Judge;", true)
  | 6 => ("PennyBank", "reckoner", "LPennyBank$Reckoner;", true)
  | 7 => ("PennyBank", "notices", "LPennyBank$Notices;", true)
  | 8 => ("PennyBank", "coins", "LPennyBank$Coins;", true)
  | 9 => ("PennyBank", "holdings", "LPennyBank$Holdings;", true)
  | 10 => ("PennyBank", "accountCount", "I", false)
  | _ => ("PennyBank", "now", "I", false)
def TX12 : u_T := fun k => match k with
  | 0 => ("PennyBankModel", "thrown", "I", false)
  | 1 => ("PennyBankModel", "tape", "[I", true)
  | 2 => ("PennyBankModel", "taped", "I", false)
  | 3 => ("PennyBankModel", "size", "I", false)
  | 4 => ("PennyBankModel", "sort", "[I", true)
  | 5 => ("PennyBankModel", "place", "[I", true)
  | 6 => ("PennyBankModel", "value", "[J", true)
  | 7 => ("PennyBankModel", "at", "I", false)
  | 8 => ("PennyBankModel", "fault", "I", false)
  | 9 => ("PennyBankModel", "words", "[J", true)
  | 10 => ("PennyBankModel", "texts", "I", false)
  | 11 => ("PennyBankModel", "inForce", "[I", true)
  | 12 => ("PennyBankModel", "textDay", "[I", true)
  | 13 => ("PennyBankModel", "lines", "[I", true)
  | 14 => ("PennyBankModel", "isLimit", "[Z", true)
  | 15 => ("PennyBankModel", "lineN", "[I", true)
  | 16 => ("PennyBankModel", "lineAt", "[I", true)
  | 17 => ("PennyBankModel", "op", "[I", true)
  | 18 => ("PennyBankModel", "one", "[I", true)
  | 19 => ("PennyBankModel", "codes", "I", false)
  | 20 => ("PennyBankModel", "deep", "I", false)
  | 21 => ("PennyBankModel", "sumWaits", "[I", true)
  | 22 => ("PennyBankModel", "signWaits", "[I", true)
  | 23 => ("PennyBankModel", "andWaits", "[I", true)
  | 24 => ("PennyBankModel", "known", "[I", true)
  | 25 => ("PennyBankModel", "pile", "[I", true)
  | 26 => ("PennyBankModel", "now", "I", false)
  | 27 => ("PennyBankModel", "accounts", "I", false)
  | 28 => ("PennyBankModel", "kind", "[I", true)
  | 29 => ("PennyBankModel", "with", "[I", true)
  | 30 => ("PennyBankModel", "opened", "[I", true)
  | 31 => ("PennyBankModel", "written", "[I", true)
  | 32 => ("PennyBankModel", "entries", "I", false)
  | 33 => ("PennyBankModel", "entryOf", "[I", true)
  | 34 => ("PennyBankModel", "entryDay", "[I", true)
  | 35 => ("PennyBankModel", "entrySum", "[I", true)
  | 36 => ("PennyBankModel", "entryKnown", "[I", true)
  | 37 => ("PennyBankModel", "coin", "[I", true)
  | 38 => ("PennyBankModel", "interest", "[I", true)
  | 39 => ("PennyBankModel", "notices", "I", false)
  | 40 => ("PennyBankModel", "noticeOf", "[I", true)
  | 41 => ("PennyBankModel", "noticeDay", "[I", true)
  | 42 => ("PennyBankModel", "noticeSum", "[I", true)
  | 43 => ("PennyBankModel", "isUsed", "[Z", true)
  | 44 => ("PennyBankModel", "bookLines", "[I", true)
  | 45 => ("PennyBankModel", "bookDay", "[I", true)
  | 46 => ("PennyBankModel", "bookSum", "[I", true)
  | 47 => ("PennyBankModel", "isPaired", "[Z", true)
  | 48 => ("PennyBankModel", "over", "I", false)
  | 49 => ("PennyBankModel", "holdings", "I", false)
  | 50 => ("PennyBankModel", "price", "[I", true)
  | 51 => ("PennyBankModel", "needs", "[I", true)
  | 52 => ("PennyBankModel", "draft", "[I", true)
  | 53 => ("PennyBankModel", "soldIn", "[I", true)
  | _ => ("PennyBankModel", "soldMany", "I", false)
def px_CT (ci : Nat) : vw_C := match ci with
  | 0 => ("PennyBank$Account", TX0, 8)
  | 1 => ("PennyBank$Coins", TX1, 2)
  | 2 => ("PennyBank$Entries", TX2, 5)
  | 3 => ("PennyBank$Grammar", TX3, 7)
  | 4 => ("PennyBank$Holdings", TX4, 7)
  | 5 => ("PennyBank$Judge", TX5, 12)
  | 6 => ("PennyBank$Notices", TX6, 5)
  | 7 => ("PennyBank$Reckoner", TX7, 7)
  | 8 => ("PennyBank$RuleText", TX8, 3)
  | 9 => ("PennyBank$Tape", TX9, 4)
  | 10 => ("PennyBank$Texts", TX10, 2)
  | 11 => ("PennyBank", TX11, 12)
  | _ => ("PennyBankModel", TX12, 55)
def px_NC : Nat := 13
def px_C24 : String := "PennyBank$Account"
def px_C25 : String := "PennyBank$RuleText"
def px_NW : List (String × Nat × MethodName × String) := [("PennyBank", 17, ⟨"PennyBank$Entries", "<init>", "()V"⟩, "PennyBank"), ("PennyBank", 24, ⟨"PennyBank$Tape", "<init>", "()V"⟩, "PennyBank"), ("PennyBank", 31, ⟨"PennyBank$Grammar", "<init>", "()V"⟩, "PennyBank"), ("PennyBank", 38, ⟨"PennyBank$Texts", "<init>", "()V"⟩, "PennyBank"), ("PennyBank", 45, ⟨"PennyBank$Judge", "<init>", "()V"⟩, "PennyBank"), ("PennyBank", 61, ⟨"PennyBank$Notices", "<init>", "()V"⟩, "PennyBank"), ("PennyBank", 68, ⟨"PennyBank$Coins", "<init>", "()V"⟩, "PennyBank"), ("PennyBank", 75, ⟨"PennyBank$Holdings", "<init>", "()V"⟩, "PennyBank"), ("PennyBank$Coins", 15, ⟨"PennyBank", "isBranch", "(I)Z"⟩, "PennyBank"), ("PennyBank$Reckoner", 27, ⟨"PennyBank", "isDay", "(I)Z"⟩, "PennyBank")]
def px_SR : List (String × Nat × String × Nat) := [("PennyBank$Tape", 43, "interest", 1), ("PennyBank$Tape", 49, "limit", 3), ("PennyBank$Tape", 51, "when", 5), ("PennyBank$Tape", 53, "and", 7), ("PennyBank$Tape", 55, "kind", 9), ("PennyBank$Tape", 57, "base", 11), ("PennyBank$Tape", 59, "age", 13), ("PennyBank$Tape", 61, "month", 15), ("PennyBank$Tape", 63, "day", 17), ("PennyBank", 146, "no such account or days", 19), ("PennyBank", 155, "no such account, month or day", 20), ("PennyBank", 199, "no such account", 21), ("PennyBank", 208, "no such branch or number", 22), ("PennyBank", 213, "no such branch", 23)]
def px_AO : List String := ["PennyBank$Account", "PennyBank$RuleText"]
def px_CA : List (String × String) := [("[I", "java/lang/Cloneable"), ("java/util/NoSuchElementException", "java/util/NoSuchElementException"), ("PennyBank", "java/lang/Object"), ("PennyBank$Entries", "java/lang/Object"), ("PennyBank$Tape", "java/lang/Object"), ("PennyBank$Grammar", "java/lang/Object"), ("PennyBank$Texts", "java/lang/Object"), ("PennyBank$Judge", "java/lang/Object"), ("PennyBank$Reckoner", "java/lang/Object"), ("PennyBank$Notices", "java/lang/Object"), ("PennyBank$Coins", "java/lang/Object"), ("PennyBank$Holdings", "java/lang/Object"), ("PennyBankModel", "java/lang/Object"), ("PennyBank$Account", "java/lang/Object"), ("PennyBank$RuleText", "java/lang/Object"), ("java/util/NoSuchElementException", "java/lang/Object"), ("java/lang/Throwable", "java/lang/Object"), ("java/lang/String", "java/lang/Object")]
def px_DE : List MethodName := [⟨"java/lang/RuntimeException", "<init>", "()V"⟩, ⟨"java/lang/RuntimeException", "<init>", "(Ljava/lang/String;)V"⟩, ⟨"java/lang/Exception", "<init>", "()V"⟩, ⟨"java/lang/Exception", "<init>", "(Ljava/lang/String;)V"⟩, ⟨"java/lang/Throwable", "<init>", "()V"⟩, ⟨"java/lang/Throwable", "<init>", "(Ljava/lang/String;)V"⟩]
def px_SN : Nat := 9
def px_SL : List Nat := [8, 5, 4, 3, 4, 4, 3, 5, 3]
def px_SB : List (List Int32) := [[105, 110, 116, 101, 114, 101, 115, 116], [108, 105, 109, 105, 116], [119, 104, 101, 110], [97, 110, 100], [107, 105, 110, 100], [98, 97, 115, 101], [97, 103, 101], [109, 111, 110, 116, 104], [100, 97, 121]]
theorem px_ci {P : Nat → Prop} (h0 : P 0) (h1 : P 1) (h2 : P 2) (h3 : P 3) (h4 : P 4) (h5 : P 5) (h6 : P 6) (h7 : P 7) (h8 : P 8) (h9 : P 9) (h10 : P 10) (h11 : P 11) (h12 : P 12) : ∀ ci, ci < px_NC → P ci := by
  intro ci h
  have h : ci < 13 := h
  match ci, h with
  | 0, _ => exact h0
  | 1, _ => exact h1
  | 2, _ => exact h2
  | 3, _ => exact h3
  | 4, _ => exact h4
  | 5, _ => exact h5
  | 6, _ => exact h6
  | 7, _ => exact h7
  | 8, _ => exact h8
  | 9, _ => exact h9
  | 10, _ => exact h10
  | 11, _ => exact h11
  | 12, _ => exact h12
  | n + 13, h => exact absurd h (by omega)
theorem px_la0 : ∀ w ∈ u_ws (px_CT 0).1 (px_CT 0).2.1 (px_CT 0).2.2, w ∈ px_TB := by decide +kernel
theorem px_nm0 : ∀ a, a < (px_CT 0).2.2 → ∀ b, b < (px_CT 0).2.2 → a ≠ b → ((px_CT 0).2.1 a).2.1 ≠ ((px_CT 0).2.1 b).2.1 := by decide +kernel
theorem px_la1 : ∀ w ∈ u_ws (px_CT 1).1 (px_CT 1).2.1 (px_CT 1).2.2, w ∈ px_TB := by decide +kernel
theorem px_nm1 : ∀ a, a < (px_CT 1).2.2 → ∀ b, b < (px_CT 1).2.2 → a ≠ b → ((px_CT 1).2.1 a).2.1 ≠ ((px_CT 1).2.1 b).2.1 := by decide +kernel
theorem px_la2 : ∀ w ∈ u_ws (px_CT 2).1 (px_CT 2).2.1 (px_CT 2).2.2, w ∈ px_TB := by decide +kernel
theorem px_nm2 : ∀ a, a < (px_CT 2).2.2 → ∀ b, b < (px_CT 2).2.2 → a ≠ b → ((px_CT 2).2.1 a).2.1 ≠ ((px_CT 2).2.1 b).2.1 := by decide +kernel
theorem px_la3 : ∀ w ∈ u_ws (px_CT 3).1 (px_CT 3).2.1 (px_CT 3).2.2, w ∈ px_TB := by decide +kernel
theorem px_nm3 : ∀ a, a < (px_CT 3).2.2 → ∀ b, b < (px_CT 3).2.2 → a ≠ b → ((px_CT 3).2.1 a).2.1 ≠ ((px_CT 3).2.1 b).2.1 := by decide +kernel
theorem px_la4 : ∀ w ∈ u_ws (px_CT 4).1 (px_CT 4).2.1 (px_CT 4).2.2, w ∈ px_TB := by decide +kernel
theorem px_nm4 : ∀ a, a < (px_CT 4).2.2 → ∀ b, b < (px_CT 4).2.2 → a ≠ b → ((px_CT 4).2.1 a).2.1 ≠ ((px_CT 4).2.1 b).2.1 := by decide +kernel
theorem px_la5 : ∀ w ∈ u_ws (px_CT 5).1 (px_CT 5).2.1 (px_CT 5).2.2, w ∈ px_TB := by decide +kernel
theorem px_nm5 : ∀ a, a < (px_CT 5).2.2 → ∀ b, b < (px_CT 5).2.2 → a ≠ b → ((px_CT 5).2.1 a).2.1 ≠ ((px_CT 5).2.1 b).2.1 := by decide +kernel
theorem px_la6 : ∀ w ∈ u_ws (px_CT 6).1 (px_CT 6).2.1 (px_CT 6).2.2, w ∈ px_TB := by decide +kernel
theorem px_nm6 : ∀ a, a < (px_CT 6).2.2 → ∀ b, b < (px_CT 6).2.2 → a ≠ b → ((px_CT 6).2.1 a).2.1 ≠ ((px_CT 6).2.1 b).2.1 := by decide +kernel
theorem px_la7 : ∀ w ∈ u_ws (px_CT 7).1 (px_CT 7).2.1 (px_CT 7).2.2, w ∈ px_TB := by decide +kernel
theorem px_nm7 : ∀ a, a < (px_CT 7).2.2 → ∀ b, b < (px_CT 7).2.2 → a ≠ b → ((px_CT 7).2.1 a).2.1 ≠ ((px_CT 7).2.1 b).2.1 := by decide +kernel
theorem px_la8 : ∀ w ∈ u_ws (px_CT 8).1 (px_CT 8).2.1 (px_CT 8).2.2, w ∈ px_TB := by decide +kernel
theorem px_nm8 : ∀ a, a < (px_CT 8).2.2 → ∀ b, b < (px_CT 8).2.2 → a ≠ b → ((px_CT 8).2.1 a).2.1 ≠ ((px_CT 8).2.1 b).2.1 := by decide +kernel
theorem px_la9 : ∀ w ∈ u_ws (px_CT 9).1 (px_CT 9).2.1 (px_CT 9).2.2, w ∈ px_TB := by decide +kernel
theorem px_nm9 : ∀ a, a < (px_CT 9).2.2 → ∀ b, b < (px_CT 9).2.2 → a ≠ b → ((px_CT 9).2.1 a).2.1 ≠ ((px_CT 9).2.1 b).2.1 := by decide +kernel
theorem px_la10 : ∀ w ∈ u_ws (px_CT 10).1 (px_CT 10).2.1 (px_CT 10).2.2, w ∈ px_TB := by decide +kernel
theorem px_nm10 : ∀ a, a < (px_CT 10).2.2 → ∀ b, b < (px_CT 10).2.2 → a ≠ b → ((px_CT 10).2.1 a).2.1 ≠ ((px_CT 10).2.1 b).2.1 := by decide +kernel
theorem px_la11 : ∀ w ∈ u_ws (px_CT 11).1 (px_CT 11).2.1 (px_CT 11).2.2, w ∈ px_TB := by decide +kernel
theorem px_nm11 : ∀ a, a < (px_CT 11).2.2 → ∀ b, b < (px_CT 11).2.2 → a ≠ b → ((px_CT 11).2.1 a).2.1 ≠ ((px_CT 11).2.1 b).2.1 := by decide +kernel
theorem px_la12 : ∀ w ∈ u_ws (px_CT 12).1 (px_CT 12).2.1 (px_CT 12).2.2, w ∈ px_TB := by decide +kernel
theorem px_nm12 : ∀ a, a < (px_CT 12).2.2 → ∀ b, b < (px_CT 12).2.2 → a ≠ b → ((px_CT 12).2.1 a).2.1 ≠ ((px_CT 12).2.1 b).2.1 := by decide +kernel
theorem px_lays : ∀ ci, ci < px_NC → ∀ w ∈ u_ws (px_CT ci).1 (px_CT ci).2.1 (px_CT ci).2.2, w ∈ px_TB := px_ci px_la0 px_la1 px_la2 px_la3 px_la4 px_la5 px_la6 px_la7 px_la8 px_la9 px_la10 px_la11 px_la12
theorem px_names : ∀ ci, ci < px_NC → ∀ a, a < (px_CT ci).2.2 → ∀ b, b < (px_CT ci).2.2 → a ≠ b → ((px_CT ci).2.1 a).2.1 ≠ ((px_CT ci).2.1 b).2.1 := px_ci px_nm0 px_nm1 px_nm2 px_nm3 px_nm4 px_nm5 px_nm6 px_nm7 px_nm8 px_nm9 px_nm10 px_nm11 px_nm12
/-- a field's type: an int, or a reference of some kind -/
def px_isr (t : Option FieldType) : Bool := match t with
  | some (.object _) => true
  | some (.array _) => true
  | _ => false
theorem px_pf0 : ∀ j, j < (px_CT 0).2.2 → ((px_CT 0).2.1 j).2.2.1 = "I" ∨ px_isr (parseFieldDescriptor ((px_CT 0).2.1 j).2.2.1) = true := by decide +kernel
theorem px_pf1 : ∀ j, j < (px_CT 1).2.2 → ((px_CT 1).2.1 j).2.2.1 = "I" ∨ px_isr (parseFieldDescriptor ((px_CT 1).2.1 j).2.2.1) = true := by decide +kernel
theorem px_pf2 : ∀ j, j < (px_CT 2).2.2 → ((px_CT 2).2.1 j).2.2.1 = "I" ∨ px_isr (parseFieldDescriptor ((px_CT 2).2.1 j).2.2.1) = true := by decide +kernel
theorem px_pf3 : ∀ j, j < (px_CT 3).2.2 → ((px_CT 3).2.1 j).2.2.1 = "I" ∨ px_isr (parseFieldDescriptor ((px_CT 3).2.1 j).2.2.1) = true := by decide +kernel
theorem px_pf4 : ∀ j, j < (px_CT 4).2.2 → ((px_CT 4).2.1 j).2.2.1 = "I" ∨ px_isr (parseFieldDescriptor ((px_CT 4).2.1 j).2.2.1) = true := by decide +kernel
theorem px_pf5 : ∀ j, j < (px_CT 5).2.2 → ((px_CT 5).2.1 j).2.2.1 = "I" ∨ px_isr (parseFieldDescriptor ((px_CT 5).2.1 j).2.2.1) = true := by decide +kernel
theorem px_pf6 : ∀ j, j < (px_CT 6).2.2 → ((px_CT 6).2.1 j).2.2.1 = "I" ∨ px_isr (parseFieldDescriptor ((px_CT 6).2.1 j).2.2.1) = true := by decide +kernel
theorem px_pf7 : ∀ j, j < (px_CT 7).2.2 → ((px_CT 7).2.1 j).2.2.1 = "I" ∨ px_isr (parseFieldDescriptor ((px_CT 7).2.1 j).2.2.1) = true := by decide +kernel
theorem px_pf8 : ∀ j, j < (px_CT 8).2.2 → ((px_CT 8).2.1 j).2.2.1 = "I" ∨ px_isr (parseFieldDescriptor ((px_CT 8).2.1 j).2.2.1) = true := by decide +kernel
theorem px_pf9 : ∀ j, j < (px_CT 9).2.2 → ((px_CT 9).2.1 j).2.2.1 = "I" ∨ px_isr (parseFieldDescriptor ((px_CT 9).2.1 j).2.2.1) = true := by decide +kernel
theorem px_pf10 : ∀ j, j < (px_CT 10).2.2 → ((px_CT 10).2.1 j).2.2.1 = "I" ∨ px_isr (parseFieldDescriptor ((px_CT 10).2.1 j).2.2.1) = true := by decide +kernel
theorem px_pf11 : ∀ j, j < (px_CT 11).2.2 → ((px_CT 11).2.1 j).2.2.1 = "I" ∨ px_isr (parseFieldDescriptor ((px_CT 11).2.1 j).2.2.1) = true := by decide +kernel
theorem px_pf12 : ∀ j, j < (px_CT 12).2.2 → ((px_CT 12).2.1 j).2.2.1 = "I" ∨ px_isr (parseFieldDescriptor ((px_CT 12).2.1 j).2.2.1) = true := by decide +kernel
theorem px_parse : ∀ ci, ci < px_NC → ∀ j, j < (px_CT ci).2.2 → ((px_CT ci).2.1 j).2.2.1 = "I" ∨ px_isr (parseFieldDescriptor ((px_CT ci).2.1 j).2.2.1) = true := px_ci px_pf0 px_pf1 px_pf2 px_pf3 px_pf4 px_pf5 px_pf6 px_pf7 px_pf8 px_pf9 px_pf10 px_pf11 px_pf12
end
section
/-! ===== A pure picture of the heap, and the machine's walk over it ===== -/
/-- pure heaps: ints, longs, references by cell and place; a cell's kind and length; how many cells; how many slots -/
abbrev PH : Type := (Nat → Nat → Int32) × (Nat → Nat → Int64) × (Nat → Nat → Option Nat) × (Nat → Nat × Nat) × Nat × Nat
def hI (h : PH) : Nat → Nat → Int32 := h.1
def hJ (h : PH) : Nat → Nat → Int64 := h.2.1
def hR (h : PH) : Nat → Nat → Option Nat := h.2.2.1
def hK (h : PH) : Nat → Nat × Nat := h.2.2.2.1
def hn (h : PH) : Nat := h.2.2.2.2.1
def hs (h : PH) : Nat := h.2.2.2.2.2
def up2 {α : Type} (f : Nat → Nat → α) (a i : Nat) (v : α) : Nat → Nat → α := fun a' i' => if a' = a ∧ i' = i then v else f a' i'
def up1 {α : Type} (f : Nat → α) (a : Nat) (v : α) : Nat → α := fun a' => if a' = a then v else f a'
def pI (h : PH) (a i : Nat) (v : Int32) : PH := (up2 (hI h) a i v, h.2)
def pJ (h : PH) (a i : Nat) (v : Int64) : PH := (h.1, up2 (hJ h) a i v, h.2.2)
def pR (h : PH) (a i : Nat) (v : Option Nat) : PH := (h.1, h.2.1, up2 (hR h) a i v, h.2.2.2)
/-- a new cell of a kind and length, with its slots -/
def pN (h : PH) (kd len sl : Nat) : PH := (up1 (hI h) (hn h) (fun _ => 0), up1 (hJ h) (hn h) (fun _ => 0), up1 (hR h) (hn h) (fun _ => none), up1 (hK h) (hn h) (kd, len), hn h + 1, hs h + sl)
/-- the class ids, the fields' slots, the array classes, the places of what lies outside (script, strings), the script's length and ints -/
abbrev px_G : Type := (Nat → ClassId) × (Nat → Nat → Nat) × (Nat → ClassId) × (Nat → Nat) × Nat × (Nat → Int32)
/-- a pure value as the machine's: references count from b on; 'retAddr' stands for what lies outside -/
def rl (b : Nat) (G : px_G) : Value → Value
  | .ref k => .ref (b + k)
  | .retAddr j => .ref (G.2.2.2.1 j)
  | v => v
theorem rl_cat (b : Nat) (G : px_G) (v : Value) : (rl b G v).category = v.category := by cases v <;> rfl
theorem rl_cats (b : Nat) (G : px_G) (l : List Value) : ((l.map (rl b G)).map fun v => v.category).sum = (l.map fun v => v.category).sum := by
  rw [List.map_map]
  congr 1
  exact List.map_congr_left fun v _ => rl_cat b G v
def px_rf (b : Nat) (r : Option Nat) : Value := va_rf (r.map fun x => b + x)
theorem px_rf_some (b k : Nat) : px_rf b (some k) = .ref (b + k) := rfl
theorem px_rf_none (b : Nat) : px_rf b none = .null := rfl
/-- what place j of an object of class ci holds -/
def px_fv (b : Nat) (h : PH) (ci k j : Nat) : Value := if ((px_CT ci).2.1 j).2.2.1 = "I" then .int (hI h k j) else px_rf b (hR h k j)
/-- what place j of an array holds: kinds 20 int, 21 boolean, 22 char, 23 long, 24, 25 references -/
def px_av (b : Nat) (h : PH) (kd k j : Nat) : Value := if kd ≤ 22 then .int (hI h k j) else if kd = 23 then .long (hJ h k j) else px_rf b (hR h k j)
def px_ty (kd : Nat) : FieldType := match kd with
  | 20 => .int
  | 21 => .boolean
  | 22 => .char
  | 23 => .long
  | 24 => .object px_C24
  | _ => .object px_C25
def px_at (b : Nat) (G : px_G) (h : PH) (H : Heap) (k : Nat) : Prop :=
  if (hK h k).1 < 20 then t_OB (b + k) (G.1 (hK h k).1) (px_CT (hK h k).1).2.2 (G.2.1 (hK h k).1) H (px_fv b h (hK h k).1 k)
  else if (hK h k).1 < 26 then H[b + k]? = some (arrV (G.2.2.1 (hK h k).1) (hK h k).2 (px_av b h (hK h k).1 k))
  else True
def px_Rel (b : Nat) (G : px_G) (h : PH) (H : Heap) : Prop := H.size = b + hn h ∧ ∀ k, k < hn h → px_at b G h H k
/-- what the tables say of the classes -/
def px_K (G : px_G) (U : State) : Prop := (∀ ci, ci < px_NC → u_Kn U (px_CT ci).1 (px_CT ci).2.1 (px_CT ci).2.2 (G.1 ci) (G.2.1 ci)) ∧ (∀ kd, 20 ≤ kd → kd < 26 → ArrOfT U (G.2.2.1 kd) (px_ty kd) ∧ va_RA U (G.2.2.1 kd) (px_ty kd)) ∧ (∀ q ∈ px_NW, va_Nw (.methodLinkNest q.1 q.2.1 q.2.2.1 q.2.2.2) U) ∧ (∀ q ∈ px_SR, vk_R q.1 q.2.1 q.2.2.1 (G.2.2.2.1 q.2.2.2) U) ∧ (∀ C ∈ px_AO, va_AO C U) ∧ (∀ q ∈ px_CA, va_Nw (.castable q.1 q.2) U) ∧ (∀ x ∈ px_DE, va_Nw (.declares x) U)
/-- what lies outside: the script, the strings, the statics that a throw reads -/
def px_O (b : Nat) (G : px_G) (U : State) (H : Heap) : Prop :=
  (∀ j, j < 32 → G.2.2.2.1 j < b) ∧ va_X (G.2.2.2.1 0) G.2.2.2.2.1 G.2.2.2.2.2 U H ∧
  vk_S px_SN px_SL px_SB (fun i => G.2.2.2.1 (1 + 2 * i)) (fun i => G.2.2.2.1 (2 + 2 * i)) (fun q => b ≤ q) U H ∧
  va_Z "java/lang/String" "COMPACT_STRINGS" "Z" (.int 1) (fun q => b ≤ q) U H ∧
  vx_Zq Bundle.tN "UNASSIGNED_STACK" Bundle.steD (fun q => b ≤ q) U H ∧ vx_Zq Bundle.tN "SUPPRESSED_SENTINEL" Bundle.listD (fun q => b ≤ q) U H
theorem px_K.moved {G : px_G} {u U : State} (hW : u.WarmedH U.vm) (h : px_K G u) : px_K G U :=
  ⟨fun ci hc => u_Kn_moved hW.alike (h.1 ci hc), fun kd h1 h2 => ⟨arrOfT_moved hW.alike (h.2.1 kd h1 h2).1, (h.2.1 kd h1 h2).2.moved hW.alike⟩, fun q hq => va_Nw.warmM hW (h.2.2.1 q hq), fun q hq => vk_R.warm hW (h.2.2.2.1 q hq), fun C hC => va_AO.moved hW.alike (h.2.2.2.2.1 C hC), fun q hq => va_Nw.warmC hW (h.2.2.2.2.2.1 q hq), fun x hx => va_Nw.warmD hW (h.2.2.2.2.2.2 x hx)⟩
theorem px_K.blind {G : px_G} {U : State} (g : JFrame) (mk : MethodId) (a : Array Value) (h : px_K G U) : px_K G (U.calling g mk a) := px_K.moved (State.WarmedH.refl U) h
theorem px_O.kept {b : Nat} {G : px_G} {U : State} {H H1 : Heap} (h : px_O b G U H) (hz : b ≤ H.size) (hq : ∀ q : Nat, q < b → H1[q]? = H[q]?) : px_O b G U H1 := by
  obtain ⟨h1, h2, h3, h4, h5, h6⟩ := h
  have hk : ∀ a : Nat, a < H.size → ¬ (fun q => b ≤ q) a → H1[a]? = H[a]? := fun a _ ha => hq a (Nat.not_le.mp ha)
  exact ⟨h1, h2.kept (hq _ (h1 0 (by decide))), h3.kept hk, h4.kept hk, h5.kept hk, h6.kept hk⟩
theorem px_O.moved {b : Nat} {G : px_G} {u U : State} {H : Heap} (hvm : u.vm.Alike U.vm) (h : px_O b G u H) : px_O b G U H :=
  ⟨h.1, h.2.1.moved hvm, h.2.2.1.moved hvm, h.2.2.2.1.moved hvm, h.2.2.2.2.1.moved hvm, h.2.2.2.2.2.moved hvm⟩
/-! methods: the name, the bytes, the locals, the answer's type, the frames and the locals' words that it needs below it -/
abbrev px_M : Type := MethodName × ByteArray × Nat × Option FieldType × Nat × Nat
def px_y (M : px_M) : MethodName := M.1
def px_cc (M : px_M) : ByteArray := M.2.1
def px_nL (M : px_M) : Nat := M.2.2.1
def px_rt (M : px_M) : Option FieldType := M.2.2.2.1
def px_fr (M : px_M) : Nat := M.2.2.2.2.1
def px_lo (M : px_M) : Nat := M.2.2.2.2.2
def px_own (M : px_M) : String := (px_y M).cls
def px_ws (M : px_M) : List Cond := .code (px_y M) (px_cc M) (px_nL M) (px_rt M) :: px_TB
def px_lv (b : Nat) (G : px_G) (lv : List (Nat × Value)) : List (Nat × Value) := lv.map fun q => (q.1, rl b G q.2)
/-- where a walk stands: the heap's picture, what lies outside, what was written, the room, the locals -/
def px_V (nL N1 S1 b : Nat) (G : px_G) (s : State) (n0 s0 : Nat) (lv : List (Nat × Value)) (h : PH) (H : Heap) (locs : List Loc) (ls : Array Slot) : Prop :=
  px_Rel b G h H ∧ px_O b G s H ∧ va_S (fun q => b ≤ q) s.heap H locs ∧ (n0 ≤ hn h ∧ s0 ≤ hs h ∧ hn h ≤ N1 ∧ hs h ≤ S1) ∧ lv_has ls nL (px_lv b G lv)
/-- how a walk may end at a place: 0 it returns r, 1 it throws -/
def px_out (M : px_M) (k : Nat) (r : Option Value) (pc : Nat) (st : List Value) : Prop :=
  (k = 0 ∧ ((decode (px_cc M) pc = .ok (.ireturn, 1) ∧ ∃ (v : Int32) (ty : FieldType), st = [.int v] ∧ r = some (.int v) ∧ px_rt M = some ty ∧ narrow ty (.int v) = .int v) ∨
    (decode (px_cc M) pc = .ok (.return_, 1) ∧ st = [] ∧ r = none ∧ px_rt M = none) ∨
    (decode (px_cc M) pc = .ok (.lreturn, 1) ∧ ∃ v : Int64, st = [.long v] ∧ r = some (.long v) ∧ px_rt M = some .long) ∨
    (decode (px_cc M) pc = .ok (.areturn, 1) ∧ ∃ (v : Value) (ty : FieldType), st = [v] ∧ r = some v ∧ px_rt M = some ty ∧ ((∃ n, ty = .object n) ∨ ∃ t, ty = .array t) ∧ (v = .null ∨ ∃ a, v = .ref a)))) ∨
  (k = 1 ∧ r = none ∧ st = [] ∧ ∃ (ik is ic sa : Nat) (tx : String), (px_own M, is, tx, sa) ∈ px_SR ∧ Cond.classLink (px_own M) ik "java/util/NoSuchElementException" ∈ px_TB ∧ Cond.methodLink (px_own M) ic ⟨"java/util/NoSuchElementException", "<init>", "(Ljava/lang/String;)V"⟩ ∈ px_TB ∧
    decode (px_cc M) pc = .ok (.new ik, 3) ∧ decode (px_cc M) (pc + 3) = .ok (.dup, 1) ∧ decode (px_cc M) (pc + 4) = .ok (.ldc is, 2) ∧ decode (px_cc M) (pc + 6) = .ok (.invokespecial ic, 3) ∧ decode (px_cc M) (pc + 9) = .ok (.athrow, 1))
/-- what holds all through a method's body -/
def px_C (M : px_M) (N1 S1 : Nat) (Post : Nat → Option Value → PH → Prop) (b : Nat) (G : px_G) (p : Program) (l : Launch) (e : Env) (R : Room) (s : State) (m : MethodId) (args : Array Value) (below : List Frame) (meth : Method) (c : Code) (n0 s0 : Nat) (Q : State → Prop) : Prop :=
  (p.tables.exec = Jvm.exec ∧ c.code = px_cc M ∧ c.maxLocals = px_nL M ∧ s.vm.findClass (px_own M) = some m.cls ∧ ∀ w ∈ px_TB, w.before args s = true) ∧ px_K G s ∧ l.stackTraces = false ∧ meth.name = (px_y M).name ∧
  (px_fr M ≤ R.frames ∧ px_lo M ≤ R.locals ∧ N1 ≤ n0 + R.cells ∧ S1 ≤ s0 + R.slots) ∧ s.heap.size = b + n0 ∧
  (∀ (k : Nat) (r : Option Value) (pc : Nat) (st : List Value) (h : PH) (H : Heap) (locs : List Loc) (ls : Array Slot), px_out M k r pc st → Post k r h → px_V (px_nL M) N1 S1 b G s n0 s0 [] h H locs ls → W p l e R s m args below meth c H locs (hn h - n0) (hs h - s0) Q (F0 m pc ls (st.map (rl b G))))
/-- the walk: at pc, with locals lv, stack st, heap h, it comes to an end with Post -/
def PW (M : px_M) (N1 S1 : Nat) (Post : Nat → Option Value → PH → Prop) (pc : Nat) (lv : List (Nat × Value)) (st : List Value) (h : PH) : Prop :=
  ∀ (b : Nat) (G : px_G) (p : Program) (l : Launch) (e : Env) (R : Room) (s : State) (m : MethodId) (args : Array Value) (below : List Frame) (meth : Method) (c : Code) (n0 s0 : Nat) (Q : State → Prop), px_C M N1 S1 Post b G p l e R s m args below meth c n0 s0 Q →
  ∀ (H : Heap) (locs : List Loc) (ls : Array Slot), px_V (px_nL M) N1 S1 b G s n0 s0 lv h H locs ls → W p l e R s m args below meth c H locs (hn h - n0) (hs h - s0) Q (F0 m pc ls (st.map (rl b G)))
/-! a method's contract: called with 'as' in the heap h it returns r, and leaves h' -/
def px_Pc (b : Nat) (G : px_G) (as : List Value) (h : PH) : Array Value → State → Prop := fun v U => v = (as.map (rl b G)).toArray ∧ px_Rel b G h U.heap ∧ px_K G U ∧ px_O b G U U.heap
def px_Qc (b : Nat) (G : px_G) (r : Option Value) (h' : PH) : Array Value → State → Outcome → State → Prop := fun _ st oc t => oc = .returned (r.map (rl b G)) ∧ px_Rel b G h' t.heap ∧ ∀ q : Nat, q < b → t.heap[q]? = st.heap[q]?
def px_rm (M : px_M) (h h' : PH) : Room := { frames := px_fr M, cells := hn h' - hn h, slots := hs h' - hs h, locals := px_lo M }
def PM (M : px_M) (as : List Value) (h : PH) (r : Option Value) (h' : PH) : Prop := hn h ≤ hn h' ∧ hs h ≤ hs h' ∧ ∀ (l : Launch) (b : Nat) (G : px_G), l.stackTraces = false →
  Met l (px_y M) (px_ws M) (px_rm M h h') (px_Pc b G as h) (px_Qc b G r h') (hn h' - hn h) (hs h' - hs h) (fun q => b ≤ q)
def PMpost (r : Option Value) (h' : PH) : Nat → Option Value → PH → Prop := fun k r' h'' => k = 0 ∧ r' = r ∧ h'' = h'
theorem px_blind (b : Nat) (G : px_G) (as : List Value) (h : PH) : FrameBlind (px_Pc b G as h) := fun a U g mk q => ⟨q.1, q.2.1, q.2.2.1.blind g mk a, px_O.moved (u := U) (U := U.calling g mk a) (Vm.Alike.refl U.vm) q.2.2.2⟩
theorem px_args (b : Nat) (G : px_G) : ∀ (as : List Value) (i : Nat), lv_args i (as.map (rl b G)) = px_lv b G (lv_args i as)
  | [], _ => rfl
  | v :: vs, i => by
    show (i, rl b G v) :: lv_args (if (rl b G v).category = 2 then i + 2 else i + 1) (vs.map (rl b G)) = (i, rl b G v) :: px_lv b G (lv_args (if v.category = 2 then i + 2 else i + 1) vs)
    rw [rl_cat, px_args b G vs]
theorem px_sllen (b : Nat) (G : px_G) (as : List Value) : (lg_sl (as.map (rl b G))).length = (as.map fun v => v.category).sum := by
  induction as with
  | nil => rfl
  | cons v t ih =>
    have e : (lg_sl ((v :: t).map (rl b G))).length = (if (rl b G v).category = 2 then [Slot.val (rl b G v), Slot.second] else [Slot.val (rl b G v)]).length + (lg_sl (t.map (rl b G))).length := by
      simp [lg_sl]
    rw [e, ih, rl_cat]
    rcases lv_cat v with h | h
    · rw [if_neg (by omega)]; simp [h]
    · rw [if_pos h]; simp [h]
/-- a body's walk gives the contract -/
theorem PM.of {M : px_M} {as : List Value} {h h' : PH} {r : Option Value} (hp : plainName (px_own M) = true) (h1 : hn h ≤ hn h') (h2 : hs h ≤ hs h') (ha : (as.map fun v => v.category).sum ≤ px_nL M) (k : PW M (hn h') (hs h') (PMpost r h') 0 (lv_args 0 as) [] h) : PM M as h r h' := by
  refine ⟨h1, h2, fun l b G hl => ?_⟩
  refine Met.ofW (cc := px_cc M) (maxL := px_nL M) (ret := px_rt M) hp rfl ?_
  intro p e s m args below meth c s₁ B hml hv
  obtain ⟨rfl, hRel, hK, hO⟩ := hv
  have hts := atoms_spec (ws := px_ws M) B.pre
  have hown : s.vm.findClass (px_own M) = some m.cls := findClass_of_methodNamed B.named
  have hlocks := B.notSynchronized
  have hl0 := lv_entry (as.map (rl b G)) (n := px_nL M) (by rw [px_sllen]; exact ha)
  rw [lg_entry_eq]
  generalize (lg_sl (as.map (rl b G)) ++ List.replicate (px_nL M - (lg_sl (as.map (rl b G))).length) Slot.unset).toArray = ls at hl0 ⊢
  rw [px_args] at hl0
  have K := k b G p l e (px_rm M h h') s m (as.map (rl b G)).toArray below meth c (hn h) (hs h) (MQ below (px_Qc b G r h') (as.map (rl b G)).toArray s (hn h' - hn h) (hs h' - hs h) (fun q => b ≤ q))
    ⟨⟨B.exec, B.bytes, hml, hown, fun w hw => hts w (List.mem_cons_of_mem _ hw)⟩, hK, hl, (name_of_methodNamed B.named B.method).1, ⟨Nat.le_refl _, Nat.le_refl _, by show hn h' ≤ hn h + (hn h' - hn h); omega, by show hs h' ≤ hs h + (hs h' - hs h); omega⟩, hRel.1, ?_⟩
    s.heap [] ls ⟨hRel, hO, va_S.rf, ⟨Nat.le_refl _, Nat.le_refl _, h1, h2⟩, hl0⟩
  · rw [Nat.sub_self, Nat.sub_self] at K
    exact K
  · intro k' r' pc st h'' H locs ls' ho hP hV
    obtain ⟨rfl, rfl, rfl⟩ := hP
    obtain ⟨vR, vO, vS, -, -⟩ := hV
    have hq : ∀ t : State, t.heap = H → s.WarmedH t.vm → px_Qc b G r' h'' (as.map (rl b G)).toArray s (.returned (r'.map (rl b G))) t := fun t ht _ => ⟨rfl, by rw [ht]; exact vR, fun q hq => by rw [ht]; exact vS.2.1 q (by rw [hRel.1]; omega) (Nat.not_le.mpr hq)⟩
    rcases ho with ⟨-, ho⟩ | ⟨h0, -⟩
    · rcases ho with ⟨d, v, ty, rfl, rfl, hrt, hnr⟩ | ⟨d, rfl, rfl, hrt⟩ | ⟨d, v, rfl, rfl, hrt⟩ | ⟨d, v, ty, rfl, rfl, hrt, hty, hvv⟩
      · exact W.zret (ty := ty) (v := v) B.exec B.bytes (B.returns.trans hrt) hnr hq vS.2.2 d hlocks
      · exact W.vret B.exec B.bytes (B.returns.trans hrt) hq vS.2.2 d hlocks
      · exact W.lret (v := v) B.exec B.bytes (B.returns.trans hrt) hq vS.2.2 d hlocks
      · refine W.aret (v := rl b G v) (rt := ty) B.exec B.bytes (B.returns.trans hrt) hty ?_ hq vS.2.2 d hlocks
        rcases hvv with rfl | ⟨a, rfl⟩
        · exact Or.inl rfl
        · exact Or.inr ⟨b + a, rfl⟩
    · exact absurd h0 (by decide)
end
section
/-! ===== rules: one instruction each ===== -/
/-- the locals: read, and written in the order of their places -/
def px_get : List (Nat × Value) → Nat → Option Value
  | [], _ => none
  | q :: t, i => bif Nat.beq q.1 i then some q.2 else px_get t i
def px_keep (i : Nat) (c2 : Bool) (q : Nat × Value) : Bool := !(Nat.beq q.1 i) && (!(Nat.beq (q.1 + 1) i && Nat.beq q.2.category 2) && !(c2 && Nat.beq q.1 (i + 1)))
def px_ins : List (Nat × Value) → Nat × Value → List (Nat × Value)
  | [], q => [q]
  | a :: t, q => bif Nat.ble q.1 a.1 then q :: a :: t else a :: px_ins t q
def px_set (lv : List (Nat × Value)) (i : Nat) (v : Value) : List (Nat × Value) := px_ins (lv.filter (px_keep i (Nat.beq v.category 2))) (i, v)
def px_sub : List (Nat × Value) → List (Nat × Value) → Prop
  | [], _ => True
  | q :: t, lv => px_get lv q.1 = some q.2 ∧ px_sub t lv
theorem px_get_mem : ∀ {lv : List (Nat × Value)} {i : Nat} {v : Value}, px_get lv i = some v → (i, v) ∈ lv
  | [], _, _, h => by cases h
  | q :: t, i, v, h => by
    unfold px_get at h
    cases hq : Nat.beq q.1 i with
    | true =>
      rw [hq] at h
      have h1 : q.2 = v := Option.some.inj h
      have h2 : q.1 = i := Nat.eq_of_beq_eq_true hq
      rw [← h1, ← h2]
      exact List.mem_cons_self
    | false =>
      rw [hq] at h
      exact List.mem_cons_of_mem _ (px_get_mem h)
theorem px_ins_mem : ∀ {lv : List (Nat × Value)} {a q : Nat × Value}, q ∈ px_ins lv a → q = a ∨ q ∈ lv
  | [], a, q, h => Or.inl (List.mem_singleton.mp h)
  | x :: t, a, q, h => by
    unfold px_ins at h
    cases hq : Nat.ble a.1 x.1 with
    | true =>
      rw [hq] at h
      exact (List.mem_cons.mp h)
    | false =>
      rw [hq] at h
      rcases List.mem_cons.mp h with h | h
      · exact Or.inr (by rw [h]; exact List.mem_cons_self)
      · rcases px_ins_mem h with h | h
        · exact Or.inl h
        · exact Or.inr (List.mem_cons_of_mem _ h)
theorem px_sub_mem : ∀ {l lv : List (Nat × Value)}, px_sub l lv → ∀ q ∈ l, q ∈ lv
  | [], _, _, q, h => by cases h
  | a :: t, lv, h, q, hq => by
    rcases List.mem_cons.mp hq with e | e
    · rw [e]; exact px_get_mem h.1
    · exact px_sub_mem h.2 q e
theorem px_lget {b : Nat} {G : px_G} {lv : List (Nat × Value)} {ls : Array Slot} {nL i : Nat} {v : Value} (hl : lv_has ls nL (px_lv b G lv)) (h : px_get lv i = some v) : ls[i]? = some (.val (rl b G v)) :=
  hl.2.2 (i, rl b G v) (List.mem_map.mpr ⟨(i, v), px_get_mem h, rfl⟩)
theorem px_lput {b : Nat} {G : px_G} {lv : List (Nat × Value)} {ls : Array Slot} {nL i : Nat} {v : Value} {f : Nat × Value → Bool} (hf : ∀ q, px_keep i (Nat.beq v.category 2) q = true → f (q.1, rl b G q.2) = true) (hl : lv_has ls nL ((i, rl b G v) :: (px_lv b G lv).filter f)) : lv_has ls nL (px_lv b G (px_set lv i v)) := by
  refine ⟨hl.1, hl.2.1, fun q hq => hl.2.2 q ?_⟩
  obtain ⟨z, hz, rfl⟩ := List.mem_map.mp hq
  rcases px_ins_mem hz with h | h
  · rw [h]; exact List.mem_cons_self
  · obtain ⟨h1, h2⟩ := List.mem_filter.mp h
    exact List.mem_cons_of_mem _ (List.mem_filter.mpr ⟨List.mem_map.mpr ⟨z, h1, rfl⟩, hf z h2⟩)
theorem px_bq (a b : Nat) : (a == b) = Nat.beq a b := by rw [Bool.eq_iff_iff, beq_iff_eq, Nat.beq_eq]
theorem px_keep1 {b : Nat} {G : px_G} {i : Nat} {c2 : Bool} (q : Nat × Value) (h : px_keep i c2 q = true) : (fun q : Nat × Value => !(q.1 == i) && !(q.1 + 1 == i && q.2.category == 2)) (q.1, rl b G q.2) = true := by
  have e : (rl b G q.2).category = q.2.category := rl_cat b G q.2
  simp only [px_keep, Bool.and_eq_true] at h
  obtain ⟨h1, h2, -⟩ := h
  have h3 : (!(q.1 + 1 == i && (rl b G q.2).category == 2)) = true := by rw [e, px_bq, px_bq]; exact h2
  show (!(q.1 == i) && !(q.1 + 1 == i && (rl b G q.2).category == 2)) = true
  rw [h3, Bool.and_true, px_bq]
  exact h1
theorem px_keep2 {b : Nat} {G : px_G} {i : Nat} (q : Nat × Value) (h : px_keep i true q = true) : (fun q : Nat × Value => !(q.1 == i) && (!(q.1 == i + 1) && !(q.1 + 1 == i && q.2.category == 2))) (q.1, rl b G q.2) = true := by
  have e : (rl b G q.2).category = q.2.category := rl_cat b G q.2
  simp only [px_keep, Bool.and_eq_true] at h
  obtain ⟨h1, h2, h4⟩ := h
  have h3 : (!(q.1 + 1 == i && (rl b G q.2).category == 2)) = true := by rw [e, px_bq, px_bq]; exact h2
  have h5 : (!(q.1 == i + 1)) = true := by rw [Bool.true_and] at h4; rw [px_bq]; exact h4
  show (!(q.1 == i) && (!(q.1 == i + 1) && !(q.1 + 1 == i && (rl b G q.2).category == 2))) = true
  rw [h3, h5, Bool.and_true, Bool.and_true, px_bq]
  exact h1
section PXR
variable {M : px_M} {N1 S1 : Nat} {Post : Nat → Option Value → PH → Prop} {pc : Nat} {lv : List (Nat × Value)} {st : List Value} {h : PH}
/-- fewer locals -/
theorem px_drop {lv' : List (Nat × Value)} (hs : px_sub lv' lv) (k : PW M N1 S1 Post pc lv' st h) : PW M N1 S1 Post pc lv st h :=
  fun b G p l e R s m args below meth c n0 s0 Q C H locs ls V => k b G p l e R s m args below meth c n0 s0 Q C H locs ls ⟨V.1, V.2.1, V.2.2.1, V.2.2.2.1, V.2.2.2.2.1, V.2.2.2.2.2.1, fun q hq => by
    obtain ⟨z, hz, rfl⟩ := List.mem_map.mp hq
    exact V.2.2.2.2.2.2 _ (List.mem_map.mpr ⟨z, px_sub_mem hs z hz, rfl⟩)⟩
theorem px_eq {pc' : Nat} {lv' : List (Nat × Value)} {st' : List Value} {h' : PH} (e1 : pc = pc') (e2 : lv = lv') (e3 : st = st') (e4 : h = h') (k : PW M N1 S1 Post pc' lv' st' h') : PW M N1 S1 Post pc lv st h := by subst e1 e2 e3 e4; exact k
theorem px_mono {Post' : Nat → Option Value → PH → Prop} (hp : ∀ k r h, Post' k r h → Post k r h) (k : PW M N1 S1 Post' pc lv st h) : PW M N1 S1 Post pc lv st h :=
  fun b G p l e R s m args below meth c n0 s0 Q C => k b G p l e R s m args below meth c n0 s0 Q ⟨C.1, C.2.1, C.2.2.1, C.2.2.2.1, C.2.2.2.2.1, C.2.2.2.2.2.1, fun k' r pc st h H locs ls ho hP => C.2.2.2.2.2.2 k' r pc st h H locs ls ho (hp _ _ _ hP)⟩
theorem px_iconst {n : Int} {v : Int32} (d : decode (px_cc M) pc = .ok (.iconst n, 1)) (hv : Int32.ofInt n = v) (k : PW M N1 S1 Post (pc + 1) lv (.int v :: st) h) : PW M N1 S1 Post pc lv (st) h :=
  fun b G p l e R s m args below meth c n0 s0 Q C H locs ls V => lv_iconst C.1.1 C.1.2.1 d hv (k b G p l e R s m args below meth c n0 s0 Q C H locs ls V)
theorem px_bipush {n : Int} {v : Int32} (d : decode (px_cc M) pc = .ok (.bipush n, 2)) (hv : (Int8.ofInt n).toInt32 = v) (k : PW M N1 S1 Post (pc + 2) lv (.int v :: st) h) : PW M N1 S1 Post pc lv (st) h :=
  fun b G p l e R s m args below meth c n0 s0 Q C H locs ls V => lv_bipush C.1.1 C.1.2.1 d hv (k b G p l e R s m args below meth c n0 s0 Q C H locs ls V)
theorem px_sipush {n : Int} {v : Int32} (d : decode (px_cc M) pc = .ok (.sipush n, 3)) (hv : (Int16.ofInt n).toInt32 = v) (k : PW M N1 S1 Post (pc + 3) lv (.int v :: st) h) : PW M N1 S1 Post pc lv (st) h :=
  fun b G p l e R s m args below meth c n0 s0 Q C H locs ls V => lv_sipush C.1.1 C.1.2.1 d hv (k b G p l e R s m args below meth c n0 s0 Q C H locs ls V)
theorem px_lconst {n : Fin 2} {v : Int64} (d : decode (px_cc M) pc = .ok (.lconst n, 1)) (hv : Int64.ofNat (n : Nat) = v) (k : PW M N1 S1 Post (pc + 1) lv (.long v :: st) h) : PW M N1 S1 Post pc lv (st) h :=
  fun b G p l e R s m args below meth c n0 s0 Q C H locs ls V => lv_lconst C.1.1 C.1.2.1 d hv (k b G p l e R s m args below meth c n0 s0 Q C H locs ls V)
theorem px_null  (d : decode (px_cc M) pc = .ok (.aconst_null, 1))  (k : PW M N1 S1 Post (pc + 1) lv (.null :: st) h) : PW M N1 S1 Post pc lv (st) h :=
  fun b G p l e R s m args below meth c n0 s0 Q C H locs ls V => lv_null C.1.1 C.1.2.1 d (k b G p l e R s m args below meth c n0 s0 Q C H locs ls V)
theorem px_ldc {ix : Nat} {v : Int32} (d : decode (px_cc M) pc = .ok (.ldc ix, 2)) (hc : Cond.constant (px_own M) ix v ∈ px_TB) (k : PW M N1 S1 Post (pc + 2) lv (.int v :: st) h) : PW M N1 S1 Post pc lv (st) h :=
  fun b G p l e R s m args below meth c n0 s0 Q C H locs ls V => lv_ldc C.1.1 C.1.2.1 C.1.2.2.2.1 (C.1.2.2.2.2 _ hc) d (k b G p l e R s m args below meth c n0 s0 Q C H locs ls V)
theorem px_ldcw {ix : Nat} {v : Int32} (d : decode (px_cc M) pc = .ok (.ldc_w ix, 3)) (hc : Cond.constant (px_own M) ix v ∈ px_TB) (k : PW M N1 S1 Post (pc + 3) lv (.int v :: st) h) : PW M N1 S1 Post pc lv (st) h :=
  fun b G p l e R s m args below meth c n0 s0 Q C H locs ls V => lv_ldcw C.1.1 C.1.2.1 C.1.2.2.2.1 (C.1.2.2.2.2 _ hc) d (k b G p l e R s m args below meth c n0 s0 Q C H locs ls V)
theorem px_ldc2 {ix : Nat} {v : Int64} (d : decode (px_cc M) pc = .ok (.ldc2_w ix, 3)) (hc : Cond.constantLong (px_own M) ix v ∈ px_TB) (k : PW M N1 S1 Post (pc + 3) lv (.long v :: st) h) : PW M N1 S1 Post pc lv (st) h :=
  fun b G p l e R s m args below meth c n0 s0 Q C H locs ls V => lv_ldc2 C.1.1 C.1.2.1 C.1.2.2.2.1 (C.1.2.2.2.2 _ hc) d (k b G p l e R s m args below meth c n0 s0 Q C H locs ls V)
theorem px_iload_n {j : Fin 4} {i : Nat} {x : Int32} (d : decode (px_cc M) pc = .ok (.iload_n j, 1)) (hj : (j : Nat) = i) (hg : px_get lv i = some (.int x)) (k : PW M N1 S1 Post (pc + 1) lv (.int x :: st) h) : PW M N1 S1 Post pc lv (st) h :=
  fun b G p l e R s m args below meth c n0 s0 Q C H locs ls V => lv_iload_n C.1.1 C.1.2.1 d hj (px_lget V.2.2.2.2 hg) (k b G p l e R s m args below meth c n0 s0 Q C H locs ls V)
theorem px_iload {i : Nat} {x : Int32} (d : decode (px_cc M) pc = .ok (.iload i, 2)) (hg : px_get lv i = some (.int x)) (k : PW M N1 S1 Post (pc + 2) lv (.int x :: st) h) : PW M N1 S1 Post pc lv (st) h :=
  fun b G p l e R s m args below meth c n0 s0 Q C H locs ls V => lv_iload C.1.1 C.1.2.1 d (px_lget V.2.2.2.2 hg) (k b G p l e R s m args below meth c n0 s0 Q C H locs ls V)
theorem px_lload_n {j : Fin 4} {i : Nat} {x : Int64} (d : decode (px_cc M) pc = .ok (.lload_n j, 1)) (hj : (j : Nat) = i) (hg : px_get lv i = some (.long x)) (k : PW M N1 S1 Post (pc + 1) lv (.long x :: st) h) : PW M N1 S1 Post pc lv (st) h :=
  fun b G p l e R s m args below meth c n0 s0 Q C H locs ls V => lv_lload_n C.1.1 C.1.2.1 d hj (px_lget V.2.2.2.2 hg) (k b G p l e R s m args below meth c n0 s0 Q C H locs ls V)
theorem px_lload {i : Nat} {x : Int64} (d : decode (px_cc M) pc = .ok (.lload i, 2)) (hg : px_get lv i = some (.long x)) (k : PW M N1 S1 Post (pc + 2) lv (.long x :: st) h) : PW M N1 S1 Post pc lv (st) h :=
  fun b G p l e R s m args below meth c n0 s0 Q C H locs ls V => lv_lload C.1.1 C.1.2.1 d (px_lget V.2.2.2.2 hg) (k b G p l e R s m args below meth c n0 s0 Q C H locs ls V)
theorem px_aload_n {j : Fin 4} {i x : Nat} (d : decode (px_cc M) pc = .ok (.aload_n j, 1)) (hj : (j : Nat) = i) (hg : px_get lv i = some (.ref x)) (k : PW M N1 S1 Post (pc + 1) lv (.ref x :: st) h) : PW M N1 S1 Post pc lv (st) h :=
  fun b G p l e R s m args below meth c n0 s0 Q C H locs ls V => lv_aload_n C.1.1 C.1.2.1 d hj (px_lget V.2.2.2.2 hg) (k b G p l e R s m args below meth c n0 s0 Q C H locs ls V)
theorem px_aload {i x : Nat} (d : decode (px_cc M) pc = .ok (.aload i, 2)) (hg : px_get lv i = some (.ref x)) (k : PW M N1 S1 Post (pc + 2) lv (.ref x :: st) h) : PW M N1 S1 Post pc lv (st) h :=
  fun b G p l e R s m args below meth c n0 s0 Q C H locs ls V => lv_aload C.1.1 C.1.2.1 d (px_lget V.2.2.2.2 hg) (k b G p l e R s m args below meth c n0 s0 Q C H locs ls V)
theorem px_aload_nN {j : Fin 4} {i : Nat} (d : decode (px_cc M) pc = .ok (.aload_n j, 1)) (hj : (j : Nat) = i) (hg : px_get lv i = some .null) (k : PW M N1 S1 Post (pc + 1) lv (.null :: st) h) : PW M N1 S1 Post pc lv (st) h :=
  fun b G p l e R s m args below meth c n0 s0 Q C H locs ls V => lv_aload_nN C.1.1 C.1.2.1 d hj (px_lget V.2.2.2.2 hg) (k b G p l e R s m args below meth c n0 s0 Q C H locs ls V)
theorem px_aloadN {i : Nat} (d : decode (px_cc M) pc = .ok (.aload i, 2)) (hg : px_get lv i = some .null) (k : PW M N1 S1 Post (pc + 2) lv (.null :: st) h) : PW M N1 S1 Post pc lv (st) h :=
  fun b G p l e R s m args below meth c n0 s0 Q C H locs ls V => lv_aloadN C.1.1 C.1.2.1 d (px_lget V.2.2.2.2 hg) (k b G p l e R s m args below meth c n0 s0 Q C H locs ls V)
theorem px_aload_nX {j : Fin 4} {i x : Nat} (d : decode (px_cc M) pc = .ok (.aload_n j, 1)) (hj : (j : Nat) = i) (hg : px_get lv i = some (.retAddr x)) (k : PW M N1 S1 Post (pc + 1) lv (.retAddr x :: st) h) : PW M N1 S1 Post pc lv (st) h :=
  fun b G p l e R s m args below meth c n0 s0 Q C H locs ls V => lv_aload_n C.1.1 C.1.2.1 d hj (px_lget V.2.2.2.2 hg) (k b G p l e R s m args below meth c n0 s0 Q C H locs ls V)
theorem px_aloadX {i x : Nat} (d : decode (px_cc M) pc = .ok (.aload i, 2)) (hg : px_get lv i = some (.retAddr x)) (k : PW M N1 S1 Post (pc + 2) lv (.retAddr x :: st) h) : PW M N1 S1 Post pc lv (st) h :=
  fun b G p l e R s m args below meth c n0 s0 Q C H locs ls V => lv_aload C.1.1 C.1.2.1 d (px_lget V.2.2.2.2 hg) (k b G p l e R s m args below meth c n0 s0 Q C H locs ls V)
theorem px_istore_n {j : Fin 4} {i : Nat} {x : Int32} (d : decode (px_cc M) pc = .ok (.istore_n j, 1)) (hj : (j : Nat) = i) (hn : i < px_nL M) (k : PW M N1 S1 Post (pc + 1) (px_set lv i (.int x)) st h) : PW M N1 S1 Post pc lv (.int x :: st) h :=
  fun b G p l e R s m args below meth c n0 s0 Q C H locs ls V => lv_istore_n C.1.1 C.1.2.1 d hj V.2.2.2.2 hn rfl (fun ls9 hl9 => (k b G p l e R s m args below meth c n0 s0 Q C H locs ls9 ⟨V.1, V.2.1, V.2.2.1, V.2.2.2.1, px_lput px_keep1 hl9⟩))
theorem px_istore {i : Nat} {x : Int32} (d : decode (px_cc M) pc = .ok (.istore i, 2)) (hn : i < px_nL M) (k : PW M N1 S1 Post (pc + 2) (px_set lv i (.int x)) st h) : PW M N1 S1 Post pc lv (.int x :: st) h :=
  fun b G p l e R s m args below meth c n0 s0 Q C H locs ls V => lv_istore C.1.1 C.1.2.1 d V.2.2.2.2 hn rfl (fun ls9 hl9 => (k b G p l e R s m args below meth c n0 s0 Q C H locs ls9 ⟨V.1, V.2.1, V.2.2.1, V.2.2.2.1, px_lput px_keep1 hl9⟩))
theorem px_astore_n {j : Fin 4} {i : Nat} {x : Nat} (d : decode (px_cc M) pc = .ok (.astore_n j, 1)) (hj : (j : Nat) = i) (hn : i < px_nL M) (k : PW M N1 S1 Post (pc + 1) (px_set lv i (.ref x)) st h) : PW M N1 S1 Post pc lv (.ref x :: st) h :=
  fun b G p l e R s m args below meth c n0 s0 Q C H locs ls V => lv_astore_n C.1.1 C.1.2.1 d hj V.2.2.2.2 hn rfl (fun ls9 hl9 => (k b G p l e R s m args below meth c n0 s0 Q C H locs ls9 ⟨V.1, V.2.1, V.2.2.1, V.2.2.2.1, px_lput px_keep1 hl9⟩))
theorem px_astore {i : Nat} {x : Nat} (d : decode (px_cc M) pc = .ok (.astore i, 2)) (hn : i < px_nL M) (k : PW M N1 S1 Post (pc + 2) (px_set lv i (.ref x)) st h) : PW M N1 S1 Post pc lv (.ref x :: st) h :=
  fun b G p l e R s m args below meth c n0 s0 Q C H locs ls V => lv_astore C.1.1 C.1.2.1 d V.2.2.2.2 hn rfl (fun ls9 hl9 => (k b G p l e R s m args below meth c n0 s0 Q C H locs ls9 ⟨V.1, V.2.1, V.2.2.1, V.2.2.2.1, px_lput px_keep1 hl9⟩))
theorem px_astore_nN {j : Fin 4} {i : Nat}  (d : decode (px_cc M) pc = .ok (.astore_n j, 1)) (hj : (j : Nat) = i) (hn : i < px_nL M) (k : PW M N1 S1 Post (pc + 1) (px_set lv i (.null)) st h) : PW M N1 S1 Post pc lv (.null :: st) h :=
  fun b G p l e R s m args below meth c n0 s0 Q C H locs ls V => lv_astore_nN C.1.1 C.1.2.1 d hj V.2.2.2.2 hn rfl (fun ls9 hl9 => (k b G p l e R s m args below meth c n0 s0 Q C H locs ls9 ⟨V.1, V.2.1, V.2.2.1, V.2.2.2.1, px_lput px_keep1 hl9⟩))
theorem px_astoreN {i : Nat}  (d : decode (px_cc M) pc = .ok (.astore i, 2)) (hn : i < px_nL M) (k : PW M N1 S1 Post (pc + 2) (px_set lv i (.null)) st h) : PW M N1 S1 Post pc lv (.null :: st) h :=
  fun b G p l e R s m args below meth c n0 s0 Q C H locs ls V => lv_astoreN C.1.1 C.1.2.1 d V.2.2.2.2 hn rfl (fun ls9 hl9 => (k b G p l e R s m args below meth c n0 s0 Q C H locs ls9 ⟨V.1, V.2.1, V.2.2.1, V.2.2.2.1, px_lput px_keep1 hl9⟩))
theorem px_lstore_n {j : Fin 4} {i : Nat} {x : Int64} (d : decode (px_cc M) pc = .ok (.lstore_n j, 1)) (hj : (j : Nat) = i) (hn : i + 1 < px_nL M) (k : PW M N1 S1 Post (pc + 1) (px_set lv i (.long x)) st h) : PW M N1 S1 Post pc lv (.long x :: st) h :=
  fun b G p l e R s m args below meth c n0 s0 Q C H locs ls V => lv_lstore_n C.1.1 C.1.2.1 d hj V.2.2.2.2 hn rfl (fun ls9 hl9 => (k b G p l e R s m args below meth c n0 s0 Q C H locs ls9 ⟨V.1, V.2.1, V.2.2.1, V.2.2.2.1, px_lput px_keep2 hl9⟩))
theorem px_lstore {i : Nat} {x : Int64} (d : decode (px_cc M) pc = .ok (.lstore i, 2)) (hn : i + 1 < px_nL M) (k : PW M N1 S1 Post (pc + 2) (px_set lv i (.long x)) st h) : PW M N1 S1 Post pc lv (.long x :: st) h :=
  fun b G p l e R s m args below meth c n0 s0 Q C H locs ls V => lv_lstore C.1.1 C.1.2.1 d V.2.2.2.2 hn rfl (fun ls9 hl9 => (k b G p l e R s m args below meth c n0 s0 Q C H locs ls9 ⟨V.1, V.2.1, V.2.2.1, V.2.2.2.1, px_lput px_keep2 hl9⟩))
theorem px_iinc {i : Nat} {n : Int} {x v : Int32} (d : decode (px_cc M) pc = .ok (.iinc i n, 3)) (hg : px_get lv i = some (.int x)) (hv : x + Int32.ofInt n = v) (hn : i < px_nL M) (k : PW M N1 S1 Post (pc + 3) (px_set lv i (.int v)) st h) : PW M N1 S1 Post pc lv st h := by
  intro b G p l e R s m args below meth c n0 s0 Q C H locs ls V
  have hm : (i, Value.int x) ∈ px_lv b G lv := List.mem_map.mpr ⟨(i, .int x), px_get_mem hg, rfl⟩
  obtain ⟨kk, hkk⟩ := List.getElem?_of_mem hm
  exact lv_iinc (k := kk) C.1.1 C.1.2.1 d V.2.2.2.2 hkk hv hn rfl (fun ls9 hl9 => k b G p l e R s m args below meth c n0 s0 Q C H locs ls9 ⟨V.1, V.2.1, V.2.2.1, V.2.2.2.1, px_lput (v := .int v) px_keep1 hl9⟩)
theorem px_iadd {x y : Int32} (d : decode (px_cc M) pc = .ok (.iadd, 1))  (k : PW M N1 S1 Post (pc + 1) lv (.int (x + y) :: st) h) : PW M N1 S1 Post pc lv (.int y :: .int x :: st) h :=
  fun b G p l e R s m args below meth c n0 s0 Q C H locs ls V => lv_iadd C.1.1 C.1.2.1 d (k b G p l e R s m args below meth c n0 s0 Q C H locs ls V)
theorem px_isub {x y : Int32} (d : decode (px_cc M) pc = .ok (.isub, 1))  (k : PW M N1 S1 Post (pc + 1) lv (.int (x - y) :: st) h) : PW M N1 S1 Post pc lv (.int y :: .int x :: st) h :=
  fun b G p l e R s m args below meth c n0 s0 Q C H locs ls V => lv_isub C.1.1 C.1.2.1 d (k b G p l e R s m args below meth c n0 s0 Q C H locs ls V)
theorem px_imul {x y : Int32} (d : decode (px_cc M) pc = .ok (.imul, 1))  (k : PW M N1 S1 Post (pc + 1) lv (.int (x * y) :: st) h) : PW M N1 S1 Post pc lv (.int y :: .int x :: st) h :=
  fun b G p l e R s m args below meth c n0 s0 Q C H locs ls V => lv_imul C.1.1 C.1.2.1 d (k b G p l e R s m args below meth c n0 s0 Q C H locs ls V)
theorem px_iand {x y : Int32} (d : decode (px_cc M) pc = .ok (.iand, 1))  (k : PW M N1 S1 Post (pc + 1) lv (.int (x &&& y) :: st) h) : PW M N1 S1 Post pc lv (.int y :: .int x :: st) h :=
  fun b G p l e R s m args below meth c n0 s0 Q C H locs ls V => lv_iand C.1.1 C.1.2.1 d (k b G p l e R s m args below meth c n0 s0 Q C H locs ls V)
theorem px_ior {x y : Int32} (d : decode (px_cc M) pc = .ok (.ior, 1))  (k : PW M N1 S1 Post (pc + 1) lv (.int (x ||| y) :: st) h) : PW M N1 S1 Post pc lv (.int y :: .int x :: st) h :=
  fun b G p l e R s m args below meth c n0 s0 Q C H locs ls V => lv_ior C.1.1 C.1.2.1 d (k b G p l e R s m args below meth c n0 s0 Q C H locs ls V)
theorem px_ixor {x y : Int32} (d : decode (px_cc M) pc = .ok (.ixor, 1))  (k : PW M N1 S1 Post (pc + 1) lv (.int (x ^^^ y) :: st) h) : PW M N1 S1 Post pc lv (.int y :: .int x :: st) h :=
  fun b G p l e R s m args below meth c n0 s0 Q C H locs ls V => lv_ixor C.1.1 C.1.2.1 d (k b G p l e R s m args below meth c n0 s0 Q C H locs ls V)
theorem px_ishl {x y : Int32} (d : decode (px_cc M) pc = .ok (.ishl, 1))  (k : PW M N1 S1 Post (pc + 1) lv (.int (x <<< (y &&& 31)) :: st) h) : PW M N1 S1 Post pc lv (.int y :: .int x :: st) h :=
  fun b G p l e R s m args below meth c n0 s0 Q C H locs ls V => lv_ishl C.1.1 C.1.2.1 d (k b G p l e R s m args below meth c n0 s0 Q C H locs ls V)
theorem px_ishr {x y : Int32} (d : decode (px_cc M) pc = .ok (.ishr, 1))  (k : PW M N1 S1 Post (pc + 1) lv (.int (x >>> (y &&& 31)) :: st) h) : PW M N1 S1 Post pc lv (.int y :: .int x :: st) h :=
  fun b G p l e R s m args below meth c n0 s0 Q C H locs ls V => lv_ishr C.1.1 C.1.2.1 d (k b G p l e R s m args below meth c n0 s0 Q C H locs ls V)
theorem px_idiv {x y : Int32} (d : decode (px_cc M) pc = .ok (.idiv, 1)) (hne : ¬ y = 0) (k : PW M N1 S1 Post (pc + 1) lv (.int (x / y) :: st) h) : PW M N1 S1 Post pc lv (.int y :: .int x :: st) h :=
  fun b G p l e R s m args below meth c n0 s0 Q C H locs ls V => lv_idiv C.1.1 C.1.2.1 d hne (k b G p l e R s m args below meth c n0 s0 Q C H locs ls V)
theorem px_irem {x y : Int32} (d : decode (px_cc M) pc = .ok (.irem, 1)) (hne : ¬ y = 0) (k : PW M N1 S1 Post (pc + 1) lv (.int (x - x / y * y) :: st) h) : PW M N1 S1 Post pc lv (.int y :: .int x :: st) h :=
  fun b G p l e R s m args below meth c n0 s0 Q C H locs ls V => lv_irem C.1.1 C.1.2.1 d hne (k b G p l e R s m args below meth c n0 s0 Q C H locs ls V)
theorem px_ineg {x : Int32} (d : decode (px_cc M) pc = .ok (.ineg, 1))  (k : PW M N1 S1 Post (pc + 1) lv (.int (-x) :: st) h) : PW M N1 S1 Post pc lv (.int x :: st) h :=
  fun b G p l e R s m args below meth c n0 s0 Q C H locs ls V => lv_ineg C.1.1 C.1.2.1 d (k b G p l e R s m args below meth c n0 s0 Q C H locs ls V)
theorem px_ladd {x y : Int64} (d : decode (px_cc M) pc = .ok (.ladd, 1))  (k : PW M N1 S1 Post (pc + 1) lv (.long (x + y) :: st) h) : PW M N1 S1 Post pc lv (.long y :: .long x :: st) h :=
  fun b G p l e R s m args below meth c n0 s0 Q C H locs ls V => lv_ladd C.1.1 C.1.2.1 d (k b G p l e R s m args below meth c n0 s0 Q C H locs ls V)
theorem px_lsub {x y : Int64} (d : decode (px_cc M) pc = .ok (.lsub, 1))  (k : PW M N1 S1 Post (pc + 1) lv (.long (x - y) :: st) h) : PW M N1 S1 Post pc lv (.long y :: .long x :: st) h :=
  fun b G p l e R s m args below meth c n0 s0 Q C H locs ls V => lv_lsub C.1.1 C.1.2.1 d (k b G p l e R s m args below meth c n0 s0 Q C H locs ls V)
theorem px_lmul {x y : Int64} (d : decode (px_cc M) pc = .ok (.lmul, 1))  (k : PW M N1 S1 Post (pc + 1) lv (.long (x * y) :: st) h) : PW M N1 S1 Post pc lv (.long y :: .long x :: st) h :=
  fun b G p l e R s m args below meth c n0 s0 Q C H locs ls V => lv_lmul C.1.1 C.1.2.1 d (k b G p l e R s m args below meth c n0 s0 Q C H locs ls V)
theorem px_land {x y : Int64} (d : decode (px_cc M) pc = .ok (.land, 1))  (k : PW M N1 S1 Post (pc + 1) lv (.long (x &&& y) :: st) h) : PW M N1 S1 Post pc lv (.long y :: .long x :: st) h :=
  fun b G p l e R s m args below meth c n0 s0 Q C H locs ls V => lv_land C.1.1 C.1.2.1 d (k b G p l e R s m args below meth c n0 s0 Q C H locs ls V)
theorem px_lor {x y : Int64} (d : decode (px_cc M) pc = .ok (.lor, 1))  (k : PW M N1 S1 Post (pc + 1) lv (.long (x ||| y) :: st) h) : PW M N1 S1 Post pc lv (.long y :: .long x :: st) h :=
  fun b G p l e R s m args below meth c n0 s0 Q C H locs ls V => lv_lor C.1.1 C.1.2.1 d (k b G p l e R s m args below meth c n0 s0 Q C H locs ls V)
theorem px_lxor {x y : Int64} (d : decode (px_cc M) pc = .ok (.lxor, 1))  (k : PW M N1 S1 Post (pc + 1) lv (.long (x ^^^ y) :: st) h) : PW M N1 S1 Post pc lv (.long y :: .long x :: st) h :=
  fun b G p l e R s m args below meth c n0 s0 Q C H locs ls V => lv_lxor C.1.1 C.1.2.1 d (k b G p l e R s m args below meth c n0 s0 Q C H locs ls V)
theorem px_iushr {x y : Int32} (d : decode (px_cc M) pc = .ok (.iushr, 1))  (k : PW M N1 S1 Post (pc + 1) lv (.int (x.toUInt32 >>> (y.toUInt32 &&& Int32.toUInt32 31)).toInt32 :: st) h) : PW M N1 S1 Post pc lv (.int y :: .int x :: st) h :=
  fun b G p l e R s m args below meth c n0 s0 Q C H locs ls V => lv_iushr C.1.1 C.1.2.1 d rfl (k b G p l e R s m args below meth c n0 s0 Q C H locs ls V)
theorem px_lushr {x : Int64} {y : Int32} (d : decode (px_cc M) pc = .ok (.lushr, 1))  (k : PW M N1 S1 Post (pc + 1) lv (.long (x.toUInt64 >>> (y.toInt64.toUInt64 &&& Int64.toUInt64 63)).toInt64 :: st) h) : PW M N1 S1 Post pc lv (.int y :: .long x :: st) h :=
  fun b G p l e R s m args below meth c n0 s0 Q C H locs ls V => lv_lushr C.1.1 C.1.2.1 d rfl (k b G p l e R s m args below meth c n0 s0 Q C H locs ls V)
theorem px_lshl {x : Int64} {y : Int32} (d : decode (px_cc M) pc = .ok (.lshl, 1))  (k : PW M N1 S1 Post (pc + 1) lv (.long (x <<< (y.toInt64 &&& 63)) :: st) h) : PW M N1 S1 Post pc lv (.int y :: .long x :: st) h :=
  fun b G p l e R s m args below meth c n0 s0 Q C H locs ls V => lv_lshl C.1.1 C.1.2.1 d rfl (k b G p l e R s m args below meth c n0 s0 Q C H locs ls V)
theorem px_lshr {x : Int64} {y : Int32} (d : decode (px_cc M) pc = .ok (.lshr, 1))  (k : PW M N1 S1 Post (pc + 1) lv (.long (x >>> (y.toInt64 &&& 63)) :: st) h) : PW M N1 S1 Post pc lv (.int y :: .long x :: st) h :=
  fun b G p l e R s m args below meth c n0 s0 Q C H locs ls V => lv_lshr C.1.1 C.1.2.1 d rfl (k b G p l e R s m args below meth c n0 s0 Q C H locs ls V)
theorem px_i2l {x : Int32} (d : decode (px_cc M) pc = .ok (.i2l, 1))  (k : PW M N1 S1 Post (pc + 1) lv (.long x.toInt64 :: st) h) : PW M N1 S1 Post pc lv (.int x :: st) h :=
  fun b G p l e R s m args below meth c n0 s0 Q C H locs ls V => lv_i2l C.1.1 C.1.2.1 d rfl (k b G p l e R s m args below meth c n0 s0 Q C H locs ls V)
theorem px_l2i {x : Int64} (d : decode (px_cc M) pc = .ok (.l2i, 1))  (k : PW M N1 S1 Post (pc + 1) lv (.int x.toInt32 :: st) h) : PW M N1 S1 Post pc lv (.long x :: st) h :=
  fun b G p l e R s m args below meth c n0 s0 Q C H locs ls V => lv_l2i C.1.1 C.1.2.1 d rfl (k b G p l e R s m args below meth c n0 s0 Q C H locs ls V)
theorem px_i2c {x : Int32} (d : decode (px_cc M) pc = .ok (.i2c, 1))  (k : PW M N1 S1 Post (pc + 1) lv (.int (x.toUInt32 % 65536).toInt32 :: st) h) : PW M N1 S1 Post pc lv (.int x :: st) h :=
  fun b G p l e R s m args below meth c n0 s0 Q C H locs ls V => lv_i2c C.1.1 C.1.2.1 d rfl (k b G p l e R s m args below meth c n0 s0 Q C H locs ls V)
theorem px_lcmp {x y : Int64} (d : decode (px_cc M) pc = .ok (.lcmp, 1))  (k : PW M N1 S1 Post (pc + 1) lv (.int (lg_cmp x y) :: st) h) : PW M N1 S1 Post pc lv (.long y :: .long x :: st) h :=
  fun b G p l e R s m args below meth c n0 s0 Q C H locs ls V => W.lcmp C.1.1 C.1.2.1 d (k b G p l e R s m args below meth c n0 s0 Q C H locs ls V)
theorem px_dup {va : Value} (d : decode (px_cc M) pc = .ok (.dup, 1)) (ha : va.category = 1) (k : PW M N1 S1 Post (pc + 1) lv (va :: va :: st) h) : PW M N1 S1 Post pc lv (va :: st) h :=
  fun b G p l e R s m args below meth c n0 s0 Q C H locs ls V => lv_dup C.1.1 C.1.2.1 d ((rl_cat b G va).trans ha) (k b G p l e R s m args below meth c n0 s0 Q C H locs ls V)
theorem px_pop {va : Value} (d : decode (px_cc M) pc = .ok (.pop, 1)) (ha : va.category = 1) (k : PW M N1 S1 Post (pc + 1) lv (st) h) : PW M N1 S1 Post pc lv (va :: st) h :=
  fun b G p l e R s m args below meth c n0 s0 Q C H locs ls V => lv_pop C.1.1 C.1.2.1 d ((rl_cat b G va).trans ha) (k b G p l e R s m args below meth c n0 s0 Q C H locs ls V)
theorem px_dup2 {va vb : Value} (d : decode (px_cc M) pc = .ok (.dup2, 1)) (ha : va.category = 1) (hb : vb.category = 1) (k : PW M N1 S1 Post (pc + 1) lv (va :: vb :: va :: vb :: st) h) : PW M N1 S1 Post pc lv (va :: vb :: st) h :=
  fun b G p l e R s m args below meth c n0 s0 Q C H locs ls V => lv_dup2_11 C.1.1 C.1.2.1 d ((rl_cat b G va).trans ha) ((rl_cat b G vb).trans hb) (k b G p l e R s m args below meth c n0 s0 Q C H locs ls V)
theorem px_dup_x1 {va vb : Value} (d : decode (px_cc M) pc = .ok (.dup_x1, 1)) (ha : va.category = 1) (hb : vb.category = 1) (k : PW M N1 S1 Post (pc + 1) lv (va :: vb :: va :: st) h) : PW M N1 S1 Post pc lv (va :: vb :: st) h :=
  fun b G p l e R s m args below meth c n0 s0 Q C H locs ls V => lv_dup_x1 C.1.1 C.1.2.1 d ((rl_cat b G va).trans ha) ((rl_cat b G vb).trans hb) (k b G p l e R s m args below meth c n0 s0 Q C H locs ls V)
theorem px_if_eq {x : Int32} {off : Int} {tgt : Nat} (d : decode (px_cc M) pc = .ok (.ifCond .eq off, 3)) (ht : (pc : Int) + off = (tgt : Int)) (kt : x = 0 → PW M N1 S1 Post tgt lv st h) (kf : ¬ x = 0 → PW M N1 S1 Post (pc + 3) lv st h) : PW M N1 S1 Post pc lv (.int x :: st) h :=
  fun b G p l e R s m args below meth c n0 s0 Q C H locs ls V => lv_if_eq C.1.1 C.1.2.1 d ht (fun q => kt q b G p l e R s m args below meth c n0 s0 Q C H locs ls V) (fun q => kf q b G p l e R s m args below meth c n0 s0 Q C H locs ls V)
theorem px_if_ne {x : Int32} {off : Int} {tgt : Nat} (d : decode (px_cc M) pc = .ok (.ifCond .ne off, 3)) (ht : (pc : Int) + off = (tgt : Int)) (kt : ¬ x = 0 → PW M N1 S1 Post tgt lv st h) (kf : x = 0 → PW M N1 S1 Post (pc + 3) lv st h) : PW M N1 S1 Post pc lv (.int x :: st) h :=
  fun b G p l e R s m args below meth c n0 s0 Q C H locs ls V => lv_if_ne C.1.1 C.1.2.1 d ht (fun q => kt q b G p l e R s m args below meth c n0 s0 Q C H locs ls V) (fun q => kf q b G p l e R s m args below meth c n0 s0 Q C H locs ls V)
theorem px_if_lt {x : Int32} {off : Int} {tgt : Nat} (d : decode (px_cc M) pc = .ok (.ifCond .lt off, 3)) (ht : (pc : Int) + off = (tgt : Int)) (kt : x < 0 → PW M N1 S1 Post tgt lv st h) (kf : ¬ x < 0 → PW M N1 S1 Post (pc + 3) lv st h) : PW M N1 S1 Post pc lv (.int x :: st) h :=
  fun b G p l e R s m args below meth c n0 s0 Q C H locs ls V => lv_if_lt C.1.1 C.1.2.1 d ht (fun q => kt q b G p l e R s m args below meth c n0 s0 Q C H locs ls V) (fun q => kf q b G p l e R s m args below meth c n0 s0 Q C H locs ls V)
theorem px_if_ge {x : Int32} {off : Int} {tgt : Nat} (d : decode (px_cc M) pc = .ok (.ifCond .ge off, 3)) (ht : (pc : Int) + off = (tgt : Int)) (kt : 0 ≤ x → PW M N1 S1 Post tgt lv st h) (kf : ¬ 0 ≤ x → PW M N1 S1 Post (pc + 3) lv st h) : PW M N1 S1 Post pc lv (.int x :: st) h :=
  fun b G p l e R s m args below meth c n0 s0 Q C H locs ls V => lv_if_ge C.1.1 C.1.2.1 d ht (fun q => kt q b G p l e R s m args below meth c n0 s0 Q C H locs ls V) (fun q => kf q b G p l e R s m args below meth c n0 s0 Q C H locs ls V)
theorem px_if_gt {x : Int32} {off : Int} {tgt : Nat} (d : decode (px_cc M) pc = .ok (.ifCond .gt off, 3)) (ht : (pc : Int) + off = (tgt : Int)) (kt : 0 < x → PW M N1 S1 Post tgt lv st h) (kf : ¬ 0 < x → PW M N1 S1 Post (pc + 3) lv st h) : PW M N1 S1 Post pc lv (.int x :: st) h :=
  fun b G p l e R s m args below meth c n0 s0 Q C H locs ls V => lv_if_gt C.1.1 C.1.2.1 d ht (fun q => kt q b G p l e R s m args below meth c n0 s0 Q C H locs ls V) (fun q => kf q b G p l e R s m args below meth c n0 s0 Q C H locs ls V)
theorem px_if_le {x : Int32} {off : Int} {tgt : Nat} (d : decode (px_cc M) pc = .ok (.ifCond .le off, 3)) (ht : (pc : Int) + off = (tgt : Int)) (kt : x ≤ 0 → PW M N1 S1 Post tgt lv st h) (kf : ¬ x ≤ 0 → PW M N1 S1 Post (pc + 3) lv st h) : PW M N1 S1 Post pc lv (.int x :: st) h :=
  fun b G p l e R s m args below meth c n0 s0 Q C H locs ls V => lv_if_le C.1.1 C.1.2.1 d ht (fun q => kt q b G p l e R s m args below meth c n0 s0 Q C H locs ls V) (fun q => kf q b G p l e R s m args below meth c n0 s0 Q C H locs ls V)
theorem px_icmp_eq {x y : Int32} {off : Int} {tgt : Nat} (d : decode (px_cc M) pc = .ok (.if_icmp .eq off, 3)) (ht : (pc : Int) + off = (tgt : Int)) (kt : x = y → PW M N1 S1 Post tgt lv st h) (kf : ¬ x = y → PW M N1 S1 Post (pc + 3) lv st h) : PW M N1 S1 Post pc lv (.int y :: .int x :: st) h :=
  fun b G p l e R s m args below meth c n0 s0 Q C H locs ls V => lv_icmp_eq C.1.1 C.1.2.1 d ht (fun q => kt q b G p l e R s m args below meth c n0 s0 Q C H locs ls V) (fun q => kf q b G p l e R s m args below meth c n0 s0 Q C H locs ls V)
theorem px_icmp_ne {x y : Int32} {off : Int} {tgt : Nat} (d : decode (px_cc M) pc = .ok (.if_icmp .ne off, 3)) (ht : (pc : Int) + off = (tgt : Int)) (kt : ¬ x = y → PW M N1 S1 Post tgt lv st h) (kf : x = y → PW M N1 S1 Post (pc + 3) lv st h) : PW M N1 S1 Post pc lv (.int y :: .int x :: st) h :=
  fun b G p l e R s m args below meth c n0 s0 Q C H locs ls V => lv_icmp_ne C.1.1 C.1.2.1 d ht (fun q => kt q b G p l e R s m args below meth c n0 s0 Q C H locs ls V) (fun q => kf q b G p l e R s m args below meth c n0 s0 Q C H locs ls V)
theorem px_icmp_lt {x y : Int32} {off : Int} {tgt : Nat} (d : decode (px_cc M) pc = .ok (.if_icmp .lt off, 3)) (ht : (pc : Int) + off = (tgt : Int)) (kt : x < y → PW M N1 S1 Post tgt lv st h) (kf : ¬ x < y → PW M N1 S1 Post (pc + 3) lv st h) : PW M N1 S1 Post pc lv (.int y :: .int x :: st) h :=
  fun b G p l e R s m args below meth c n0 s0 Q C H locs ls V => lv_icmp_lt C.1.1 C.1.2.1 d ht (fun q => kt q b G p l e R s m args below meth c n0 s0 Q C H locs ls V) (fun q => kf q b G p l e R s m args below meth c n0 s0 Q C H locs ls V)
theorem px_icmp_ge {x y : Int32} {off : Int} {tgt : Nat} (d : decode (px_cc M) pc = .ok (.if_icmp .ge off, 3)) (ht : (pc : Int) + off = (tgt : Int)) (kt : y ≤ x → PW M N1 S1 Post tgt lv st h) (kf : ¬ y ≤ x → PW M N1 S1 Post (pc + 3) lv st h) : PW M N1 S1 Post pc lv (.int y :: .int x :: st) h :=
  fun b G p l e R s m args below meth c n0 s0 Q C H locs ls V => lv_icmp_ge C.1.1 C.1.2.1 d ht (fun q => kt q b G p l e R s m args below meth c n0 s0 Q C H locs ls V) (fun q => kf q b G p l e R s m args below meth c n0 s0 Q C H locs ls V)
theorem px_icmp_gt {x y : Int32} {off : Int} {tgt : Nat} (d : decode (px_cc M) pc = .ok (.if_icmp .gt off, 3)) (ht : (pc : Int) + off = (tgt : Int)) (kt : y < x → PW M N1 S1 Post tgt lv st h) (kf : ¬ y < x → PW M N1 S1 Post (pc + 3) lv st h) : PW M N1 S1 Post pc lv (.int y :: .int x :: st) h :=
  fun b G p l e R s m args below meth c n0 s0 Q C H locs ls V => lv_icmp_gt C.1.1 C.1.2.1 d ht (fun q => kt q b G p l e R s m args below meth c n0 s0 Q C H locs ls V) (fun q => kf q b G p l e R s m args below meth c n0 s0 Q C H locs ls V)
theorem px_icmp_le {x y : Int32} {off : Int} {tgt : Nat} (d : decode (px_cc M) pc = .ok (.if_icmp .le off, 3)) (ht : (pc : Int) + off = (tgt : Int)) (kt : x ≤ y → PW M N1 S1 Post tgt lv st h) (kf : ¬ x ≤ y → PW M N1 S1 Post (pc + 3) lv st h) : PW M N1 S1 Post pc lv (.int y :: .int x :: st) h :=
  fun b G p l e R s m args below meth c n0 s0 Q C H locs ls V => lv_icmp_le C.1.1 C.1.2.1 d ht (fun q => kt q b G p l e R s m args below meth c n0 s0 Q C H locs ls V) (fun q => kf q b G p l e R s m args below meth c n0 s0 Q C H locs ls V)
theorem px_goto {off : Int} {tgt : Nat} (d : decode (px_cc M) pc = .ok (.goto off, 3)) (ht : (pc : Int) + off = (tgt : Int)) (k : PW M N1 S1 Post tgt lv st h) : PW M N1 S1 Post pc lv st h :=
  fun b G p l e R s m args below meth c n0 s0 Q C H locs ls V => lv_goto C.1.1 C.1.2.1 d ht (k b G p l e R s m args below meth c n0 s0 Q C H locs ls V)
theorem px_ifnull {x : Nat} {off : Int} (d : decode (px_cc M) pc = .ok (.ifnull off, 3)) (k : PW M N1 S1 Post (pc + 3) lv st h) : PW M N1 S1 Post pc lv (.ref x :: st) h :=
  fun b G p l e R s m args below meth c n0 s0 Q C H locs ls V => lv_ifnull C.1.1 C.1.2.1 d (k b G p l e R s m args below meth c n0 s0 Q C H locs ls V)
theorem px_ifnullN {off : Int} {tgt : Nat} (d : decode (px_cc M) pc = .ok (.ifnull off, 3)) (ht : (pc : Int) + off = (tgt : Int)) (k : PW M N1 S1 Post tgt lv st h) : PW M N1 S1 Post pc lv (.null :: st) h :=
  fun b G p l e R s m args below meth c n0 s0 Q C H locs ls V => lv_ifnullN C.1.1 C.1.2.1 d ht (k b G p l e R s m args below meth c n0 s0 Q C H locs ls V)
theorem px_ifnonnull {x : Nat} {off : Int} {tgt : Nat} (d : decode (px_cc M) pc = .ok (.ifnonnull off, 3)) (ht : (pc : Int) + off = (tgt : Int)) (k : PW M N1 S1 Post tgt lv st h) : PW M N1 S1 Post pc lv (.ref x :: st) h :=
  fun b G p l e R s m args below meth c n0 s0 Q C H locs ls V => lv_ifnonnull C.1.1 C.1.2.1 d ht (k b G p l e R s m args below meth c n0 s0 Q C H locs ls V)
theorem px_ifnonnullN {off : Int} (d : decode (px_cc M) pc = .ok (.ifnonnull off, 3)) (k : PW M N1 S1 Post (pc + 3) lv st h) : PW M N1 S1 Post pc lv (.null :: st) h :=
  fun b G p l e R s m args below meth c n0 s0 Q C H locs ls V => lv_ifnonnullN C.1.1 C.1.2.1 d (k b G p l e R s m args below meth c n0 s0 Q C H locs ls V)
theorem px_tabO {dflt lo hi : Int} {offs : Array Int} {len : Nat} {x : Int32} {tgt : Nat} (d : decode (px_cc M) pc = .ok (.tableswitch dflt lo hi offs, len)) (hx : x.toInt < lo ∨ hi < x.toInt) (ht : (pc : Int) + dflt = (tgt : Int)) (k : PW M N1 S1 Post tgt lv st h) : PW M N1 S1 Post pc lv (.int x :: st) h :=
  fun b G p l e R s m args below meth c n0 s0 Q C H locs ls V => lv_tableOut C.1.1 C.1.2.1 d hx ht (k b G p l e R s m args below meth c n0 s0 Q C H locs ls V)
theorem px_tabI {dflt lo hi : Int} {offs : Array Int} {len : Nat} {x : Int32} {off : Int} {tgt : Nat} (d : decode (px_cc M) pc = .ok (.tableswitch dflt lo hi offs, len)) (h1 : ¬ x.toInt < lo) (h2 : ¬ hi < x.toInt) (ho : offs[(x.toInt - lo).toNat]? = some off) (ht : (pc : Int) + off = (tgt : Int)) (k : PW M N1 S1 Post tgt lv st h) : PW M N1 S1 Post pc lv (.int x :: st) h :=
  fun b G p l e R s m args below meth c n0 s0 Q C H locs ls V => lv_tableIn C.1.1 C.1.2.1 d h1 h2 ho ht (k b G p l e R s m args below meth c n0 s0 Q C H locs ls V)
theorem px_look {dflt : Int} {ps : Array (Int × Int)} {len : Nat} {x : Int32} {off : Int} {tgt : Nat} (d : decode (px_cc M) pc = .ok (.lookupswitch dflt ps, len)) (hp : (ps.toList.zip (ps.toList.drop 1)).all (fun (a, next) => a.1 < next.1) = true) (ho : Op.lookupswitch.offset ps.toList dflt x.toInt = off) (ht : (pc : Int) + off = (tgt : Int)) (k : PW M N1 S1 Post tgt lv st h) : PW M N1 S1 Post pc lv (.int x :: st) h :=
  fun b G p l e R s m args below meth c n0 s0 Q C H locs ls V => lv_lookup C.1.1 C.1.2.1 d hp ho ht (k b G p l e R s m args below meth c n0 s0 Q C H locs ls V)
theorem px_topi {x : Int32} (k : ∀ y : Int32, y = x → PW M N1 S1 Post pc lv (.int y :: st) h) : PW M N1 S1 Post pc lv (.int x :: st) h := k x rfl
theorem px_topl {x : Int64} (k : ∀ y : Int64, y = x → PW M N1 S1 Post pc lv (.long y :: st) h) : PW M N1 S1 Post pc lv (.long x :: st) h := k x rfl
theorem px_val {x y : Int32} (e : x = y) (k : PW M N1 S1 Post pc lv (.int y :: st) h) : PW M N1 S1 Post pc lv (.int x :: st) h := by subst e; exact k
theorem px_vall {x y : Int64} (e : x = y) (k : PW M N1 S1 Post pc lv (.long y :: st) h) : PW M N1 S1 Post pc lv (.long x :: st) h := by subst e; exact k
theorem px_heap {h2 : PH} (e : h = h2) (k : PW M N1 S1 Post pc lv st h2) : PW M N1 S1 Post pc lv st h := by subst e; exact k
theorem px_ireturn {v : Int32} {ty : FieldType} (d : decode (px_cc M) pc = .ok (.ireturn, 1)) (hr : px_rt M = some ty) (hv : narrow ty (.int v) = .int v) (hP : Post 0 (some (.int v)) h) : PW M N1 S1 Post pc lv ([.int v]) h :=
  fun b G p l e R s m args below meth c n0 s0 Q C H locs ls V => C.2.2.2.2.2.2 0 (some (.int v)) pc ([.int v]) h H locs ls (Or.inl ⟨rfl, Or.inl ⟨d, v, ty, rfl, rfl, hr, hv⟩⟩) hP ⟨V.1, V.2.1, V.2.2.1, V.2.2.2.1, V.2.2.2.2.1, V.2.2.2.2.2.1, fun _ hq => nomatch hq⟩
theorem px_return  (d : decode (px_cc M) pc = .ok (.return_, 1)) (hr : px_rt M = none) (hP : Post 0 (none) h) : PW M N1 S1 Post pc lv ([]) h :=
  fun b G p l e R s m args below meth c n0 s0 Q C H locs ls V => C.2.2.2.2.2.2 0 (none) pc ([]) h H locs ls (Or.inl ⟨rfl, Or.inr (Or.inl ⟨d, rfl, rfl, hr⟩)⟩) hP ⟨V.1, V.2.1, V.2.2.1, V.2.2.2.1, V.2.2.2.2.1, V.2.2.2.2.2.1, fun _ hq => nomatch hq⟩
theorem px_lreturn {v : Int64} (d : decode (px_cc M) pc = .ok (.lreturn, 1)) (hr : px_rt M = some .long) (hP : Post 0 (some (.long v)) h) : PW M N1 S1 Post pc lv ([.long v]) h :=
  fun b G p l e R s m args below meth c n0 s0 Q C H locs ls V => C.2.2.2.2.2.2 0 (some (.long v)) pc ([.long v]) h H locs ls (Or.inl ⟨rfl, Or.inr (Or.inr (Or.inl ⟨d, v, rfl, rfl, hr⟩))⟩) hP ⟨V.1, V.2.1, V.2.2.1, V.2.2.2.1, V.2.2.2.2.1, V.2.2.2.2.2.1, fun _ hq => nomatch hq⟩
theorem px_areturn {v : Nat} {ty : FieldType} (d : decode (px_cc M) pc = .ok (.areturn, 1)) (hr : px_rt M = some ty) (ht : (∃ n, ty = .object n) ∨ ∃ t, ty = .array t) (hP : Post 0 (some (.ref v)) h) : PW M N1 S1 Post pc lv ([.ref v]) h :=
  fun b G p l e R s m args below meth c n0 s0 Q C H locs ls V => C.2.2.2.2.2.2 0 (some (.ref v)) pc ([.ref v]) h H locs ls (Or.inl ⟨rfl, Or.inr (Or.inr (Or.inr ⟨d, .ref v, ty, rfl, rfl, hr, ht, Or.inr ⟨v, rfl⟩⟩))⟩) hP ⟨V.1, V.2.1, V.2.2.1, V.2.2.2.1, V.2.2.2.2.1, V.2.2.2.2.2.1, fun _ hq => nomatch hq⟩
theorem px_areturnN {ty : FieldType} (d : decode (px_cc M) pc = .ok (.areturn, 1)) (hr : px_rt M = some ty) (ht : (∃ n, ty = .object n) ∨ ∃ t, ty = .array t) (hP : Post 0 (some .null) h) : PW M N1 S1 Post pc lv ([.null]) h :=
  fun b G p l e R s m args below meth c n0 s0 Q C H locs ls V => C.2.2.2.2.2.2 0 (some .null) pc ([.null]) h H locs ls (Or.inl ⟨rfl, Or.inr (Or.inr (Or.inr ⟨d, .null, ty, rfl, rfl, hr, ht, Or.inl rfl⟩))⟩) hP ⟨V.1, V.2.1, V.2.2.1, V.2.2.2.1, V.2.2.2.2.1, V.2.2.2.2.2.1, fun _ hq => nomatch hq⟩
end PXR
end
section
/-! ===== rules of the heap ===== -/
def px_ob (h : PH) (k ci : Nat) : Prop := k < hn h ∧ (hK h k).1 = ci
def px_ar (h : PH) (k kd len : Nat) : Prop := k < hn h ∧ hK h k = (kd, len) ∧ len ≤ 1000000
def px_FL (own : String) (ix ci j : Nat) : Prop := ci < px_NC ∧ j < (px_CT ci).2.2 ∧ Cond.fieldLink own ix ((px_CT ci).2.1 j).1 ((px_CT ci).2.1 j).2.1 ((px_CT ci).2.1 j).2.2.1 ∈ px_TB
theorem px_c20 {ci : Nat} (h : ci < px_NC) : ci < 20 := Nat.lt_of_lt_of_le h (by decide)
theorem px_obj {b : Nat} {G : px_G} {h : PH} {H : Heap} {k ci : Nat} (hR : px_Rel b G h H) (ho : px_ob h k ci) (hc : ci < px_NC) : t_OB (b + k) (G.1 ci) (px_CT ci).2.2 (G.2.1 ci) H (px_fv b h ci k) := by
  have h1 := hR.2 k ho.1
  unfold px_at at h1
  rw [ho.2, if_pos (px_c20 hc)] at h1
  exact h1
theorem px_arr {b : Nat} {G : px_G} {h : PH} {H : Heap} {k kd len : Nat} (hR : px_Rel b G h H) (ha : px_ar h k kd len) (h1 : 20 ≤ kd) (h2 : kd < 26) : H[b + k]? = some (arrV (G.2.2.1 kd) len (px_av b h kd k)) := by
  have h3 := hR.2 k ha.1
  unfold px_at at h3
  rw [ha.2.1] at h3
  rw [if_neg (Nat.not_lt.mpr h1), if_pos h2] at h3
  exact h3
theorem px_at.kept {b : Nat} {G : px_G} {h h' : PH} {H H1 : Heap} {k : Nat} (ek : hK h' k = hK h k) (ei : hI h' k = hI h k) (ej : hJ h' k = hJ h k) (er : hR h' k = hR h k) (hq : H1[b + k]? = H[b + k]?) (a : px_at b G h H k) : px_at b G h' H1 k := by
  have ef : ∀ c, px_fv b h' c k = px_fv b h c k := fun c => by funext j; unfold px_fv; rw [ei, er]
  have ea : ∀ c, px_av b h' c k = px_av b h c k := fun c => by funext j; unfold px_av; rw [ei, ej, er]
  unfold px_at at a ⊢
  rw [ek]
  by_cases h1 : (hK h k).1 < 20
  · rw [if_pos h1] at a ⊢
    rw [ef]
    exact a.kept hq
  · rw [if_neg h1] at a ⊢
    by_cases h2 : (hK h k).1 < 26
    · rw [if_pos h2] at a ⊢
      rw [ea, hq]
      exact a
    · rw [if_neg h2]
      trivial
/-- one cell changes -/
theorem px_Rel.upd {b : Nat} {G : px_G} {h h' : PH} {H H1 : Heap} {k : Nat} (hR0 : px_Rel b G h H) (en : hn h' = hn h) (ek : hK h' = hK h) (ei : ∀ x, x ≠ k → hI h' x = hI h x) (ej : ∀ x, x ≠ k → hJ h' x = hJ h x) (er : ∀ x, x ≠ k → hR h' x = hR h x) (z : H1.size = H.size) (oq : ∀ q : Nat, q ≠ b + k → H1[q]? = H[q]?) (a : px_at b G h' H1 k) : px_Rel b G h' H1 := by
  refine ⟨by rw [z, en]; exact hR0.1, fun x hx => ?_⟩
  by_cases e : x = k
  · rw [e]; exact a
  · exact px_at.kept (by rw [ek]) (ei x e) (ej x e) (er x e) (oq _ (by omega)) (hR0.2 x (by rw [← en]; exact hx))
theorem up2_ne {α : Type} {f : Nat → Nat → α} {a i x : Nat} {v : α} (h : x ≠ a) : up2 f a i v x = f x := by funext j; simp [up2, h]
theorem up2_ss {α : Type} {f : Nat → Nat → α} {a i : Nat} {v : α} : up2 f a i v a i = v := by simp [up2]
theorem up2_sn {α : Type} {f : Nat → Nat → α} {a i j : Nat} {v : α} (h : j ≠ i) : up2 f a i v a j = f a j := by simp [up2, h]
theorem px_vS {b n0 : Nat} {s : State} {H H1 : Heap} {locs : List Loc} {a i : Nat} (hS : va_S (fun q => b ≤ q) s.heap H locs) (ha : b ≤ a) (z : H1.size = H.size) (oq : ∀ q : Nat, q ≠ a → H1[q]? = H[q]?) : va_S (fun q => b ≤ q) s.heap H1 (locs ++ [⟨a, i⟩]) := hS.put z oq ha
theorem px_Okp {b : Nat} {G : px_G} {s : State} {h : PH} {H H1 : Heap} {a : Nat} (hO : px_O b G s H) (hR : px_Rel b G h H) (ha : b ≤ a) (oq : ∀ q : Nat, q ≠ a → H1[q]? = H[q]?) : px_O b G s H1 := hO.kept (by rw [hR.1]; omega) (fun q hq => oq q (by omega))
theorem px_pty {ci j : Nat} (hc : ci < px_NC) (hj : j < (px_CT ci).2.2) : ∃ t, parseFieldDescriptor ((px_CT ci).2.1 j).2.2.1 = some t ∧ ((((px_CT ci).2.1 j).2.2.1 = "I" ∧ t = .int) ∨ (((px_CT ci).2.1 j).2.2.1 ≠ "I" ∧ ((∃ n, t = .object n) ∨ ∃ u, t = .array u))) := by
  by_cases e : ((px_CT ci).2.1 j).2.2.1 = "I"
  · exact ⟨.int, by rw [e]; decide +kernel, Or.inl ⟨e, rfl⟩⟩
  · rcases px_parse ci hc j hj with h | h
    · exact absurd h e
    · cases ht : parseFieldDescriptor ((px_CT ci).2.1 j).2.2.1 with
      | none => rw [ht] at h; cases h
      | some t =>
        rw [ht] at h
        cases t <;> first | exact ⟨_, rfl, Or.inr ⟨e, Or.inl ⟨_, rfl⟩⟩⟩ | exact ⟨_, rfl, Or.inr ⟨e, Or.inr ⟨_, rfl⟩⟩⟩ | cases h
theorem px_apart {G : px_G} {s : State} {args : Array Value} {ci : Nat} (hts : ∀ w ∈ px_TB, w.before args s = true) (hK : px_K G s) (hc : ci < px_NC) : ∀ x y, x < (px_CT ci).2.2 → y < (px_CT ci).2.2 → x ≠ y → G.2.1 ci x ≠ G.2.1 ci y := by
  intro x y hx hy hne
  obtain ⟨hS, -⟩ := hK.1 ci hc
  obtain ⟨_, _, _, fa, hia, ea⟩ := hS x hx
  obtain ⟨_, _, _, fb, hib, eb⟩ := hS y hy
  obtain ⟨tx, htx, -⟩ := px_pty hc hx
  obtain ⟨ty, hty, -⟩ := px_pty hc hy
  rw [← ea, ← eb]
  refine u_apart (u_lays hts (px_lays ci hc) hx) (u_lays hts (px_lays ci hc) hy) hia hib ?_
  rw [(State.fieldFound?_type hia htx).1, (State.fieldFound?_type hib hty).1]
  exact px_names ci hc x hx y hy hne
section PXH
variable {M : px_M} {N1 S1 : Nat} {Post : Nat → Option Value → PH → Prop} {pc : Nat} {lv : List (Nat × Value)} {st : List Value} {h : PH}
theorem px_getV {b : Nat} {G : px_G} {p : Program} {l : Launch} {e : Env} {R : Room} {s : State} {m : MethodId} {args : Array Value} {below : List Frame} {meth : Method} {c : Code} {n0 s0 : Nat} {Q : State → Prop} {H : Heap} {locs : List Loc} {ls : Array Slot} {cells slots k ci j ix : Nat} {rest : List Value}
    (C : px_C M N1 S1 Post b G p l e R s m args below meth c n0 s0 Q) (hR0 : px_Rel b G h H) (d : decode (px_cc M) pc = .ok (.getfield ix, 3)) (f : px_FL (px_own M) ix ci j) (ho : px_ob h k ci)
    (kk : W p l e R s m args below meth c H locs cells slots Q (F0 m (pc + 3) ls (px_fv b h ci k j :: rest))) : W p l e R s m args below meth c H locs cells slots Q (F0 m pc ls (.ref (b + k) :: rest)) := by
  obtain ⟨hc, hj, hfl⟩ := f
  obtain ⟨cell, q1, q2, q3, q4⟩ := px_obj hR0 ho hc
  obtain ⟨hS, hfc, kC, hkC, hkind⟩ := C.2.1.1 ci hc
  obtain ⟨cf, kf, fi, fd, hi, hsl⟩ := hS j hj
  refine W.getf C.1.1 C.1.2.1 C.1.2.2.2.1 (C.1.2.2.2.2 _ hfl) hi (u_facts hfc hkC (u_lays C.1.2.2.2.2 (px_lays ci hc) hj) hi).1 q1 (by rw [q3]; exact fun h => by cases h) (v := px_fv b h ci k j) ?_ rfl rfl d kk
  rw [hsl, q4 j hj]
theorem px_getI {k ci j ix : Nat} (d : decode (px_cc M) pc = .ok (.getfield ix, 3)) (f : px_FL (px_own M) ix ci j) (hd : ((px_CT ci).2.1 j).2.2.1 = "I") (ho : px_ob h k ci) (kk : PW M N1 S1 Post (pc + 3) lv (.int (hI h k j) :: st) h) : PW M N1 S1 Post pc lv (.ref k :: st) h := by
  intro b G p l e R s m args below meth c n0 s0 Q C H locs ls V
  refine px_getV C V.1 d f ho ?_
  unfold px_fv
  rw [if_pos hd]
  exact kk b G p l e R s m args below meth c n0 s0 Q C H locs ls V
theorem px_getR {k ci j ix r : Nat} (d : decode (px_cc M) pc = .ok (.getfield ix, 3)) (f : px_FL (px_own M) ix ci j) (hd : ((px_CT ci).2.1 j).2.2.1 ≠ "I") (ho : px_ob h k ci) (hr : hR h k j = some r) (kk : PW M N1 S1 Post (pc + 3) lv (.ref r :: st) h) : PW M N1 S1 Post pc lv (.ref k :: st) h := by
  intro b G p l e R s m args below meth c n0 s0 Q C H locs ls V
  refine px_getV C V.1 d f ho ?_
  unfold px_fv
  rw [if_neg hd, hr]
  exact kk b G p l e R s m args below meth c n0 s0 Q C H locs ls V
theorem px_putI {k ci j ix : Nat} {v : Int32} (d : decode (px_cc M) pc = .ok (.putfield ix, 3)) (f : px_FL (px_own M) ix ci j) (hd : ((px_CT ci).2.1 j).2.2 = ("I", false)) (ho : px_ob h k ci) (kk : PW M N1 S1 Post (pc + 3) lv st (pI h k j v)) : PW M N1 S1 Post pc lv (.int v :: .ref k :: st) h := by
  intro b G p l e R s m args below meth c n0 s0 Q C H locs ls V
  obtain ⟨hc, hj, hfl⟩ := f
  have hts := C.1.2.2.2.2
  have hap := px_apart hts C.2.1 hc
  obtain ⟨cell, q1, q2, q3, q4⟩ := px_obj V.1 ho hc
  obtain ⟨hS, hfc, kC, hkC, hkind⟩ := C.2.1.1 ci hc
  obtain ⟨cf, kf, fi, fd, hi, hsl⟩ := hS j hj
  have hlay := hts _ (px_lays ci hc _ (u_in_lay hj))
  unfold u_lay at hlay
  rw [if_neg (by rw [hd]; decide)] at hlay
  have hst := (u_facts hfc hkC (u_lays hts (px_lays ci hc) hj) hi).1
  have hparse : parseFieldDescriptor ((px_CT ci).2.1 j).2.2.1 = some .int := by rw [hd]; decide +kernel
  have h6 := u_store (v := .int v) hfc hkC hkind hlay hi hparse rfl rfl
  refine W.putK C.1.1 C.1.2.1 (f := fd) ⟨C.1.2.2.2.1, hts _ hfl, ⟨_, _, _, hi⟩, hst⟩ (by rw [q2]; exact h6) q1 q3 (by rw [hsl]; exact k2_hasslot (q4 j hj)) rfl rfl d fun H' e1 e2 e3 => ?_
  rw [hsl] at e1 ⊢
  refine kk b G p l e R s m args below meth c n0 s0 Q C H' _ ls ⟨px_Rel.upd (h' := pI h k j v) V.1 rfl rfl (fun x hx => up2_ne hx) (fun x _ => rfl) (fun x _ => rfl) e2 e3 ?_, px_Okp V.2.1 V.1 (Nat.le_add_right b k) e3, px_vS (n0 := n0) V.2.2.1 (Nat.le_add_right b k) e2 e3, V.2.2.2.1, V.2.2.2.2⟩
  unfold px_at
  rw [show hK (pI h k j v) k = hK h k from rfl, ho.2, if_pos (px_c20 hc)]
  refine t_OB.to (V := updV (px_fv b h ci k) j (.int v)) ⟨_, e1, q2, q3, t_set q4 hap hj (.int v)⟩ (fun x hx => ?_)
  by_cases ex : x = j
  · subst ex
    simp [updV, px_fv, hd, pI, hI, up2]
  · have e9 : hI (pI h k j v) k x = hI h k x := up2_sn ex
    simp [updV, px_fv, ex, e9]
    rfl
/-- a field in its constructor, final or not -/
theorem px_putW {b : Nat} {G : px_G} {p : Program} {l : Launch} {e : Env} {R : Room} {s : State} {m : MethodId} {args : Array Value} {below : List Frame} {meth : Method} {c : Code} {n0 s0 : Nat} {Q : State → Prop} {H : Heap} {locs : List Loc} {ls : Array Slot} {cells slots k ci j ix : Nat} {rest : List Value} {v : Value} {h' : PH}
    (C : px_C M N1 S1 Post b G p l e R s m args below meth c n0 s0 Q) (hR0 : px_Rel b G h H) (d : decode (px_cc M) pc = .ok (.putfield ix, 3)) (f : px_FL (px_own M) ix ci j) (hfin : ((px_CT ci).2.1 j).2.2.2 = true) (hin : (px_y M).name = "<init>") (hdecl : ((px_CT ci).2.1 j).1 = px_own M) (ho : px_ob h k ci)
    (hn9 : ∀ t, parseFieldDescriptor ((px_CT ci).2.1 j).2.2.1 = some t → narrow t v = v ∧ fits t v = true) (en : hn h' = hn h) (ek : hK h' = hK h) (ei : ∀ x, x ≠ k → hI h' x = hI h x) (ej : ∀ x, x ≠ k → hJ h' x = hJ h x) (er : ∀ x, x ≠ k → hR h' x = hR h x) (ev : ∀ x, x < (px_CT ci).2.2 → updV (px_fv b h ci k) j v x = px_fv b h' ci k x)
    (kk : ∀ (H' : Heap) (i : Nat), px_Rel b G h' H' → H'.size = H.size → (∀ q : Nat, q ≠ b + k → H'[q]? = H[q]?) → W p l e R s m args below meth c H' (locs ++ [⟨b + k, i⟩]) cells slots Q (F0 m (pc + 3) ls rest)) : W p l e R s m args below meth c H locs cells slots Q (F0 m pc ls (v :: .ref (b + k) :: rest)) := by
  obtain ⟨hc, hj, hfl⟩ := f
  have hts := C.1.2.2.2.2
  have hap := px_apart hts C.2.1 hc
  obtain ⟨cell, q1, q2, q3, q4⟩ := px_obj hR0 ho hc
  obtain ⟨hS, hfc, kC, hkC, hkind⟩ := C.2.1.1 ci hc
  obtain ⟨cf, kf, fi, fd, hi, hsl⟩ := hS j hj
  obtain ⟨t, ht, -⟩ := px_pty hc hj
  have hlay := hts _ (px_lays ci hc _ (u_in_lay hj))
  unfold u_lay at hlay
  rw [if_pos hfin] at hlay
  have hst := (u_facts hfc hkC (u_lays hts (px_lays ci hc) hj) hi).1
  have hcf : m.cls = cf := by
    obtain ⟨_, _, c', _, _, _, -, -, hf', -, -, -, hown2, -⟩ := Cond.laysFinal_spec hlay
    have e1 : c' = cf := by have := hi.symm.trans hf'; simp at this; exact this.1.symm
    rw [hdecl] at hown2
    rw [← e1]; exact Option.some.inj (C.1.2.2.2.1.symm.trans hown2)
  have h6 := u_fits hfc hkC hkind (Or.inr hlay) hi ht (hn9 t ht).1 (hn9 t ht).2
  refine W.putFinK C.1.1 C.1.2.1 C.1.2.2.2.1 (hts _ hfl) hi hst hcf (C.2.2.2.1.trans hin) (by rw [q2]; exact h6) q1 q3 (by rw [hsl]; exact k2_hasslot (q4 j hj)) rfl rfl d fun H' e1 e2 e3 => ?_
  rw [hsl] at e1 ⊢
  refine kk H' _ (px_Rel.upd (h' := h') hR0 en ek ei ej er e2 e3 ?_) e2 e3
  unfold px_at
  rw [ek, ho.2, if_pos (px_c20 hc)]
  exact t_OB.to (V := updV (px_fv b h ci k) j v) ⟨_, e1, q2, q3, t_set q4 hap hj v⟩ ev
theorem px_putIF {k ci j ix : Nat} {v : Int32} (d : decode (px_cc M) pc = .ok (.putfield ix, 3)) (f : px_FL (px_own M) ix ci j) (hd : ((px_CT ci).2.1 j) = (px_own M, ((px_CT ci).2.1 j).2.1, "I", true)) (hin : (px_y M).name = "<init>") (ho : px_ob h k ci) (kk : PW M N1 S1 Post (pc + 3) lv st (pI h k j v)) : PW M N1 S1 Post pc lv (.int v :: .ref k :: st) h := by
  intro b G p l e R s m args below meth c n0 s0 Q C H locs ls V
  have hI0 : ((px_CT ci).2.1 j).2.2.1 = "I" := by rw [hd]
  refine px_putW (h' := pI h k j v) C V.1 d f (by rw [hd]) hin (by rw [hd]) ho (fun t ht => ?_) rfl rfl (fun x hx => up2_ne hx) (fun x _ => rfl) (fun x _ => rfl) (fun x hx => ?_) (fun H' i r1 e2 e3 => kk b G p l e R s m args below meth c n0 s0 Q C H' _ ls ⟨r1, px_Okp V.2.1 V.1 (Nat.le_add_right b k) e3, px_vS (n0 := n0) V.2.2.1 (Nat.le_add_right b k) e2 e3, V.2.2.2.1, V.2.2.2.2⟩)
  · rw [hI0] at ht
    have e9 : t = .int := Option.some.inj (ht.symm.trans (by decide +kernel))
    subst e9
    exact ⟨rfl, rfl⟩
  · by_cases ex : x = j
    · subst ex
      simp [updV, px_fv, hI0, pI, hI, up2]
      rfl
    · have e9 : hI (pI h k j v) k x = hI h k x := up2_sn ex
      simp [updV, px_fv, ex, e9]
      rfl
theorem px_putRF {k ci j ix r : Nat} (d : decode (px_cc M) pc = .ok (.putfield ix, 3)) (f : px_FL (px_own M) ix ci j) (hd : ((px_CT ci).2.1 j).2.2.1 ≠ "I") (hfin : ((px_CT ci).2.1 j).2.2.2 = true) (hdecl : ((px_CT ci).2.1 j).1 = px_own M) (hin : (px_y M).name = "<init>") (ho : px_ob h k ci) (kk : PW M N1 S1 Post (pc + 3) lv st (pR h k j (some r))) : PW M N1 S1 Post pc lv (.ref r :: .ref k :: st) h := by
  intro b G p l e R s m args below meth c n0 s0 Q C H locs ls V
  refine px_putW (v := .ref (b + r)) (h' := pR h k j (some r)) C V.1 d f hfin hin hdecl ho (fun t ht => ?_) rfl rfl (fun x _ => rfl) (fun x _ => rfl) (fun x hx => up2_ne hx) (fun x hx => ?_) (fun H' i r1 e2 e3 => kk b G p l e R s m args below meth c n0 s0 Q C H' _ ls ⟨r1, px_Okp V.2.1 V.1 (Nat.le_add_right b k) e3, px_vS (n0 := n0) V.2.2.1 (Nat.le_add_right b k) e2 e3, V.2.2.2.1, V.2.2.2.2⟩)
  · obtain ⟨t', ht', hh⟩ := px_pty f.1 f.2.1
    have e9 : t' = t := Option.some.inj (ht'.symm.trans ht)
    subst e9
    rcases hh with ⟨h1, -⟩ | ⟨-, ⟨n, rfl⟩ | ⟨u, rfl⟩⟩
    · exact absurd h1 hd
    · exact ⟨rfl, rfl⟩
    · exact ⟨rfl, rfl⟩
  · by_cases ex : x = j
    · subst ex
      have e9 : hR (pR h k x (some r)) k x = some r := up2_ss
      simp [updV, px_fv, hd, e9, px_rf, va_rf]
    · have e9 : hR (pR h k j (some r)) k x = hR h k x := up2_sn ex
      simp [updV, px_fv, ex, e9]
      rfl
end PXH
end
section
/-! ===== rules of arrays and of making ===== -/
theorem px_aT {G : px_G} {s : State} {kd : Nat} (hK : px_K G s) (h1 : 20 ≤ kd) (h2 : kd < 26) (n : Nat) (z : Nat → Value) : s.isArrayOf (arrV (G.2.2.1 kd) n z) (px_ty kd) := (hK.2.1 kd h1 h2).1 n z
theorem px_ix {i : Int32} {j len : Nat} (hi : i = nI j) (hl : j < len) (hb : len ≤ 1000000) : vp_in i len ∧ i.toNatClampNeg = j := by
  subst hi
  exact ⟨vp_in_nI hl (by omega), nI_clamp (by omega)⟩
section PXA
variable {M : px_M} {N1 S1 : Nat} {Post : Nat → Option Value → PH → Prop} {pc : Nat} {lv : List (Nat × Value)} {st : List Value} {h : PH}
theorem px_alen {k kd len : Nat} (d : decode (px_cc M) pc = .ok (.arraylength, 1)) (ha : px_ar h k kd len) (h1 : 20 ≤ kd) (h2 : kd < 26) (kk : PW M N1 S1 Post (pc + 1) lv (.int (nI len) :: st) h) : PW M N1 S1 Post pc lv (.ref k :: st) h := by
  intro b G p l e R s m args below meth c n0 s0 Q C H locs ls V
  exact W.alen (n := nI len) C.1.1 C.1.2.1 (px_arr V.1 ha h1 h2) (px_aT C.2.1 h1 h2 len _) (by rw [arrV_size]; rfl) rfl rfl d (kk b G p l e R s m args below meth c n0 s0 Q C H locs ls V)
theorem px_iald {k len j : Nat} {i : Int32} (d : decode (px_cc M) pc = .ok (.iaload, 1)) (ha : px_ar h k 20 len) (hi : i = nI j) (hl : j < len) (kk : PW M N1 S1 Post (pc + 1) lv (.int (hI h k j) :: st) h) : PW M N1 S1 Post pc lv (.int i :: .ref k :: st) h := by
  intro b G p l e R s m args below meth c n0 s0 Q C H locs ls V
  obtain ⟨hin, hcl⟩ := px_ix hi hl ha.2.2
  exact W.iald (v := .int (hI h k j)) C.1.1 C.1.2.1 (px_arr V.1 ha (by decide) (by decide)) (px_aT C.2.1 (kd := 20) (by decide) (by decide) len _) (fun q => by cases q) (by rw [arrV_size]; exact hin) (by rw [arrV_read _ _ (by rw [hcl]; exact hl), hcl]; rfl) rfl rfl d (kk b G p l e R s m args below meth c n0 s0 Q C H locs ls V)
theorem px_zald {k len j : Nat} {i : Int32} (d : decode (px_cc M) pc = .ok (.baload, 1)) (ha : px_ar h k 21 len) (hi : i = nI j) (hl : j < len) (kk : PW M N1 S1 Post (pc + 1) lv (.int (hI h k j) :: st) h) : PW M N1 S1 Post pc lv (.int i :: .ref k :: st) h := by
  intro b G p l e R s m args below meth c n0 s0 Q C H locs ls V
  obtain ⟨hin, hcl⟩ := px_ix hi hl ha.2.2
  exact W.zald (v := .int (hI h k j)) C.1.1 C.1.2.1 (px_arr V.1 ha (by decide) (by decide)) (px_aT C.2.1 (kd := 21) (by decide) (by decide) len _) (fun q => by cases q) (by rw [arrV_size]; exact hin) (by rw [arrV_read _ _ (by rw [hcl]; exact hl), hcl]; rfl) rfl rfl d (kk b G p l e R s m args below meth c n0 s0 Q C H locs ls V)
theorem px_cald {k len j : Nat} {i : Int32} (d : decode (px_cc M) pc = .ok (.caload, 1)) (ha : px_ar h k 22 len) (hi : i = nI j) (hl : j < len) (kk : PW M N1 S1 Post (pc + 1) lv (.int (hI h k j) :: st) h) : PW M N1 S1 Post pc lv (.int i :: .ref k :: st) h := by
  intro b G p l e R s m args below meth c n0 s0 Q C H locs ls V
  obtain ⟨hin, hcl⟩ := px_ix hi hl ha.2.2
  exact W.cald (v := .int (hI h k j)) C.1.1 C.1.2.1 (px_arr V.1 ha (by decide) (by decide)) (px_aT C.2.1 (kd := 22) (by decide) (by decide) len _) (fun q => by cases q) (by rw [arrV_size]; exact hin) (by rw [arrV_read _ _ (by rw [hcl]; exact hl), hcl]; rfl) rfl rfl d (kk b G p l e R s m args below meth c n0 s0 Q C H locs ls V)
theorem px_lald {k len j : Nat} {i : Int32} (d : decode (px_cc M) pc = .ok (.laload, 1)) (ha : px_ar h k 23 len) (hi : i = nI j) (hl : j < len) (kk : PW M N1 S1 Post (pc + 1) lv (.long (hJ h k j) :: st) h) : PW M N1 S1 Post pc lv (.int i :: .ref k :: st) h := by
  intro b G p l e R s m args below meth c n0 s0 Q C H locs ls V
  obtain ⟨hin, hcl⟩ := px_ix hi hl ha.2.2
  exact W.lald (v := .long (hJ h k j)) C.1.1 C.1.2.1 (px_arr V.1 ha (by decide) (by decide)) (px_aT C.2.1 (kd := 23) (by decide) (by decide) len _) (fun q => by cases q) (by rw [arrV_size]; exact hin) (by rw [arrV_read _ _ (by rw [hcl]; exact hl), hcl]; rfl) rfl rfl d (kk b G p l e R s m args below meth c n0 s0 Q C H locs ls V)
theorem px_aaldA {k len j r : Nat} {i : Int32} (d : decode (px_cc M) pc = .ok (.aaload, 1)) (ha : px_ar h k 24 len) (hi : i = nI j) (hl : j < len) (hr : hR h k j = some r) (kk : PW M N1 S1 Post (pc + 1) lv (.ref r :: st) h) : PW M N1 S1 Post pc lv (.int i :: .ref k :: st) h := by
  intro b G p l e R s m args below meth c n0 s0 Q C H locs ls V
  obtain ⟨hin, hcl⟩ := px_ix hi hl ha.2.2
  exact W.aald (v := rl b G (.ref r)) C.1.1 C.1.2.1 (px_arr V.1 ha (by decide) (by decide)) (px_aT C.2.1 (kd := 24) (by decide) (by decide) len _) rfl (fun q => by cases q) (by rw [arrV_size]; exact hin) (by rw [arrV_read _ _ (by rw [hcl]; exact hl), hcl]; unfold px_av; rw [if_neg (by decide), if_neg (by decide), hr]; rfl) rfl rfl d (kk b G p l e R s m args below meth c n0 s0 Q C H locs ls V)
theorem px_aaldNA {k len j r : Nat} {i : Int32} (d : decode (px_cc M) pc = .ok (.aaload, 1)) (ha : px_ar h k 24 len) (hi : i = nI j) (hl : j < len) (hr : hR h k j = none) (kk : PW M N1 S1 Post (pc + 1) lv (.null :: st) h) : PW M N1 S1 Post pc lv (.int i :: .ref k :: st) h := by
  intro b G p l e R s m args below meth c n0 s0 Q C H locs ls V
  obtain ⟨hin, hcl⟩ := px_ix hi hl ha.2.2
  exact W.aald (v := rl b G (.null)) C.1.1 C.1.2.1 (px_arr V.1 ha (by decide) (by decide)) (px_aT C.2.1 (kd := 24) (by decide) (by decide) len _) rfl (fun q => by cases q) (by rw [arrV_size]; exact hin) (by rw [arrV_read _ _ (by rw [hcl]; exact hl), hcl]; unfold px_av; rw [if_neg (by decide), if_neg (by decide), hr]; rfl) rfl rfl d (kk b G p l e R s m args below meth c n0 s0 Q C H locs ls V)
theorem px_aaldB {k len j r : Nat} {i : Int32} (d : decode (px_cc M) pc = .ok (.aaload, 1)) (ha : px_ar h k 25 len) (hi : i = nI j) (hl : j < len) (hr : hR h k j = some r) (kk : PW M N1 S1 Post (pc + 1) lv (.ref r :: st) h) : PW M N1 S1 Post pc lv (.int i :: .ref k :: st) h := by
  intro b G p l e R s m args below meth c n0 s0 Q C H locs ls V
  obtain ⟨hin, hcl⟩ := px_ix hi hl ha.2.2
  exact W.aald (v := rl b G (.ref r)) C.1.1 C.1.2.1 (px_arr V.1 ha (by decide) (by decide)) (px_aT C.2.1 (kd := 25) (by decide) (by decide) len _) rfl (fun q => by cases q) (by rw [arrV_size]; exact hin) (by rw [arrV_read _ _ (by rw [hcl]; exact hl), hcl]; unfold px_av; rw [if_neg (by decide), if_neg (by decide), hr]; rfl) rfl rfl d (kk b G p l e R s m args below meth c n0 s0 Q C H locs ls V)
theorem px_aaldNB {k len j r : Nat} {i : Int32} (d : decode (px_cc M) pc = .ok (.aaload, 1)) (ha : px_ar h k 25 len) (hi : i = nI j) (hl : j < len) (hr : hR h k j = none) (kk : PW M N1 S1 Post (pc + 1) lv (.null :: st) h) : PW M N1 S1 Post pc lv (.int i :: .ref k :: st) h := by
  intro b G p l e R s m args below meth c n0 s0 Q C H locs ls V
  obtain ⟨hin, hcl⟩ := px_ix hi hl ha.2.2
  exact W.aald (v := rl b G (.null)) C.1.1 C.1.2.1 (px_arr V.1 ha (by decide) (by decide)) (px_aT C.2.1 (kd := 25) (by decide) (by decide) len _) rfl (fun q => by cases q) (by rw [arrV_size]; exact hin) (by rw [arrV_read _ _ (by rw [hcl]; exact hl), hcl]; unfold px_av; rw [if_neg (by decide), if_neg (by decide), hr]; rfl) rfl rfl d (kk b G p l e R s m args below meth c n0 s0 Q C H locs ls V)
theorem px_stR {b : Nat} {G : px_G} {h h' : PH} {H H1 : Heap} {k kd len j : Nat} {v : Value} (hR0 : px_Rel b G h H) (ha : px_ar h k kd len) (h1 : 20 ≤ kd) (h2 : kd < 26) (e : H1[b + k]? = some ((arrV (G.2.2.1 kd) len (px_av b h kd k)).setSlot j v)) (z : H1.size = H.size) (oq : ∀ q : Nat, q ≠ b + k → H1[q]? = H[q]?) (en : hn h' = hn h) (ek : hK h' = hK h) (ei : ∀ x, x ≠ k → hI h' x = hI h x) (ej : ∀ x, x ≠ k → hJ h' x = hJ h x) (er : ∀ x, x ≠ k → hR h' x = hR h x) (ev : ∀ x, updV (px_av b h kd k) j v x = px_av b h' kd k x) : px_Rel b G h' H1 := by
  refine px_Rel.upd hR0 en ek ei ej er z oq ?_
  unfold px_at
  rw [ek, ha.2.1]
  rw [if_neg (Nat.not_lt.mpr h1), if_pos h2, e, arrV_store]
  congr 2
  funext x
  exact ev x
theorem px_iast {k len j : Nat} {i : Int32} {x : Int32} (d : decode (px_cc M) pc = .ok (.iastore, 1)) (ha : px_ar h k 20 len) (hi : i = nI j) (hl : j < len) (kk : PW M N1 S1 Post (pc + 1) lv st (pI h k j x)) : PW M N1 S1 Post pc lv (.int x :: .int i :: .ref k :: st) h := by
  intro b G p l e R s m args below meth c n0 s0 Q C H locs ls V
  obtain ⟨hin, hcl⟩ := px_ix hi hl ha.2.2
  refine W.iast C.1.1 C.1.2.1 (px_arr V.1 ha (by decide) (by decide)) (px_aT C.2.1 (kd := 20) (by decide) (by decide) len _) (fun q => by cases q) (by rw [arrV_size]; exact hin) rfl rfl d fun H1 eh z oq => ?_
  rw [hcl] at eh ⊢
  refine kk b G p l e R s m args below meth c n0 s0 Q C H1 _ ls ⟨px_stR (h' := pI h k j x) V.1 ha (by decide) (by decide) eh z oq rfl rfl (fun y hy => up2_ne hy) (fun y _ => rfl) (fun y _ => rfl) (fun y => ?_), px_Okp V.2.1 V.1 (Nat.le_add_right b k) oq, px_vS (n0 := n0) V.2.2.1 (Nat.le_add_right b k) z oq, V.2.2.2.1, V.2.2.2.2⟩
  by_cases hy : y = j
  · subst hy
    have e9 : hI (pI h k y x) k y = x := up2_ss
    simp [updV, px_av, e9]
  · have e9 : hI (pI h k j x) k y = hI h k y := up2_sn hy
    simp [updV, px_av, hy, e9]
theorem px_zast {k len j : Nat} {i : Int32} {x : Int32} (d : decode (px_cc M) pc = .ok (.bastore, 1)) (ha : px_ar h k 21 len) (hi : i = nI j) (hl : j < len) (hz : narrow .boolean (.int x) = .int x) (kk : PW M N1 S1 Post (pc + 1) lv st (pI h k j x)) : PW M N1 S1 Post pc lv (.int x :: .int i :: .ref k :: st) h := by
  intro b G p l e R s m args below meth c n0 s0 Q C H locs ls V
  obtain ⟨hin, hcl⟩ := px_ix hi hl ha.2.2
  refine W.zast C.1.1 C.1.2.1 (px_arr V.1 ha (by decide) (by decide)) (px_aT C.2.1 (kd := 21) (by decide) (by decide) len _) (fun q => by cases q) (by rw [arrV_size]; exact hin) rfl rfl d fun H1 eh z oq => ?_
  rw [hcl] at eh ⊢
  rw [hz] at eh
  refine kk b G p l e R s m args below meth c n0 s0 Q C H1 _ ls ⟨px_stR (h' := pI h k j x) V.1 ha (by decide) (by decide) eh z oq rfl rfl (fun y hy => up2_ne hy) (fun y _ => rfl) (fun y _ => rfl) (fun y => ?_), px_Okp V.2.1 V.1 (Nat.le_add_right b k) oq, px_vS (n0 := n0) V.2.2.1 (Nat.le_add_right b k) z oq, V.2.2.2.1, V.2.2.2.2⟩
  by_cases hy : y = j
  · subst hy
    have e9 : hI (pI h k y x) k y = x := up2_ss
    simp [updV, px_av, e9]
  · have e9 : hI (pI h k j x) k y = hI h k y := up2_sn hy
    simp [updV, px_av, hy, e9]
theorem px_cast {k len j : Nat} {i : Int32} {x : Int32} (d : decode (px_cc M) pc = .ok (.castore, 1)) (ha : px_ar h k 22 len) (hi : i = nI j) (hl : j < len) (hz : narrow .char (.int x) = .int x) (kk : PW M N1 S1 Post (pc + 1) lv st (pI h k j x)) : PW M N1 S1 Post pc lv (.int x :: .int i :: .ref k :: st) h := by
  intro b G p l e R s m args below meth c n0 s0 Q C H locs ls V
  obtain ⟨hin, hcl⟩ := px_ix hi hl ha.2.2
  refine W.cast C.1.1 C.1.2.1 (px_arr V.1 ha (by decide) (by decide)) (px_aT C.2.1 (kd := 22) (by decide) (by decide) len _) (fun q => by cases q) (by rw [arrV_size]; exact hin) rfl rfl d fun H1 eh z oq => ?_
  rw [hcl] at eh ⊢
  rw [hz] at eh
  refine kk b G p l e R s m args below meth c n0 s0 Q C H1 _ ls ⟨px_stR (h' := pI h k j x) V.1 ha (by decide) (by decide) eh z oq rfl rfl (fun y hy => up2_ne hy) (fun y _ => rfl) (fun y _ => rfl) (fun y => ?_), px_Okp V.2.1 V.1 (Nat.le_add_right b k) oq, px_vS (n0 := n0) V.2.2.1 (Nat.le_add_right b k) z oq, V.2.2.2.1, V.2.2.2.2⟩
  by_cases hy : y = j
  · subst hy
    have e9 : hI (pI h k y x) k y = x := up2_ss
    simp [updV, px_av, e9]
  · have e9 : hI (pI h k j x) k y = hI h k y := up2_sn hy
    simp [updV, px_av, hy, e9]
theorem px_last {k len j : Nat} {i : Int32} {x : Int64} (d : decode (px_cc M) pc = .ok (.lastore, 1)) (ha : px_ar h k 23 len) (hi : i = nI j) (hl : j < len) (kk : PW M N1 S1 Post (pc + 1) lv st (pJ h k j x)) : PW M N1 S1 Post pc lv (.long x :: .int i :: .ref k :: st) h := by
  intro b G p l e R s m args below meth c n0 s0 Q C H locs ls V
  obtain ⟨hin, hcl⟩ := px_ix hi hl ha.2.2
  refine W.last C.1.1 C.1.2.1 (px_arr V.1 ha (by decide) (by decide)) (px_aT C.2.1 (kd := 23) (by decide) (by decide) len _) (fun q => by cases q) (by rw [arrV_size]; exact hin) rfl rfl d fun H1 eh z oq => ?_
  rw [hcl] at eh ⊢
  refine kk b G p l e R s m args below meth c n0 s0 Q C H1 _ ls ⟨px_stR (h' := pJ h k j x) V.1 ha (by decide) (by decide) eh z oq rfl rfl (fun y _ => rfl) (fun y hy => up2_ne hy) (fun y _ => rfl) (fun y => ?_), px_Okp V.2.1 V.1 (Nat.le_add_right b k) oq, px_vS (n0 := n0) V.2.2.1 (Nat.le_add_right b k) z oq, V.2.2.2.1, V.2.2.2.2⟩
  by_cases hy : y = j
  · subst hy
    have e9 : hJ (pJ h k y x) k y = x := up2_ss
    simp [updV, px_av, e9]
  · have e9 : hJ (pJ h k j x) k y = hJ h k y := up2_sn hy
    simp [updV, px_av, hy, e9]
theorem px_aastA {k len j v ci : Nat} {i : Int32} (d : decode (px_cc M) pc = .ok (.aastore, 1)) (ha : px_ar h k 24 len) (hi : i = nI j) (hl : j < len) (hv : px_ob h v ci) (hc : ci < px_NC) (hcn : (px_CT ci).1 = px_C24) (kk : PW M N1 S1 Post (pc + 1) lv st (pR h k j (some v))) : PW M N1 S1 Post pc lv (.ref v :: .int i :: .ref k :: st) h := by
  intro b G p l e R s m args below meth c n0 s0 Q C H locs ls V
  obtain ⟨hin, hcl⟩ := px_ix hi hl ha.2.2
  have h0 : ¬ i < 0 := fun q => hin (Or.inl q)
  obtain ⟨cellV, g1, g2, g3, -⟩ := px_obj V.1 hv hc
  have hcls := (C.2.1.1 ci hc).2
  obtain ⟨kA, comp, k1, k2, k3, -⟩ := (C.2.1.2.1 24 (by decide) (by decide)).2
  have hcomp : comp = G.1 ci := Option.some.inj (k3.symm.trans (by rw [← hcn]; exact hcls.1))
  subst hcomp
  obtain ⟨kC, hkC, -⟩ := id hcls.2
  refine W.aast C.1.1 C.1.2.1 (px_arr V.1 ha (by decide) (by decide)) (fun q h => by cases h) (fun h => by cases h) k1 k2 rfl hkC ⟨h0, by rw [arrV_size, hcl]; exact hl⟩ g1 (fun q h => by rw [g3] at h; cases h) (by rw [g2]; exact hkC) (by rw [g2]; exact va_assign hcls) rfl rfl d fun H1 eh z oq => ?_
  rw [hcl] at eh ⊢
  refine kk b G p l e R s m args below meth c n0 s0 Q C H1 _ ls ⟨px_stR (h' := pR h k j (some v)) V.1 ha (by decide) (by decide) eh z oq rfl rfl (fun y _ => rfl) (fun y _ => rfl) (fun y hy => up2_ne hy) (fun y => ?_), px_Okp V.2.1 V.1 (Nat.le_add_right b k) oq, px_vS (n0 := n0) V.2.2.1 (Nat.le_add_right b k) z oq, V.2.2.2.1, V.2.2.2.2⟩
  by_cases hy : y = j
  · subst hy
    have e9 : hR (pR h k y (some v)) k y = some v := up2_ss
    simp [updV, px_av, e9, px_rf, va_rf]
  · have e9 : hR (pR h k j (some v)) k y = hR h k y := up2_sn hy
    simp [updV, px_av, hy, e9]
theorem px_aastB {k len j v ci : Nat} {i : Int32} (d : decode (px_cc M) pc = .ok (.aastore, 1)) (ha : px_ar h k 25 len) (hi : i = nI j) (hl : j < len) (hv : px_ob h v ci) (hc : ci < px_NC) (hcn : (px_CT ci).1 = px_C25) (kk : PW M N1 S1 Post (pc + 1) lv st (pR h k j (some v))) : PW M N1 S1 Post pc lv (.ref v :: .int i :: .ref k :: st) h := by
  intro b G p l e R s m args below meth c n0 s0 Q C H locs ls V
  obtain ⟨hin, hcl⟩ := px_ix hi hl ha.2.2
  have h0 : ¬ i < 0 := fun q => hin (Or.inl q)
  obtain ⟨cellV, g1, g2, g3, -⟩ := px_obj V.1 hv hc
  have hcls := (C.2.1.1 ci hc).2
  obtain ⟨kA, comp, k1, k2, k3, -⟩ := (C.2.1.2.1 25 (by decide) (by decide)).2
  have hcomp : comp = G.1 ci := Option.some.inj (k3.symm.trans (by rw [← hcn]; exact hcls.1))
  subst hcomp
  obtain ⟨kC, hkC, -⟩ := id hcls.2
  refine W.aast C.1.1 C.1.2.1 (px_arr V.1 ha (by decide) (by decide)) (fun q h => by cases h) (fun h => by cases h) k1 k2 rfl hkC ⟨h0, by rw [arrV_size, hcl]; exact hl⟩ g1 (fun q h => by rw [g3] at h; cases h) (by rw [g2]; exact hkC) (by rw [g2]; exact va_assign hcls) rfl rfl d fun H1 eh z oq => ?_
  rw [hcl] at eh ⊢
  refine kk b G p l e R s m args below meth c n0 s0 Q C H1 _ ls ⟨px_stR (h' := pR h k j (some v)) V.1 ha (by decide) (by decide) eh z oq rfl rfl (fun y _ => rfl) (fun y _ => rfl) (fun y hy => up2_ne hy) (fun y => ?_), px_Okp V.2.1 V.1 (Nat.le_add_right b k) oq, px_vS (n0 := n0) V.2.2.1 (Nat.le_add_right b k) z oq, V.2.2.2.1, V.2.2.2.2⟩
  by_cases hy : y = j
  · subst hy
    have e9 : hR (pR h k y (some v)) k y = some v := up2_ss
    simp [updV, px_av, e9, px_rf, va_rf]
  · have e9 : hR (pR h k j (some v)) k y = hR h k y := up2_sn hy
    simp [updV, px_av, hy, e9]
end PXA
end
section
section PXA2
variable {M : px_M} {N1 S1 : Nat} {Post : Nat → Option Value → PH → Prop} {pc : Nat} {lv : List (Nat × Value)} {st : List Value} {h : PH}
theorem px_cb (t : ArrayType) : componentBytes (newarray.typeOf t) ≤ 8 := by cases t <;> decide
theorem up1_ne {α : Type} {f : Nat → α} {a x : Nat} {v : α} (h : x ≠ a) : up1 f a v x = f x := by simp [up1, h]
theorem up1_s {α : Type} {f : Nat → α} {a : Nat} {v : α} : up1 f a v a = v := by simp [up1]
theorem px_mkR {b : Nat} {G : px_G} {h : PH} {H H1 : Heap} {kd len sl : Nat} (hR0 : px_Rel b G h H) (z : H1.size = H.size + 1) (oq : ∀ q : Nat, q < H.size → H1[q]? = H[q]?) (a : px_at b G (pN h kd len sl) H1 (hn h)) : px_Rel b G (pN h kd len sl) H1 := by
  refine ⟨by rw [z, hR0.1]; rfl, fun x hx => ?_⟩
  have hx : x < hn h + 1 := hx
  by_cases e : x = hn h
  · rw [e]; exact a
  · exact px_at.kept (up1_ne e) (up1_ne e) (up1_ne e) (up1_ne e) (oq _ (by rw [hR0.1]; omega)) (hR0.2 x (by omega))
theorem px_mkV {nL n0 s0 b : Nat} {G : px_G} {s : State} {H H1 : Heap} {locs : List Loc} {ls : Array Slot} {kd len sl : Nat} (V : px_V nL N1 S1 b G s n0 s0 lv h H locs ls) (z : H1.size = H.size + 1) (oq : ∀ q : Nat, q < H.size → H1[q]? = H[q]?) (a : px_at b G (pN h kd len sl) H1 (hn h)) (hc : hn h + 1 ≤ N1) (hl : hs h + sl ≤ S1) : px_V nL N1 S1 b G s n0 s0 lv (pN h kd len sl) H1 locs ls :=
  ⟨px_mkR V.1 z oq a, V.2.1.kept (by rw [V.1.1]; omega) (fun q hq => oq q (by rw [V.1.1]; omega)), ⟨Nat.le_trans V.2.2.1.1 (by omega), fun q h1 h2 => (oq q (Nat.lt_of_lt_of_le h1 V.2.2.1.1)).trans (V.2.2.1.2.1 q h1 h2), V.2.2.1.2.2⟩, ⟨by show n0 ≤ hn h + 1; have := V.2.2.2.1.1; omega, by show s0 ≤ hs h + sl; have := V.2.2.2.1.2.1; omega, hc, hl⟩, V.2.2.2.2⟩
theorem px_new {ci ix : Nat} (d : decode (px_cc M) pc = .ok (.new ix, 3)) (hc : ci < px_NC) (hcl : Cond.classLink (px_own M) ix (px_CT ci).1 ∈ px_TB) (hin : Cond.instantiable (px_CT ci).1 (px_CT ci).2.2 ∈ px_TB) (hini : Cond.initialized (px_CT ci).1 ∈ px_TB) (h1 : hn h + 1 ≤ N1) (h2 : hs h + (px_CT ci).2.2 ≤ S1) (kk : PW M N1 S1 Post (pc + 3) lv (.ref (hn h) :: st) (pN h ci 0 (px_CT ci).2.2)) : PW M N1 S1 Post pc lv st h := by
  intro b G p l e R s m args below meth c n0 s0 Q C H locs ls V
  have hts := C.1.2.2.2.2
  have hKn := C.2.1.1 ci hc
  have v1 := V.2.2.2.1
  have c1 := C.2.2.2.2.1
  refine W.newcK C.1.1 C.1.2.1 C.1.2.2.2.1 (hts _ hcl) (hts _ hin) (hts _ hini) rfl d (by omega) (by omega) hKn.2.1 V.1.1 fun H1 kC hkC e1 z1 o1 => ?_
  refine W.cs (cells' := hn (pN h ci 0 (px_CT ci).2.2) - n0) (slots' := hs (pN h ci 0 (px_CT ci).2.2) - s0) (by show _ = hn h + 1 - n0; omega) (by show _ = hs h + (px_CT ci).2.2 - s0; omega) ?_
  refine kk b G p l e R s m args below meth c n0 s0 Q C H1 locs ls (px_mkV V (by rw [z1, V.1.1]) (fun q hq => o1 q (by rw [← V.1.1]; exact hq)) ?_ h1 h2)
  unfold px_at
  rw [show hK (pN h ci 0 (px_CT ci).2.2) (hn h) = (ci, 0) from up1_s]
  rw [if_pos (px_c20 hc)]
  have hty : ∀ j, ∃ t, j < (px_CT ci).2.2 → parseFieldDescriptor ((px_CT ci).2.1 j).2.2.1 = some t ∧ ((((px_CT ci).2.1 j).2.2.1 = "I" ∧ t = .int) ∨ (((px_CT ci).2.1 j).2.2.1 ≠ "I" ∧ ((∃ n, t = .object n) ∨ ∃ u, t = .array u))) := by
    intro j
    by_cases hj : j < (px_CT ci).2.2
    · obtain ⟨t, ht⟩ := px_pty hc hj
      exact ⟨t, fun _ => ht⟩
    · exact ⟨.int, fun q => absurd q hj⟩
  obtain ⟨tf, htf⟩ := Classical.axiomOfChoice hty
  refine (u_born tf hts (px_lays ci hc) hKn hkC e1 (fun j hj => (htf j hj).1)).to (fun j hj => ?_)
  have ei : hI (pN h ci 0 (px_CT ci).2.2) (hn h) = fun _ => 0 := up1_s
  have er : hR (pN h ci 0 (px_CT ci).2.2) (hn h) = fun _ => none := up1_s
  rcases (htf j hj).2 with ⟨a1, a2⟩ | ⟨a1, ⟨n, a2⟩ | ⟨u, a2⟩⟩
  · unfold px_fv; rw [if_pos a1, a2, ei]; rfl
  · unfold px_fv; rw [if_neg a1, a2, er]; rfl
  · unfold px_fv; rw [if_neg a1, a2, er]; rfl
theorem px_newI {n : Int32} {len : Nat} (d : decode (px_cc M) pc = .ok (.newarray .int, 2)) (hac : Cond.arrayClass .int ∈ px_TB) (hn0 : n = nI len) (hb : len ≤ 1000000) (h1 : hn h + 1 ≤ N1) (h2 : hs h + len ≤ S1) (kk : PW M N1 S1 Post (pc + 2) lv (.ref (hn h) :: st) (pN h 20 len len)) : PW M N1 S1 Post pc lv (.int n :: st) h := by
  intro b G p l e R s m args below meth c n0 s0 Q C H locs ls V
  have v1 := V.2.2.2.1
  have c1 := C.2.2.2.2.1
  refine va_newaK (atype := .int) C.1.1 C.1.2.1 (C.1.2.2.2.2 _ hac) rfl d rfl (by rw [hn0]; exact nI_pos (by omega)) (N := len) (by rw [hn0]; exact nI_clamp (by omega)) (Nat.le_trans (Nat.mul_le_mul hb (px_cb _)) (by decide)) (by omega) (by omega) V.1.1 fun H1 cA e1 z1 o1 hA hf => ?_
  refine W.cs (cells' := hn (pN h 20 len len) - n0) (slots' := hs (pN h 20 len len) - s0) (by show _ = hn h + 1 - n0; omega) (by show _ = hs h + len - s0; omega) ?_
  refine kk b G p l e R s m args below meth c n0 s0 Q C H1 locs ls (px_mkV V (by rw [z1, V.1.1]) (fun q hq => o1 q (by rw [← V.1.1]; exact hq)) ?_ h1 h2)
  have hcA : G.2.2.1 20 = cA := Option.some.inj ((C.2.1.2.1 20 (by decide) (by decide)).2.symm.trans hf)
  unfold px_at
  rw [show hK (pN h 20 len len) (hn h) = (20, len) from up1_s]
  rw [if_neg (show ¬ (20 : Nat) < 20 by decide), if_pos (show (20 : Nat) < 26 by decide), hcA, e1]
  congr 2
  funext j
  have ei : hI (pN h 20 len len) (hn h) = fun _ => 0 := up1_s
  have ej : hJ (pN h 20 len len) (hn h) = fun _ => 0 := up1_s
  simp [px_av, ei, ej]
  rfl
theorem px_newZ {n : Int32} {len : Nat} (d : decode (px_cc M) pc = .ok (.newarray .boolean, 2)) (hac : Cond.arrayClass .boolean ∈ px_TB) (hn0 : n = nI len) (hb : len ≤ 1000000) (h1 : hn h + 1 ≤ N1) (h2 : hs h + len ≤ S1) (kk : PW M N1 S1 Post (pc + 2) lv (.ref (hn h) :: st) (pN h 21 len len)) : PW M N1 S1 Post pc lv (.int n :: st) h := by
  intro b G p l e R s m args below meth c n0 s0 Q C H locs ls V
  have v1 := V.2.2.2.1
  have c1 := C.2.2.2.2.1
  refine va_newaK (atype := .boolean) C.1.1 C.1.2.1 (C.1.2.2.2.2 _ hac) rfl d rfl (by rw [hn0]; exact nI_pos (by omega)) (N := len) (by rw [hn0]; exact nI_clamp (by omega)) (Nat.le_trans (Nat.mul_le_mul hb (px_cb _)) (by decide)) (by omega) (by omega) V.1.1 fun H1 cA e1 z1 o1 hA hf => ?_
  refine W.cs (cells' := hn (pN h 21 len len) - n0) (slots' := hs (pN h 21 len len) - s0) (by show _ = hn h + 1 - n0; omega) (by show _ = hs h + len - s0; omega) ?_
  refine kk b G p l e R s m args below meth c n0 s0 Q C H1 locs ls (px_mkV V (by rw [z1, V.1.1]) (fun q hq => o1 q (by rw [← V.1.1]; exact hq)) ?_ h1 h2)
  have hcA : G.2.2.1 21 = cA := Option.some.inj ((C.2.1.2.1 21 (by decide) (by decide)).2.symm.trans hf)
  unfold px_at
  rw [show hK (pN h 21 len len) (hn h) = (21, len) from up1_s]
  rw [if_neg (show ¬ (21 : Nat) < 20 by decide), if_pos (show (21 : Nat) < 26 by decide), hcA, e1]
  congr 2
  funext j
  have ei : hI (pN h 21 len len) (hn h) = fun _ => 0 := up1_s
  have ej : hJ (pN h 21 len len) (hn h) = fun _ => 0 := up1_s
  simp [px_av, ei, ej]
  rfl
theorem px_newC {n : Int32} {len : Nat} (d : decode (px_cc M) pc = .ok (.newarray .char, 2)) (hac : Cond.arrayClass .char ∈ px_TB) (hn0 : n = nI len) (hb : len ≤ 1000000) (h1 : hn h + 1 ≤ N1) (h2 : hs h + len ≤ S1) (kk : PW M N1 S1 Post (pc + 2) lv (.ref (hn h) :: st) (pN h 22 len len)) : PW M N1 S1 Post pc lv (.int n :: st) h := by
  intro b G p l e R s m args below meth c n0 s0 Q C H locs ls V
  have v1 := V.2.2.2.1
  have c1 := C.2.2.2.2.1
  refine va_newaK (atype := .char) C.1.1 C.1.2.1 (C.1.2.2.2.2 _ hac) rfl d rfl (by rw [hn0]; exact nI_pos (by omega)) (N := len) (by rw [hn0]; exact nI_clamp (by omega)) (Nat.le_trans (Nat.mul_le_mul hb (px_cb _)) (by decide)) (by omega) (by omega) V.1.1 fun H1 cA e1 z1 o1 hA hf => ?_
  refine W.cs (cells' := hn (pN h 22 len len) - n0) (slots' := hs (pN h 22 len len) - s0) (by show _ = hn h + 1 - n0; omega) (by show _ = hs h + len - s0; omega) ?_
  refine kk b G p l e R s m args below meth c n0 s0 Q C H1 locs ls (px_mkV V (by rw [z1, V.1.1]) (fun q hq => o1 q (by rw [← V.1.1]; exact hq)) ?_ h1 h2)
  have hcA : G.2.2.1 22 = cA := Option.some.inj ((C.2.1.2.1 22 (by decide) (by decide)).2.symm.trans hf)
  unfold px_at
  rw [show hK (pN h 22 len len) (hn h) = (22, len) from up1_s]
  rw [if_neg (show ¬ (22 : Nat) < 20 by decide), if_pos (show (22 : Nat) < 26 by decide), hcA, e1]
  congr 2
  funext j
  have ei : hI (pN h 22 len len) (hn h) = fun _ => 0 := up1_s
  have ej : hJ (pN h 22 len len) (hn h) = fun _ => 0 := up1_s
  simp [px_av, ei, ej]
  rfl
theorem px_newJ {n : Int32} {len : Nat} (d : decode (px_cc M) pc = .ok (.newarray .long, 2)) (hac : Cond.arrayClass .long ∈ px_TB) (hn0 : n = nI len) (hb : len ≤ 1000000) (h1 : hn h + 1 ≤ N1) (h2 : hs h + len ≤ S1) (kk : PW M N1 S1 Post (pc + 2) lv (.ref (hn h) :: st) (pN h 23 len len)) : PW M N1 S1 Post pc lv (.int n :: st) h := by
  intro b G p l e R s m args below meth c n0 s0 Q C H locs ls V
  have v1 := V.2.2.2.1
  have c1 := C.2.2.2.2.1
  refine va_newaK (atype := .long) C.1.1 C.1.2.1 (C.1.2.2.2.2 _ hac) rfl d rfl (by rw [hn0]; exact nI_pos (by omega)) (N := len) (by rw [hn0]; exact nI_clamp (by omega)) (Nat.le_trans (Nat.mul_le_mul hb (px_cb _)) (by decide)) (by omega) (by omega) V.1.1 fun H1 cA e1 z1 o1 hA hf => ?_
  refine W.cs (cells' := hn (pN h 23 len len) - n0) (slots' := hs (pN h 23 len len) - s0) (by show _ = hn h + 1 - n0; omega) (by show _ = hs h + len - s0; omega) ?_
  refine kk b G p l e R s m args below meth c n0 s0 Q C H1 locs ls (px_mkV V (by rw [z1, V.1.1]) (fun q hq => o1 q (by rw [← V.1.1]; exact hq)) ?_ h1 h2)
  have hcA : G.2.2.1 23 = cA := Option.some.inj ((C.2.1.2.1 23 (by decide) (by decide)).2.symm.trans hf)
  unfold px_at
  rw [show hK (pN h 23 len len) (hn h) = (23, len) from up1_s]
  rw [if_neg (show ¬ (23 : Nat) < 20 by decide), if_pos (show (23 : Nat) < 26 by decide), hcA, e1]
  congr 2
  funext j
  have ei : hI (pN h 23 len len) (hn h) = fun _ => 0 := up1_s
  have ej : hJ (pN h 23 len len) (hn h) = fun _ => 0 := up1_s
  simp [px_av, ei, ej]
  rfl
theorem px_newA {n : Int32} {len ix : Nat} (d : decode (px_cc M) pc = .ok (.anewarray ix, 3)) (hcl : Cond.classLink (px_own M) ix px_C24 ∈ px_TB) (hao : px_C24 ∈ px_AO) (hn0 : n = nI len) (hb : len ≤ 1000000) (h1 : hn h + 1 ≤ N1) (h2 : hs h + len ≤ S1) (kk : PW M N1 S1 Post (pc + 3) lv (.ref (hn h) :: st) (pN h 24 len len)) : PW M N1 S1 Post pc lv (.int n :: st) h := by
  intro b G p l e R s m args below meth c n0 s0 Q C H locs ls V
  have v1 := V.2.2.2.1
  have c1 := C.2.2.2.2.1
  have hcn : n.toNatClampNeg = len := by rw [hn0]; exact nI_clamp (by omega)
  refine W.anew C.1.1 C.1.2.1 C.1.2.2.2.1 (C.1.2.2.2.2 _ hcl) (va_AO.use (C.2.1.2.2.2.2.1 _ hao)) rfl d rfl (by rw [hn0]; exact nI_pos (by omega)) (by rw [hcn]; omega) (by omega) (by rw [hcn]; omega) fun cA kA comp f1 f2 f3 f4 => ?_
  rw [hcn]
  generalize hH1 : H.push ({ cls := cA, slots := Array.replicate len .null, vm := .none } : Cell) = H1
  have z1 : H1.size = H.size + 1 := by rw [← hH1, Array.size_push]
  have e1 : H1[H.size]? = some (arrV cA len (fun _ => .null)) := by rw [← hH1, Array.getElem?_push_size, ← arrV_new]
  have o1 : ∀ q : Nat, q < H.size → H1[q]? = H[q]? := fun q hq => by rw [← hH1, Array.getElem?_push, if_neg (Nat.ne_of_lt hq)]
  refine W.cs (cells' := hn (pN h 24 len len) - n0) (slots' := hs (pN h 24 len len) - s0) (by show _ = hn h + 1 - n0; omega) (by show _ = hs h + len - s0; omega) ?_
  have hz : H.size = b + hn h := V.1.1
  rw [hz]
  refine kk b G p l e R s m args below meth c n0 s0 Q C H1 locs ls (px_mkV V z1 o1 ?_ h1 h2)
  obtain ⟨kA', comp', g1, g2, g3, g4⟩ := (C.2.1.2.1 24 (by decide) (by decide)).2
  have hcA : G.2.2.1 24 = cA := Option.some.inj (g4.symm.trans f1)
  unfold px_at
  rw [show hK (pN h 24 len len) (hn h) = (24, len) from up1_s]
  rw [if_neg (show ¬ (24 : Nat) < 20 by decide), if_pos (show (24 : Nat) < 26 by decide), hcA, ← hz, e1]
  congr 2
  funext j
  have er : hR (pN h 24 len len) (hn h) = fun _ => none := up1_s
  simp [px_av, er, px_rf, va_rf]
theorem px_newB {n : Int32} {len ix : Nat} (d : decode (px_cc M) pc = .ok (.anewarray ix, 3)) (hcl : Cond.classLink (px_own M) ix px_C25 ∈ px_TB) (hao : px_C25 ∈ px_AO) (hn0 : n = nI len) (hb : len ≤ 1000000) (h1 : hn h + 1 ≤ N1) (h2 : hs h + len ≤ S1) (kk : PW M N1 S1 Post (pc + 3) lv (.ref (hn h) :: st) (pN h 25 len len)) : PW M N1 S1 Post pc lv (.int n :: st) h := by
  intro b G p l e R s m args below meth c n0 s0 Q C H locs ls V
  have v1 := V.2.2.2.1
  have c1 := C.2.2.2.2.1
  have hcn : n.toNatClampNeg = len := by rw [hn0]; exact nI_clamp (by omega)
  refine W.anew C.1.1 C.1.2.1 C.1.2.2.2.1 (C.1.2.2.2.2 _ hcl) (va_AO.use (C.2.1.2.2.2.2.1 _ hao)) rfl d rfl (by rw [hn0]; exact nI_pos (by omega)) (by rw [hcn]; omega) (by omega) (by rw [hcn]; omega) fun cA kA comp f1 f2 f3 f4 => ?_
  rw [hcn]
  generalize hH1 : H.push ({ cls := cA, slots := Array.replicate len .null, vm := .none } : Cell) = H1
  have z1 : H1.size = H.size + 1 := by rw [← hH1, Array.size_push]
  have e1 : H1[H.size]? = some (arrV cA len (fun _ => .null)) := by rw [← hH1, Array.getElem?_push_size, ← arrV_new]
  have o1 : ∀ q : Nat, q < H.size → H1[q]? = H[q]? := fun q hq => by rw [← hH1, Array.getElem?_push, if_neg (Nat.ne_of_lt hq)]
  refine W.cs (cells' := hn (pN h 25 len len) - n0) (slots' := hs (pN h 25 len len) - s0) (by show _ = hn h + 1 - n0; omega) (by show _ = hs h + len - s0; omega) ?_
  have hz : H.size = b + hn h := V.1.1
  rw [hz]
  refine kk b G p l e R s m args below meth c n0 s0 Q C H1 locs ls (px_mkV V z1 o1 ?_ h1 h2)
  obtain ⟨kA', comp', g1, g2, g3, g4⟩ := (C.2.1.2.1 25 (by decide) (by decide)).2
  have hcA : G.2.2.1 25 = cA := Option.some.inj (g4.symm.trans f1)
  unfold px_at
  rw [show hK (pN h 25 len len) (hn h) = (25, len) from up1_s]
  rw [if_neg (show ¬ (25 : Nat) < 20 by decide), if_pos (show (25 : Nat) < 26 by decide), hcA, ← hz, e1]
  congr 2
  funext j
  have er : hR (pN h 25 len len) (hn h) = fun _ => none := up1_s
  simp [px_av, er, px_rf, va_rf]
end PXA2
end
section
/-! ===== calls, and contracts of what throws ===== -/
def px_ok (M : px_M) (n : Nat) : Prop := Cond.code (px_y M) (px_cc M) (px_nL M) (px_rt M) ∈ px_TB ∧ Cond.initialized (px_own M) ∈ px_TB ∧ (px_own M ≠ "java/lang/invoke/MethodHandle" ∧ px_own M ≠ "java/lang/invoke/VarHandle") ∧ (parseMethodDescriptor (px_y M).desc).map (fun d => d.parameters.length) = some n
def px_okV (M : px_M) : Prop := Cond.instanceMethod (px_y M) ∈ px_TB ∧ Cond.selects (px_own M) (px_y M) (px_y M) ∈ px_TB
def px_okI (M : px_M) : Prop := Cond.instanceMethod (px_y M) ∈ px_TB ∧ (px_y M).name = "<init>"
def px_okS (M : px_M) : Prop := Cond.static (px_y M) ∈ px_TB
theorem px_gin {M : px_M} {n : Nat} (h : px_ok M n) : GoodIn px_TB (px_ws M) := fun w hw => by
  rcases List.mem_cons.mp hw with e | e
  · rw [e]; exact px_good _ h.1
  · exact px_good _ e
theorem px_cb0 {M M' : px_M} {n ix : Nat} {h h' : PH} {R : Room} {s : State} {args : Array Value} (hts : ∀ w ∈ px_TB, w.before args s = true) (hok : px_ok M' n) (hl : Cond.methodLink (px_own M) ix (px_y M') ∈ px_TB) (hR : px_fr M' + 1 ≤ R.frames ∧ 8 + (px_nL M' + 11) + px_lo M' ≤ R.locals) :
    CallB R s args (px_own M) ix (px_y M') (px_cc M') (px_nL M') (px_rt M') (px_ws M') (px_rm M' h h') (hn h' - hn h) (hs h' - hs h) n :=
  callB_of n hts (px_gin hok) rfl rfl rfl (hts _ hok.2.1) (hts _ hl) ⟨hok.2.2.1.1, hok.2.2.1.2, hok.2.2.2⟩ hR
theorem px_cn0 {M M' : px_M} {n ix : Nat} {h h' : PH} {R : Room} {s : State} {args : Array Value} {host : String} (hts : ∀ w ∈ px_TB, w.before args s = true) (hok : px_ok M' n) (hl : va_Nw (.methodLinkNest (px_own M) ix (px_y M') host) s) (hR : px_fr M' + 1 ≤ R.frames ∧ 8 + (px_nL M' + 11) + px_lo M' ≤ R.locals) :
    va_CN R s args (px_own M) ix (px_y M') host (px_cc M') (px_nL M') (px_rt M') (px_ws M') (px_rm M' h h') (hn h' - hn h) (hs h' - hs h) n :=
  va_cnB n hts (px_gin hok) rfl rfl rfl hl (hts _ hok.2.1) ⟨hok.2.2.1.1, hok.2.2.1.2, hok.2.2.2⟩ hR
theorem px_oi1 : Cond.instanceMethod Lib.objectInit ∈ px_TB := px_t1 32 (by decide +kernel) rfl
theorem px_oi2 : Cond.code Lib.objectInit ⟨#[0xb1]⟩ 1 none ∈ px_TB := px_t1 33 (by decide +kernel) rfl
section PXC
variable {M : px_M} {N1 S1 : Nat} {Post : Nat → Option Value → PH → Prop} {pc : Nat} {lv : List (Nat × Value)} {st : List Value} {h : PH}
theorem px_after {nL b : Nat} {G : px_G} {p : Program} {l : Launch} {e : Env} {R : Room} {s : State} {m : MethodId} {args a : Array Value} {below : List Frame} {meth : Method} {c : Code} {n0 s0 : Nat} {Q : State → Prop} {H : Heap} {locs : List Loc} {ls : Array Slot} {rest st0 : List Value} {r : Option Value} {h' : PH}
    (hrun : va_Run p l e R s m args below meth c H locs (hn h - n0) (hs h - s0) (hn h' - hn h) (hs h' - hs h) (F0 m pc ls st0) rest (px_Qc b G r h' a) (fun q => b ≤ q)) (V : px_V nL N1 S1 b G s n0 s0 lv h H locs ls) (hb : s.heap.size = b + n0) (m1 : hn h ≤ hn h') (m2 : hs h ≤ hs h') (hN : hn h' ≤ N1 ∧ hs h' ≤ S1)
    (kk : ∀ (H1 : Heap) (locs1 : List Loc), px_V nL N1 S1 b G s n0 s0 lv h' H1 locs1 ls → W p l e R s m args below meth c H1 locs1 (hn h' - n0) (hs h' - s0) Q (F0 m (pc + 3) ls ((r.map (rl b G)).toList ++ rest))) : W p l e R s m args below meth c H locs (hn h - n0) (hs h - s0) Q (F0 m pc ls st0) := by
  intro T hT X
  obtain ⟨v, st₀, t, T', L, h0, X', hL, e1, e2, ⟨q1, q2, q3⟩, stp⟩ := hrun T hT X
  have hv : v = r.map (rl b G) := Outcome.returned.inj q1
  subst hv
  have v1 := V.2.2.2.1
  have e3 : hn h - n0 + (hn h' - hn h) = hn h' - n0 := by omega
  have e4 : hs h - s0 + (hs h' - hs h) = hs h' - s0 := by omega
  rw [e3, e4] at X'
  have hq : ∀ q : Nat, q < b → T'.heap[q]? = H[q]? := fun q hq => by rw [e1, q3 q hq, h0]
  have hz : T'.heap.size = b + hn h' := by rw [e1]; exact q2.1
  obtain ⟨t2, a1, b1⟩ := kk T'.heap (locs ++ L) ⟨by rw [e1]; exact q2, V.2.1.kept (by rw [V.1.1]; omega) hq, ⟨by rw [hz, hb]; omega, fun q h1 h2 => (hq q (Nat.not_le.mp h2)).trans (V.2.2.1.2.1 q h1 h2), fun z hz => by
    rcases List.mem_append.mp hz with g | g
    · exact V.2.2.1.2.2 z g
    · exact hL z g⟩, ⟨by omega, by omega, hN.1, hN.2⟩, V.2.2.2.2⟩ T' rfl X'
  exact ⟨t2, stp t2 a1, b1⟩
theorem px_stk (b : Nat) (G : px_G) (as : List Value) (k : Nat) (st : List Value) : (as.reverse ++ .ref k :: st).map (rl b G) = (as.map (rl b G)).reverse ++ .ref (b + k) :: st.map (rl b G) := by
  rw [List.map_append, List.map_reverse]; rfl
theorem px_stkS (b : Nat) (G : px_G) (as : List Value) (st : List Value) : (as.reverse ++ st).map (rl b G) = (as.map (rl b G)).reverse ++ st.map (rl b G) := by
  rw [List.map_append, List.map_reverse]
theorem px_tol (b : Nat) (G : px_G) (r : Option Value) (st : List Value) : (r.toList ++ st).map (rl b G) = (r.map (rl b G)).toList ++ st.map (rl b G) := by cases r <;> rfl
theorem px_recv {b : Nat} {G : px_G} {s : State} {H : Heap} {k ci : Nat} (hK : px_K G s) (hR0 : px_Rel b G h H) (ho : px_ob h k ci) (hc : ci < px_NC) : ∃ cell : Cell, H[b + k]? = some cell ∧ cell.vm.isStatics = false ∧ s.vm.findClass (px_CT ci).1 = some cell.cls := by
  obtain ⟨cell, q1, q2, q3, -⟩ := px_obj hR0 ho hc
  exact ⟨cell, q1, by rw [q3]; rfl, by rw [q2]; exact (hK.1 ci hc).2.1⟩
theorem px_pre {b nL n0 s0 : Nat} {G : px_G} {s : State} {H : Heap} {locs : List Loc} {ls : Array Slot} {as : List Value} (hK : px_K G s) (V : px_V nL N1 S1 b G s n0 s0 lv h H locs ls) : ∀ U : State, U.heap = H → s.WarmedH U.vm → px_Pc b G as h (as.map (rl b G)).toArray U := fun U hU hW => ⟨rfl, by rw [hU]; exact V.1, hK.moved hW, by rw [hU]; exact V.2.1.moved hW.alike⟩
theorem px_room {M' : px_M} {b : Nat} {G : px_G} {p : Program} {l : Launch} {e : Env} {R : Room} {s : State} {m : MethodId} {args : Array Value} {below : List Frame} {meth : Method} {c : Code} {n0 s0 : Nat} {Q : State → Prop} (C : px_C M N1 S1 Post b G p l e R s m args below meth c n0 s0 Q) (hrm : px_fr M' + 1 ≤ px_fr M ∧ 19 + px_nL M' + px_lo M' ≤ px_lo M) : px_fr M' + 1 ≤ R.frames ∧ 8 + (px_nL M' + 11) + px_lo M' ≤ R.locals := by
  have := C.2.2.2.2.1
  omega
theorem px_fit {nL b n0 s0 : Nat} {G : px_G} {p : Program} {l : Launch} {e : Env} {R : Room} {s : State} {m : MethodId} {args : Array Value} {below : List Frame} {meth : Method} {c : Code} {Q : State → Prop} {H : Heap} {locs : List Loc} {ls : Array Slot} {h' : PH} (C : px_C M N1 S1 Post b G p l e R s m args below meth c n0 s0 Q) (V : px_V nL N1 S1 b G s n0 s0 lv h H locs ls) (m1 : hn h ≤ hn h') (m2 : hs h ≤ hs h') (hN : hn h' ≤ N1 ∧ hs h' ≤ S1) : hn h - n0 + (hn h' - hn h) ≤ R.cells ∧ hs h - s0 + (hs h' - hs h) ≤ R.slots := by
  have := C.2.2.2.2.1
  have := V.2.2.2.1
  omega
theorem px_callV {M' : px_M} {as : List Value} {k ci n ix : Nat} {r : Option Value} {h' : PH} (hM : PM M' (.ref k :: as) h r h') (d : decode (px_cc M) pc = .ok (.invokevirtual ix, 3)) (hl : Cond.methodLink (px_own M) ix (px_y M') ∈ px_TB) (hok : px_ok M' n) (hv : px_okV M') (ho : px_ob h k ci) (hc : ci < px_NC) (hcn : (px_CT ci).1 = px_own M') (hln : as.length = n) (hsum : (st.map fun v => v.category).sum ≤ 8) (hrm : px_fr M' + 1 ≤ px_fr M ∧ 19 + px_nL M' + px_lo M' ≤ px_lo M) (hN : hn h' ≤ N1 ∧ hs h' ≤ S1) (kk : PW M N1 S1 Post (pc + 3) lv (r.toList ++ st) h') : PW M N1 S1 Post pc lv (as.reverse ++ .ref k :: st) h := by
  intro b G p l e R s m args below meth c n0 s0 Q C H locs ls V
  obtain ⟨m1, m2, hMet⟩ := hM
  have hMt := hMet l b G C.2.2.1
  refine px_after (va_runV (As := as.map (rl b G)) (rest := st.map (rl b G)) (b := b + k) (C := px_own M') (n := n) (g := F0 m pc ls ((as.reverse ++ .ref k :: st).map (rl b G))) C.1 hMt ⟨px_cb0 C.1.2.2.2.2 hok hl (px_room C hrm), C.1.2.2.2.2 _ hv.1, C.1.2.2.2.2 _ hv.2⟩ ⟨px_blind b G _ h, by rw [← hcn]; exact px_recv C.2.1 V.1 ho hc, px_pre C.2.1 V⟩ rfl (by rw [List.length_map]; exact hln) V.2.2.2.2.1 (px_stk b G as k st) (lv_room (by rw [rl_cats]; exact hsum)) d (px_fit C V m1 m2 hN)) V C.2.2.2.2.2.1 m1 m2 hN (fun H1 locs1 V1 => ?_)
  rw [← px_tol]
  exact kk b G p l e R s m args below meth c n0 s0 Q C H1 locs1 ls V1
theorem px_callS {M' : px_M} {as : List Value} {n ix : Nat} {r : Option Value} {h' : PH} (hM : PM M' as h r h') (d : decode (px_cc M) pc = .ok (.invokestatic ix, 3)) (hl : Cond.methodLink (px_own M) ix (px_y M') ∈ px_TB) (hok : px_ok M' n) (hv : px_okS M') (hln : as.length = n) (hsum : (st.map fun v => v.category).sum ≤ 8) (hrm : px_fr M' + 1 ≤ px_fr M ∧ 19 + px_nL M' + px_lo M' ≤ px_lo M) (hN : hn h' ≤ N1 ∧ hs h' ≤ S1) (kk : PW M N1 S1 Post (pc + 3) lv (r.toList ++ st) h') : PW M N1 S1 Post pc lv (as.reverse ++ st) h := by
  intro b G p l e R s m args below meth c n0 s0 Q C H locs ls V
  obtain ⟨m1, m2, hMet⟩ := hM
  have hMt := hMet l b G C.2.2.1
  refine px_after (va_runS (As := as.map (rl b G)) (rest := st.map (rl b G)) (n := n) (g := F0 m pc ls ((as.reverse ++ st).map (rl b G))) C.1 hMt ⟨px_cb0 C.1.2.2.2.2 hok hl (px_room C hrm), C.1.2.2.2.2 _ hv⟩ ⟨px_blind b G _ h, px_pre C.2.1 V⟩ rfl (by rw [List.length_map]; exact hln) V.2.2.2.2.1 (px_stkS b G as st) (lv_room (by rw [rl_cats]; exact hsum)) d (px_fit C V m1 m2 hN)) V C.2.2.2.2.2.1 m1 m2 hN (fun H1 locs1 V1 => ?_)
  rw [← px_tol]
  exact kk b G p l e R s m args below meth c n0 s0 Q C H1 locs1 ls V1
theorem px_callSN {M' : px_M} {as : List Value} {n ix : Nat} {r : Option Value} {h' : PH} {host : String} (hM : PM M' as h r h') (d : decode (px_cc M) pc = .ok (.invokestatic ix, 3)) (hl : (px_own M, ix, px_y M', host) ∈ px_NW) (hok : px_ok M' n) (hv : px_okS M') (hln : as.length = n) (hsum : (st.map fun v => v.category).sum ≤ 8) (hrm : px_fr M' + 1 ≤ px_fr M ∧ 19 + px_nL M' + px_lo M' ≤ px_lo M) (hN : hn h' ≤ N1 ∧ hs h' ≤ S1) (kk : PW M N1 S1 Post (pc + 3) lv (r.toList ++ st) h') : PW M N1 S1 Post pc lv (as.reverse ++ st) h := by
  intro b G p l e R s m args below meth c n0 s0 Q C H locs ls V
  obtain ⟨m1, m2, hMet⟩ := hM
  have hMt := hMet l b G C.2.2.1
  refine px_after (va_runSN (As := as.map (rl b G)) (rest := st.map (rl b G)) (n := n) (host := host) (g := F0 m pc ls ((as.reverse ++ st).map (rl b G))) C.1 hMt ⟨px_cn0 C.1.2.2.2.2 hok (C.2.1.2.2.1 _ hl) (px_room C hrm), C.1.2.2.2.2 _ hv, trivial⟩ ⟨px_blind b G _ h, px_pre C.2.1 V⟩ rfl (by rw [List.length_map]; exact hln) V.2.2.2.2.1 (px_stkS b G as st) (lv_room (by rw [rl_cats]; exact hsum)) d (px_fit C V m1 m2 hN)) V C.2.2.2.2.2.1 m1 m2 hN (fun H1 locs1 V1 => ?_)
  rw [← px_tol]
  exact kk b G p l e R s m args below meth c n0 s0 Q C H1 locs1 ls V1
theorem px_callI {M' : px_M} {as : List Value} {k n ix : Nat} {h' : PH} (hM : PM M' (.ref k :: as) h none h') (d : decode (px_cc M) pc = .ok (.invokespecial ix, 3)) (hl : Cond.methodLink (px_own M) ix (px_y M') ∈ px_TB) (hok : px_ok M' n) (hv : px_okI M') (hrt : px_rt M' = none) (hln : as.length = n) (hsum : (st.map fun v => v.category).sum ≤ 8) (hrm : px_fr M' + 1 ≤ px_fr M ∧ 19 + px_nL M' + px_lo M' ≤ px_lo M) (hN : hn h' ≤ N1 ∧ hs h' ≤ S1) (kk : PW M N1 S1 Post (pc + 3) lv st h') : PW M N1 S1 Post pc lv (as.reverse ++ .ref k :: st) h := by
  intro b G p l e R s m args below meth c n0 s0 Q C H locs ls V
  obtain ⟨m1, m2, hMet⟩ := hM
  have hMt := hMet l b G C.2.2.1
  have hcb : CallB R s args (px_own M) ix (px_y M') (px_cc M') (px_nL M') none (px_ws M') (px_rm M' h h') (hn h' - hn h) (hs h' - hs h) n := by
    rw [← hrt]; exact px_cb0 C.1.2.2.2.2 hok hl (px_room C hrm)
  refine px_after (va_runI (As := as.map (rl b G)) (rest := st.map (rl b G)) (b := b + k) (n := n) (g := F0 m pc ls ((as.reverse ++ .ref k :: st).map (rl b G))) C.1 hMt ⟨hcb, hv.2, C.1.2.2.2.2 _ hv.1⟩ ⟨px_blind b G _ h, px_pre (as := .ref k :: as) C.2.1 V⟩ rfl (by rw [List.length_map]; exact hln) V.2.2.2.2.1 (px_stk b G as k st) (lv_room (by rw [rl_cats]; exact hsum)) d (px_fit C V m1 m2 hN)) V C.2.2.2.2.2.1 m1 m2 hN (fun H1 locs1 V1 => ?_)
  exact kk b G p l e R s m args below meth c n0 s0 Q C H1 locs1 ls V1
theorem px_callIN {M' : px_M} {as : List Value} {k n ix : Nat} {h' : PH} {host : String} (hM : PM M' (.ref k :: as) h none h') (d : decode (px_cc M) pc = .ok (.invokespecial ix, 3)) (hl : (px_own M, ix, px_y M', host) ∈ px_NW) (hok : px_ok M' n) (hv : px_okI M') (hrt : px_rt M' = none) (hln : as.length = n) (hsum : (st.map fun v => v.category).sum ≤ 8) (hrm : px_fr M' + 1 ≤ px_fr M ∧ 19 + px_nL M' + px_lo M' ≤ px_lo M) (hN : hn h' ≤ N1 ∧ hs h' ≤ S1) (kk : PW M N1 S1 Post (pc + 3) lv st h') : PW M N1 S1 Post pc lv (as.reverse ++ .ref k :: st) h := by
  intro b G p l e R s m args below meth c n0 s0 Q C H locs ls V
  obtain ⟨m1, m2, hMet⟩ := hM
  have hMt := hMet l b G C.2.2.1
  have hcb : va_CN R s args (px_own M) ix (px_y M') host (px_cc M') (px_nL M') none (px_ws M') (px_rm M' h h') (hn h' - hn h) (hs h' - hs h) n := by
    rw [← hrt]; exact px_cn0 C.1.2.2.2.2 hok (C.2.1.2.2.1 _ hl) (px_room C hrm)
  refine px_after (va_runIN (As := as.map (rl b G)) (rest := st.map (rl b G)) (b := b + k) (n := n) (host := host) (g := F0 m pc ls ((as.reverse ++ .ref k :: st).map (rl b G))) C.1 hMt ⟨hcb, hv.2, C.1.2.2.2.2 _ hv.1⟩ ⟨px_blind b G _ h, px_pre (as := .ref k :: as) C.2.1 V⟩ rfl (by rw [List.length_map]; exact hln) V.2.2.2.2.1 (px_stk b G as k st) (lv_room (by rw [rl_cats]; exact hsum)) d (px_fit C V m1 m2 hN)) V C.2.2.2.2.2.1 m1 m2 hN (fun H1 locs1 V1 => ?_)
  exact kk b G p l e R s m args below meth c n0 s0 Q C H1 locs1 ls V1
theorem px_obji {k ix : Nat} (d : decode (px_cc M) pc = .ok (.invokespecial ix, 3)) (hl : Cond.methodLink (px_own M) ix Lib.objectInit ∈ px_TB) (h1 : 1 ≤ px_fr M) (h2 : (st.map fun v => v.category).sum + 12 ≤ px_lo M) (kk : PW M N1 S1 Post (pc + 3) lv st h) : PW M N1 S1 Post pc lv (.ref k :: st) h := by
  intro b G p l e R s m args below meth c n0 s0 Q C H locs ls V
  have c1 := C.2.2.2.2.1
  have hts := C.1.2.2.2.2
  refine W.objInit C.1.1 C.1.2.1 C.1.2.2.2.1 (hts _ hl) (hts _ px_oi1) (hts _ px_oi2) rfl (by rw [C.1.2.2.1]; exact V.2.2.2.2.1) (a := b + k) (rest := st.map (rl b G)) rfl d (by omega) ?_ (kk b G p l e R s m args below meth c n0 s0 Q C H locs ls V)
  have hz : 2 * (F0 m pc ls ((Value.ref k :: st).map (rl b G))).monitorRoom + ((st.map (rl b G)).map fun v => v.category).sum = (st.map fun v => v.category).sum := by
    rw [rl_cats]; show 2 * 0 + _ = _; omega
  omega
end PXC
end
