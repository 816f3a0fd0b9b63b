abbrev JS : Type := Nat × (Nat → Int32) × (Nat → Int32) × (Nat → Int32) × (Nat → Int32) × (Nat → Int32) × (Nat → Int32)
def upf (g : Nat → Int32) (i : Nat) (v : Int32) : Nat → Int32 := fun j => if j = i then v else g j
theorem upf_s (g : Nat → Int32) (i : Nat) (v : Int32) : upf g i v i = v := if_pos rfl
theorem upf_n (g : Nat → Int32) {i j : Nat} (v : Int32) (hj : j ≠ i) : upf g i v j = g j := if_neg hj
/-- the judge's scratch -/
def setJ (h : PH) (J : JS) : PH := rI (rI (rI (rI (rI (rI (pI h 14 5 (nI J.1)) 15 J.2.1) 16 J.2.2.1) 17 J.2.2.2.1) 18 J.2.2.2.2.1) 19 J.2.2.2.2.2.1) 20 J.2.2.2.2.2.2
theorem setJ_I {h : PH} {J : JS} {x : Nat} (h1 : x ≠ 15) (h2 : x ≠ 16) (h3 : x ≠ 17) (h4 : x ≠ 18) (h5 : x ≠ 19) (h6 : x ≠ 20) (h7 : x ≠ 14) : hI (setJ h J) x = hI h x := by
  unfold setJ
  rw [hI_rn _ _ _ h6, hI_rn _ _ _ h5, hI_rn _ _ _ h4, hI_rn _ _ _ h3, hI_rn _ _ _ h2, hI_rn _ _ _ h1, hI_pI h7]
theorem sJ15 (h : PH) (L : Nat) (s g l r t w : Nat → Int32) (i : Nat) (v : Int32) : pI (setJ h (L, s, g, l, r, t, w)) 15 i v = setJ h (L, (upf s i v), g, l, r, t, w) := by
  refine PH.ext (fun x j => ?_) rfl
  unfold setJ upf
  simp only [gI, hI_rI]
  by_cases h1 : x = 15 <;> by_cases h2 : x = 16 <;> by_cases h3 : x = 17 <;> by_cases h4 : x = 18 <;> by_cases h5 : x = 19 <;> by_cases h6 : x = 20 <;> first | omega | simp [h1, h2, h3, h4, h5, h6]
theorem sJ16 (h : PH) (L : Nat) (s g l r t w : Nat → Int32) (i : Nat) (v : Int32) : pI (setJ h (L, s, g, l, r, t, w)) 16 i v = setJ h (L, s, (upf g i v), l, r, t, w) := by
  refine PH.ext (fun x j => ?_) rfl
  unfold setJ upf
  simp only [gI, hI_rI]
  by_cases h1 : x = 15 <;> by_cases h2 : x = 16 <;> by_cases h3 : x = 17 <;> by_cases h4 : x = 18 <;> by_cases h5 : x = 19 <;> by_cases h6 : x = 20 <;> first | omega | simp [h1, h2, h3, h4, h5, h6]
theorem sJ17 (h : PH) (L : Nat) (s g l r t w : Nat → Int32) (i : Nat) (v : Int32) : pI (setJ h (L, s, g, l, r, t, w)) 17 i v = setJ h (L, s, g, (upf l i v), r, t, w) := by
  refine PH.ext (fun x j => ?_) rfl
  unfold setJ upf
  simp only [gI, hI_rI]
  by_cases h1 : x = 15 <;> by_cases h2 : x = 16 <;> by_cases h3 : x = 17 <;> by_cases h4 : x = 18 <;> by_cases h5 : x = 19 <;> by_cases h6 : x = 20 <;> first | omega | simp [h1, h2, h3, h4, h5, h6]
theorem sJ18 (h : PH) (L : Nat) (s g l r t w : Nat → Int32) (i : Nat) (v : Int32) : pI (setJ h (L, s, g, l, r, t, w)) 18 i v = setJ h (L, s, g, l, (upf r i v), t, w) := by
  refine PH.ext (fun x j => ?_) rfl
  unfold setJ upf
  simp only [gI, hI_rI]
  by_cases h1 : x = 15 <;> by_cases h2 : x = 16 <;> by_cases h3 : x = 17 <;> by_cases h4 : x = 18 <;> by_cases h5 : x = 19 <;> by_cases h6 : x = 20 <;> first | omega | simp [h1, h2, h3, h4, h5, h6]
theorem sJ19 (h : PH) (L : Nat) (s g l r t w : Nat → Int32) (i : Nat) (v : Int32) : pI (setJ h (L, s, g, l, r, t, w)) 19 i v = setJ h (L, s, g, l, r, (upf t i v), w) := by
  refine PH.ext (fun x j => ?_) rfl
  unfold setJ upf
  simp only [gI, hI_rI]
  by_cases h1 : x = 15 <;> by_cases h2 : x = 16 <;> by_cases h3 : x = 17 <;> by_cases h4 : x = 18 <;> by_cases h5 : x = 19 <;> by_cases h6 : x = 20 <;> first | omega | simp [h1, h2, h3, h4, h5, h6]
theorem sJ20 (h : PH) (L : Nat) (s g l r t w : Nat → Int32) (i : Nat) (v : Int32) : pI (setJ h (L, s, g, l, r, t, w)) 20 i v = setJ h (L, s, g, l, r, t, (upf w i v)) := by
  refine PH.ext (fun x j => ?_) rfl
  unfold setJ upf
  simp only [gI, hI_rI]
  by_cases h1 : x = 15 <;> by_cases h2 : x = 16 <;> by_cases h3 : x = 17 <;> by_cases h4 : x = 18 <;> by_cases h5 : x = 19 <;> by_cases h6 : x = 20 <;> first | omega | simp [h1, h2, h3, h4, h5, h6]
theorem sJ14 (h : PH) (L K : Nat) (s g l r t w : Nat → Int32) : pI (setJ h (L, s, g, l, r, t, w)) 14 5 (nI K) = setJ h (K, s, g, l, r, t, w) := by
  refine PH.ext (fun x j => ?_) rfl
  unfold setJ
  simp only [gI, hI_rI]
  by_cases h1 : x = 15 <;> by_cases h2 : x = 16 <;> by_cases h3 : x = 17 <;> by_cases h4 : x = 18 <;> by_cases h5 : x = 19 <;> by_cases h6 : x = 20 <;> first | omega | (by_cases h7 : x = 14 ∧ j = 5 <;> simp [gI, hI_rI, h1, h2, h3, h4, h5, h6, h7])
theorem setJ_self {h : PH} {L : Nat} (hl : hI h 14 5 = nI L) : setJ h (L, hI h 15, hI h 16, hI h 17, hI h 18, hI h 19, hI h 20) = h := by
  refine PH.ext (fun x j => ?_) rfl
  unfold setJ
  simp only [gI, hI_rI]
  by_cases h1 : x = 15
  · simp [h1]
  by_cases h2 : x = 16
  · simp [h2]
  by_cases h3 : x = 17
  · simp [h3]
  by_cases h4 : x = 18
  · simp [h4]
  by_cases h5 : x = 19
  · simp [h5]
  by_cases h6 : x = 20
  · simp [h6]
  by_cases h7 : x = 14 ∧ j = 5
  · rw [h7.1, h7.2]; simp [gI]; exact hl.symm
  · simp [gI, hI_rI, h1, h2, h3, h4, h5, h6, h7]
theorem setJ_setJ (h : PH) (J K : JS) : setJ (setJ h J) K = setJ h K := by
  refine PH.ext (fun x j => ?_) rfl
  unfold setJ
  simp only [gI, hI_rI]
  by_cases h1 : x = 15 <;> by_cases h2 : x = 16 <;> by_cases h3 : x = 17 <;> by_cases h4 : x = 18 <;> by_cases h5 : x = 19 <;> by_cases h6 : x = 20 <;> first | omega | (by_cases h7 : x = 14 ∧ j = 5 <;> simp [gI, hI_rI, h1, h2, h3, h4, h5, h6, h7])
def jClear (J : JS) : JS := (J.1, upf J.2.1 J.1 0, upf J.2.2.1 J.1 1, J.2.2.2.1, upf J.2.2.2.2.1 J.1 0, upf J.2.2.2.2.2.1 J.1 0, upf J.2.2.2.2.2.2 J.1 0)
theorem c_X5_clearLevel {h : PH} {L : Nat} {s g l r t w : Nat → Int32} (hL : px_L h) (h6 : L < 6) : PM M_X5_clearLevel [.ref 14] (setJ h (L, s, g, l, r, t, w)) none (setJ h (jClear (L, s, g, l, r, t, w))) := by
  refine PM.of (by decide +kernel) (by decide +kernel) (Nat.le_refl (hn h)) (Nat.le_refl (hs h)) (Nat.le_of_ble_eq_true rfl) ?_
  refine px_aload_n d_X5_clearLevel_0 rfl rfl ?_
  refine px_getR d_X5_clearLevel_1 fl_X5_9 (by decide) (so14 hL) (sr14_6 hL) ?_
  refine px_aload_n d_X5_clearLevel_4 rfl rfl ?_
  refine px_getI d_X5_clearLevel_5 fl_X5_52 rfl (so14 hL) ?_
  refine px_val (y := nI L) rfl ?_
  refine px_iconst (v := 0) d_X5_clearLevel_8 (by decide) ?_
  refine px_iast d_X5_clearLevel_9 (sa15 hL) rfl h6 ?_
  refine px_heap (h2 := setJ h (L, (upf s L (0)), g, l, r, t, w)) (sJ15 ..) ?_
  refine px_aload_n d_X5_clearLevel_10 rfl rfl ?_
  refine px_getR d_X5_clearLevel_11 fl_X5_15 (by decide) (so14 hL) (sr14_7 hL) ?_
  refine px_aload_n d_X5_clearLevel_14 rfl rfl ?_
  refine px_getI d_X5_clearLevel_15 fl_X5_52 rfl (so14 hL) ?_
  refine px_val (y := nI L) rfl ?_
  refine px_iconst (v := 1) d_X5_clearLevel_18 (by decide) ?_
  refine px_iast d_X5_clearLevel_19 (sa16 hL) rfl h6 ?_
  refine px_heap (h2 := setJ h (L, (upf s L (0)), (upf g L (1)), l, r, t, w)) (sJ16 ..) ?_
  refine px_aload_n d_X5_clearLevel_20 rfl rfl ?_
  refine px_getR d_X5_clearLevel_21 fl_X5_21 (by decide) (so14 hL) (sr14_9 hL) ?_
  refine px_aload_n d_X5_clearLevel_24 rfl rfl ?_
  refine px_getI d_X5_clearLevel_25 fl_X5_52 rfl (so14 hL) ?_
  refine px_val (y := nI L) rfl ?_
  refine px_iconst (v := 0) d_X5_clearLevel_28 (by decide) ?_
  refine px_iast d_X5_clearLevel_29 (sa18 hL) rfl h6 ?_
  refine px_heap (h2 := setJ h (L, (upf s L (0)), (upf g L (1)), l, (upf r L (0)), t, w)) (sJ18 ..) ?_
  refine px_aload_n d_X5_clearLevel_30 rfl rfl ?_
  refine px_getR d_X5_clearLevel_31 fl_X5_24 (by decide) (so14 hL) (sr14_10 hL) ?_
  refine px_aload_n d_X5_clearLevel_34 rfl rfl ?_
  refine px_getI d_X5_clearLevel_35 fl_X5_52 rfl (so14 hL) ?_
  refine px_val (y := nI L) rfl ?_
  refine px_iconst (v := 0) d_X5_clearLevel_38 (by decide) ?_
  refine px_iast d_X5_clearLevel_39 (sa19 hL) rfl h6 ?_
  refine px_heap (h2 := setJ h (L, (upf s L (0)), (upf g L (1)), l, (upf r L (0)), (upf t L (0)), w)) (sJ19 ..) ?_
  refine px_aload_n d_X5_clearLevel_40 rfl rfl ?_
  refine px_getR d_X5_clearLevel_41 fl_X5_27 (by decide) (so14 hL) (sr14_11 hL) ?_
  refine px_aload_n d_X5_clearLevel_44 rfl rfl ?_
  refine px_getI d_X5_clearLevel_45 fl_X5_52 rfl (so14 hL) ?_
  refine px_val (y := nI L) rfl ?_
  refine px_iconst (v := 0) d_X5_clearLevel_48 (by decide) ?_
  refine px_iast d_X5_clearLevel_49 (sa20 hL) rfl h6 ?_
  refine px_heap (h2 := setJ h (L, (upf s L (0)), (upf g L (1)), l, (upf r L (0)), (upf t L (0)), (upf w L (0)))) (sJ20 ..) ?_
  exact px_return d_X5_clearLevel_50 rfl ⟨rfl, rfl, rfl⟩
def jCmp (J : JS) (x : Int32) : JS := (J.1, upf J.2.1 J.1 0, upf J.2.2.1 J.1 1, upf J.2.2.2.1 J.1 (J.2.1 J.1), upf J.2.2.2.2.1 J.1 x, J.2.2.2.2.2)
theorem c_X5_compareWith {h : PH} {L : Nat} {s g l r t w : Nat → Int32} {x : Int32} (hL : px_L h) (h6 : L < 6) : PM M_X5_compareWith [.ref 14, .int x] (setJ h (L, s, g, l, r, t, w)) none (setJ h (jCmp (L, s, g, l, r, t, w) x)) := by
  refine PM.of (by decide +kernel) (by decide +kernel) (Nat.le_refl (hn h)) (Nat.le_refl (hs h)) (Nat.le_of_ble_eq_true rfl) ?_
  refine px_aload_n d_X5_compareWith_0 rfl rfl ?_
  refine px_getR d_X5_compareWith_1 fl_X5_18 (by decide) (so14 hL) (sr14_8 hL) ?_
  refine px_aload_n d_X5_compareWith_4 rfl rfl ?_
  refine px_getI d_X5_compareWith_5 fl_X5_52 rfl (so14 hL) ?_
  refine px_val (y := nI L) rfl ?_
  refine px_aload_n d_X5_compareWith_8 rfl rfl ?_
  refine px_getR d_X5_compareWith_9 fl_X5_9 (by decide) (so14 hL) (sr14_6 hL) ?_
  refine px_aload_n d_X5_compareWith_12 rfl rfl ?_
  refine px_getI d_X5_compareWith_13 fl_X5_52 rfl (so14 hL) ?_
  refine px_val (y := nI L) rfl ?_
  refine px_iald d_X5_compareWith_16 (sa15 hL) rfl h6 ?_
  refine px_val (y := s L) rfl ?_
  refine px_iast d_X5_compareWith_17 (sa17 hL) rfl h6 ?_
  refine px_heap (h2 := setJ h (L, s, g, (upf l L (s L)), r, t, w)) (sJ17 ..) ?_
  refine px_aload_n d_X5_compareWith_18 rfl rfl ?_
  refine px_getR d_X5_compareWith_19 fl_X5_21 (by decide) (so14 hL) (sr14_9 hL) ?_
  refine px_aload_n d_X5_compareWith_22 rfl rfl ?_
  refine px_getI d_X5_compareWith_23 fl_X5_52 rfl (so14 hL) ?_
  refine px_val (y := nI L) rfl ?_
  refine px_iload_n d_X5_compareWith_26 rfl rfl ?_
  refine px_iast d_X5_compareWith_27 (sa18 hL) rfl h6 ?_
  refine px_heap (h2 := setJ h (L, s, g, (upf l L (s L)), (upf r L (x)), t, w)) (sJ18 ..) ?_
  refine px_aload_n d_X5_compareWith_28 rfl rfl ?_
  refine px_getR d_X5_compareWith_29 fl_X5_9 (by decide) (so14 hL) (sr14_6 hL) ?_
  refine px_aload_n d_X5_compareWith_32 rfl rfl ?_
  refine px_getI d_X5_compareWith_33 fl_X5_52 rfl (so14 hL) ?_
  refine px_val (y := nI L) rfl ?_
  refine px_iconst (v := 0) d_X5_compareWith_36 (by decide) ?_
  refine px_iast d_X5_compareWith_37 (sa15 hL) rfl h6 ?_
  refine px_heap (h2 := setJ h (L, (upf s L (0)), g, (upf l L (s L)), (upf r L (x)), t, w)) (sJ15 ..) ?_
  refine px_aload_n d_X5_compareWith_38 rfl rfl ?_
  refine px_getR d_X5_compareWith_39 fl_X5_15 (by decide) (so14 hL) (sr14_7 hL) ?_
  refine px_aload_n d_X5_compareWith_42 rfl rfl ?_
  refine px_getI d_X5_compareWith_43 fl_X5_52 rfl (so14 hL) ?_
  refine px_val (y := nI L) rfl ?_
  refine px_iconst (v := 1) d_X5_compareWith_46 (by decide) ?_
  refine px_iast d_X5_compareWith_47 (sa16 hL) rfl h6 ?_
  refine px_heap (h2 := setJ h (L, (upf s L (0)), (upf g L (1)), (upf l L (s L)), (upf r L (x)), t, w)) (sJ16 ..) ?_
  exact px_return d_X5_compareWith_48 rfl ⟨rfl, rfl, rfl⟩
def jTest (s l r : Int32) : Int32 := if r = -14 then (if l < s then 1 else 0) else if r = -15 then (if l = s then 1 else 0) else s
def jWorth (t w x : Int32) : Int32 := if t = 0 then x else if ¬ w = 0 ∧ ¬ x = 0 then 1 else 0
theorem jWorth_1 {t w x : Int32} (a : t = 0) : jWorth t w x = x := if_pos a
theorem jWorth_2 {t w x : Int32} (a : ¬ t = 0) (b : ¬ w = 0) (c : ¬ x = 0) : jWorth t w x = 1 := (if_neg a).trans (if_pos ⟨b, c⟩)
theorem jWorth_3 {t w x : Int32} (a : ¬ t = 0) (b : w = 0) : jWorth t w x = 0 := (if_neg a).trans (if_neg fun q => q.1 b)
theorem jWorth_4 {t w x : Int32} (a : ¬ t = 0) (b : x = 0) : jWorth t w x = 0 := (if_neg a).trans (if_neg fun q => q.2 b)
def jW (J : JS) : Int32 := jWorth (J.2.2.2.2.2.1 J.1) (J.2.2.2.2.2.2 J.1) (jTest (J.2.1 J.1) (J.2.2.2.1 J.1) (J.2.2.2.2.1 J.1))
def jEnd (J : JS) : JS := (J.1, upf J.2.1 J.1 0, upf J.2.2.1 J.1 1, J.2.2.2.1, upf J.2.2.2.2.1 J.1 0, upf J.2.2.2.2.2.1 J.1 (J.2.2.2.2.2.1 J.1 + 1), upf J.2.2.2.2.2.2 J.1 (jW J))
theorem l2_X5_endTest {h : PH} {L : Nat} {s g l r t w : Nat → Int32} (hL : px_L h) (h6 : L < 6) {N S : Nat} {Post : Nat → Option Value → PH → Prop} (hN : hn h ≤ N ∧ hs h ≤ S) (hP : Post 0 (some (.int (jW (L, s, g, l, r, t, w)))) (setJ h (jEnd (L, s, g, l, r, t, w)))) : PW M_X5_endTest N S Post 79 [(0, .ref 14), (1, .int (jTest (s L) (l L) (r L)))] [] (setJ h (L, s, g, l, r, t, w)) := by
  refine px_aload_n d_X5_endTest_79 rfl rfl ?_
  refine px_getR d_X5_endTest_80 fl_X5_27 (by decide) (so14 hL) (sr14_11 hL) ?_
  refine px_aload_n d_X5_endTest_83 rfl rfl ?_
  refine px_getI d_X5_endTest_84 fl_X5_52 rfl (so14 hL) ?_
  refine px_val (y := nI L) rfl ?_
  refine px_aload_n d_X5_endTest_87 rfl rfl ?_
  refine px_getR d_X5_endTest_88 fl_X5_24 (by decide) (so14 hL) (sr14_10 hL) ?_
  refine px_aload_n d_X5_endTest_91 rfl rfl ?_
  refine px_getI d_X5_endTest_92 fl_X5_52 rfl (so14 hL) ?_
  refine px_val (y := nI L) rfl ?_
  refine px_iald d_X5_endTest_95 (sa19 hL) rfl h6 ?_
  refine px_val (y := t L) rfl ?_
  refine px_if_ne (tgt := 103) d_X5_endTest_96 (by decide) (fun c96 => ?_) (fun c96 => ?_)
  · refine px_aload_n d_X5_endTest_103 rfl rfl ?_
    refine px_getR d_X5_endTest_104 fl_X5_27 (by decide) (so14 hL) (sr14_11 hL) ?_
    refine px_aload_n d_X5_endTest_107 rfl rfl ?_
    refine px_getI d_X5_endTest_108 fl_X5_52 rfl (so14 hL) ?_
    refine px_val (y := nI L) rfl ?_
    refine px_iald d_X5_endTest_111 (sa20 hL) rfl h6 ?_
    refine px_val (y := w L) rfl ?_
    refine px_if_eq (tgt := 123) d_X5_endTest_112 (by decide) (fun c112 => ?_) (fun c112 => ?_)
    · refine px_iconst (v := 0) d_X5_endTest_123 (by decide) ?_
      refine px_val (y := (jWorth (t L) (w L) (jTest (s L) (l L) (r L)))) (by first | exact (jWorth_1 c96).symm | exact (jWorth_2 c96 c112 c116).symm | exact (jWorth_3 c96 c112).symm | exact (jWorth_4 c96 c116).symm) ?_
      refine px_iast d_X5_endTest_124 (sa20 hL) rfl h6 ?_
      refine px_heap (h2 := setJ h (L, s, g, l, r, t, (upf w L ((jWorth (t L) (w L) (jTest (s L) (l L) (r L))))))) (sJ20 ..) ?_
      refine px_aload_n d_X5_endTest_125 rfl rfl ?_
      refine px_getR d_X5_endTest_126 fl_X5_24 (by decide) (so14 hL) (sr14_10 hL) ?_
      refine px_aload_n d_X5_endTest_129 rfl rfl ?_
      refine px_getI d_X5_endTest_130 fl_X5_52 rfl (so14 hL) ?_
      refine px_val (y := nI L) rfl ?_
      refine px_dup2 d_X5_endTest_133 rfl rfl ?_
      refine px_iald d_X5_endTest_134 (sa19 hL) rfl h6 ?_
      refine px_val (y := t L) rfl ?_
      refine px_iconst (v := 1) d_X5_endTest_135 (by decide) ?_
      refine px_iadd d_X5_endTest_136 ?_
      refine px_iast d_X5_endTest_137 (sa19 hL) rfl h6 ?_
      refine px_heap (h2 := setJ h (L, s, g, l, r, (upf t L (t L + 1)), (upf w L ((jWorth (t L) (w L) (jTest (s L) (l L) (r L))))))) (sJ19 ..) ?_
      refine px_aload_n d_X5_endTest_138 rfl rfl ?_
      refine px_getR d_X5_endTest_139 fl_X5_9 (by decide) (so14 hL) (sr14_6 hL) ?_
      refine px_aload_n d_X5_endTest_142 rfl rfl ?_
      refine px_getI d_X5_endTest_143 fl_X5_52 rfl (so14 hL) ?_
      refine px_val (y := nI L) rfl ?_
      refine px_iconst (v := 0) d_X5_endTest_146 (by decide) ?_
      refine px_iast d_X5_endTest_147 (sa15 hL) rfl h6 ?_
      refine px_heap (h2 := setJ h (L, (upf s L (0)), g, l, r, (upf t L (t L + 1)), (upf w L ((jWorth (t L) (w L) (jTest (s L) (l L) (r L))))))) (sJ15 ..) ?_
      refine px_aload_n d_X5_endTest_148 rfl rfl ?_
      refine px_getR d_X5_endTest_149 fl_X5_15 (by decide) (so14 hL) (sr14_7 hL) ?_
      refine px_aload_n d_X5_endTest_152 rfl rfl ?_
      refine px_getI d_X5_endTest_153 fl_X5_52 rfl (so14 hL) ?_
      refine px_val (y := nI L) rfl ?_
      refine px_iconst (v := 1) d_X5_endTest_156 (by decide) ?_
      refine px_iast d_X5_endTest_157 (sa16 hL) rfl h6 ?_
      refine px_heap (h2 := setJ h (L, (upf s L (0)), (upf g L (1)), l, r, (upf t L (t L + 1)), (upf w L ((jWorth (t L) (w L) (jTest (s L) (l L) (r L))))))) (sJ16 ..) ?_
      refine px_aload_n d_X5_endTest_158 rfl rfl ?_
      refine px_getR d_X5_endTest_159 fl_X5_21 (by decide) (so14 hL) (sr14_9 hL) ?_
      refine px_aload_n d_X5_endTest_162 rfl rfl ?_
      refine px_getI d_X5_endTest_163 fl_X5_52 rfl (so14 hL) ?_
      refine px_val (y := nI L) rfl ?_
      refine px_iconst (v := 0) d_X5_endTest_166 (by decide) ?_
      refine px_iast d_X5_endTest_167 (sa18 hL) rfl h6 ?_
      refine px_heap (h2 := setJ h (L, (upf s L (0)), (upf g L (1)), l, (upf r L (0)), (upf t L (t L + 1)), (upf w L ((jWorth (t L) (w L) (jTest (s L) (l L) (r L))))))) (sJ18 ..) ?_
      refine px_aload_n d_X5_endTest_168 rfl rfl ?_
      refine px_getR d_X5_endTest_169 fl_X5_27 (by decide) (so14 hL) (sr14_11 hL) ?_
      refine px_aload_n d_X5_endTest_172 rfl rfl ?_
      refine px_getI d_X5_endTest_173 fl_X5_52 rfl (so14 hL) ?_
      refine px_val (y := nI L) rfl ?_
      refine px_iald d_X5_endTest_176 (sa20 hL) rfl h6 ?_
      refine px_val (y := (jWorth (t L) (w L) (jTest (s L) (l L) (r L)))) (upf_s ..) ?_
      exact px_ireturn d_X5_endTest_177 rfl rfl hP
    · refine px_iload_n d_X5_endTest_115 rfl rfl ?_
      refine px_if_eq (tgt := 123) d_X5_endTest_116 (by decide) (fun c116 => ?_) (fun c116 => ?_)
      · refine px_iconst (v := 0) d_X5_endTest_123 (by decide) ?_
        refine px_val (y := (jWorth (t L) (w L) (jTest (s L) (l L) (r L)))) (by first | exact (jWorth_1 c96).symm | exact (jWorth_2 c96 c112 c116).symm | exact (jWorth_3 c96 c112).symm | exact (jWorth_4 c96 c116).symm) ?_
        refine px_iast d_X5_endTest_124 (sa20 hL) rfl h6 ?_
        refine px_heap (h2 := setJ h (L, s, g, l, r, t, (upf w L ((jWorth (t L) (w L) (jTest (s L) (l L) (r L))))))) (sJ20 ..) ?_
        refine px_aload_n d_X5_endTest_125 rfl rfl ?_
        refine px_getR d_X5_endTest_126 fl_X5_24 (by decide) (so14 hL) (sr14_10 hL) ?_
        refine px_aload_n d_X5_endTest_129 rfl rfl ?_
        refine px_getI d_X5_endTest_130 fl_X5_52 rfl (so14 hL) ?_
        refine px_val (y := nI L) rfl ?_
        refine px_dup2 d_X5_endTest_133 rfl rfl ?_
        refine px_iald d_X5_endTest_134 (sa19 hL) rfl h6 ?_
        refine px_val (y := t L) rfl ?_
        refine px_iconst (v := 1) d_X5_endTest_135 (by decide) ?_
        refine px_iadd d_X5_endTest_136 ?_
        refine px_iast d_X5_endTest_137 (sa19 hL) rfl h6 ?_
        refine px_heap (h2 := setJ h (L, s, g, l, r, (upf t L (t L + 1)), (upf w L ((jWorth (t L) (w L) (jTest (s L) (l L) (r L))))))) (sJ19 ..) ?_
        refine px_aload_n d_X5_endTest_138 rfl rfl ?_
        refine px_getR d_X5_endTest_139 fl_X5_9 (by decide) (so14 hL) (sr14_6 hL) ?_
        refine px_aload_n d_X5_endTest_142 rfl rfl ?_
        refine px_getI d_X5_endTest_143 fl_X5_52 rfl (so14 hL) ?_
        refine px_val (y := nI L) rfl ?_
        refine px_iconst (v := 0) d_X5_endTest_146 (by decide) ?_
        refine px_iast d_X5_endTest_147 (sa15 hL) rfl h6 ?_
        refine px_heap (h2 := setJ h (L, (upf s L (0)), g, l, r, (upf t L (t L + 1)), (upf w L ((jWorth (t L) (w L) (jTest (s L) (l L) (r L))))))) (sJ15 ..) ?_
        refine px_aload_n d_X5_endTest_148 rfl rfl ?_
        refine px_getR d_X5_endTest_149 fl_X5_15 (by decide) (so14 hL) (sr14_7 hL) ?_
        refine px_aload_n d_X5_endTest_152 rfl rfl ?_
        refine px_getI d_X5_endTest_153 fl_X5_52 rfl (so14 hL) ?_
        refine px_val (y := nI L) rfl ?_
        refine px_iconst (v := 1) d_X5_endTest_156 (by decide) ?_
        refine px_iast d_X5_endTest_157 (sa16 hL) rfl h6 ?_
        refine px_heap (h2 := setJ h (L, (upf s L (0)), (upf g L (1)), l, r, (upf t L (t L + 1)), (upf w L ((jWorth (t L) (w L) (jTest (s L) (l L) (r L))))))) (sJ16 ..) ?_
        refine px_aload_n d_X5_endTest_158 rfl rfl ?_
        refine px_getR d_X5_endTest_159 fl_X5_21 (by decide) (so14 hL) (sr14_9 hL) ?_
        refine px_aload_n d_X5_endTest_162 rfl rfl ?_
        refine px_getI d_X5_endTest_163 fl_X5_52 rfl (so14 hL) ?_
        refine px_val (y := nI L) rfl ?_
        refine px_iconst (v := 0) d_X5_endTest_166 (by decide) ?_
        refine px_iast d_X5_endTest_167 (sa18 hL) rfl h6 ?_
        refine px_heap (h2 := setJ h (L, (upf s L (0)), (upf g L (1)), l, (upf r L (0)), (upf t L (t L + 1)), (upf w L ((jWorth (t L) (w L) (jTest (s L) (l L) (r L))))))) (sJ18 ..) ?_
        refine px_aload_n d_X5_endTest_168 rfl rfl ?_
        refine px_getR d_X5_endTest_169 fl_X5_27 (by decide) (so14 hL) (sr14_11 hL) ?_
        refine px_aload_n d_X5_endTest_172 rfl rfl ?_
        refine px_getI d_X5_endTest_173 fl_X5_52 rfl (so14 hL) ?_
        refine px_val (y := nI L) rfl ?_
        refine px_iald d_X5_endTest_176 (sa20 hL) rfl h6 ?_
        refine px_val (y := (jWorth (t L) (w L) (jTest (s L) (l L) (r L)))) (upf_s ..) ?_
        exact px_ireturn d_X5_endTest_177 rfl rfl hP
      · refine px_iconst (v := 1) d_X5_endTest_119 (by decide) ?_
        refine px_goto (tgt := 124) d_X5_endTest_120 (by decide) ?_
        refine px_val (y := (jWorth (t L) (w L) (jTest (s L) (l L) (r L)))) (by first | exact (jWorth_1 c96).symm | exact (jWorth_2 c96 c112 c116).symm | exact (jWorth_3 c96 c112).symm | exact (jWorth_4 c96 c116).symm) ?_
        refine px_iast d_X5_endTest_124 (sa20 hL) rfl h6 ?_
        refine px_heap (h2 := setJ h (L, s, g, l, r, t, (upf w L ((jWorth (t L) (w L) (jTest (s L) (l L) (r L))))))) (sJ20 ..) ?_
        refine px_aload_n d_X5_endTest_125 rfl rfl ?_
        refine px_getR d_X5_endTest_126 fl_X5_24 (by decide) (so14 hL) (sr14_10 hL) ?_
        refine px_aload_n d_X5_endTest_129 rfl rfl ?_
        refine px_getI d_X5_endTest_130 fl_X5_52 rfl (so14 hL) ?_
        refine px_val (y := nI L) rfl ?_
        refine px_dup2 d_X5_endTest_133 rfl rfl ?_
        refine px_iald d_X5_endTest_134 (sa19 hL) rfl h6 ?_
        refine px_val (y := t L) rfl ?_
        refine px_iconst (v := 1) d_X5_endTest_135 (by decide) ?_
        refine px_iadd d_X5_endTest_136 ?_
        refine px_iast d_X5_endTest_137 (sa19 hL) rfl h6 ?_
        refine px_heap (h2 := setJ h (L, s, g, l, r, (upf t L (t L + 1)), (upf w L ((jWorth (t L) (w L) (jTest (s L) (l L) (r L))))))) (sJ19 ..) ?_
        refine px_aload_n d_X5_endTest_138 rfl rfl ?_
        refine px_getR d_X5_endTest_139 fl_X5_9 (by decide) (so14 hL) (sr14_6 hL) ?_
        refine px_aload_n d_X5_endTest_142 rfl rfl ?_
        refine px_getI d_X5_endTest_143 fl_X5_52 rfl (so14 hL) ?_
        refine px_val (y := nI L) rfl ?_
        refine px_iconst (v := 0) d_X5_endTest_146 (by decide) ?_
        refine px_iast d_X5_endTest_147 (sa15 hL) rfl h6 ?_
        refine px_heap (h2 := setJ h (L, (upf s L (0)), g, l, r, (upf t L (t L + 1)), (upf w L ((jWorth (t L) (w L) (jTest (s L) (l L) (r L))))))) (sJ15 ..) ?_
        refine px_aload_n d_X5_endTest_148 rfl rfl ?_
        refine px_getR d_X5_endTest_149 fl_X5_15 (by decide) (so14 hL) (sr14_7 hL) ?_
        refine px_aload_n d_X5_endTest_152 rfl rfl ?_
        refine px_getI d_X5_endTest_153 fl_X5_52 rfl (so14 hL) ?_
        refine px_val (y := nI L) rfl ?_
        refine px_iconst (v := 1) d_X5_endTest_156 (by decide) ?_
        refine px_iast d_X5_endTest_157 (sa16 hL) rfl h6 ?_
        refine px_heap (h2 := setJ h (L, (upf s L (0)), (upf g L (1)), l, r, (upf t L (t L + 1)), (upf w L ((jWorth (t L) (w L) (jTest (s L) (l L) (r L))))))) (sJ16 ..) ?_
        refine px_aload_n d_X5_endTest_158 rfl rfl ?_
        refine px_getR d_X5_endTest_159 fl_X5_21 (by decide) (so14 hL) (sr14_9 hL) ?_
        refine px_aload_n d_X5_endTest_162 rfl rfl ?_
        refine px_getI d_X5_endTest_163 fl_X5_52 rfl (so14 hL) ?_
        refine px_val (y := nI L) rfl ?_
        refine px_iconst (v := 0) d_X5_endTest_166 (by decide) ?_
        refine px_iast d_X5_endTest_167 (sa18 hL) rfl h6 ?_
        refine px_heap (h2 := setJ h (L, (upf s L (0)), (upf g L (1)), l, (upf r L (0)), (upf t L (t L + 1)), (upf w L ((jWorth (t L) (w L) (jTest (s L) (l L) (r L))))))) (sJ18 ..) ?_
        refine px_aload_n d_X5_endTest_168 rfl rfl ?_
        refine px_getR d_X5_endTest_169 fl_X5_27 (by decide) (so14 hL) (sr14_11 hL) ?_
        refine px_aload_n d_X5_endTest_172 rfl rfl ?_
        refine px_getI d_X5_endTest_173 fl_X5_52 rfl (so14 hL) ?_
        refine px_val (y := nI L) rfl ?_
        refine px_iald d_X5_endTest_176 (sa20 hL) rfl h6 ?_
        refine px_val (y := (jWorth (t L) (w L) (jTest (s L) (l L) (r L)))) (upf_s ..) ?_
        exact px_ireturn d_X5_endTest_177 rfl rfl hP
  · refine px_iload_n d_X5_endTest_99 rfl rfl ?_
    refine px_goto (tgt := 124) d_X5_endTest_100 (by decide) ?_
    refine px_val (y := (jWorth (t L) (w L) (jTest (s L) (l L) (r L)))) (by first | exact (jWorth_1 c96).symm | exact (jWorth_2 c96 c112 c116).symm | exact (jWorth_3 c96 c112).symm | exact (jWorth_4 c96 c116).symm) ?_
    refine px_iast d_X5_endTest_124 (sa20 hL) rfl h6 ?_
    refine px_heap (h2 := setJ h (L, s, g, l, r, t, (upf w L ((jWorth (t L) (w L) (jTest (s L) (l L) (r L))))))) (sJ20 ..) ?_
    refine px_aload_n d_X5_endTest_125 rfl rfl ?_
    refine px_getR d_X5_endTest_126 fl_X5_24 (by decide) (so14 hL) (sr14_10 hL) ?_
    refine px_aload_n d_X5_endTest_129 rfl rfl ?_
    refine px_getI d_X5_endTest_130 fl_X5_52 rfl (so14 hL) ?_
    refine px_val (y := nI L) rfl ?_
    refine px_dup2 d_X5_endTest_133 rfl rfl ?_
    refine px_iald d_X5_endTest_134 (sa19 hL) rfl h6 ?_
    refine px_val (y := t L) rfl ?_
    refine px_iconst (v := 1) d_X5_endTest_135 (by decide) ?_
    refine px_iadd d_X5_endTest_136 ?_
    refine px_iast d_X5_endTest_137 (sa19 hL) rfl h6 ?_
    refine px_heap (h2 := setJ h (L, s, g, l, r, (upf t L (t L + 1)), (upf w L ((jWorth (t L) (w L) (jTest (s L) (l L) (r L))))))) (sJ19 ..) ?_
    refine px_aload_n d_X5_endTest_138 rfl rfl ?_
    refine px_getR d_X5_endTest_139 fl_X5_9 (by decide) (so14 hL) (sr14_6 hL) ?_
    refine px_aload_n d_X5_endTest_142 rfl rfl ?_
    refine px_getI d_X5_endTest_143 fl_X5_52 rfl (so14 hL) ?_
    refine px_val (y := nI L) rfl ?_
    refine px_iconst (v := 0) d_X5_endTest_146 (by decide) ?_
    refine px_iast d_X5_endTest_147 (sa15 hL) rfl h6 ?_
    refine px_heap (h2 := setJ h (L, (upf s L (0)), g, l, r, (upf t L (t L + 1)), (upf w L ((jWorth (t L) (w L) (jTest (s L) (l L) (r L))))))) (sJ15 ..) ?_
    refine px_aload_n d_X5_endTest_148 rfl rfl ?_
    refine px_getR d_X5_endTest_149 fl_X5_15 (by decide) (so14 hL) (sr14_7 hL) ?_
    refine px_aload_n d_X5_endTest_152 rfl rfl ?_
    refine px_getI d_X5_endTest_153 fl_X5_52 rfl (so14 hL) ?_
    refine px_val (y := nI L) rfl ?_
    refine px_iconst (v := 1) d_X5_endTest_156 (by decide) ?_
    refine px_iast d_X5_endTest_157 (sa16 hL) rfl h6 ?_
    refine px_heap (h2 := setJ h (L, (upf s L (0)), (upf g L (1)), l, r, (upf t L (t L + 1)), (upf w L ((jWorth (t L) (w L) (jTest (s L) (l L) (r L))))))) (sJ16 ..) ?_
    refine px_aload_n d_X5_endTest_158 rfl rfl ?_
    refine px_getR d_X5_endTest_159 fl_X5_21 (by decide) (so14 hL) (sr14_9 hL) ?_
    refine px_aload_n d_X5_endTest_162 rfl rfl ?_
    refine px_getI d_X5_endTest_163 fl_X5_52 rfl (so14 hL) ?_
    refine px_val (y := nI L) rfl ?_
    refine px_iconst (v := 0) d_X5_endTest_166 (by decide) ?_
    refine px_iast d_X5_endTest_167 (sa18 hL) rfl h6 ?_
    refine px_heap (h2 := setJ h (L, (upf s L (0)), (upf g L (1)), l, (upf r L (0)), (upf t L (t L + 1)), (upf w L ((jWorth (t L) (w L) (jTest (s L) (l L) (r L))))))) (sJ18 ..) ?_
    refine px_aload_n d_X5_endTest_168 rfl rfl ?_
    refine px_getR d_X5_endTest_169 fl_X5_27 (by decide) (so14 hL) (sr14_11 hL) ?_
    refine px_aload_n d_X5_endTest_172 rfl rfl ?_
    refine px_getI d_X5_endTest_173 fl_X5_52 rfl (so14 hL) ?_
    refine px_val (y := nI L) rfl ?_
    refine px_iald d_X5_endTest_176 (sa20 hL) rfl h6 ?_
    refine px_val (y := (jWorth (t L) (w L) (jTest (s L) (l L) (r L)))) (upf_s ..) ?_
    exact px_ireturn d_X5_endTest_177 rfl rfl hP
theorem c_X5_endTest {h : PH} {L : Nat} {s g l r t w : Nat → Int32} (hL : px_L h) (h6 : L < 6) : PM M_X5_endTest [.ref 14] (setJ h (L, s, g, l, r, t, w)) (some (.int (jW (L, s, g, l, r, t, w)))) (setJ h (jEnd (L, s, g, l, r, t, w))) := by
  refine PM.of (by decide +kernel) (by decide +kernel) (Nat.le_refl (hn h)) (Nat.le_refl (hs h)) (Nat.le_of_ble_eq_true rfl) ?_
  refine px_aload_n d_X5_endTest_0 rfl rfl ?_
  refine px_getR d_X5_endTest_1 fl_X5_9 (by decide) (so14 hL) (sr14_6 hL) ?_
  refine px_aload_n d_X5_endTest_4 rfl rfl ?_
  refine px_getI d_X5_endTest_5 fl_X5_52 rfl (so14 hL) ?_
  refine px_val (y := nI L) rfl ?_
  refine px_iald d_X5_endTest_8 (sa15 hL) rfl h6 ?_
  refine px_val (y := s L) rfl ?_
  refine px_istore_n d_X5_endTest_9 rfl (by decide) ?_
  refine px_aload_n d_X5_endTest_10 rfl rfl ?_
  refine px_getR d_X5_endTest_11 fl_X5_21 (by decide) (so14 hL) (sr14_9 hL) ?_
  refine px_aload_n d_X5_endTest_14 rfl rfl ?_
  refine px_getI d_X5_endTest_15 fl_X5_52 rfl (so14 hL) ?_
  refine px_val (y := nI L) rfl ?_
  refine px_iald d_X5_endTest_18 (sa18 hL) rfl h6 ?_
  refine px_val (y := r L) rfl ?_
  refine px_bipush (v := (-14)) d_X5_endTest_19 (by decide) ?_
  refine px_icmp_ne (tgt := 46) d_X5_endTest_21 (by decide) (fun c21 => ?_) (fun c21 => ?_)
  · refine px_aload_n d_X5_endTest_46 rfl rfl ?_
    refine px_getR d_X5_endTest_47 fl_X5_21 (by decide) (so14 hL) (sr14_9 hL) ?_
    refine px_aload_n d_X5_endTest_50 rfl rfl ?_
    refine px_getI d_X5_endTest_51 fl_X5_52 rfl (so14 hL) ?_
    refine px_val (y := nI L) rfl ?_
    refine px_iald d_X5_endTest_54 (sa18 hL) rfl h6 ?_
    refine px_val (y := r L) rfl ?_
    refine px_bipush (v := (-15)) d_X5_endTest_55 (by decide) ?_
    refine px_icmp_ne (tgt := 79) d_X5_endTest_57 (by decide) (fun c57 => ?_) (fun c57 => ?_)
    · refine px_drop (lv' := [(0, .ref 14), (1, .int (jTest (s L) (l L) (r L)))]) ⟨rfl, px_si (by first | (simp [jTest, c21, c34]; done) | (simp [jTest, c21, c57, c70]; done) | (simp [jTest, c21, c57]; done)), trivial⟩ ?_
      exact l2_X5_endTest hL h6 ⟨Nat.le_refl (hn h), Nat.le_refl (hs h)⟩ ⟨rfl, rfl, rfl⟩
    · refine px_aload_n d_X5_endTest_60 rfl rfl ?_
      refine px_getR d_X5_endTest_61 fl_X5_18 (by decide) (so14 hL) (sr14_8 hL) ?_
      refine px_aload_n d_X5_endTest_64 rfl rfl ?_
      refine px_getI d_X5_endTest_65 fl_X5_52 rfl (so14 hL) ?_
      refine px_val (y := nI L) rfl ?_
      refine px_iald d_X5_endTest_68 (sa17 hL) rfl h6 ?_
      refine px_val (y := l L) rfl ?_
      refine px_iload_n d_X5_endTest_69 rfl rfl ?_
      refine px_icmp_ne (tgt := 77) d_X5_endTest_70 (by decide) (fun c70 => ?_) (fun c70 => ?_)
      · refine px_iconst (v := 0) d_X5_endTest_77 (by decide) ?_
        refine px_istore_n d_X5_endTest_78 rfl (by decide) ?_
        refine px_drop (lv' := [(0, .ref 14), (1, .int (jTest (s L) (l L) (r L)))]) ⟨rfl, px_si (by first | (simp [jTest, c21, c34]; done) | (simp [jTest, c21, c57, c70]; done) | (simp [jTest, c21, c57]; done)), trivial⟩ ?_
        exact l2_X5_endTest hL h6 ⟨Nat.le_refl (hn h), Nat.le_refl (hs h)⟩ ⟨rfl, rfl, rfl⟩
      · refine px_iconst (v := 1) d_X5_endTest_73 (by decide) ?_
        refine px_goto (tgt := 78) d_X5_endTest_74 (by decide) ?_
        refine px_istore_n d_X5_endTest_78 rfl (by decide) ?_
        refine px_drop (lv' := [(0, .ref 14), (1, .int (jTest (s L) (l L) (r L)))]) ⟨rfl, px_si (by first | (simp [jTest, c21, c34]; done) | (simp [jTest, c21, c57, c70]; done) | (simp [jTest, c21, c57]; done)), trivial⟩ ?_
        exact l2_X5_endTest hL h6 ⟨Nat.le_refl (hn h), Nat.le_refl (hs h)⟩ ⟨rfl, rfl, rfl⟩
  · refine px_aload_n d_X5_endTest_24 rfl rfl ?_
    refine px_getR d_X5_endTest_25 fl_X5_18 (by decide) (so14 hL) (sr14_8 hL) ?_
    refine px_aload_n d_X5_endTest_28 rfl rfl ?_
    refine px_getI d_X5_endTest_29 fl_X5_52 rfl (so14 hL) ?_
    refine px_val (y := nI L) rfl ?_
    refine px_iald d_X5_endTest_32 (sa17 hL) rfl h6 ?_
    refine px_val (y := l L) rfl ?_
    refine px_iload_n d_X5_endTest_33 rfl rfl ?_
    refine px_icmp_ge (tgt := 41) d_X5_endTest_34 (by decide) (fun c34 => ?_) (fun c34 => ?_)
    · refine px_iconst (v := 0) d_X5_endTest_41 (by decide) ?_
      refine px_istore_n d_X5_endTest_42 rfl (by decide) ?_
      refine px_goto (tgt := 79) d_X5_endTest_43 (by decide) ?_
      refine px_drop (lv' := [(0, .ref 14), (1, .int (jTest (s L) (l L) (r L)))]) ⟨rfl, px_si (by first | (simp [jTest, c21, c34]; done) | (simp [jTest, c21, c57, c70]; done) | (simp [jTest, c21, c57]; done)), trivial⟩ ?_
      exact l2_X5_endTest hL h6 ⟨Nat.le_refl (hn h), Nat.le_refl (hs h)⟩ ⟨rfl, rfl, rfl⟩
    · refine px_iconst (v := 1) d_X5_endTest_37 (by decide) ?_
      refine px_goto (tgt := 42) d_X5_endTest_38 (by decide) ?_
      refine px_istore_n d_X5_endTest_42 rfl (by decide) ?_
      refine px_goto (tgt := 79) d_X5_endTest_43 (by decide) ?_
      refine px_drop (lv' := [(0, .ref 14), (1, .int (jTest (s L) (l L) (r L)))]) ⟨rfl, px_si (by first | (simp [jTest, c21, c34]; done) | (simp [jTest, c21, c57, c70]; done) | (simp [jTest, c21, c57]; done)), trivial⟩ ?_
      exact l2_X5_endTest hL h6 ⟨Nat.le_refl (hn h), Nat.le_refl (hs h)⟩ ⟨rfl, rfl, rfl⟩
def jFact (F : Nat → Int32) (x : Int32) : Int32 := if x = -11 then F 4 else if x = -10 then F 3 else if x = -9 then F 2 else if x = -8 then F 1 else if x = -7 then F 0 else x
def jAdd (J : JS) (v : Int32) : JS := (J.1, upf J.2.1 J.1 (J.2.1 J.1 + J.2.2.1 J.1 * v), J.2.2)
def jPop (J : JS) : JS := ((jEnd J).1 - 1, (jEnd J).2)
def jUp (J : JS) : JS := (if J.1 < 5 then J.1 + 1 else J.1, J.2)
def jSgn (J : JS) (v : Int32) : JS := (J.1, J.2.1, upf J.2.2.1 J.1 v, J.2.2.2)
def jTake (F : Nat → Int32) (J : JS) (x : Int32) : JS := if x = -17 then jSgn J (-1) else if x = -16 then jSgn J 1 else if x = -15 then jCmp J x else if x = -14 then jCmp J x else if x = -13 then jAdd (jPop J) (jW J) else if x = -12 then jClear (jUp J) else if x = -6 then jEnd J else jAdd J (jFact F x)
theorem jTake_lt {F : Nat → Int32} {J : JS} {x : Int32} (h6 : J.1 < 6) : (jTake F J x).1 < 6 := by
  have e1 : (jEnd J).1 = J.1 := rfl
  unfold jTake
  by_cases w1 : x = -17
  · rw [if_pos w1]; exact h6
  rw [if_neg w1]
  by_cases w2 : x = -16
  · rw [if_pos w2]; exact h6
  rw [if_neg w2]
  by_cases w3 : x = -15
  · rw [if_pos w3]; exact h6
  rw [if_neg w3]
  by_cases w4 : x = -14
  · rw [if_pos w4]; exact h6
  rw [if_neg w4]
  by_cases w5 : x = -13
  · rw [if_pos w5]; show J.1 - 1 < 6; omega
  rw [if_neg w5]
  by_cases w6 : x = -12
  · rw [if_pos w6]
    show (if J.1 < 5 then J.1 + 1 else J.1) < 6
    by_cases q : J.1 < 5
    · rw [if_pos q]; omega
    · rw [if_neg q]; exact h6
  rw [if_neg w6]
  by_cases w7 : x = -6
  · rw [if_pos w7]; exact h6
  rw [if_neg w7]; exact h6
theorem c_X5_factOf {h : PH} {L : Nat} {s g l r t w : Nat → Int32} {x : Int32} (hL : px_L h) (h6 : L < 6) : PM M_X5_factOf [.ref 14, .int x] (setJ h (L, s, g, l, r, t, w)) (some (.int (jFact (hI h 14) x))) (setJ h (L, s, g, l, r, t, w)) := by
  refine PM.of (by decide +kernel) (by decide +kernel) (Nat.le_refl (hn h)) (Nat.le_refl (hs h)) (Nat.le_of_ble_eq_true rfl) ?_
  refine px_iload_n d_X5_factOf_0 rfl rfl ?_
  by_cases w1_m11 : x = (-11)
  · refine px_tabI (off := 55) (tgt := 56) d_X5_factOf_1 (by rw [w1_m11]; decide) (by rw [w1_m11]; decide) (by rw [w1_m11]; decide) (by decide) ?_
    refine px_aload_n d_X5_factOf_56 rfl rfl ?_
    refine px_getI d_X5_factOf_57 fl_X5_49 rfl (so14 hL) ?_
    refine px_val (y := hI h 14 4) rfl ?_
    exact px_ireturn d_X5_factOf_60 rfl rfl ⟨rfl, px_si (by simp [jFact, w1_m11]), rfl⟩
  by_cases w1_m10 : x = (-10)
  · refine px_tabI (off := 50) (tgt := 51) d_X5_factOf_1 (by rw [w1_m10]; decide) (by rw [w1_m10]; decide) (by rw [w1_m10]; decide) (by decide) ?_
    refine px_aload_n d_X5_factOf_51 rfl rfl ?_
    refine px_getI d_X5_factOf_52 fl_X5_46 rfl (so14 hL) ?_
    refine px_val (y := hI h 14 3) rfl ?_
    exact px_ireturn d_X5_factOf_55 rfl rfl ⟨rfl, px_si (by simp [jFact, w1_m11, w1_m10]), rfl⟩
  by_cases w1_m9 : x = (-9)
  · refine px_tabI (off := 45) (tgt := 46) d_X5_factOf_1 (by rw [w1_m9]; decide) (by rw [w1_m9]; decide) (by rw [w1_m9]; decide) (by decide) ?_
    refine px_aload_n d_X5_factOf_46 rfl rfl ?_
    refine px_getI d_X5_factOf_47 fl_X5_43 rfl (so14 hL) ?_
    refine px_val (y := hI h 14 2) rfl ?_
    exact px_ireturn d_X5_factOf_50 rfl rfl ⟨rfl, px_si (by simp [jFact, w1_m11, w1_m10, w1_m9]), rfl⟩
  by_cases w1_m8 : x = (-8)
  · refine px_tabI (off := 40) (tgt := 41) d_X5_factOf_1 (by rw [w1_m8]; decide) (by rw [w1_m8]; decide) (by rw [w1_m8]; decide) (by decide) ?_
    refine px_aload_n d_X5_factOf_41 rfl rfl ?_
    refine px_getI d_X5_factOf_42 fl_X5_37 rfl (so14 hL) ?_
    refine px_val (y := hI h 14 1) rfl ?_
    exact px_ireturn d_X5_factOf_45 rfl rfl ⟨rfl, px_si (by simp [jFact, w1_m11, w1_m10, w1_m9, w1_m8]), rfl⟩
  by_cases w1_m7 : x = (-7)
  · refine px_tabI (off := 35) (tgt := 36) d_X5_factOf_1 (by rw [w1_m7]; decide) (by rw [w1_m7]; decide) (by rw [w1_m7]; decide) (by decide) ?_
    refine px_aload_n d_X5_factOf_36 rfl rfl ?_
    refine px_getI d_X5_factOf_37 fl_X5_36 rfl (so14 hL) ?_
    refine px_val (y := hI h 14 0) rfl ?_
    exact px_ireturn d_X5_factOf_40 rfl rfl ⟨rfl, px_si (by simp [jFact, w1_m11, w1_m10, w1_m9, w1_m8, w1_m7]), rfl⟩
  have zw1_m11 := px_neT (a := (-11)) (-11) (by decide) w1_m11
  have zw1_m10 := px_neT (a := (-10)) (-10) (by decide) w1_m10
  have zw1_m9 := px_neT (a := (-9)) (-9) (by decide) w1_m9
  have zw1_m8 := px_neT (a := (-8)) (-8) (by decide) w1_m8
  have zw1_m7 := px_neT (a := (-7)) (-7) (by decide) w1_m7
  refine px_tabD (tgt := 61) [(-11), (-10), (-9), (-8), (-7)] d_X5_factOf_1 (by decide) (by decide) (by simp only [List.mem_cons, List.not_mem_nil, or_false]; omega) (by decide) ?_
  refine px_iload_n d_X5_factOf_61 rfl rfl ?_
  exact px_ireturn d_X5_factOf_62 rfl rfl ⟨rfl, px_si (by simp [jFact, w1_m11, w1_m10, w1_m9, w1_m8, w1_m7]), rfl⟩
theorem l163_X5_take {h : PH} {L : Nat} {s g l r t w : Nat → Int32} {v x : Int32} (hL : px_L h) (h6 : L < 6) {N S : Nat} {Post : Nat → Option Value → PH → Prop} (hP : Post 0 none (setJ h (jAdd (L, s, g, l, r, t, w) v))) : PW M_X5_take N S Post 163 [(0, .ref 14), (1, .int x), (2, .int v)] [] (setJ h (L, s, g, l, r, t, w)) := by
  refine px_aload_n d_X5_take_163 rfl rfl ?_
  refine px_getR d_X5_take_164 fl_X5_9 (by decide) (so14 hL) (sr14_6 hL) ?_
  refine px_aload_n d_X5_take_167 rfl rfl ?_
  refine px_getI d_X5_take_168 fl_X5_52 rfl (so14 hL) ?_
  refine px_val (y := nI L) rfl ?_
  refine px_dup2 d_X5_take_171 rfl rfl ?_
  refine px_iald d_X5_take_172 (sa15 hL) rfl h6 ?_
  refine px_val (y := s L) rfl ?_
  refine px_aload_n d_X5_take_173 rfl rfl ?_
  refine px_getR d_X5_take_174 fl_X5_15 (by decide) (so14 hL) (sr14_7 hL) ?_
  refine px_aload_n d_X5_take_177 rfl rfl ?_
  refine px_getI d_X5_take_178 fl_X5_52 rfl (so14 hL) ?_
  refine px_val (y := nI L) rfl ?_
  refine px_iald d_X5_take_181 (sa16 hL) rfl h6 ?_
  refine px_val (y := g L) rfl ?_
  refine px_iload_n d_X5_take_182 rfl rfl ?_
  refine px_imul d_X5_take_183 ?_
  refine px_iadd d_X5_take_184 ?_
  refine px_iast d_X5_take_185 (sa15 hL) rfl h6 ?_
  refine px_heap (h2 := setJ h (L, (upf s L (s L + g L * v)), g, l, r, t, w)) (sJ15 ..) ?_
  exact px_return d_X5_take_186 rfl hP
theorem uv_a {L : Nat} {s : (Nat → Int32) × (Nat → Int32) × (Nat → Int32) × (Nat → Int32) × (Nat → Int32) × (Nat → Int32)} (c : ¬ (5 : Int32) ≤ nI L) (h : L < 6) : nI L + 1 = nI (jUp (L, s)).1 := by
  have h5 : L < 5 := Nat.not_le.mp fun q => c ((nI_leI (a := 5) (by decide) (by omega)).mpr q)
  rw [show (jUp (L, s)).1 = L + 1 from if_pos h5]
  exact nI_s1 L
theorem uv_b {L : Nat} {s : (Nat → Int32) × (Nat → Int32) × (Nat → Int32) × (Nat → Int32) × (Nat → Int32) × (Nat → Int32)} (c : (5 : Int32) ≤ nI L) (h : L < 6) : nI L = nI (jUp (L, s)).1 := by
  have h5 : ¬ L < 5 := fun q => absurd ((nI_leI (a := 5) (by decide) (by omega)).mp c) (by omega)
  rw [show (jUp (L, s)).1 = L from if_neg h5]
theorem dv_a {L : Nat} (c : ¬ nI L ≤ 0) (h : L < 6) : nI L - 1 = nI (L - 1) := by
  have h0 : 0 < L := Nat.pos_of_ne_zero fun q => c (by rw [q]; decide)
  obtain ⟨K, rfl⟩ : ∃ K, L = K + 1 := ⟨L - 1, by omega⟩
  exact nI_pred K
theorem dv_b {L : Nat} (c : nI L ≤ 0) (h : L < 6) : (0 : Int32) = nI (L - 1) := by
  have h0 : L = 0 := Nat.le_antisymm (Nat.not_lt.mp fun q => absurd c (nI_nle q (by omega))) (Nat.zero_le _)
  rw [h0]; rfl
theorem c_X5_take {h : PH} {L : Nat} {s g l r t w : Nat → Int32} {x : Int32} (hL : px_L h) (h6 : L < 6) : PM M_X5_take [.ref 14, .int x] (setJ h (L, s, g, l, r, t, w)) none (setJ h (jTake (hI h 14) (L, s, g, l, r, t, w) x)) := by
  refine PM.of (by decide +kernel) (by decide +kernel) (Nat.le_refl (hn h)) (Nat.le_refl (hs h)) (Nat.le_of_ble_eq_true rfl) ?_
  have hU6 : (jUp (L, s, g, l, r, t, w)).1 < 6 := by
    show (if L < 5 then L + 1 else L) < 6
    by_cases q : L < 5
    · rw [if_pos q]; omega
    · rw [if_neg q]; exact h6
  refine px_iload_n d_X5_take_0 rfl rfl ?_
  by_cases w1_m17 : x = (-17)
  · refine px_tabI (off := 145) (tgt := 146) d_X5_take_1 (by rw [w1_m17]; decide) (by rw [w1_m17]; decide) (by rw [w1_m17]; decide) (by decide) ?_
    refine px_aload_n d_X5_take_146 rfl rfl ?_
    refine px_getR d_X5_take_147 fl_X5_15 (by decide) (so14 hL) (sr14_7 hL) ?_
    refine px_aload_n d_X5_take_150 rfl rfl ?_
    refine px_getI d_X5_take_151 fl_X5_52 rfl (so14 hL) ?_
    refine px_val (y := nI L) rfl ?_
    refine px_iconst (v := (-1)) d_X5_take_154 (by decide) ?_
    refine px_iast d_X5_take_155 (sa16 hL) rfl h6 ?_
    refine px_heap (h2 := setJ h (L, s, (upf g L (-1)), l, r, t, w)) (sJ16 ..) ?_
    exact px_return d_X5_take_156 rfl ⟨rfl, rfl, congrArg (setJ h) (show jTake (hI h 14) (L, s, g, l, r, t, w) x = jSgn (L, s, g, l, r, t, w) (-1) from (if_pos w1_m17)).symm⟩
  by_cases w1_m16 : x = (-16)
  · refine px_tabI (off := 134) (tgt := 135) d_X5_take_1 (by rw [w1_m16]; decide) (by rw [w1_m16]; decide) (by rw [w1_m16]; decide) (by decide) ?_
    refine px_aload_n d_X5_take_135 rfl rfl ?_
    refine px_getR d_X5_take_136 fl_X5_15 (by decide) (so14 hL) (sr14_7 hL) ?_
    refine px_aload_n d_X5_take_139 rfl rfl ?_
    refine px_getI d_X5_take_140 fl_X5_52 rfl (so14 hL) ?_
    refine px_val (y := nI L) rfl ?_
    refine px_iconst (v := 1) d_X5_take_143 (by decide) ?_
    refine px_iast d_X5_take_144 (sa16 hL) rfl h6 ?_
    refine px_heap (h2 := setJ h (L, s, (upf g L (1)), l, r, t, w)) (sJ16 ..) ?_
    exact px_return d_X5_take_145 rfl ⟨rfl, rfl, congrArg (setJ h) (show jTake (hI h 14) (L, s, g, l, r, t, w) x = jSgn (L, s, g, l, r, t, w) 1 from ((if_neg w1_m17).trans (if_pos w1_m16))).symm⟩
  by_cases w1_m15 : x = (-15)
  · refine px_tabI (off := 128) (tgt := 129) d_X5_take_1 (by rw [w1_m15]; decide) (by rw [w1_m15]; decide) (by rw [w1_m15]; decide) (by decide) ?_
    refine px_aload_n d_X5_take_129 rfl rfl ?_
    refine px_iload_n d_X5_take_130 rfl rfl ?_
    refine px_callV (c_X5_compareWith hL h6) d_X5_take_131 lk_X5_66 ok_X5_compareWith ov_X5_compareWith (so14 hL) (by decide) rfl rfl (Nat.le_of_ble_eq_true rfl) (by decide) ⟨Nat.le_refl (hn h), Nat.le_refl (hs h)⟩ ?_
    exact px_return d_X5_take_134 rfl (by first | exact ⟨rfl, rfl, congrArg (setJ h) (show jTake (hI h 14) (L, s, g, l, r, t, w) x = jCmp (L, s, g, l, r, t, w) x from ((if_neg w1_m17).trans ((if_neg w1_m16).trans (if_pos w1_m15)))).symm⟩ | exact ⟨rfl, rfl, congrArg (setJ h) (show jTake (hI h 14) (L, s, g, l, r, t, w) x = jCmp (L, s, g, l, r, t, w) x from ((if_neg w1_m17).trans ((if_neg w1_m16).trans ((if_neg w1_m15).trans (if_pos w1_m14))))).symm⟩)
  by_cases w1_m14 : x = (-14)
  · refine px_tabI (off := 128) (tgt := 129) d_X5_take_1 (by rw [w1_m14]; decide) (by rw [w1_m14]; decide) (by rw [w1_m14]; decide) (by decide) ?_
    refine px_aload_n d_X5_take_129 rfl rfl ?_
    refine px_iload_n d_X5_take_130 rfl rfl ?_
    refine px_callV (c_X5_compareWith hL h6) d_X5_take_131 lk_X5_66 ok_X5_compareWith ov_X5_compareWith (so14 hL) (by decide) rfl rfl (Nat.le_of_ble_eq_true rfl) (by decide) ⟨Nat.le_refl (hn h), Nat.le_refl (hs h)⟩ ?_
    exact px_return d_X5_take_134 rfl (by first | exact ⟨rfl, rfl, congrArg (setJ h) (show jTake (hI h 14) (L, s, g, l, r, t, w) x = jCmp (L, s, g, l, r, t, w) x from ((if_neg w1_m17).trans ((if_neg w1_m16).trans (if_pos w1_m15)))).symm⟩ | exact ⟨rfl, rfl, congrArg (setJ h) (show jTake (hI h 14) (L, s, g, l, r, t, w) x = jCmp (L, s, g, l, r, t, w) x from ((if_neg w1_m17).trans ((if_neg w1_m16).trans ((if_neg w1_m15).trans (if_pos w1_m14))))).symm⟩)
  by_cases w1_m13 : x = (-13)
  · refine px_tabI (off := 93) (tgt := 94) d_X5_take_1 (by rw [w1_m13]; decide) (by rw [w1_m13]; decide) (by rw [w1_m13]; decide) (by decide) ?_
    refine px_aload_n d_X5_take_94 rfl rfl ?_
    refine px_callV (c_X5_endTest hL h6) d_X5_take_95 lk_X5_58 ok_X5_endTest ov_X5_endTest (so14 hL) (by decide) rfl rfl (Nat.le_of_ble_eq_true rfl) (by decide) ⟨Nat.le_refl (hn h), Nat.le_refl (hs h)⟩ ?_
    refine px_istore_n d_X5_take_98 rfl (by decide) ?_
    refine px_aload_n d_X5_take_99 rfl rfl ?_
    refine px_aload_n d_X5_take_100 rfl rfl ?_
    refine px_getI d_X5_take_101 fl_X5_52 rfl (so14 hL) ?_
    refine px_val (y := nI L) rfl ?_
    refine px_if_le (tgt := 116) d_X5_take_104 (by decide) (fun c104 => ?_) (fun c104 => ?_)
    · refine px_iconst (v := 0) d_X5_take_116 (by decide) ?_
      refine px_val (y := nI (L - 1)) (by first | exact dv_a c104 h6 | exact dv_b c104 h6) ?_
      refine px_putI d_X5_take_117 fl_X5_52 rfl (so14 hL) ?_
      refine px_heap (h2 := setJ h (jPop (L, s, g, l, r, t, w))) (sJ14 ..) ?_
      refine px_goto (tgt := 163) d_X5_take_120 (by decide) ?_
      first
        | exact l163_X5_take (L := (jPop (L, s, g, l, r, t, w)).1) (s := (jPop (L, s, g, l, r, t, w)).2.1) (g := (jPop (L, s, g, l, r, t, w)).2.2.1) (l := (jPop (L, s, g, l, r, t, w)).2.2.2.1) (r := (jPop (L, s, g, l, r, t, w)).2.2.2.2.1) (t := (jPop (L, s, g, l, r, t, w)).2.2.2.2.2.1) (w := (jPop (L, s, g, l, r, t, w)).2.2.2.2.2.2) hL (Nat.lt_of_le_of_lt (Nat.sub_le L 1) h6) ⟨rfl, rfl, congrArg (setJ h) (show jTake (hI h 14) (L, s, g, l, r, t, w) x = jAdd (jPop (L, s, g, l, r, t, w)) (jW (L, s, g, l, r, t, w)) from ((if_neg w1_m17).trans ((if_neg w1_m16).trans ((if_neg w1_m15).trans ((if_neg w1_m14).trans (if_pos w1_m13)))))).symm⟩
        | exact l163_X5_take hL h6 ⟨rfl, rfl, congrArg (setJ h) (show jTake (hI h 14) (L, s, g, l, r, t, w) x = jAdd (L, s, g, l, r, t, w) (jFact (hI h 14) x) from ((if_neg w1_m17).trans ((if_neg w1_m16).trans ((if_neg w1_m15).trans ((if_neg w1_m14).trans ((if_neg w1_m13).trans ((if_neg w1_m12).trans (if_neg w1_m6)))))))).symm⟩
    · refine px_aload_n d_X5_take_107 rfl rfl ?_
      refine px_getI d_X5_take_108 fl_X5_52 rfl (so14 hL) ?_
      refine px_iconst (v := 1) d_X5_take_111 (by decide) ?_
      refine px_isub d_X5_take_112 ?_
      refine px_goto (tgt := 117) d_X5_take_113 (by decide) ?_
      refine px_val (y := nI (L - 1)) (by first | exact dv_a c104 h6 | exact dv_b c104 h6) ?_
      refine px_putI d_X5_take_117 fl_X5_52 rfl (so14 hL) ?_
      refine px_heap (h2 := setJ h (jPop (L, s, g, l, r, t, w))) (sJ14 ..) ?_
      refine px_goto (tgt := 163) d_X5_take_120 (by decide) ?_
      first
        | exact l163_X5_take (L := (jPop (L, s, g, l, r, t, w)).1) (s := (jPop (L, s, g, l, r, t, w)).2.1) (g := (jPop (L, s, g, l, r, t, w)).2.2.1) (l := (jPop (L, s, g, l, r, t, w)).2.2.2.1) (r := (jPop (L, s, g, l, r, t, w)).2.2.2.2.1) (t := (jPop (L, s, g, l, r, t, w)).2.2.2.2.2.1) (w := (jPop (L, s, g, l, r, t, w)).2.2.2.2.2.2) hL (Nat.lt_of_le_of_lt (Nat.sub_le L 1) h6) ⟨rfl, rfl, congrArg (setJ h) (show jTake (hI h 14) (L, s, g, l, r, t, w) x = jAdd (jPop (L, s, g, l, r, t, w)) (jW (L, s, g, l, r, t, w)) from ((if_neg w1_m17).trans ((if_neg w1_m16).trans ((if_neg w1_m15).trans ((if_neg w1_m14).trans (if_pos w1_m13)))))).symm⟩
        | exact l163_X5_take hL h6 ⟨rfl, rfl, congrArg (setJ h) (show jTake (hI h 14) (L, s, g, l, r, t, w) x = jAdd (L, s, g, l, r, t, w) (jFact (hI h 14) x) from ((if_neg w1_m17).trans ((if_neg w1_m16).trans ((if_neg w1_m15).trans ((if_neg w1_m14).trans ((if_neg w1_m13).trans ((if_neg w1_m12).trans (if_neg w1_m6)))))))).symm⟩
  by_cases w1_m12 : x = (-12)
  · refine px_tabI (off := 63) (tgt := 64) d_X5_take_1 (by rw [w1_m12]; decide) (by rw [w1_m12]; decide) (by rw [w1_m12]; decide) (by decide) ?_
    refine px_aload_n d_X5_take_64 rfl rfl ?_
    refine px_aload_n d_X5_take_65 rfl rfl ?_
    refine px_getI d_X5_take_66 fl_X5_52 rfl (so14 hL) ?_
    refine px_val (y := nI L) rfl ?_
    refine px_iconst (v := 5) d_X5_take_69 (by decide) ?_
    refine px_icmp_ge (tgt := 82) d_X5_take_70 (by decide) (fun c70 => ?_) (fun c70 => ?_)
    · refine px_aload_n d_X5_take_82 rfl rfl ?_
      refine px_getI d_X5_take_83 fl_X5_52 rfl (so14 hL) ?_
      refine px_val (y := nI L) rfl ?_
      refine px_val (y := nI (jUp (L, s, g, l, r, t, w)).1) (by first | exact uv_a c70 h6 | exact uv_b c70 h6) ?_
      refine px_putI d_X5_take_86 fl_X5_52 rfl (so14 hL) ?_
      refine px_heap (h2 := setJ h ((jUp (L, s, g, l, r, t, w)).1, s, g, l, r, t, w)) (sJ14 ..) ?_
      refine px_aload_n d_X5_take_89 rfl rfl ?_
      refine px_callV (c_X5_clearLevel (L := (jUp (L, s, g, l, r, t, w)).1) (s := s) (g := g) (l := l) (r := r) (t := t) (w := w) hL hU6) d_X5_take_90 lk_X5_55 ok_X5_clearLevel ov_X5_clearLevel (so14 hL) (by decide) rfl rfl (Nat.le_of_ble_eq_true rfl) (by decide) ⟨Nat.le_refl (hn h), Nat.le_refl (hs h)⟩ ?_
      exact px_return d_X5_take_93 rfl ⟨rfl, rfl, congrArg (setJ h) (show jTake (hI h 14) (L, s, g, l, r, t, w) x = jClear (jUp (L, s, g, l, r, t, w)) from ((if_neg w1_m17).trans ((if_neg w1_m16).trans ((if_neg w1_m15).trans ((if_neg w1_m14).trans ((if_neg w1_m13).trans (if_pos w1_m12))))))).symm⟩
    · refine px_aload_n d_X5_take_73 rfl rfl ?_
      refine px_getI d_X5_take_74 fl_X5_52 rfl (so14 hL) ?_
      refine px_iconst (v := 1) d_X5_take_77 (by decide) ?_
      refine px_iadd d_X5_take_78 ?_
      refine px_goto (tgt := 86) d_X5_take_79 (by decide) ?_
      refine px_val (y := nI (jUp (L, s, g, l, r, t, w)).1) (by first | exact uv_a c70 h6 | exact uv_b c70 h6) ?_
      refine px_putI d_X5_take_86 fl_X5_52 rfl (so14 hL) ?_
      refine px_heap (h2 := setJ h ((jUp (L, s, g, l, r, t, w)).1, s, g, l, r, t, w)) (sJ14 ..) ?_
      refine px_aload_n d_X5_take_89 rfl rfl ?_
      refine px_callV (c_X5_clearLevel (L := (jUp (L, s, g, l, r, t, w)).1) (s := s) (g := g) (l := l) (r := r) (t := t) (w := w) hL hU6) d_X5_take_90 lk_X5_55 ok_X5_clearLevel ov_X5_clearLevel (so14 hL) (by decide) rfl rfl (Nat.le_of_ble_eq_true rfl) (by decide) ⟨Nat.le_refl (hn h), Nat.le_refl (hs h)⟩ ?_
      exact px_return d_X5_take_93 rfl ⟨rfl, rfl, congrArg (setJ h) (show jTake (hI h 14) (L, s, g, l, r, t, w) x = jClear (jUp (L, s, g, l, r, t, w)) from ((if_neg w1_m17).trans ((if_neg w1_m16).trans ((if_neg w1_m15).trans ((if_neg w1_m14).trans ((if_neg w1_m13).trans (if_pos w1_m12))))))).symm⟩
  by_cases w1_m6 : x = (-6)
  · refine px_tabI (off := 122) (tgt := 123) d_X5_take_1 (by rw [w1_m6]; decide) (by rw [w1_m6]; decide) (by rw [w1_m6]; decide) (by decide) ?_
    refine px_aload_n d_X5_take_123 rfl rfl ?_
    refine px_callV (c_X5_endTest hL h6) d_X5_take_124 lk_X5_58 ok_X5_endTest ov_X5_endTest (so14 hL) (by decide) rfl rfl (Nat.le_of_ble_eq_true rfl) (by decide) ⟨Nat.le_refl (hn h), Nat.le_refl (hs h)⟩ ?_
    refine px_pop d_X5_take_127 rfl ?_
    exact px_return d_X5_take_128 rfl ⟨rfl, rfl, congrArg (setJ h) (show jTake (hI h 14) (L, s, g, l, r, t, w) x = jEnd (L, s, g, l, r, t, w) from ((if_neg w1_m17).trans ((if_neg w1_m16).trans ((if_neg w1_m15).trans ((if_neg w1_m14).trans ((if_neg w1_m13).trans ((if_neg w1_m12).trans (if_pos w1_m6)))))))).symm⟩
  have zw1_m17 := px_neT (a := (-17)) (-17) (by decide) w1_m17
  have zw1_m16 := px_neT (a := (-16)) (-16) (by decide) w1_m16
  have zw1_m15 := px_neT (a := (-15)) (-15) (by decide) w1_m15
  have zw1_m14 := px_neT (a := (-14)) (-14) (by decide) w1_m14
  have zw1_m13 := px_neT (a := (-13)) (-13) (by decide) w1_m13
  have zw1_m12 := px_neT (a := (-12)) (-12) (by decide) w1_m12
  have zw1_m6 := px_neT (a := (-6)) (-6) (by decide) w1_m6
  refine px_tabD (tgt := 157) [(-17), (-16), (-15), (-14), (-13), (-12), (-6)] d_X5_take_1 (by decide) (by decide) (by simp only [List.mem_cons, List.not_mem_nil, or_false]; omega) (by decide) ?_
  refine px_aload_n d_X5_take_157 rfl rfl ?_
  refine px_iload_n d_X5_take_158 rfl rfl ?_
  refine px_callV (c_X5_factOf hL h6) d_X5_take_159 lk_X5_69 ok_X5_factOf ov_X5_factOf (so14 hL) (by decide) rfl rfl (Nat.le_of_ble_eq_true rfl) (by decide) ⟨Nat.le_refl (hn h), Nat.le_refl (hs h)⟩ ?_
  refine px_istore_n d_X5_take_162 rfl (by decide) ?_
  first
    | exact l163_X5_take (L := (jPop (L, s, g, l, r, t, w)).1) (s := (jPop (L, s, g, l, r, t, w)).2.1) (g := (jPop (L, s, g, l, r, t, w)).2.2.1) (l := (jPop (L, s, g, l, r, t, w)).2.2.2.1) (r := (jPop (L, s, g, l, r, t, w)).2.2.2.2.1) (t := (jPop (L, s, g, l, r, t, w)).2.2.2.2.2.1) (w := (jPop (L, s, g, l, r, t, w)).2.2.2.2.2.2) hL (Nat.lt_of_le_of_lt (Nat.sub_le L 1) h6) ⟨rfl, rfl, congrArg (setJ h) (show jTake (hI h 14) (L, s, g, l, r, t, w) x = jAdd (jPop (L, s, g, l, r, t, w)) (jW (L, s, g, l, r, t, w)) from ((if_neg w1_m17).trans ((if_neg w1_m16).trans ((if_neg w1_m15).trans ((if_neg w1_m14).trans (if_pos w1_m13)))))).symm⟩
    | exact l163_X5_take hL h6 ⟨rfl, rfl, congrArg (setJ h) (show jTake (hI h 14) (L, s, g, l, r, t, w) x = jAdd (L, s, g, l, r, t, w) (jFact (hI h 14) x) from ((if_neg w1_m17).trans ((if_neg w1_m16).trans ((if_neg w1_m15).trans ((if_neg w1_m14).trans ((if_neg w1_m13).trans ((if_neg w1_m12).trans (if_neg w1_m6)))))))).symm⟩
