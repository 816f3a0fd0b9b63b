/-- the grammar's state: what may stand next, lines, the rule, the depth, whether compared -/
abbrev GS : Type := Int32 × Int32 × Int32 × Nat × (Nat → Int32)
def setG (h : PH) (g : GS) : PH := rI (pI (pI (pI (pI h 9 2 g.1) 9 3 g.2.1) 9 4 g.2.2.1) 9 5 (nI g.2.2.2.1)) 11 g.2.2.2.2
theorem sG_st (h : PH) (s l r : Int32) (d : Nat) (c : Nat → Int32) (v : Int32) : pI (setG h (s, l, r, d, c)) 9 2 v = setG h (v, l, r, d, c) := by
  refine PH.ext (fun x j => ?_) rfl
  unfold setG
  simp only [gI, hI_rI]
  by_cases h1 : x = 11
  · simp [h1]
  by_cases h2 : x = 9
  · by_cases h3 : j = 2 <;> by_cases h4 : j = 3 <;> by_cases h5 : j = 4 <;> by_cases h6 : j = 5 <;> first | omega | simp [gI, hI_rI, h1, h2, h3, h4, h5, h6]
  · simp [gI, hI_rI, h1, h2]
theorem sG_ln (h : PH) (s l r : Int32) (d : Nat) (c : Nat → Int32) (v : Int32) : pI (setG h (s, l, r, d, c)) 9 3 v = setG h (s, v, r, d, c) := by
  refine PH.ext (fun x j => ?_) rfl
  unfold setG
  simp only [gI, hI_rI]
  by_cases h1 : x = 11
  · simp [h1]
  by_cases h2 : x = 9
  · by_cases h3 : j = 2 <;> by_cases h4 : j = 3 <;> by_cases h5 : j = 4 <;> by_cases h6 : j = 5 <;> first | omega | simp [gI, hI_rI, h1, h2, h3, h4, h5, h6]
  · simp [gI, hI_rI, h1, h2]
theorem sG_ru (h : PH) (s l r : Int32) (d : Nat) (c : Nat → Int32) (v : Int32) : pI (setG h (s, l, r, d, c)) 9 4 v = setG h (s, l, v, d, c) := by
  refine PH.ext (fun x j => ?_) rfl
  unfold setG
  simp only [gI, hI_rI]
  by_cases h1 : x = 11
  · simp [h1]
  by_cases h2 : x = 9
  · by_cases h3 : j = 2 <;> by_cases h4 : j = 3 <;> by_cases h5 : j = 4 <;> by_cases h6 : j = 5 <;> first | omega | simp [gI, hI_rI, h1, h2, h3, h4, h5, h6]
  · simp [gI, hI_rI, h1, h2]
theorem sG_dp (h : PH) (s l r : Int32) (d : Nat) (c : Nat → Int32) (v : Nat) : pI (setG h (s, l, r, d, c)) 9 5 (nI v) = setG h (s, l, r, v, c) := by
  refine PH.ext (fun x j => ?_) rfl
  unfold setG
  simp only [gI, hI_rI]
  by_cases h1 : x = 11
  · simp [h1]
  by_cases h2 : x = 9
  · by_cases h3 : j = 2 <;> by_cases h4 : j = 3 <;> by_cases h5 : j = 4 <;> by_cases h6 : j = 5 <;> first | omega | simp [gI, hI_rI, h1, h2, h3, h4, h5, h6]
  · simp [gI, hI_rI, h1, h2]
theorem sG_cm (h : PH) (s l r : Int32) (d : Nat) (c : Nat → Int32) (i : Nat) (v : Int32) : pI (setG h (s, l, r, d, c)) 11 i v = setG h (s, l, r, d, upf c i v) := pI_rI ..
def bgT (t : Int32) : Bool := decide (0 ≤ t ∨ t = -12 ∨ t = -7 ∨ t = -8 ∨ t = -9 ∨ t = -10 ∨ t = -11)
def mbT (d : Nat) (c : Nat → Int32) (t : Int32) : Bool := if t = -18 then decide (d = 0) else if t = -17 then true else if t = -16 then true else if t = -15 then decide (c d = 0) else if t = -14 then decide (c d = 0) else if t = -13 then decide (0 < d) else if t = -6 then true else false
def wrG (g : GS) (t : Int32) : Int32 := if g.1 = 0 then (if t = -3 ∨ t = -4 then (if g.2.1 < 16 then 0 else 5) else 1) else if g.1 = 1 then (if 0 ≤ t then (if g.2.2.1 = -3 ∧ ¬ t ≤ 100 then 4 else 0) else 1) else if g.1 = 2 then (if t = -5 then 0 else 1) else if g.1 = 3 then (if bgT t = true then (if nI g.2.2.2.1 < 5 then 0 else 5) else 1) else (if mbT g.2.2.2.1 g.2.2.2.2 t = true then 0 else 1)
def ipG (g : GS) (t : Int32) : GS := if t = -12 then (if 5 ≤ nI g.2.2.2.1 then g else (g.1, g.2.1, g.2.2.1, g.2.2.2.1 + 1, upf g.2.2.2.2 (g.2.2.2.1 + 1) 0)) else (4, g.2)
def bpG (g : GS) (t : Int32) : GS := if t = -18 then (0, g.2) else if t = -13 then (if 0 < g.2.2.2.1 then (g.1, g.2.1, g.2.2.1, g.2.2.2.1 - 1, g.2.2.2.2) else g) else if t = -16 then (3, g.2) else if t = -17 then (3, g.2) else (3, g.2.1, g.2.2.1, g.2.2.2.1, upf g.2.2.2.2 g.2.2.2.1 (if t = -6 then 0 else 1))
def stG (g : GS) (t : Int32) : GS := if g.1 = 0 then (1, g.2.1 + 1, t, g.2.2.2) else if g.1 = 1 then (2, g.2) else if g.1 = 2 then (3, g.2.1, g.2.2.1, g.2.2.2.1, upf g.2.2.2.2 g.2.2.2.1 0) else if g.1 = 3 then ipG g t else bpG g t
theorem stG_dp {g : GS} {t : Int32} (h : g.2.2.2.1 ≤ 5) : (stG g t).2.2.2.1 ≤ 5 := by
  unfold stG
  split
  · exact h
  split
  · exact h
  split
  · exact h
  split
  · unfold ipG
    split
    · split
      · exact h
      · rename_i q
        show g.2.2.2.1 + 1 ≤ 5
        rcases Nat.lt_or_ge g.2.2.2.1 5 with w | w
        · exact w
        · exact absurd (nI_le (a := 5) w (by omega)) q
    · exact h
  · unfold bpG
    split
    · exact h
    split
    · split
      · show g.2.2.2.1 - 1 ≤ 5; omega
      · exact h
    split
    · exact h
    split
    · exact h
    · exact h
theorem c_X3_beginsPart {h : PH} {t : Int32}  : PM M_X3_beginsPart [.int t] h (some (.int (bI (bgT t = true)))) h := by
  refine PM.of (by decide +kernel) (by decide +kernel) (Nat.le_refl _) (Nat.le_refl _) (Nat.le_of_ble_eq_true rfl) ?_
  refine px_iload_n d_X3_beginsPart_0 rfl rfl ?_
  refine px_if_ge (tgt := 40) d_X3_beginsPart_1 (by decide) (fun c1 => ?_) (fun c1 => ?_)
  · refine px_iconst (v := 1) d_X3_beginsPart_40 (by decide) ?_
    refine px_goto (tgt := 45) d_X3_beginsPart_41 (by decide) ?_
    exact px_ireturn d_X3_beginsPart_45 rfl rfl ⟨rfl, px_si (by simp [bI, bgT, c1]), rfl⟩
  · refine px_iload_n d_X3_beginsPart_4 rfl rfl ?_
    refine px_bipush (v := (-12)) d_X3_beginsPart_5 (by decide) ?_
    refine px_icmp_eq (tgt := 40) d_X3_beginsPart_7 (by decide) (fun c7 => ?_) (fun c7 => ?_)
    · refine px_iconst (v := 1) d_X3_beginsPart_40 (by decide) ?_
      refine px_goto (tgt := 45) d_X3_beginsPart_41 (by decide) ?_
      exact px_ireturn d_X3_beginsPart_45 rfl rfl ⟨rfl, px_si (by simp [bI, bgT, c1, c7]), rfl⟩
    · refine px_iload_n d_X3_beginsPart_10 rfl rfl ?_
      refine px_bipush (v := (-7)) d_X3_beginsPart_11 (by decide) ?_
      refine px_icmp_eq (tgt := 40) d_X3_beginsPart_13 (by decide) (fun c13 => ?_) (fun c13 => ?_)
      · refine px_iconst (v := 1) d_X3_beginsPart_40 (by decide) ?_
        refine px_goto (tgt := 45) d_X3_beginsPart_41 (by decide) ?_
        exact px_ireturn d_X3_beginsPart_45 rfl rfl ⟨rfl, px_si (by simp [bI, bgT, c1, c7, c13]), rfl⟩
      · refine px_iload_n d_X3_beginsPart_16 rfl rfl ?_
        refine px_bipush (v := (-8)) d_X3_beginsPart_17 (by decide) ?_
        refine px_icmp_eq (tgt := 40) d_X3_beginsPart_19 (by decide) (fun c19 => ?_) (fun c19 => ?_)
        · refine px_iconst (v := 1) d_X3_beginsPart_40 (by decide) ?_
          refine px_goto (tgt := 45) d_X3_beginsPart_41 (by decide) ?_
          exact px_ireturn d_X3_beginsPart_45 rfl rfl ⟨rfl, px_si (by simp [bI, bgT, c1, c7, c13, c19]), rfl⟩
        · refine px_iload_n d_X3_beginsPart_22 rfl rfl ?_
          refine px_bipush (v := (-9)) d_X3_beginsPart_23 (by decide) ?_
          refine px_icmp_eq (tgt := 40) d_X3_beginsPart_25 (by decide) (fun c25 => ?_) (fun c25 => ?_)
          · refine px_iconst (v := 1) d_X3_beginsPart_40 (by decide) ?_
            refine px_goto (tgt := 45) d_X3_beginsPart_41 (by decide) ?_
            exact px_ireturn d_X3_beginsPart_45 rfl rfl ⟨rfl, px_si (by simp [bI, bgT, c1, c7, c13, c19, c25]), rfl⟩
          · refine px_iload_n d_X3_beginsPart_28 rfl rfl ?_
            refine px_bipush (v := (-10)) d_X3_beginsPart_29 (by decide) ?_
            refine px_icmp_eq (tgt := 40) d_X3_beginsPart_31 (by decide) (fun c31 => ?_) (fun c31 => ?_)
            · refine px_iconst (v := 1) d_X3_beginsPart_40 (by decide) ?_
              refine px_goto (tgt := 45) d_X3_beginsPart_41 (by decide) ?_
              exact px_ireturn d_X3_beginsPart_45 rfl rfl ⟨rfl, px_si (by simp [bI, bgT, c1, c7, c13, c19, c25, c31]), rfl⟩
            · refine px_iload_n d_X3_beginsPart_34 rfl rfl ?_
              refine px_bipush (v := (-11)) d_X3_beginsPart_35 (by decide) ?_
              refine px_icmp_ne (tgt := 44) d_X3_beginsPart_37 (by decide) (fun c37 => ?_) (fun c37 => ?_)
              · refine px_iconst (v := 0) d_X3_beginsPart_44 (by decide) ?_
                exact px_ireturn d_X3_beginsPart_45 rfl rfl ⟨rfl, px_si (by simp [bI, bgT, c1, c7, c13, c19, c25, c31, c37]), rfl⟩
              · refine px_iconst (v := 1) d_X3_beginsPart_40 (by decide) ?_
                refine px_goto (tgt := 45) d_X3_beginsPart_41 (by decide) ?_
                exact px_ireturn d_X3_beginsPart_45 rfl rfl ⟨rfl, px_si (by simp [bI, bgT, c1, c7, c13, c19, c25, c31, c37]), rfl⟩
theorem nI_d0 {d : Nat} (hd : d ≤ 5) : nI d = 0 ↔ d = 0 := nI_eq (b := 0) (by omega) (by decide)
theorem nI_dle {d : Nat} (hd : d ≤ 5) : nI d ≤ 0 ↔ ¬ 0 < d := by
  rw [show (0 : Int32) = nI 0 from rfl, nI_leI (by omega) (by decide)]; omega
theorem c_X3_mayStandBehindPart {h : PH} {s l r : Int32} {d : Nat} {c : Nat → Int32} {t : Int32} (hL : px_L h) (hd : d ≤ 5) : PM M_X3_mayStandBehindPart [.ref 9, .int t] (setG h (s, l, r, d, c)) (some (.int (bI (mbT d c t = true)))) (setG h (s, l, r, d, c)) := by
  refine PM.of (by decide +kernel) (by decide +kernel) (Nat.le_refl (hn h)) (Nat.le_refl (hs h)) (Nat.le_of_ble_eq_true rfl) ?_
  refine px_iload_n d_X3_mayStandBehindPart_0 rfl rfl ?_
  by_cases w1_m18 : t = (-18)
  · refine px_tabI (off := 100) (tgt := 101) d_X3_mayStandBehindPart_1 (by rw [w1_m18]; decide) (by rw [w1_m18]; decide) (by rw [w1_m18]; decide) (by decide) ?_
    refine px_aload_n d_X3_mayStandBehindPart_101 rfl rfl ?_
    refine px_getI d_X3_mayStandBehindPart_102 fl_X3_31 rfl (so9 hL) ?_
    refine px_val (y := nI d) rfl ?_
    refine px_if_ne (tgt := 112) d_X3_mayStandBehindPart_105 (by decide) (fun c105 => ?_) (fun c105 => ?_)
    · refine px_iconst (v := 0) d_X3_mayStandBehindPart_112 (by decide) ?_
      exact px_ireturn d_X3_mayStandBehindPart_113 rfl rfl ⟨rfl, px_si (by simp [bI, mbT, nI_d0 hd, nI_dle hd, w1_m18, c105] <;> simp_all [nI_d0, nI_dle]), rfl⟩
    · refine px_iconst (v := 1) d_X3_mayStandBehindPart_108 (by decide) ?_
      refine px_goto (tgt := 113) d_X3_mayStandBehindPart_109 (by decide) ?_
      exact px_ireturn d_X3_mayStandBehindPart_113 rfl rfl ⟨rfl, px_si (by simp [bI, mbT, nI_d0 hd, nI_dle hd, w1_m18, c105] <;> simp_all [nI_d0, nI_dle]), rfl⟩
  by_cases w1_m17 : t = (-17)
  · refine px_tabI (off := 67) (tgt := 68) d_X3_mayStandBehindPart_1 (by rw [w1_m17]; decide) (by rw [w1_m17]; decide) (by rw [w1_m17]; decide) (by decide) ?_
    refine px_iconst (v := 1) d_X3_mayStandBehindPart_68 (by decide) ?_
    exact px_ireturn d_X3_mayStandBehindPart_69 rfl rfl ⟨rfl, px_si (by simp [bI, mbT, nI_d0 hd, nI_dle hd, w1_m18, w1_m17] <;> simp_all [nI_d0, nI_dle]), rfl⟩
  by_cases w1_m16 : t = (-16)
  · refine px_tabI (off := 67) (tgt := 68) d_X3_mayStandBehindPart_1 (by rw [w1_m16]; decide) (by rw [w1_m16]; decide) (by rw [w1_m16]; decide) (by decide) ?_
    refine px_iconst (v := 1) d_X3_mayStandBehindPart_68 (by decide) ?_
    exact px_ireturn d_X3_mayStandBehindPart_69 rfl rfl ⟨rfl, px_si (by simp [bI, mbT, nI_d0 hd, nI_dle hd, w1_m18, w1_m17, w1_m16] <;> simp_all [nI_d0, nI_dle]), rfl⟩
  by_cases w1_m15 : t = (-15)
  · refine px_tabI (off := 69) (tgt := 70) d_X3_mayStandBehindPart_1 (by rw [w1_m15]; decide) (by rw [w1_m15]; decide) (by rw [w1_m15]; decide) (by decide) ?_
    refine px_aload_n d_X3_mayStandBehindPart_70 rfl rfl ?_
    refine px_getR d_X3_mayStandBehindPart_71 fl_X3_15 (by decide) (so9 hL) (sr9_6 hL) ?_
    refine px_aload_n d_X3_mayStandBehindPart_74 rfl rfl ?_
    refine px_getI d_X3_mayStandBehindPart_75 fl_X3_31 rfl (so9 hL) ?_
    refine px_val (y := nI d) rfl ?_
    refine px_zald d_X3_mayStandBehindPart_78 (sa11 hL) rfl (by omega) ?_
    refine px_val (y := c d) rfl ?_
    refine px_if_ne (tgt := 86) d_X3_mayStandBehindPart_79 (by decide) (fun c79 => ?_) (fun c79 => ?_)
    · refine px_iconst (v := 0) d_X3_mayStandBehindPart_86 (by decide) ?_
      exact px_ireturn d_X3_mayStandBehindPart_87 rfl rfl ⟨rfl, px_si (by simp [bI, mbT, nI_d0 hd, nI_dle hd, w1_m18, w1_m17, w1_m16, w1_m15, c79] <;> simp_all [nI_d0, nI_dle]), rfl⟩
    · refine px_iconst (v := 1) d_X3_mayStandBehindPart_82 (by decide) ?_
      refine px_goto (tgt := 87) d_X3_mayStandBehindPart_83 (by decide) ?_
      exact px_ireturn d_X3_mayStandBehindPart_87 rfl rfl ⟨rfl, px_si (by simp [bI, mbT, nI_d0 hd, nI_dle hd, w1_m18, w1_m17, w1_m16, w1_m15, c79] <;> simp_all [nI_d0, nI_dle]), rfl⟩
  by_cases w1_m14 : t = (-14)
  · refine px_tabI (off := 69) (tgt := 70) d_X3_mayStandBehindPart_1 (by rw [w1_m14]; decide) (by rw [w1_m14]; decide) (by rw [w1_m14]; decide) (by decide) ?_
    refine px_aload_n d_X3_mayStandBehindPart_70 rfl rfl ?_
    refine px_getR d_X3_mayStandBehindPart_71 fl_X3_15 (by decide) (so9 hL) (sr9_6 hL) ?_
    refine px_aload_n d_X3_mayStandBehindPart_74 rfl rfl ?_
    refine px_getI d_X3_mayStandBehindPart_75 fl_X3_31 rfl (so9 hL) ?_
    refine px_val (y := nI d) rfl ?_
    refine px_zald d_X3_mayStandBehindPart_78 (sa11 hL) rfl (by omega) ?_
    refine px_val (y := c d) rfl ?_
    refine px_if_ne (tgt := 86) d_X3_mayStandBehindPart_79 (by decide) (fun c79 => ?_) (fun c79 => ?_)
    · refine px_iconst (v := 0) d_X3_mayStandBehindPart_86 (by decide) ?_
      exact px_ireturn d_X3_mayStandBehindPart_87 rfl rfl ⟨rfl, px_si (by simp [bI, mbT, nI_d0 hd, nI_dle hd, w1_m18, w1_m17, w1_m16, w1_m15, w1_m14, c79] <;> simp_all [nI_d0, nI_dle]), rfl⟩
    · refine px_iconst (v := 1) d_X3_mayStandBehindPart_82 (by decide) ?_
      refine px_goto (tgt := 87) d_X3_mayStandBehindPart_83 (by decide) ?_
      exact px_ireturn d_X3_mayStandBehindPart_87 rfl rfl ⟨rfl, px_si (by simp [bI, mbT, nI_d0 hd, nI_dle hd, w1_m18, w1_m17, w1_m16, w1_m15, w1_m14, c79] <;> simp_all [nI_d0, nI_dle]), rfl⟩
  by_cases w1_m13 : t = (-13)
  · refine px_tabI (off := 87) (tgt := 88) d_X3_mayStandBehindPart_1 (by rw [w1_m13]; decide) (by rw [w1_m13]; decide) (by rw [w1_m13]; decide) (by decide) ?_
    refine px_aload_n d_X3_mayStandBehindPart_88 rfl rfl ?_
    refine px_getI d_X3_mayStandBehindPart_89 fl_X3_31 rfl (so9 hL) ?_
    refine px_val (y := nI d) rfl ?_
    refine px_if_le (tgt := 99) d_X3_mayStandBehindPart_92 (by decide) (fun c92 => ?_) (fun c92 => ?_)
    · refine px_iconst (v := 0) d_X3_mayStandBehindPart_99 (by decide) ?_
      exact px_ireturn d_X3_mayStandBehindPart_100 rfl rfl ⟨rfl, px_si (by simp [bI, mbT, nI_d0 hd, nI_dle hd, w1_m18, w1_m17, w1_m16, w1_m15, w1_m14, w1_m13, c92] <;> simp_all [nI_d0, nI_dle]), rfl⟩
    · refine px_iconst (v := 1) d_X3_mayStandBehindPart_95 (by decide) ?_
      refine px_goto (tgt := 100) d_X3_mayStandBehindPart_96 (by decide) ?_
      exact px_ireturn d_X3_mayStandBehindPart_100 rfl rfl ⟨rfl, px_si (by simp [bI, mbT, nI_d0 hd, nI_dle hd, w1_m18, w1_m17, w1_m16, w1_m15, w1_m14, w1_m13, c92] <;> simp_all [nI_d0, nI_dle]), rfl⟩
  by_cases w1_m6 : t = (-6)
  · refine px_tabI (off := 67) (tgt := 68) d_X3_mayStandBehindPart_1 (by rw [w1_m6]; decide) (by rw [w1_m6]; decide) (by rw [w1_m6]; decide) (by decide) ?_
    refine px_iconst (v := 1) d_X3_mayStandBehindPart_68 (by decide) ?_
    exact px_ireturn d_X3_mayStandBehindPart_69 rfl rfl ⟨rfl, px_si (by simp [bI, mbT, nI_d0 hd, nI_dle hd, w1_m18, w1_m17, w1_m16, w1_m15, w1_m14, w1_m13, w1_m6] <;> simp_all [nI_d0, nI_dle]), rfl⟩
  have zw1_m18 := px_neT (a := (-18)) (-18) (by decide) w1_m18
  have zw1_m17 := px_neT (a := (-17)) (-17) (by decide) w1_m17
  have zw1_m16 := px_neT (a := (-16)) (-16) (by decide) w1_m16
  have zw1_m15 := px_neT (a := (-15)) (-15) (by decide) w1_m15
  have zw1_m14 := px_neT (a := (-14)) (-14) (by decide) w1_m14
  have zw1_m13 := px_neT (a := (-13)) (-13) (by decide) w1_m13
  have zw1_m6 := px_neT (a := (-6)) (-6) (by decide) w1_m6
  refine px_tabD (tgt := 114) [(-18), (-17), (-16), (-15), (-14), (-13), (-6)] d_X3_mayStandBehindPart_1 (by decide) (by decide) (by simp only [List.mem_cons, List.not_mem_nil, or_false]; omega) (by decide) ?_
  refine px_iconst (v := 0) d_X3_mayStandBehindPart_114 (by decide) ?_
  exact px_ireturn d_X3_mayStandBehindPart_115 rfl rfl ⟨rfl, px_si (by simp [bI, mbT, nI_d0 hd, nI_dle hd, w1_m18, w1_m17, w1_m16, w1_m15, w1_m14, w1_m13, w1_m6] <;> simp_all [nI_d0, nI_dle]), rfl⟩
theorem c_X3_wrongness {h : PH} {s l r : Int32} {d : Nat} {c : Nat → Int32} {t : Int32} (hL : px_L h) (hd : d ≤ 5) : PM M_X3_wrongness [.ref 9, .int t] (setG h (s, l, r, d, c)) (some (.int (wrG (s, l, r, d, c) t))) (setG h (s, l, r, d, c)) := by
  refine PM.of (by decide +kernel) (by decide +kernel) (Nat.le_refl (hn h)) (Nat.le_refl (hs h)) (Nat.le_of_ble_eq_true rfl) ?_
  refine px_aload_n d_X3_wrongness_0 rfl rfl ?_
  refine px_getI d_X3_wrongness_1 fl_X3_34 rfl (so9 hL) ?_
  refine px_val (y := s) rfl ?_
  by_cases w4_0 : s = 0
  · refine px_tabI (off := 32) (tgt := 36) d_X3_wrongness_4 (by rw [w4_0]; decide) (by rw [w4_0]; decide) (by rw [w4_0]; decide) (by decide) ?_
    refine px_iload_n d_X3_wrongness_36 rfl rfl ?_
    refine px_bipush (v := (-3)) d_X3_wrongness_37 (by decide) ?_
    refine px_icmp_eq (tgt := 52) d_X3_wrongness_39 (by decide) (fun c39 => ?_) (fun c39 => ?_)
    · refine px_aload_n d_X3_wrongness_52 rfl rfl ?_
      refine px_getI d_X3_wrongness_53 fl_X3_28 rfl (so9 hL) ?_
      refine px_val (y := l) rfl ?_
      refine px_bipush (v := 16) d_X3_wrongness_56 (by decide) ?_
      refine px_icmp_lt (tgt := 65) d_X3_wrongness_58 (by decide) (fun c58 => ?_) (fun c58 => ?_)
      · refine px_iconst (v := 0) d_X3_wrongness_65 (by decide) ?_
        exact px_ireturn d_X3_wrongness_66 rfl rfl ⟨rfl, px_si (by simp [wrG, bI_0, w4_0, c39, c58] <;> simp_all [bI_0]), rfl⟩
      · refine px_iconst (v := 5) d_X3_wrongness_61 (by decide) ?_
        refine px_goto (tgt := 66) d_X3_wrongness_62 (by decide) ?_
        exact px_ireturn d_X3_wrongness_66 rfl rfl ⟨rfl, px_si (by simp [wrG, bI_0, w4_0, c39, c58] <;> simp_all [bI_0]), rfl⟩
    · refine px_iload_n d_X3_wrongness_42 rfl rfl ?_
      refine px_bipush (v := (-4)) d_X3_wrongness_43 (by decide) ?_
      refine px_icmp_eq (tgt := 52) d_X3_wrongness_45 (by decide) (fun c45 => ?_) (fun c45 => ?_)
      · refine px_aload_n d_X3_wrongness_52 rfl rfl ?_
        refine px_getI d_X3_wrongness_53 fl_X3_28 rfl (so9 hL) ?_
        refine px_val (y := l) rfl ?_
        refine px_bipush (v := 16) d_X3_wrongness_56 (by decide) ?_
        refine px_icmp_lt (tgt := 65) d_X3_wrongness_58 (by decide) (fun c58 => ?_) (fun c58 => ?_)
        · refine px_iconst (v := 0) d_X3_wrongness_65 (by decide) ?_
          exact px_ireturn d_X3_wrongness_66 rfl rfl ⟨rfl, px_si (by simp [wrG, bI_0, w4_0, c39, c45, c58] <;> simp_all [bI_0]), rfl⟩
        · refine px_iconst (v := 5) d_X3_wrongness_61 (by decide) ?_
          refine px_goto (tgt := 66) d_X3_wrongness_62 (by decide) ?_
          exact px_ireturn d_X3_wrongness_66 rfl rfl ⟨rfl, px_si (by simp [wrG, bI_0, w4_0, c39, c45, c58] <;> simp_all [bI_0]), rfl⟩
      · refine px_iconst (v := 1) d_X3_wrongness_48 (by decide) ?_
        refine px_goto (tgt := 66) d_X3_wrongness_49 (by decide) ?_
        exact px_ireturn d_X3_wrongness_66 rfl rfl ⟨rfl, px_si (by simp [wrG, bI_0, w4_0, c39, c45] <;> simp_all [bI_0]), rfl⟩
  by_cases w4_1 : s = 1
  · refine px_tabI (off := 63) (tgt := 67) d_X3_wrongness_4 (by rw [w4_1]; decide) (by rw [w4_1]; decide) (by rw [w4_1]; decide) (by decide) ?_
    refine px_iload_n d_X3_wrongness_67 rfl rfl ?_
    refine px_if_ge (tgt := 75) d_X3_wrongness_68 (by decide) (fun c68 => ?_) (fun c68 => ?_)
    · refine px_aload_n d_X3_wrongness_75 rfl rfl ?_
      refine px_getI d_X3_wrongness_76 fl_X3_58 rfl (so9 hL) ?_
      refine px_val (y := r) rfl ?_
      refine px_bipush (v := (-3)) d_X3_wrongness_79 (by decide) ?_
      refine px_icmp_ne (tgt := 94) d_X3_wrongness_81 (by decide) (fun c81 => ?_) (fun c81 => ?_)
      · refine px_iconst (v := 0) d_X3_wrongness_94 (by decide) ?_
        exact px_ireturn d_X3_wrongness_95 rfl rfl ⟨rfl, px_si (by simp [wrG, bI_0, w4_0, w4_1, c68, c81] <;> simp_all [bI_0]), rfl⟩
      · refine px_iload_n d_X3_wrongness_84 rfl rfl ?_
        refine px_bipush (v := 100) d_X3_wrongness_85 (by decide) ?_
        refine px_icmp_le (tgt := 94) d_X3_wrongness_87 (by decide) (fun c87 => ?_) (fun c87 => ?_)
        · refine px_iconst (v := 0) d_X3_wrongness_94 (by decide) ?_
          exact px_ireturn d_X3_wrongness_95 rfl rfl ⟨rfl, px_si (by simp [wrG, bI_0, w4_0, w4_1, c68, c81, c87] <;> simp_all [bI_0]), rfl⟩
        · refine px_iconst (v := 4) d_X3_wrongness_90 (by decide) ?_
          refine px_goto (tgt := 95) d_X3_wrongness_91 (by decide) ?_
          exact px_ireturn d_X3_wrongness_95 rfl rfl ⟨rfl, px_si (by simp [wrG, bI_0, w4_0, w4_1, c68, c81, c87] <;> simp_all [bI_0]), rfl⟩
    · refine px_iconst (v := 1) d_X3_wrongness_71 (by decide) ?_
      refine px_goto (tgt := 95) d_X3_wrongness_72 (by decide) ?_
      exact px_ireturn d_X3_wrongness_95 rfl rfl ⟨rfl, px_si (by simp [wrG, bI_0, w4_0, w4_1, c68] <;> simp_all [bI_0]), rfl⟩
  by_cases w4_2 : s = 2
  · refine px_tabI (off := 92) (tgt := 96) d_X3_wrongness_4 (by rw [w4_2]; decide) (by rw [w4_2]; decide) (by rw [w4_2]; decide) (by decide) ?_
    refine px_iload_n d_X3_wrongness_96 rfl rfl ?_
    refine px_bipush (v := (-5)) d_X3_wrongness_97 (by decide) ?_
    refine px_icmp_eq (tgt := 106) d_X3_wrongness_99 (by decide) (fun c99 => ?_) (fun c99 => ?_)
    · refine px_iconst (v := 0) d_X3_wrongness_106 (by decide) ?_
      exact px_ireturn d_X3_wrongness_107 rfl rfl ⟨rfl, px_si (by simp [wrG, bI_0, w4_0, w4_1, w4_2, c99] <;> simp_all [bI_0]), rfl⟩
    · refine px_iconst (v := 1) d_X3_wrongness_102 (by decide) ?_
      refine px_goto (tgt := 107) d_X3_wrongness_103 (by decide) ?_
      exact px_ireturn d_X3_wrongness_107 rfl rfl ⟨rfl, px_si (by simp [wrG, bI_0, w4_0, w4_1, w4_2, c99] <;> simp_all [bI_0]), rfl⟩
  by_cases w4_3 : s = 3
  · refine px_tabI (off := 104) (tgt := 108) d_X3_wrongness_4 (by rw [w4_3]; decide) (by rw [w4_3]; decide) (by rw [w4_3]; decide) (by decide) ?_
    refine px_iload_n d_X3_wrongness_108 rfl rfl ?_
    refine px_callS (c_X3_beginsPart) d_X3_wrongness_109 lk_X3_61 ok_X3_beginsPart os_X3_beginsPart rfl (Nat.le_of_ble_eq_true rfl) (by decide) ⟨Nat.le_refl (hn h), Nat.le_refl (hs h)⟩ ?_
    refine px_if_ne (tgt := 119) d_X3_wrongness_112 (by decide) (fun c112 => ?_) (fun c112 => ?_)
    · refine px_aload_n d_X3_wrongness_119 rfl rfl ?_
      refine px_getI d_X3_wrongness_120 fl_X3_31 rfl (so9 hL) ?_
      refine px_val (y := nI d) rfl ?_
      refine px_iconst (v := 5) d_X3_wrongness_123 (by decide) ?_
      refine px_icmp_lt (tgt := 131) d_X3_wrongness_124 (by decide) (fun c124 => ?_) (fun c124 => ?_)
      · refine px_iconst (v := 0) d_X3_wrongness_131 (by decide) ?_
        exact px_ireturn d_X3_wrongness_132 rfl rfl ⟨rfl, px_si (by simp [wrG, bI_0, w4_0, w4_1, w4_2, w4_3, c112, c124] <;> simp_all [bI_0]), rfl⟩
      · refine px_iconst (v := 5) d_X3_wrongness_127 (by decide) ?_
        refine px_goto (tgt := 132) d_X3_wrongness_128 (by decide) ?_
        exact px_ireturn d_X3_wrongness_132 rfl rfl ⟨rfl, px_si (by simp [wrG, bI_0, w4_0, w4_1, w4_2, w4_3, c112, c124] <;> simp_all [bI_0]), rfl⟩
    · refine px_iconst (v := 1) d_X3_wrongness_115 (by decide) ?_
      refine px_goto (tgt := 132) d_X3_wrongness_116 (by decide) ?_
      exact px_ireturn d_X3_wrongness_132 rfl rfl ⟨rfl, px_si (by simp [wrG, bI_0, w4_0, w4_1, w4_2, w4_3, c112] <;> simp_all [bI_0]), rfl⟩
  have zw4_0 := px_neT (a := 0) 0 (by decide) w4_0
  have zw4_1 := px_neT (a := 1) 1 (by decide) w4_1
  have zw4_2 := px_neT (a := 2) 2 (by decide) w4_2
  have zw4_3 := px_neT (a := 3) 3 (by decide) w4_3
  refine px_tabD (tgt := 133) [0, 1, 2, 3] d_X3_wrongness_4 (by decide) (by decide) (by simp only [List.mem_cons, List.not_mem_nil, or_false]; omega) (by decide) ?_
  refine px_aload_n d_X3_wrongness_133 rfl rfl ?_
  refine px_iload_n d_X3_wrongness_134 rfl rfl ?_
  refine px_callV (c_X3_mayStandBehindPart hL hd) d_X3_wrongness_135 lk_X3_65 ok_X3_mayStandBehindPart ov_X3_mayStandBehindPart (so9 hL) (by decide) rfl rfl (Nat.le_of_ble_eq_true rfl) (by decide) ⟨Nat.le_refl (hn h), Nat.le_refl (hs h)⟩ ?_
  refine px_if_eq (tgt := 145) d_X3_wrongness_138 (by decide) (fun c138 => ?_) (fun c138 => ?_)
  · refine px_iconst (v := 1) d_X3_wrongness_145 (by decide) ?_
    exact px_ireturn d_X3_wrongness_146 rfl rfl ⟨rfl, px_si (by simp [wrG, bI_0, w4_0, w4_1, w4_2, w4_3, c138] <;> simp_all [bI_0]), rfl⟩
  · refine px_iconst (v := 0) d_X3_wrongness_141 (by decide) ?_
    refine px_goto (tgt := 146) d_X3_wrongness_142 (by decide) ?_
    exact px_ireturn d_X3_wrongness_146 rfl rfl ⟨rfl, px_si (by simp [wrG, bI_0, w4_0, w4_1, w4_2, w4_3, c138] <;> simp_all [bI_0]), rfl⟩
theorem c_X3_stepIntoPart {h : PH} {s l r : Int32} {d : Nat} {c : Nat → Int32} {t : Int32} (hL : px_L h) (hd : d ≤ 5) : PM M_X3_stepIntoPart [.ref 9, .int t] (setG h (s, l, r, d, c)) none (setG h (ipG (s, l, r, d, c) t)) := by
  refine PM.of (by decide +kernel) (by decide +kernel) (Nat.le_refl (hn h)) (Nat.le_refl (hs h)) (Nat.le_of_ble_eq_true rfl) ?_
  refine px_iload_n d_X3_stepIntoPart_0 rfl rfl ?_
  refine px_bipush (v := (-12)) d_X3_stepIntoPart_1 (by decide) ?_
  refine px_icmp_eq (tgt := 14) d_X3_stepIntoPart_3 (by decide) (fun c3 => ?_) (fun c3 => ?_)
  · refine px_aload_n d_X3_stepIntoPart_14 rfl rfl ?_
    refine px_getI d_X3_stepIntoPart_15 fl_X3_31 rfl (so9 hL) ?_
    refine px_val (y := nI d) rfl ?_
    refine px_iconst (v := 5) d_X3_stepIntoPart_18 (by decide) ?_
    refine px_icmp_ge (tgt := 42) d_X3_stepIntoPart_19 (by decide) (fun c19 => ?_) (fun c19 => ?_)
    · exact px_return d_X3_stepIntoPart_42 rfl ⟨rfl, rfl, congrArg (setG h) (by unfold ipG; simp [c3, c19])⟩
    · refine px_aload_n d_X3_stepIntoPart_22 rfl rfl ?_
      refine px_dup d_X3_stepIntoPart_23 rfl ?_
      refine px_getI d_X3_stepIntoPart_24 fl_X3_31 rfl (so9 hL) ?_
      refine px_val (y := nI d) rfl ?_
      refine px_iconst (v := 1) d_X3_stepIntoPart_27 (by decide) ?_
      refine px_iadd d_X3_stepIntoPart_28 ?_
      refine px_putI d_X3_stepIntoPart_29 fl_X3_31 rfl (so9 hL) ?_
      refine px_heap (h2 := setG h (s, l, r, d + 1, c)) ((congrArg (pI _ _ _) (nI_s1 d)).trans (sG_dp ..)) ?_
      refine px_aload_n d_X3_stepIntoPart_32 rfl rfl ?_
      refine px_getR d_X3_stepIntoPart_33 fl_X3_15 (by decide) (so9 hL) (sr9_6 hL) ?_
      refine px_aload_n d_X3_stepIntoPart_36 rfl rfl ?_
      refine px_getI d_X3_stepIntoPart_37 fl_X3_31 rfl (so9 hL) ?_
      refine px_val (y := nI (d + 1)) rfl ?_
      refine px_iconst (v := 0) d_X3_stepIntoPart_40 (by decide) ?_
      refine px_zast d_X3_stepIntoPart_41 (sa11 hL) rfl (by have : d < 5 := Nat.not_le.mp fun q => c19 (nI_le (a := 5) q (by omega)); omega) rfl ?_
      refine px_heap (h2 := setG h (s, l, r, d + 1, upf c (d + 1) 0)) (sG_cm ..) ?_
      exact px_return d_X3_stepIntoPart_42 rfl ⟨rfl, rfl, congrArg (setG h) (by unfold ipG; simp [c3, c19])⟩
  · refine px_aload_n d_X3_stepIntoPart_6 rfl rfl ?_
    refine px_iconst (v := 4) d_X3_stepIntoPart_7 (by decide) ?_
    refine px_putI d_X3_stepIntoPart_8 fl_X3_34 rfl (so9 hL) ?_
    refine px_heap (h2 := setG h (4, l, r, d, c)) (sG_st ..) ?_
    refine px_goto (tgt := 42) d_X3_stepIntoPart_11 (by decide) ?_
    exact px_return d_X3_stepIntoPart_42 rfl ⟨rfl, rfl, congrArg (setG h) (by unfold ipG; simp [c3])⟩
theorem c_X3_stepBehindPart {h : PH} {s l r : Int32} {d : Nat} {c : Nat → Int32} {t : Int32} (hL : px_L h) (hd : d ≤ 5) : PM M_X3_stepBehindPart [.ref 9, .int t] (setG h (s, l, r, d, c)) none (setG h (bpG (s, l, r, d, c) t)) := by
  refine PM.of (by decide +kernel) (by decide +kernel) (Nat.le_refl (hn h)) (Nat.le_refl (hs h)) (Nat.le_of_ble_eq_true rfl) ?_
  refine px_iload_n d_X3_stepBehindPart_0 rfl rfl ?_
  refine px_bipush (v := (-18)) d_X3_stepBehindPart_1 (by decide) ?_
  refine px_icmp_ne (tgt := 14) d_X3_stepBehindPart_3 (by decide) (fun c3 => ?_) (fun c3 => ?_)
  · refine px_iload_n d_X3_stepBehindPart_14 rfl rfl ?_
    refine px_bipush (v := (-13)) d_X3_stepBehindPart_15 (by decide) ?_
    refine px_icmp_eq (tgt := 60) d_X3_stepBehindPart_17 (by decide) (fun c17 => ?_) (fun c17 => ?_)
    · refine px_aload_n d_X3_stepBehindPart_60 rfl rfl ?_
      refine px_getI d_X3_stepBehindPart_61 fl_X3_31 rfl (so9 hL) ?_
      refine px_val (y := nI d) rfl ?_
      refine px_if_le (tgt := 77) d_X3_stepBehindPart_64 (by decide) (fun c64 => ?_) (fun c64 => ?_)
      · exact px_return d_X3_stepBehindPart_77 rfl ⟨rfl, rfl, congrArg (setG h) (by unfold bpG; simp [c3, c17, c64] <;> simp_all [nI_dle])⟩
      · refine px_aload_n d_X3_stepBehindPart_67 rfl rfl ?_
        refine px_dup d_X3_stepBehindPart_68 rfl ?_
        refine px_getI d_X3_stepBehindPart_69 fl_X3_31 rfl (so9 hL) ?_
        refine px_val (y := nI d) rfl ?_
        refine px_iconst (v := 1) d_X3_stepBehindPart_72 (by decide) ?_
        refine px_isub d_X3_stepBehindPart_73 ?_
        refine px_putI d_X3_stepBehindPart_74 fl_X3_31 rfl (so9 hL) ?_
        refine px_heap (h2 := setG h (s, l, r, d - 1, c)) ((congrArg (pI _ _ _) (by rw [show (1 : Int32) = nI 1 from rfl, nI_sub (Nat.not_lt.mp fun q => c64 ((nI_dle hd).mpr (by omega)))])).trans (sG_dp ..)) ?_
        exact px_return d_X3_stepBehindPart_77 rfl ⟨rfl, rfl, congrArg (setG h) (by unfold bpG; simp [c3, c17, c64] <;> simp_all [nI_dle])⟩
    · refine px_iload_n d_X3_stepBehindPart_20 rfl rfl ?_
      refine px_bipush (v := (-16)) d_X3_stepBehindPart_21 (by decide) ?_
      refine px_icmp_eq (tgt := 52) d_X3_stepBehindPart_23 (by decide) (fun c23 => ?_) (fun c23 => ?_)
      · refine px_aload_n d_X3_stepBehindPart_52 rfl rfl ?_
        refine px_iconst (v := 3) d_X3_stepBehindPart_53 (by decide) ?_
        refine px_putI d_X3_stepBehindPart_54 fl_X3_34 rfl (so9 hL) ?_
        first
          | refine px_heap (h2 := setG h (3, l, r, d, c)) (sG_st ..) ?_
          | refine px_heap (h2 := setG h (3, l, r, d, upf c d (if t = -6 then 0 else 1))) (sG_st ..) ?_
        refine px_goto (tgt := 77) d_X3_stepBehindPart_57 (by decide) ?_
        exact px_return d_X3_stepBehindPart_77 rfl ⟨rfl, rfl, congrArg (setG h) (by unfold bpG; simp [c3, c17, c23] <;> simp_all [nI_dle])⟩
      · refine px_iload_n d_X3_stepBehindPart_26 rfl rfl ?_
        refine px_bipush (v := (-17)) d_X3_stepBehindPart_27 (by decide) ?_
        refine px_icmp_eq (tgt := 52) d_X3_stepBehindPart_29 (by decide) (fun c29 => ?_) (fun c29 => ?_)
        · refine px_aload_n d_X3_stepBehindPart_52 rfl rfl ?_
          refine px_iconst (v := 3) d_X3_stepBehindPart_53 (by decide) ?_
          refine px_putI d_X3_stepBehindPart_54 fl_X3_34 rfl (so9 hL) ?_
          first
            | refine px_heap (h2 := setG h (3, l, r, d, c)) (sG_st ..) ?_
            | refine px_heap (h2 := setG h (3, l, r, d, upf c d (if t = -6 then 0 else 1))) (sG_st ..) ?_
          refine px_goto (tgt := 77) d_X3_stepBehindPart_57 (by decide) ?_
          exact px_return d_X3_stepBehindPart_77 rfl ⟨rfl, rfl, congrArg (setG h) (by unfold bpG; simp [c3, c17, c23, c29] <;> simp_all [nI_dle])⟩
        · refine px_aload_n d_X3_stepBehindPart_32 rfl rfl ?_
          refine px_getR d_X3_stepBehindPart_33 fl_X3_15 (by decide) (so9 hL) (sr9_6 hL) ?_
          refine px_aload_n d_X3_stepBehindPart_36 rfl rfl ?_
          refine px_getI d_X3_stepBehindPart_37 fl_X3_31 rfl (so9 hL) ?_
          refine px_val (y := nI d) rfl ?_
          refine px_iload_n d_X3_stepBehindPart_40 rfl rfl ?_
          refine px_bipush (v := (-6)) d_X3_stepBehindPart_41 (by decide) ?_
          refine px_icmp_eq (tgt := 50) d_X3_stepBehindPart_43 (by decide) (fun c43 => ?_) (fun c43 => ?_)
          · refine px_iconst (v := 0) d_X3_stepBehindPart_50 (by decide) ?_
            refine px_val (y := if t = -6 then 0 else 1) (by first | exact (if_pos c43).symm | exact (if_neg c43).symm) ?_
            refine px_zast d_X3_stepBehindPart_51 (sa11 hL) rfl (by omega) (by by_cases q : t = -6 <;> simp [q] <;> rfl) ?_
            refine px_heap (h2 := setG h (s, l, r, d, upf c d (if t = -6 then 0 else 1))) (sG_cm ..) ?_
            refine px_aload_n d_X3_stepBehindPart_52 rfl rfl ?_
            refine px_iconst (v := 3) d_X3_stepBehindPart_53 (by decide) ?_
            refine px_putI d_X3_stepBehindPart_54 fl_X3_34 rfl (so9 hL) ?_
            first
              | refine px_heap (h2 := setG h (3, l, r, d, c)) (sG_st ..) ?_
              | refine px_heap (h2 := setG h (3, l, r, d, upf c d (if t = -6 then 0 else 1))) (sG_st ..) ?_
            refine px_goto (tgt := 77) d_X3_stepBehindPart_57 (by decide) ?_
            exact px_return d_X3_stepBehindPart_77 rfl ⟨rfl, rfl, congrArg (setG h) (by unfold bpG; simp [c3, c17, c23, c29, c43] <;> simp_all [nI_dle])⟩
          · refine px_iconst (v := 1) d_X3_stepBehindPart_46 (by decide) ?_
            refine px_goto (tgt := 51) d_X3_stepBehindPart_47 (by decide) ?_
            refine px_val (y := if t = -6 then 0 else 1) (by first | exact (if_pos c43).symm | exact (if_neg c43).symm) ?_
            refine px_zast d_X3_stepBehindPart_51 (sa11 hL) rfl (by omega) (by by_cases q : t = -6 <;> simp [q] <;> rfl) ?_
            refine px_heap (h2 := setG h (s, l, r, d, upf c d (if t = -6 then 0 else 1))) (sG_cm ..) ?_
            refine px_aload_n d_X3_stepBehindPart_52 rfl rfl ?_
            refine px_iconst (v := 3) d_X3_stepBehindPart_53 (by decide) ?_
            refine px_putI d_X3_stepBehindPart_54 fl_X3_34 rfl (so9 hL) ?_
            first
              | refine px_heap (h2 := setG h (3, l, r, d, c)) (sG_st ..) ?_
              | refine px_heap (h2 := setG h (3, l, r, d, upf c d (if t = -6 then 0 else 1))) (sG_st ..) ?_
            refine px_goto (tgt := 77) d_X3_stepBehindPart_57 (by decide) ?_
            exact px_return d_X3_stepBehindPart_77 rfl ⟨rfl, rfl, congrArg (setG h) (by unfold bpG; simp [c3, c17, c23, c29, c43] <;> simp_all [nI_dle])⟩
  · refine px_aload_n d_X3_stepBehindPart_6 rfl rfl ?_
    refine px_iconst (v := 0) d_X3_stepBehindPart_7 (by decide) ?_
    refine px_putI d_X3_stepBehindPart_8 fl_X3_34 rfl (so9 hL) ?_
    refine px_heap (h2 := setG h (0, l, r, d, c)) (sG_st ..) ?_
    refine px_goto (tgt := 77) d_X3_stepBehindPart_11 (by decide) ?_
    exact px_return d_X3_stepBehindPart_77 rfl ⟨rfl, rfl, congrArg (setG h) (by unfold bpG; simp [c3] <;> simp_all [nI_dle])⟩
theorem c_X3_step {h : PH} {s l r : Int32} {d : Nat} {c : Nat → Int32} {t : Int32} (hL : px_L h) (hd : d ≤ 5) : PM M_X3_step [.ref 9, .int t] (setG h (s, l, r, d, c)) none (setG h (stG (s, l, r, d, c) t)) := by
  refine PM.of (by decide +kernel) (by decide +kernel) (Nat.le_refl (hn h)) (Nat.le_refl (hs h)) (Nat.le_of_ble_eq_true rfl) ?_
  refine px_aload_n d_X3_step_0 rfl rfl ?_
  refine px_getI d_X3_step_1 fl_X3_34 rfl (so9 hL) ?_
  refine px_val (y := s) rfl ?_
  by_cases w4_0 : s = 0
  · refine px_tabI (off := 32) (tgt := 36) d_X3_step_4 (by rw [w4_0]; decide) (by rw [w4_0]; decide) (by rw [w4_0]; decide) (by decide) ?_
    refine px_aload_n d_X3_step_36 rfl rfl ?_
    refine px_dup d_X3_step_37 rfl ?_
    refine px_getI d_X3_step_38 fl_X3_28 rfl (so9 hL) ?_
    refine px_val (y := l) rfl ?_
    refine px_iconst (v := 1) d_X3_step_41 (by decide) ?_
    refine px_iadd d_X3_step_42 ?_
    refine px_putI d_X3_step_43 fl_X3_28 rfl (so9 hL) ?_
    refine px_heap (h2 := setG h (s, l + 1, r, d, c)) (sG_ln ..) ?_
    refine px_aload_n d_X3_step_46 rfl rfl ?_
    refine px_iload_n d_X3_step_47 rfl rfl ?_
    refine px_putI d_X3_step_48 fl_X3_58 rfl (so9 hL) ?_
    refine px_heap (h2 := setG h (s, l + 1, t, d, c)) (sG_ru ..) ?_
    refine px_aload_n d_X3_step_51 rfl rfl ?_
    refine px_iconst (v := 1) d_X3_step_52 (by decide) ?_
    refine px_putI d_X3_step_53 fl_X3_34 rfl (so9 hL) ?_
    refine px_heap (h2 := setG h (1, l + 1, t, d, c)) (sG_st ..) ?_
    refine px_goto (tgt := 98) d_X3_step_56 (by decide) ?_
    exact px_return d_X3_step_98 rfl ⟨rfl, rfl, congrArg (setG h) (by unfold stG; simp [w4_0])⟩
  by_cases w4_1 : s = 1
  · refine px_tabI (off := 55) (tgt := 59) d_X3_step_4 (by rw [w4_1]; decide) (by rw [w4_1]; decide) (by rw [w4_1]; decide) (by decide) ?_
    refine px_aload_n d_X3_step_59 rfl rfl ?_
    refine px_iconst (v := 2) d_X3_step_60 (by decide) ?_
    refine px_putI d_X3_step_61 fl_X3_34 rfl (so9 hL) ?_
    refine px_heap (h2 := setG h (2, l, r, d, c)) (sG_st ..) ?_
    refine px_goto (tgt := 98) d_X3_step_64 (by decide) ?_
    exact px_return d_X3_step_98 rfl ⟨rfl, rfl, congrArg (setG h) (by unfold stG; simp [w4_0, w4_1])⟩
  by_cases w4_2 : s = 2
  · refine px_tabI (off := 63) (tgt := 67) d_X3_step_4 (by rw [w4_2]; decide) (by rw [w4_2]; decide) (by rw [w4_2]; decide) (by decide) ?_
    refine px_aload_n d_X3_step_67 rfl rfl ?_
    refine px_getR d_X3_step_68 fl_X3_15 (by decide) (so9 hL) (sr9_6 hL) ?_
    refine px_aload_n d_X3_step_71 rfl rfl ?_
    refine px_getI d_X3_step_72 fl_X3_31 rfl (so9 hL) ?_
    refine px_val (y := nI d) rfl ?_
    refine px_iconst (v := 0) d_X3_step_75 (by decide) ?_
    refine px_zast d_X3_step_76 (sa11 hL) rfl (by omega) rfl ?_
    refine px_heap (h2 := setG h (s, l, r, d, upf c d 0)) (sG_cm ..) ?_
    refine px_aload_n d_X3_step_77 rfl rfl ?_
    refine px_iconst (v := 3) d_X3_step_78 (by decide) ?_
    refine px_putI d_X3_step_79 fl_X3_34 rfl (so9 hL) ?_
    refine px_heap (h2 := setG h (3, l, r, d, upf c d 0)) (sG_st ..) ?_
    refine px_goto (tgt := 98) d_X3_step_82 (by decide) ?_
    exact px_return d_X3_step_98 rfl ⟨rfl, rfl, congrArg (setG h) (by unfold stG; simp [w4_0, w4_1, w4_2])⟩
  by_cases w4_3 : s = 3
  · refine px_tabI (off := 81) (tgt := 85) d_X3_step_4 (by rw [w4_3]; decide) (by rw [w4_3]; decide) (by rw [w4_3]; decide) (by decide) ?_
    refine px_aload_n d_X3_step_85 rfl rfl ?_
    refine px_iload_n d_X3_step_86 rfl rfl ?_
    refine px_callV (c_X3_stepIntoPart hL hd) d_X3_step_87 lk_X3_68 ok_X3_stepIntoPart ov_X3_stepIntoPart (so9 hL) (by decide) rfl rfl (Nat.le_of_ble_eq_true rfl) (by decide) ⟨Nat.le_refl (hn h), Nat.le_refl (hs h)⟩ ?_
    refine px_goto (tgt := 98) d_X3_step_90 (by decide) ?_
    exact px_return d_X3_step_98 rfl ⟨rfl, rfl, congrArg (setG h) (by unfold stG; simp [w4_0, w4_1, w4_2, w4_3])⟩
  have zw4_0 := px_neT (a := 0) 0 (by decide) w4_0
  have zw4_1 := px_neT (a := 1) 1 (by decide) w4_1
  have zw4_2 := px_neT (a := 2) 2 (by decide) w4_2
  have zw4_3 := px_neT (a := 3) 3 (by decide) w4_3
  refine px_tabD (tgt := 93) [0, 1, 2, 3] d_X3_step_4 (by decide) (by decide) (by simp only [List.mem_cons, List.not_mem_nil, or_false]; omega) (by decide) ?_
  refine px_aload_n d_X3_step_93 rfl rfl ?_
  refine px_iload_n d_X3_step_94 rfl rfl ?_
  refine px_callV (c_X3_stepBehindPart hL hd) d_X3_step_95 lk_X3_71 ok_X3_stepBehindPart ov_X3_stepBehindPart (so9 hL) (by decide) rfl rfl (Nat.le_of_ble_eq_true rfl) (by decide) ⟨Nat.le_refl (hn h), Nat.le_refl (hs h)⟩ ?_
  exact px_return d_X3_step_98 rfl ⟨rfl, rfl, congrArg (setG h) (by unfold stG; simp [w4_0, w4_1, w4_2, w4_3])⟩
