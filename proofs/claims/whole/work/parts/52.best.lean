theorem bt0 : ∀ hd, hd < 6 → ∀ s, s < 64 → (nI s &&& nI (2 ^ hd) = 0 ↔ s.testBit hd = false) := by decide +kernel
theorem bx1 : ∀ hd, hd < 6 → ∀ s, s < 64 → nI s ^^^ nI (2 ^ hd) = nI (s ^^^ 2 ^ hd) := by decide +kernel
theorem bx2 : ∀ hd, hd < 6 → ∀ s, s < 64 → s ^^^ 2 ^ hd < 64 := by decide +kernel
theorem bsh : ∀ hd, hd < 6 → (1 : Int32) <<< (nI hd &&& 31) = nI (2 ^ hd) := by decide +kernel
theorem bfu : ∀ n, n < 7 → (1 : Int32) <<< (nI n &&& 31) - 1 = nI (2 ^ n - 1) := by decide +kernel
theorem bf6 : ∀ n, n < 7 → 2 ^ n - 1 < 64 := by decide +kernel
def shJ (hd : Nat) : Int64 := Int64.ofNat (3 * (5 - hd))
theorem shE : ∀ hd, hd < 6 → ((3 : Int32) * (5 - nI hd)).toInt64 &&& 63 = shJ hd := by decide +kernel
theorem mn5 : ∀ w, w < 7 → (if nI w ≤ 5 then nI w else (5 : Int32)) = nI (min w 5) := by decide +kernel
theorem mn5' : ∀ w, w < 7 → (if (5 : Int32) < nI w then (5 : Int32) else nI w) = nI (min w 5) := by decide +kernel
/-- what a holding brings in a week, and its plan's bits below -/
def gnC (p c : Int32) (w hd : Nat) : Int64 := ((p + nI (min w 5) * c).toInt64 <<< (18 : Int64)) + ((nI w).toInt64 <<< shJ hd)
def lgS (gn : Int64) (hd : Nat) (r : Nat → Int64) : Nat → Nat → Int64
  | 0 => r
  | s + 1 => if s.testBit hd = true ∧ ¬ lgS gn hd r s (s ^^^ 2 ^ hd) < 0 then (fun j => if j = s then (if lgS gn hd r s (s ^^^ 2 ^ hd) + gn < lgS gn hd r s s then lgS gn hd r s s else lgS gn hd r s (s ^^^ 2 ^ hd) + gn) else lgS gn hd r s j) else lgS gn hd r s
theorem lgS_y {gn : Int64} {hd : Nat} {r : Nat → Int64} {s : Nat} (h1 : s.testBit hd = true) (h2 : ¬ lgS gn hd r s (s ^^^ 2 ^ hd) < 0) : lgS gn hd r (s + 1) = fun j => if j = s then (if lgS gn hd r s (s ^^^ 2 ^ hd) + gn < lgS gn hd r s s then lgS gn hd r s s else lgS gn hd r s (s ^^^ 2 ^ hd) + gn) else lgS gn hd r s j := if_pos ⟨h1, h2⟩
theorem lgS_n {gn : Int64} {hd : Nat} {r : Nat → Int64} {s : Nat} (h1 : ¬ (s.testBit hd = true ∧ ¬ lgS gn hd r s (s ^^^ 2 ^ hd) < 0)) : lgS gn hd r (s + 1) = lgS gn hd r s := if_neg h1
def lgH (g : Nat → Int64) (r : Nat → Int64) : Nat → Nat → Int64
  | 0 => r
  | hd + 1 => lgS (g hd) hd (lgH g r hd) 64
def dbS (nd : Int64) (r : Nat → Int64) : Nat → Nat → Int64
  | 0 => r
  | s + 1 => if dbS nd r s s >>> (18 : Int64) < nd then (fun j => if j = s then -1 else dbS nd r s j) else dbS nd r s
def gC (h : PH) (w hd : Nat) : Int64 := gnC (hI h 31 hd) (hI h 32 hd) w hd
theorem lpI_X4_letGo {h : PH} {N S : Nat} {Post : Nat → Option Value → PH → Prop} {w hd : Nat} {pw : Int32} {gn : Int64} {r : Nat → Int64} (hL : px_L h) (h6 : hd < 6) (kk : PW M_X4_letGo N S Post 126 [(0, .ref 30), (1, .int (nI w)), (2, .int pw), (3, .int (nI hd))] [] (rJ h 35 (lgS gn hd r 64))) : ∀ (k s : Nat), s + k = 64 → PW M_X4_letGo N S Post 57 [(0, .ref 30), (1, .int (nI w)), (2, .int pw), (3, .int (nI hd)), (6, .long gn), (8, .int (nI (2 ^ hd))), (9, .int (nI (s)))] [] (rJ h 35 (lgS gn hd r s)) := by
  intro k
  induction k with
  | zero =>
    intro s hs
    have e : s = 64 := by omega
    subst e
    refine px_iload d_X4_letGo_57 rfl ?_
    refine px_aload_n d_X4_letGo_59 rfl rfl ?_
    refine px_getR d_X4_letGo_60 fl_X4_24 (by decide) (so30 hL) (sr30_6 hL) ?_
    refine px_alen d_X4_letGo_63 (sa35 hL) (by decide) (by decide) ?_
    refine px_icmp_ge (tgt := 126) d_X4_letGo_64 (by decide) (fun c64 => ?_) (fun c64 => (c64 (by decide)).elim)
    refine px_drop (lv' := [(0, .ref 30), (1, .int (nI w)), (2, .int pw), (3, .int (nI hd))]) ⟨rfl, rfl, rfl, rfl, trivial⟩ ?_
    exact kk
  | succ k ih =>
    intro s hs
    refine px_iload d_X4_letGo_57 rfl ?_
    refine px_aload_n d_X4_letGo_59 rfl rfl ?_
    refine px_getR d_X4_letGo_60 fl_X4_24 (by decide) (so30 hL) (sr30_6 hL) ?_
    refine px_alen d_X4_letGo_63 (sa35 hL) (by decide) (by decide) ?_
    refine px_icmp_ge (tgt := 126) d_X4_letGo_64 (by decide) (fun c64 => absurd c64 (nI_ge (b := 64) (by omega) (by decide))) (fun c64 => ?_)
    refine px_iload d_X4_letGo_67 rfl ?_
    refine px_iload d_X4_letGo_69 rfl ?_
    refine px_iand d_X4_letGo_71 ?_
    refine px_if_eq (tgt := 120) d_X4_letGo_72 (by decide) (fun c72 => ?_) (fun c72 => ?_)
    · refine px_inc1 d_X4_letGo_120 rfl (by decide) ?_
      refine px_goto (tgt := 57) d_X4_letGo_123 (by decide) ?_
      first
        | (refine px_heap (h2 := rJ h 35 (lgS gn hd r (s + 1))) (congrArg (rJ h 35) (lgS_n (fun q => by
             first
               | exact q.2 ((lg_lt _ _).mp c87)
               | exact absurd q.1 (by rw [(bt0 hd h6 s (by omega)).mp c72]; decide))).symm) ?_
           refine px_drop (lv' := [(0, .ref 30), (1, .int (nI w)), (2, .int pw), (3, .int (nI hd)), (6, .long gn), (8, .int (nI (2 ^ hd))), (9, .int (nI (s + 1)))]) ⟨rfl, rfl, rfl, rfl, rfl, rfl, px_si (nI_s1 _), trivial⟩ ?_
           exact ih (s + 1) (by omega))
        | (refine px_drop (lv' := [(0, .ref 30), (1, .int (nI w)), (2, .int pw), (3, .int (nI hd)), (6, .long gn), (8, .int (nI (2 ^ hd))), (9, .int (nI (s + 1)))]) ⟨rfl, rfl, rfl, rfl, rfl, rfl, px_si (nI_s1 _), trivial⟩ ?_
           exact ih (s + 1) (by omega))
    · refine px_aload_n d_X4_letGo_75 rfl rfl ?_
      refine px_getR d_X4_letGo_76 fl_X4_24 (by decide) (so30 hL) (sr30_6 hL) ?_
      refine px_iload d_X4_letGo_79 rfl ?_
      refine px_iload d_X4_letGo_81 rfl ?_
      refine px_ixor d_X4_letGo_83 ?_
      refine px_lald d_X4_letGo_84 (sa35 hL) (bx1 hd h6 s (by omega)) (bx2 hd h6 s (by omega)) ?_
      refine px_vall (y := (lgS gn hd r s) (s ^^^ 2 ^ hd)) (congrFun (hJ_rs ..) _) ?_
      refine px_lconst (v := 0) d_X4_letGo_85 (by decide) ?_
      refine px_lcmp d_X4_letGo_86 ?_
      refine px_if_lt (tgt := 120) d_X4_letGo_87 (by decide) (fun c87 => ?_) (fun c87 => ?_)
      · refine px_inc1 d_X4_letGo_120 rfl (by decide) ?_
        refine px_goto (tgt := 57) d_X4_letGo_123 (by decide) ?_
        first
          | (refine px_heap (h2 := rJ h 35 (lgS gn hd r (s + 1))) (congrArg (rJ h 35) (lgS_n (fun q => by
               first
                 | exact q.2 ((lg_lt _ _).mp c87)
                 | exact absurd q.1 (by rw [(bt0 hd h6 s (by omega)).mp c72]; decide))).symm) ?_
             refine px_drop (lv' := [(0, .ref 30), (1, .int (nI w)), (2, .int pw), (3, .int (nI hd)), (6, .long gn), (8, .int (nI (2 ^ hd))), (9, .int (nI (s + 1)))]) ⟨rfl, rfl, rfl, rfl, rfl, rfl, px_si (nI_s1 _), trivial⟩ ?_
             exact ih (s + 1) (by omega))
          | (refine px_drop (lv' := [(0, .ref 30), (1, .int (nI w)), (2, .int pw), (3, .int (nI hd)), (6, .long gn), (8, .int (nI (2 ^ hd))), (9, .int (nI (s + 1)))]) ⟨rfl, rfl, rfl, rfl, rfl, rfl, px_si (nI_s1 _), trivial⟩ ?_
             exact ih (s + 1) (by omega))
      · refine px_aload_n d_X4_letGo_90 rfl rfl ?_
        refine px_getR d_X4_letGo_91 fl_X4_24 (by decide) (so30 hL) (sr30_6 hL) ?_
        refine px_iload d_X4_letGo_94 rfl ?_
        refine px_aload_n d_X4_letGo_96 rfl rfl ?_
        refine px_getR d_X4_letGo_97 fl_X4_24 (by decide) (so30 hL) (sr30_6 hL) ?_
        refine px_iload d_X4_letGo_100 rfl ?_
        refine px_lald d_X4_letGo_102 (sa35 hL) rfl (by omega) ?_
        refine px_vall (y := (lgS gn hd r s) s) (congrFun (hJ_rs ..) _) ?_
        refine px_aload_n d_X4_letGo_103 rfl rfl ?_
        refine px_getR d_X4_letGo_104 fl_X4_24 (by decide) (so30 hL) (sr30_6 hL) ?_
        refine px_iload d_X4_letGo_107 rfl ?_
        refine px_iload d_X4_letGo_109 rfl ?_
        refine px_ixor d_X4_letGo_111 ?_
        refine px_lald d_X4_letGo_112 (sa35 hL) (bx1 hd h6 s (by omega)) (bx2 hd h6 s (by omega)) ?_
        refine px_vall (y := (lgS gn hd r s) (s ^^^ 2 ^ hd)) (congrFun (hJ_rs ..) _) ?_
        refine px_lload d_X4_letGo_113 rfl ?_
        refine px_ladd d_X4_letGo_115 ?_
        refine px_mmax_long d_X4_letGo_116 lk_X4_73 (by decide) (Nat.le_of_ble_eq_true rfl) ?_
        refine px_last d_X4_letGo_119 (sa35 hL) rfl (by omega) ?_
        refine px_heap (h2 := rJ h 35 (lgS gn hd r (s + 1))) ((pJ_rJ ..).trans (congrArg (rJ h 35) (lgS_y (by cases q : s.testBit hd; exact absurd ((bt0 hd h6 s (by omega)).mpr q) c72; rfl) (fun q => c87 ((lg_lt _ _).mpr q))).symm)) ?_
        refine px_inc1 d_X4_letGo_120 rfl (by decide) ?_
        refine px_goto (tgt := 57) d_X4_letGo_123 (by decide) ?_
        first
          | (refine px_heap (h2 := rJ h 35 (lgS gn hd r (s + 1))) (congrArg (rJ h 35) (lgS_n (fun q => by
               first
                 | exact q.2 ((lg_lt _ _).mp c87)
                 | exact absurd q.1 (by rw [(bt0 hd h6 s (by omega)).mp c72]; decide))).symm) ?_
             refine px_drop (lv' := [(0, .ref 30), (1, .int (nI w)), (2, .int pw), (3, .int (nI hd)), (6, .long gn), (8, .int (nI (2 ^ hd))), (9, .int (nI (s + 1)))]) ⟨rfl, rfl, rfl, rfl, rfl, rfl, px_si (nI_s1 _), trivial⟩ ?_
             exact ih (s + 1) (by omega))
          | (refine px_drop (lv' := [(0, .ref 30), (1, .int (nI w)), (2, .int pw), (3, .int (nI hd)), (6, .long gn), (8, .int (nI (2 ^ hd))), (9, .int (nI (s + 1)))]) ⟨rfl, rfl, rfl, rfl, rfl, rfl, px_si (nI_s1 _), trivial⟩ ?_
             exact ih (s + 1) (by omega))
theorem lp_X4_letGo {h : PH} {r : Nat → Int64} {w : Nat} (hw : w < 7) (hL : px_L h) {n : Nat} (hs1 : hI h 30 3 = nI n) (hn6 : n ≤ 6) : ∀ (k hd : Nat), hd + k = n → PW M_X4_letGo (hn h) (hs h) (PMpost none (rJ h 35 (lgH (gC h w) r n))) 8 [(0, .ref 30), (1, .int (nI w)), (2, .int (nI (min w 5))), (3, .int (nI (hd)))] [] (rJ h 35 (lgH (gC h w) r hd)) := by
  intro k
  induction k with
  | zero =>
    intro hd hi
    have e : hd = n := by omega
    subst e
    refine px_iload_n d_X4_letGo_8 rfl rfl ?_
    refine px_aload_n d_X4_letGo_9 rfl rfl ?_
    refine px_getI d_X4_letGo_10 fl_X4_28 rfl (so30 hL) ?_
    refine px_val (y := nI hd) hs1 ?_
    refine px_icmp_ge (tgt := 132) d_X4_letGo_13 (by decide) (fun c13 => ?_) (fun c13 => (c13 (nI_le (by omega) (by omega))).elim)
    exact px_return d_X4_letGo_132 rfl ⟨rfl, rfl, rfl⟩
  | succ k ih =>
    intro hd hi
    have h6 : hd < 6 := by omega
    refine px_iload_n d_X4_letGo_8 rfl rfl ?_
    refine px_aload_n d_X4_letGo_9 rfl rfl ?_
    refine px_getI d_X4_letGo_10 fl_X4_28 rfl (so30 hL) ?_
    refine px_val (y := nI n) hs1 ?_
    refine px_icmp_ge (tgt := 132) d_X4_letGo_13 (by decide) (fun c13 => absurd c13 (nI_ge (by omega) (by omega))) (fun c13 => ?_)
    refine px_aload_n d_X4_letGo_16 rfl rfl ?_
    refine px_getR d_X4_letGo_17 fl_X4_11 (by decide) (so30 hL) (sr30_0 hL) ?_
    refine px_iload_n d_X4_letGo_20 rfl rfl ?_
    refine px_iald d_X4_letGo_21 (sa31 hL) rfl h6 ?_
    refine px_iload_n d_X4_letGo_22 rfl rfl ?_
    refine px_aload_n d_X4_letGo_23 rfl rfl ?_
    refine px_getR d_X4_letGo_24 fl_X4_15 (by decide) (so30 hL) (sr30_1 hL) ?_
    refine px_iload_n d_X4_letGo_27 rfl rfl ?_
    refine px_iald d_X4_letGo_28 (sa32 hL) rfl h6 ?_
    refine px_imul d_X4_letGo_29 ?_
    refine px_iadd d_X4_letGo_30 ?_
    refine px_i2l d_X4_letGo_31 ?_
    refine px_lstore d_X4_letGo_32 (by decide) ?_
    refine px_lload d_X4_letGo_34 rfl ?_
    refine px_bipush (v := 18) d_X4_letGo_36 (by decide) ?_
    refine px_lshl d_X4_letGo_38 ?_
    refine px_iload_n d_X4_letGo_39 rfl rfl ?_
    refine px_i2l d_X4_letGo_40 ?_
    refine px_iload_n d_X4_letGo_41 rfl rfl ?_
    refine px_callS (c_X4_shiftOf) d_X4_letGo_42 lk_X4_69 ok_X4_shiftOf os_X4_shiftOf rfl (Nat.le_of_ble_eq_true rfl) (by decide) ⟨Nat.le_refl (hn h), Nat.le_refl (hs h)⟩ ?_
    refine px_lshl d_X4_letGo_45 ?_
    refine px_vall (y := (nI w).toInt64 <<< shJ hd) (congrArg _ (shE hd h6)) ?_
    refine px_ladd d_X4_letGo_46 ?_
    refine px_vall (y := gC h w hd) rfl ?_
    refine px_lstore d_X4_letGo_47 (by decide) ?_
    refine px_iconst (v := 1) d_X4_letGo_49 (by decide) ?_
    refine px_iload_n d_X4_letGo_50 rfl rfl ?_
    refine px_ishl d_X4_letGo_51 ?_
    refine px_val (y := nI (2 ^ hd)) (bsh hd h6) ?_
    refine px_istore d_X4_letGo_52 (by decide) ?_
    refine px_iconst (v := 0) d_X4_letGo_54 (by decide) ?_
    refine px_istore d_X4_letGo_55 (by decide) ?_
    refine px_drop (lv' := [(0, .ref 30), (1, .int (nI w)), (2, .int (nI (min w 5))), (3, .int (nI hd)), (6, .long (gC h w hd)), (8, .int (nI (2 ^ hd))), (9, .int (nI 0))]) ⟨rfl, rfl, rfl, rfl, rfl, rfl, rfl, trivial⟩ ?_
    refine lpI_X4_letGo hL h6 ?_ 64 0 (by omega)
    refine px_inc1 d_X4_letGo_126 rfl (by decide) ?_
    refine px_goto (tgt := 8) d_X4_letGo_129 (by decide) ?_
    refine px_drop (lv' := [(0, .ref 30), (1, .int (nI w)), (2, .int (nI (min w 5))), (3, .int (nI (hd + 1)))]) ⟨rfl, rfl, rfl, px_si (nI_s1 _), trivial⟩ ?_
    exact ih (hd + 1) (by omega)
theorem c_X4_letGo {h : PH} {r : Nat → Int64} {w : Nat} (hw : w < 7) (hL : px_L h) {n : Nat} (hs1 : hI h 30 3 = nI n) (hn6 : n ≤ 6) : PM M_X4_letGo [.ref 30, .int (nI w)] (rJ h 35 r) none (rJ h 35 (lgH (gC h w) r n)) := by
  refine PM.of (by decide +kernel) (by decide +kernel) (Nat.le_refl (hn h)) (Nat.le_refl (hs h)) (Nat.le_of_ble_eq_true rfl) ?_
  refine px_iload_n d_X4_letGo_0 rfl rfl ?_
  refine px_iconst (v := 5) d_X4_letGo_1 (by decide) ?_
  refine px_mmin d_X4_letGo_2 lk_X4_63 (by decide) (by decide) ?_
  refine px_val (y := nI (min w 5)) (by first | exact mn5 w hw | exact mn5' w hw) ?_
  refine px_istore_n d_X4_letGo_5 rfl (by decide) ?_
  refine px_iconst (v := 0) d_X4_letGo_6 (by decide) ?_
  refine px_istore_n d_X4_letGo_7 rfl (by decide) ?_
  refine px_drop (lv' := [(0, .ref 30), (1, .int (nI w)), (2, .int (nI (min w 5))), (3, .int (nI 0))]) ⟨rfl, rfl, rfl, rfl, trivial⟩ ?_
  exact lp_X4_letGo hw hL hs1 hn6 n 0 (by omega)
theorem dbS_y {nd : Int64} {r : Nat → Int64} {s : Nat} (h : dbS nd r s s >>> (18 : Int64) < nd) : dbS nd r (s + 1) = fun j => if j = s then -1 else dbS nd r s j := if_pos h
theorem dbS_n {nd : Int64} {r : Nat → Int64} {s : Nat} (h : ¬ dbS nd r s s >>> (18 : Int64) < nd) : dbS nd r (s + 1) = dbS nd r s := if_neg h
theorem lg_ge0 (x y : Int64) : 0 ≤ lg_cmp x y ↔ ¬ x < y := by
  rw [← lg_lt, ← Int32.not_lt]
theorem lp_X4_dropBelow {h : PH} {r : Nat → Int64} {nd : Int32} (hL : px_L h) : ∀ (k s : Nat), s + k = 64 → PW M_X4_dropBelow (hn h) (hs h) (PMpost none (rJ h 35 (dbS nd.toInt64 r 64))) 2 [(0, .ref 30), (1, .int nd), (2, .int (nI (s)))] [] (rJ h 35 (dbS nd.toInt64 r s)) := by
  intro k
  induction k with
  | zero =>
    intro s hs
    have e : s = 64 := by omega
    subst e
    refine px_iload_n d_X4_dropBelow_2 rfl rfl ?_
    refine px_aload_n d_X4_dropBelow_3 rfl rfl ?_
    refine px_getR d_X4_dropBelow_4 fl_X4_24 (by decide) (so30 hL) (sr30_6 hL) ?_
    refine px_alen d_X4_dropBelow_7 (sa35 hL) (by decide) (by decide) ?_
    refine px_icmp_ge (tgt := 41) d_X4_dropBelow_8 (by decide) (fun c8 => ?_) (fun c8 => (c8 (by decide)).elim)
    exact px_return d_X4_dropBelow_41 rfl ⟨rfl, rfl, rfl⟩
  | succ k ih =>
    intro s hs
    refine px_iload_n d_X4_dropBelow_2 rfl rfl ?_
    refine px_aload_n d_X4_dropBelow_3 rfl rfl ?_
    refine px_getR d_X4_dropBelow_4 fl_X4_24 (by decide) (so30 hL) (sr30_6 hL) ?_
    refine px_alen d_X4_dropBelow_7 (sa35 hL) (by decide) (by decide) ?_
    refine px_icmp_ge (tgt := 41) d_X4_dropBelow_8 (by decide) (fun c8 => absurd c8 (nI_ge (b := 64) (by omega) (by decide))) (fun c8 => ?_)
    refine px_aload_n d_X4_dropBelow_11 rfl rfl ?_
    refine px_getR d_X4_dropBelow_12 fl_X4_24 (by decide) (so30 hL) (sr30_6 hL) ?_
    refine px_iload_n d_X4_dropBelow_15 rfl rfl ?_
    refine px_lald d_X4_dropBelow_16 (sa35 hL) rfl (by omega) ?_
    refine px_vall (y := (dbS nd.toInt64 r s) s) (congrFun (hJ_rs ..) _) ?_
    refine px_bipush (v := 18) d_X4_dropBelow_17 (by decide) ?_
    refine px_lshr d_X4_dropBelow_19 ?_
    refine px_vall (y := (dbS nd.toInt64 r s) s >>> (18 : Int64)) (congrArg _ (show (18 : Int32).toInt64 &&& 63 = 18 by decide)) ?_
    refine px_iload_n d_X4_dropBelow_20 rfl rfl ?_
    refine px_i2l d_X4_dropBelow_21 ?_
    refine px_lcmp d_X4_dropBelow_22 ?_
    refine px_if_ge (tgt := 35) d_X4_dropBelow_23 (by decide) (fun c23 => ?_) (fun c23 => ?_)
    · refine px_inc1 d_X4_dropBelow_35 rfl (by decide) ?_
      refine px_goto (tgt := 2) d_X4_dropBelow_38 (by decide) ?_
      first
        | (refine px_heap (h2 := rJ h 35 (dbS nd.toInt64 r (s + 1))) (congrArg (rJ h 35) (dbS_n ((lg_ge0 _ _).mp c23)).symm) ?_
           refine px_drop (lv' := [(0, .ref 30), (1, .int nd), (2, .int (nI (s + 1)))]) ⟨rfl, rfl, px_si (nI_s1 _), trivial⟩ ?_
           exact ih (s + 1) (by omega))
        | (refine px_drop (lv' := [(0, .ref 30), (1, .int nd), (2, .int (nI (s + 1)))]) ⟨rfl, rfl, px_si (nI_s1 _), trivial⟩ ?_
           exact ih (s + 1) (by omega))
    · refine px_aload_n d_X4_dropBelow_26 rfl rfl ?_
      refine px_getR d_X4_dropBelow_27 fl_X4_24 (by decide) (so30 hL) (sr30_6 hL) ?_
      refine px_iload_n d_X4_dropBelow_30 rfl rfl ?_
      refine px_ldc2 d_X4_dropBelow_31 cl_X4_44 ?_
      refine px_last d_X4_dropBelow_34 (sa35 hL) rfl (by omega) ?_
      refine px_heap (h2 := rJ h 35 (dbS nd.toInt64 r (s + 1))) ((pJ_rJ ..).trans (congrArg (rJ h 35) (dbS_y (Classical.not_not.mp fun q => c23 ((lg_ge0 _ _).mpr q))).symm)) ?_
      refine px_inc1 d_X4_dropBelow_35 rfl (by decide) ?_
      refine px_goto (tgt := 2) d_X4_dropBelow_38 (by decide) ?_
      first
        | (refine px_heap (h2 := rJ h 35 (dbS nd.toInt64 r (s + 1))) (congrArg (rJ h 35) (dbS_n ((lg_ge0 _ _).mp c23)).symm) ?_
           refine px_drop (lv' := [(0, .ref 30), (1, .int nd), (2, .int (nI (s + 1)))]) ⟨rfl, rfl, px_si (nI_s1 _), trivial⟩ ?_
           exact ih (s + 1) (by omega))
        | (refine px_drop (lv' := [(0, .ref 30), (1, .int nd), (2, .int (nI (s + 1)))]) ⟨rfl, rfl, px_si (nI_s1 _), trivial⟩ ?_
           exact ih (s + 1) (by omega))
theorem c_X4_dropBelow {h : PH} {r : Nat → Int64} {nd : Int32} (hL : px_L h) : PM M_X4_dropBelow [.ref 30, .int nd] (rJ h 35 r) none (rJ h 35 (dbS nd.toInt64 r 64)) := by
  refine PM.of (by decide +kernel) (by decide +kernel) (Nat.le_refl (hn h)) (Nat.le_refl (hs h)) (Nat.le_of_ble_eq_true rfl) ?_
  refine px_iconst (v := 0) d_X4_dropBelow_0 (by decide) ?_
  refine px_istore_n d_X4_dropBelow_1 rfl (by decide) ?_
  refine px_drop (lv' := [(0, .ref 30), (1, .int nd), (2, .int (nI 0))]) ⟨rfl, rfl, rfl, trivial⟩ ?_
  exact lp_X4_dropBelow hL 64 0 (by omega)
def kpV (b : Int64) (j : Nat) : Int32 := (b >>> shJ j).toInt32 &&& 7
def kpl (b : Int64) (o : Nat → Int32) : Nat → Nat → Int32
  | 0 => o
  | i + 1 => fun j => if j = i then kpV b i else kpl b o i j
theorem lp_X4_keepPlan {h : PH} {b : Int64} (hL : px_L h) {n : Nat} (hs1 : hI h 30 3 = nI n) (hn6 : n ≤ 6) : ∀ (k i : Nat), i + k = n → PW M_X4_keepPlan (hn h) (hs h) (PMpost none (rI (pI h 30 5 (nI n)) 34 (kpl b (hI h 34) n))) 10 [(0, .ref 30), (1, .long b), (3, .int (nI (i)))] [] (rI (pI h 30 5 (nI n)) 34 (kpl b (hI h 34) i)) := by
  intro k
  induction k with
  | zero =>
    intro i hi
    have e : i = n := by omega
    subst e
    refine px_iload_n d_X4_keepPlan_10 rfl rfl ?_
    refine px_aload_n d_X4_keepPlan_11 rfl rfl ?_
    refine px_getI d_X4_keepPlan_12 fl_X4_28 rfl (so30 hL) ?_
    refine px_val (y := nI i) hs1 ?_
    refine px_icmp_ge (tgt := 40) d_X4_keepPlan_15 (by decide) (fun c15 => ?_) (fun c15 => (c15 (nI_le (by omega) (by omega))).elim)
    exact px_return d_X4_keepPlan_40 rfl ⟨rfl, rfl, rfl⟩
  | succ k ih =>
    intro i hi
    have h6 : i < 6 := by omega
    refine px_iload_n d_X4_keepPlan_10 rfl rfl ?_
    refine px_aload_n d_X4_keepPlan_11 rfl rfl ?_
    refine px_getI d_X4_keepPlan_12 fl_X4_28 rfl (so30 hL) ?_
    refine px_val (y := nI n) hs1 ?_
    refine px_icmp_ge (tgt := 40) d_X4_keepPlan_15 (by decide) (fun c15 => absurd c15 (nI_ge (by omega) (by omega))) (fun c15 => ?_)
    refine px_aload_n d_X4_keepPlan_18 rfl rfl ?_
    refine px_getR d_X4_keepPlan_19 fl_X4_21 (by decide) (so30 hL) (sr30_4 hL) ?_
    refine px_iload_n d_X4_keepPlan_22 rfl rfl ?_
    refine px_lload_n d_X4_keepPlan_23 rfl rfl ?_
    refine px_iload_n d_X4_keepPlan_24 rfl rfl ?_
    refine px_callS (c_X4_shiftOf) d_X4_keepPlan_25 lk_X4_69 ok_X4_shiftOf os_X4_shiftOf rfl (Nat.le_of_ble_eq_true rfl) (by decide) ⟨Nat.le_refl (hn h), Nat.le_refl (hs h)⟩ ?_
    refine px_lshr d_X4_keepPlan_28 ?_
    refine px_vall (y := b >>> shJ i) (congrArg _ (shE i h6)) ?_
    refine px_l2i d_X4_keepPlan_29 ?_
    refine px_bipush (v := 7) d_X4_keepPlan_30 (by decide) ?_
    refine px_iand d_X4_keepPlan_32 ?_
    refine px_iast d_X4_keepPlan_33 (sa34 hL) rfl h6 ?_
    refine px_heap (h2 := (rI (pI h 30 5 (nI n)) 34 (kpl b (hI h 34) (i + 1)))) (pI_rI ..) ?_
    refine px_inc1 d_X4_keepPlan_34 rfl (by decide) ?_
    refine px_goto (tgt := 10) d_X4_keepPlan_37 (by decide) ?_
    refine px_drop (lv' := [(0, .ref 30), (1, .long b), (3, .int (nI (i + 1)))]) ⟨rfl, rfl, px_si (nI_s1 _), trivial⟩ ?_
    exact ih (i + 1) (by omega)
theorem c_X4_keepPlan {h : PH} {b : Int64} (hL : px_L h) {n : Nat} (hs1 : hI h 30 3 = nI n) (hn6 : n ≤ 6) : PM M_X4_keepPlan [.ref 30, .long b] h none (rI (pI h 30 5 (nI n)) 34 (kpl b (hI h 34) n)) := by
  refine PM.of (by decide +kernel) (by decide +kernel) (Nat.le_refl _) (Nat.le_refl _) (Nat.le_of_ble_eq_true rfl) ?_
  refine px_aload_n d_X4_keepPlan_0 rfl rfl ?_
  refine px_aload_n d_X4_keepPlan_1 rfl rfl ?_
  refine px_getI d_X4_keepPlan_2 fl_X4_28 rfl (so30 hL) ?_
  refine px_val (y := nI n) hs1 ?_
  refine px_putI d_X4_keepPlan_5 fl_X4_41 rfl (so30 hL) ?_
  refine px_iconst (v := 0) d_X4_keepPlan_8 (by decide) ?_
  refine px_istore_n d_X4_keepPlan_9 rfl (by decide) ?_
  refine px_drop (lv' := [(0, .ref 30), (1, .long b), (3, .int (nI 0))]) ⟨rfl, rfl, rfl, trivial⟩ ?_
  refine px_heap (h2 := (rI (pI h 30 5 (nI n)) 34 (kpl b (hI h 34) 0))) (rI_self (pI h 30 5 (nI n)) 34).symm ?_
  exact lp_X4_keepPlan hL hs1 hn6 n 0 (by omega)
def rc0 (h : PH) : Nat → Int64 := fun j => if j = 0 then 0 else ffl (-1) 64 (hJ h 35) j
def ndS (nd : Nat → Int32) : Nat → Int32
  | 0 => 0
  | w + 1 => ndS nd w + nd w
def fbW (h : PH) (n : Nat) : Nat → Nat → Int64
  | 0 => rc0 h
  | w + 1 => dbS (ndS (hI h 33) (w + 1)).toInt64 (lgH (gC h w) (fbW h n w) n) 64
/-- what was reached at the end -/
def fbE (h : PH) (n : Nat) : Nat → Int64 := lgH (gC h 6) (fbW h n 6) n
def fbB (h : PH) (n : Nat) : Int64 := fbE h n (2 ^ n - 1)
theorem lp_X4_findBest {h : PH} {N S : Nat} {Post : Nat → Option Value → PH → Prop} (hL : px_L h) {n : Nat} (hs1 : hI h 30 3 = nI n) (hn6 : n ≤ 6) (kk : PW M_X4_findBest N S Post 52 [(0, .ref 30)] [] (rJ h 35 (fbW h n 6))) (hN : hn h ≤ N ∧ hs h ≤ S) : ∀ (k w : Nat), w + k = 6 → PW M_X4_findBest N S Post 21 [(0, .ref 30), (1, .int (ndS (hI h 33) (w))), (2, .int (nI (w)))] [] (rJ h 35 (fbW h n w)) := by
  intro k
  induction k with
  | zero =>
    intro w hw
    have e : w = 6 := by omega
    subst e
    refine px_iload_n d_X4_findBest_21 rfl rfl ?_
    refine px_bipush (v := 6) d_X4_findBest_22 (by decide) ?_
    refine px_icmp_ge (tgt := 52) d_X4_findBest_24 (by decide) (fun c24 => ?_) (fun c24 => (c24 (by decide)).elim)
    refine px_drop (lv' := [(0, .ref 30)]) ⟨rfl, trivial⟩ ?_
    exact kk
  | succ k ih =>
    intro w hw
    refine px_iload_n d_X4_findBest_21 rfl rfl ?_
    refine px_bipush (v := 6) d_X4_findBest_22 (by decide) ?_
    refine px_icmp_ge (tgt := 52) d_X4_findBest_24 (by decide) (fun c24 => absurd c24 (nI_ge (b := 6) (by omega) (by decide))) (fun c24 => ?_)
    refine px_aload_n d_X4_findBest_27 rfl rfl ?_
    refine px_iload_n d_X4_findBest_28 rfl rfl ?_
    refine px_callV (c_X4_letGo (by omega) hL hs1 hn6) d_X4_findBest_29 lk_X4_52 ok_X4_letGo ov_X4_letGo (so30 hL) (by decide) rfl rfl (Nat.le_of_ble_eq_true rfl) (by decide) hN ?_
    refine px_iload_n d_X4_findBest_32 rfl rfl ?_
    refine px_aload_n d_X4_findBest_33 rfl rfl ?_
    refine px_getR d_X4_findBest_34 fl_X4_18 (by decide) (so30 hL) (sr30_2 hL) ?_
    refine px_iload_n d_X4_findBest_37 rfl rfl ?_
    refine px_iald d_X4_findBest_38 (sa33 hL) rfl (by omega) ?_
    refine px_val (y := hI h 33 w) rfl ?_
    refine px_iadd d_X4_findBest_39 ?_
    refine px_istore_n d_X4_findBest_40 rfl (by decide) ?_
    refine px_aload_n d_X4_findBest_41 rfl rfl ?_
    refine px_iload_n d_X4_findBest_42 rfl rfl ?_
    refine px_callV (c_X4_dropBelow hL) d_X4_findBest_43 lk_X4_56 ok_X4_dropBelow ov_X4_dropBelow (so30 hL) (by decide) rfl rfl (Nat.le_of_ble_eq_true rfl) (by decide) hN ?_
    refine px_inc1 d_X4_findBest_46 rfl (by decide) ?_
    refine px_goto (tgt := 21) d_X4_findBest_49 (by decide) ?_
    refine px_drop (lv' := [(0, .ref 30), (1, .int (ndS (hI h 33) (w + 1))), (2, .int (nI (w + 1)))]) ⟨rfl, rfl, px_si (nI_s1 _), trivial⟩ ?_
    exact ih (w + 1) (by omega)
theorem n_X4_findBest {h : PH} (hL : px_L h) {n : Nat} (hs1 : hI h 30 3 = nI n) (hn6 : n ≤ 6) (hb : fbB h n < 0) : PM M_X4_findBest [.ref 30] h (some (.int (-1))) (rJ h 35 (fbE h n)) := by
  refine PM.of (by decide +kernel) (by decide +kernel) (Nat.le_refl _) (Nat.le_refl _) (Nat.le_of_ble_eq_true rfl) ?_
  refine px_aload_n d_X4_findBest_0 rfl rfl ?_
  refine px_getR d_X4_findBest_1 fl_X4_24 (by decide) (so30 hL) (sr30_6 hL) ?_
  refine px_ldc2 d_X4_findBest_4 cl_X4_44 ?_
  refine px_callS (c_J7_fill_d0a16 (sa35 hL)) d_X4_findBest_7 lk_X4_46 ok_J7_fill_d0a16 os_J7_fill_d0a16 rfl (Nat.le_of_ble_eq_true rfl) (by decide) ⟨Nat.le_refl _, Nat.le_refl _⟩ ?_
  refine px_aload_n d_X4_findBest_10 rfl rfl ?_
  refine px_getR d_X4_findBest_11 fl_X4_24 (by decide) (so30 hL) (sr30_6 hL) ?_
  refine px_iconst (v := 0) d_X4_findBest_14 (by decide) ?_
  refine px_lconst (v := 0) d_X4_findBest_15 (by decide) ?_
  refine px_last (j := 0) d_X4_findBest_16 (sa35 hL) rfl (by decide) ?_
  refine px_heap (h2 := rJ h 35 (fbW h n 0)) (pJ_rJ ..) ?_
  refine px_iconst (v := 0) d_X4_findBest_17 (by decide) ?_
  refine px_istore_n d_X4_findBest_18 rfl (by decide) ?_
  refine px_iconst (v := 0) d_X4_findBest_19 (by decide) ?_
  refine px_istore_n d_X4_findBest_20 rfl (by decide) ?_
  refine px_drop (lv' := [(0, .ref 30), (1, .int (ndS (hI h 33) 0)), (2, .int (nI 0))]) ⟨rfl, rfl, rfl, trivial⟩ ?_
  refine lp_X4_findBest hL hs1 hn6 ?_ ⟨Nat.le_refl (hn h), Nat.le_refl (hs h)⟩ 6 0 (by omega)
  refine px_aload_n d_X4_findBest_52 rfl rfl ?_
  refine px_bipush (v := 6) d_X4_findBest_53 (by decide) ?_
  refine px_callV (c_X4_letGo (w := 6) (by decide) hL hs1 hn6) d_X4_findBest_55 lk_X4_52 ok_X4_letGo ov_X4_letGo (so30 hL) (by decide) rfl rfl (Nat.le_of_ble_eq_true rfl) (by decide) ⟨Nat.le_refl (hn h), Nat.le_refl (hs h)⟩ ?_
  refine px_aload_n d_X4_findBest_58 rfl rfl ?_
  refine px_getR d_X4_findBest_59 fl_X4_24 (by decide) (so30 hL) (sr30_6 hL) ?_
  refine px_iconst (v := 1) d_X4_findBest_62 (by decide) ?_
  refine px_aload_n d_X4_findBest_63 rfl rfl ?_
  refine px_getI d_X4_findBest_64 fl_X4_28 rfl (so30 hL) ?_
  refine px_val (y := nI n) hs1 ?_
  refine px_ishl d_X4_findBest_67 ?_
  refine px_iconst (v := 1) d_X4_findBest_68 (by decide) ?_
  refine px_isub d_X4_findBest_69 ?_
  refine px_val (y := nI (2 ^ n - 1)) (bfu n (by omega)) ?_
  refine px_lald d_X4_findBest_70 (sa35 hL) rfl (bf6 n (by omega)) ?_
  refine px_vall (y := fbB h n) (congrFun (hJ_rs ..) _) ?_
  refine px_lstore_n d_X4_findBest_71 rfl (by decide) ?_
  refine px_lload_n d_X4_findBest_72 rfl rfl ?_
  refine px_lconst (v := 0) d_X4_findBest_73 (by decide) ?_
  refine px_lcmp d_X4_findBest_74 ?_
  refine px_if_ge (tgt := 80) d_X4_findBest_75 (by decide) (fun c75 => absurd hb ((lg_ge0 _ _).mp c75)) (fun c75 => ?_)
  refine px_iconst (v := (-1)) d_X4_findBest_78 (by decide) ?_
  exact px_ireturn d_X4_findBest_79 rfl rfl ⟨rfl, rfl, rfl⟩
theorem c_X4_findBest {h : PH} (hL : px_L h) {n : Nat} (hs1 : hI h 30 3 = nI n) (hn6 : n ≤ 6) (hb : ¬ fbB h n < 0) : PM M_X4_findBest [.ref 30] h (some (.int (fbB h n >>> (18 : Int64)).toInt32)) (rI (pI (rJ h 35 (fbE h n)) 30 5 (nI n)) 34 (kpl (fbB h n) (hI h 34) n)) := by
  refine PM.of (by decide +kernel) (by decide +kernel) (Nat.le_refl _) (Nat.le_refl _) (Nat.le_of_ble_eq_true rfl) ?_
  refine px_aload_n d_X4_findBest_0 rfl rfl ?_
  refine px_getR d_X4_findBest_1 fl_X4_24 (by decide) (so30 hL) (sr30_6 hL) ?_
  refine px_ldc2 d_X4_findBest_4 cl_X4_44 ?_
  refine px_callS (c_J7_fill_d0a16 (sa35 hL)) d_X4_findBest_7 lk_X4_46 ok_J7_fill_d0a16 os_J7_fill_d0a16 rfl (Nat.le_of_ble_eq_true rfl) (by decide) ⟨Nat.le_refl _, Nat.le_refl _⟩ ?_
  refine px_aload_n d_X4_findBest_10 rfl rfl ?_
  refine px_getR d_X4_findBest_11 fl_X4_24 (by decide) (so30 hL) (sr30_6 hL) ?_
  refine px_iconst (v := 0) d_X4_findBest_14 (by decide) ?_
  refine px_lconst (v := 0) d_X4_findBest_15 (by decide) ?_
  refine px_last (j := 0) d_X4_findBest_16 (sa35 hL) rfl (by decide) ?_
  refine px_heap (h2 := rJ h 35 (fbW h n 0)) (pJ_rJ ..) ?_
  refine px_iconst (v := 0) d_X4_findBest_17 (by decide) ?_
  refine px_istore_n d_X4_findBest_18 rfl (by decide) ?_
  refine px_iconst (v := 0) d_X4_findBest_19 (by decide) ?_
  refine px_istore_n d_X4_findBest_20 rfl (by decide) ?_
  refine px_drop (lv' := [(0, .ref 30), (1, .int (ndS (hI h 33) 0)), (2, .int (nI 0))]) ⟨rfl, rfl, rfl, trivial⟩ ?_
  refine lp_X4_findBest hL hs1 hn6 ?_ ⟨Nat.le_refl (hn h), Nat.le_refl (hs h)⟩ 6 0 (by omega)
  refine px_aload_n d_X4_findBest_52 rfl rfl ?_
  refine px_bipush (v := 6) d_X4_findBest_53 (by decide) ?_
  refine px_callV (c_X4_letGo (w := 6) (by decide) hL hs1 hn6) d_X4_findBest_55 lk_X4_52 ok_X4_letGo ov_X4_letGo (so30 hL) (by decide) rfl rfl (Nat.le_of_ble_eq_true rfl) (by decide) ⟨Nat.le_refl (hn h), Nat.le_refl (hs h)⟩ ?_
  refine px_aload_n d_X4_findBest_58 rfl rfl ?_
  refine px_getR d_X4_findBest_59 fl_X4_24 (by decide) (so30 hL) (sr30_6 hL) ?_
  refine px_iconst (v := 1) d_X4_findBest_62 (by decide) ?_
  refine px_aload_n d_X4_findBest_63 rfl rfl ?_
  refine px_getI d_X4_findBest_64 fl_X4_28 rfl (so30 hL) ?_
  refine px_val (y := nI n) hs1 ?_
  refine px_ishl d_X4_findBest_67 ?_
  refine px_iconst (v := 1) d_X4_findBest_68 (by decide) ?_
  refine px_isub d_X4_findBest_69 ?_
  refine px_val (y := nI (2 ^ n - 1)) (bfu n (by omega)) ?_
  refine px_lald d_X4_findBest_70 (sa35 hL) rfl (bf6 n (by omega)) ?_
  refine px_vall (y := fbB h n) (congrFun (hJ_rs ..) _) ?_
  refine px_lstore_n d_X4_findBest_71 rfl (by decide) ?_
  refine px_lload_n d_X4_findBest_72 rfl rfl ?_
  refine px_lconst (v := 0) d_X4_findBest_73 (by decide) ?_
  refine px_lcmp d_X4_findBest_74 ?_
  refine px_if_ge (tgt := 80) d_X4_findBest_75 (by decide) (fun c75 => ?_) (fun c75 => absurd ((lg_ge0 _ _).mpr hb) c75)
  refine px_aload_n d_X4_findBest_80 rfl rfl ?_
  refine px_lload_n d_X4_findBest_81 rfl rfl ?_
  refine px_callV (c_X4_keepPlan (h := rJ h 35 (fbE h n)) hL hs1 hn6) d_X4_findBest_82 lk_X4_59 ok_X4_keepPlan ov_X4_keepPlan (so30 hL) (by decide) rfl rfl (Nat.le_of_ble_eq_true rfl) (by decide) ⟨Nat.le_refl (hn h), Nat.le_refl (hs h)⟩ ?_
  refine px_lload_n d_X4_findBest_85 rfl rfl ?_
  refine px_bipush (v := 18) d_X4_findBest_86 (by decide) ?_
  refine px_lshr d_X4_findBest_88 ?_
  refine px_vall (y := fbB h n >>> (18 : Int64)) (congrArg _ (show (18 : Int32).toInt64 &&& 63 = 18 by decide)) ?_
  refine px_l2i d_X4_findBest_89 ?_
  exact px_ireturn d_X4_findBest_90 rfl rfl ⟨rfl, rfl, rfl⟩
theorem n_X11_best {h : PH} (hL : px_L h) {n : Nat} (hs1 : hI h 30 3 = nI n) (hn6 : n ≤ 6) (hb : fbB h n < 0) : PM M_X11_best [.ref 0] h (some (.int (-1))) (rJ h 35 (fbE h n)) := by
  refine PM.of (by decide +kernel) (by decide +kernel) (Nat.le_refl _) (Nat.le_refl _) (Nat.le_of_ble_eq_true rfl) ?_
  refine px_aload_n d_X11_best_0 rfl rfl ?_
  refine px_getR d_X11_best_1 fl_X11_76 (by decide) (so0 hL) (sr0_9 hL) ?_
  refine px_callV (n_X4_findBest hL hs1 hn6 hb) d_X11_best_4 lk_X11_226 ok_X4_findBest ov_X4_findBest (so30 hL) (by decide) rfl rfl (Nat.le_of_ble_eq_true rfl) (by decide) ⟨Nat.le_refl _, Nat.le_refl _⟩ ?_
  exact px_ireturn d_X11_best_7 rfl rfl ⟨rfl, rfl, rfl⟩
theorem c_X11_best {h : PH} (hL : px_L h) {n : Nat} (hs1 : hI h 30 3 = nI n) (hn6 : n ≤ 6) (hb : ¬ fbB h n < 0) : PM M_X11_best [.ref 0] h (some (.int (fbB h n >>> (18 : Int64)).toInt32)) (rI (pI (rJ h 35 (fbE h n)) 30 5 (nI n)) 34 (kpl (fbB h n) (hI h 34) n)) := by
  refine PM.of (by decide +kernel) (by decide +kernel) (Nat.le_refl _) (Nat.le_refl _) (Nat.le_of_ble_eq_true rfl) ?_
  refine px_aload_n d_X11_best_0 rfl rfl ?_
  refine px_getR d_X11_best_1 fl_X11_76 (by decide) (so0 hL) (sr0_9 hL) ?_
  refine px_callV (c_X4_findBest hL hs1 hn6 hb) d_X11_best_4 lk_X11_226 ok_X4_findBest ov_X4_findBest (so30 hL) (by decide) rfl rfl (Nat.le_of_ble_eq_true rfl) (by decide) ⟨Nat.le_refl _, Nat.le_refl _⟩ ?_
  exact px_ireturn d_X11_best_7 rfl rfl ⟨rfl, rfl, rfl⟩
def slW (dr pr : Nat → Int32) (w : Int32) (v : Nat) (x : Int32) : Nat → Int32
  | 0 => x
  | i + 1 => slW dr pr w v x i + (if dr i = w then pr (6 * i + v) else 0)
theorem slW_y {dr pr : Nat → Int32} {w : Int32} {v : Nat} {x : Int32} {i : Nat} (c : dr i = w) : slW dr pr w v x i + pr (6 * i + v) = slW dr pr w v x (i + 1) := by
  conv => rhs; unfold slW
  rw [if_pos c]
theorem slW_n {dr pr : Nat → Int32} {w : Int32} {v : Nat} {x : Int32} {i : Nat} (c : ¬ dr i = w) : slW dr pr w v x i + 0 = slW dr pr w v x (i + 1) := by
  conv => rhs; unfold slW
  rw [if_neg c]
def cmW (dr pr nd : Nat → Int32) (n : Nat) : Nat → Nat → Int32 → Int32 → Int32
  | 0, _, sold, _ => slW dr pr 6 5 sold n
  | k + 1, w, sold, all => if all + nd w ≤ slW dr pr (nI w) w sold n then cmW dr pr nd n k (w + 1) (slW dr pr (nI w) w sold n) (all + nd w) else -1
theorem idx6n (i w : Nat) : 6 * nI i + nI w = nI (6 * i + w) := by
  show Int32.ofNat 6 * Int32.ofNat i + Int32.ofNat w = _
  rw [← Int32.ofNat_mul, ← Int32.ofNat_add]
  rfl
theorem lpI_X12_comesTo {h : PH} {N S : Nat} {Post : Nat → Option Value → PH → Prop} {w : Nat} {x al : Int32} (hL : px_L h) {n : Nat} (hs1 : hI h 36 49 = nI n) (hn6 : n ≤ 6) (hw : w < 6) (kk : PW M_X12_comesTo N S Post 69 [(0, .ref 36), (1, .int (slW (hI h 75) (hI h 73) (nI w) w x n)), (2, .int al), (3, .int (nI w))] [] h) : ∀ (k i : Nat), i + k = n → PW M_X12_comesTo N S Post 24 [(0, .ref 36), (1, .int (slW (hI h 75) (hI h 73) (nI w) w x i)), (2, .int al), (3, .int (nI w)), (4, .int (nI (i)))] [] h := by
  intro k
  induction k with
  | zero =>
    intro i hi
    have e : i = n := by omega
    rw [e]
    refine px_iload d_X12_comesTo_24 rfl ?_
    refine px_aload_n d_X12_comesTo_26 rfl rfl ?_
    refine px_getI d_X12_comesTo_27 fl_X12_309 rfl (so36 hL) ?_
    refine px_val (y := nI n) hs1 ?_
    refine px_icmp_ge (tgt := 69) d_X12_comesTo_30 (by decide) (fun c30 => ?_) (fun c30 => (c30 (nI_le (by omega) (by omega))).elim)
    refine px_drop (lv' := [(0, .ref 36), (1, .int (slW (hI h 75) (hI h 73) (nI w) w x n)), (2, .int al), (3, .int (nI w))]) ⟨rfl, rfl, rfl, rfl, trivial⟩ ?_
    exact kk
  | succ k ih =>
    intro i hi
    refine px_iload d_X12_comesTo_24 rfl ?_
    refine px_aload_n d_X12_comesTo_26 rfl rfl ?_
    refine px_getI d_X12_comesTo_27 fl_X12_309 rfl (so36 hL) ?_
    refine px_val (y := nI n) hs1 ?_
    refine px_icmp_ge (tgt := 69) d_X12_comesTo_30 (by decide) (fun c30 => absurd c30 (nI_ge (by omega) (by omega))) (fun c30 => ?_)
    refine px_iload_n d_X12_comesTo_33 rfl rfl ?_
    refine px_aload_n d_X12_comesTo_34 rfl rfl ?_
    refine px_getR d_X12_comesTo_35 fl_X12_144 (by decide) (so36 hL) (sr36_52 hL) ?_
    refine px_iload d_X12_comesTo_38 rfl ?_
    refine px_iald d_X12_comesTo_40 (sa75 hL) rfl (by omega) ?_
    refine px_iload_n d_X12_comesTo_41 rfl rfl ?_
    refine px_icmp_ne (tgt := 60) d_X12_comesTo_42 (by decide) (fun c42 => ?_) (fun c42 => ?_)
    · refine px_iconst (v := 0) d_X12_comesTo_60 (by decide) ?_
      refine px_iadd d_X12_comesTo_61 ?_
      refine px_val (y := (slW (hI h 75) (hI h 73) (nI w) w x (i + 1))) (by first | exact slW_n c42 | exact slW_y c42) ?_
      refine px_istore_n d_X12_comesTo_62 rfl (by decide) ?_
      refine px_inc1 d_X12_comesTo_63 rfl (by decide) ?_
      refine px_goto (tgt := 24) d_X12_comesTo_66 (by decide) ?_
      refine px_drop (lv' := [(0, .ref 36), (1, .int (slW (hI h 75) (hI h 73) (nI w) w x (i + 1))), (2, .int al), (3, .int (nI w)), (4, .int (nI (i + 1)))]) ⟨rfl, rfl, rfl, rfl, px_si (nI_s1 _), trivial⟩ ?_
      exact ih (i + 1) (by omega)
    · refine px_aload_n d_X12_comesTo_45 rfl rfl ?_
      refine px_getR d_X12_comesTo_46 fl_X12_138 (by decide) (so36 hL) (sr36_50 hL) ?_
      refine px_bipush (v := 6) d_X12_comesTo_49 (by decide) ?_
      refine px_iload d_X12_comesTo_51 rfl ?_
      refine px_imul d_X12_comesTo_53 ?_
      refine px_iload_n d_X12_comesTo_54 rfl rfl ?_
      refine px_iadd d_X12_comesTo_55 ?_
      refine px_val (y := nI (6 * i + w)) (idx6n i w) ?_
      refine px_iald d_X12_comesTo_56 (sa73 hL) rfl (by omega) ?_
      refine px_goto (tgt := 61) d_X12_comesTo_57 (by decide) ?_
      refine px_iadd d_X12_comesTo_61 ?_
      refine px_val (y := (slW (hI h 75) (hI h 73) (nI w) w x (i + 1))) (by first | exact slW_n c42 | exact slW_y c42) ?_
      refine px_istore_n d_X12_comesTo_62 rfl (by decide) ?_
      refine px_inc1 d_X12_comesTo_63 rfl (by decide) ?_
      refine px_goto (tgt := 24) d_X12_comesTo_66 (by decide) ?_
      refine px_drop (lv' := [(0, .ref 36), (1, .int (slW (hI h 75) (hI h 73) (nI w) w x (i + 1))), (2, .int al), (3, .int (nI w)), (4, .int (nI (i + 1)))]) ⟨rfl, rfl, rfl, rfl, px_si (nI_s1 _), trivial⟩ ?_
      exact ih (i + 1) (by omega)
theorem lpE_X12_comesTo {h : PH} {x : Int32} (hL : px_L h) {n : Nat} (hs1 : hI h 36 49 = nI n) (hn6 : n ≤ 6) : ∀ (k i : Nat), i + k = n → PW M_X12_comesTo (hn h) (hs h) (PMpost (some (.int (slW (hI h 75) (hI h 73) 6 5 x n))) h) 84 [(0, .ref 36), (1, .int (slW (hI h 75) (hI h 73) 6 5 x i)), (3, .int (nI (i)))] [] h := by
  intro k
  induction k with
  | zero =>
    intro i hi
    have e : i = n := by omega
    subst e
    refine px_iload_n d_X12_comesTo_84 rfl rfl ?_
    refine px_aload_n d_X12_comesTo_85 rfl rfl ?_
    refine px_getI d_X12_comesTo_86 fl_X12_309 rfl (so36 hL) ?_
    refine px_val (y := nI i) hs1 ?_
    refine px_icmp_ge (tgt := 127) d_X12_comesTo_89 (by decide) (fun c89 => ?_) (fun c89 => (c89 (nI_le (by omega) (by omega))).elim)
    refine px_iload_n d_X12_comesTo_127 rfl rfl ?_
    exact px_ireturn d_X12_comesTo_128 rfl rfl ⟨rfl, rfl, rfl⟩
  | succ k ih =>
    intro i hi
    refine px_iload_n d_X12_comesTo_84 rfl rfl ?_
    refine px_aload_n d_X12_comesTo_85 rfl rfl ?_
    refine px_getI d_X12_comesTo_86 fl_X12_309 rfl (so36 hL) ?_
    refine px_val (y := nI n) hs1 ?_
    refine px_icmp_ge (tgt := 127) d_X12_comesTo_89 (by decide) (fun c89 => absurd c89 (nI_ge (by omega) (by omega))) (fun c89 => ?_)
    refine px_iload_n d_X12_comesTo_92 rfl rfl ?_
    refine px_aload_n d_X12_comesTo_93 rfl rfl ?_
    refine px_getR d_X12_comesTo_94 fl_X12_144 (by decide) (so36 hL) (sr36_52 hL) ?_
    refine px_iload_n d_X12_comesTo_97 rfl rfl ?_
    refine px_iald d_X12_comesTo_98 (sa75 hL) rfl (by omega) ?_
    refine px_bipush (v := 6) d_X12_comesTo_99 (by decide) ?_
    refine px_icmp_ne (tgt := 118) d_X12_comesTo_101 (by decide) (fun c101 => ?_) (fun c101 => ?_)
    · refine px_iconst (v := 0) d_X12_comesTo_118 (by decide) ?_
      refine px_iadd d_X12_comesTo_119 ?_
      refine px_val (y := (slW (hI h 75) (hI h 73) 6 5 x (i + 1))) (by first | exact slW_n c101 | exact slW_y c101) ?_
      refine px_istore_n d_X12_comesTo_120 rfl (by decide) ?_
      refine px_inc1 d_X12_comesTo_121 rfl (by decide) ?_
      refine px_goto (tgt := 84) d_X12_comesTo_124 (by decide) ?_
      refine px_drop (lv' := [(0, .ref 36), (1, .int (slW (hI h 75) (hI h 73) 6 5 x (i + 1))), (3, .int (nI (i + 1)))]) ⟨rfl, rfl, px_si (nI_s1 _), trivial⟩ ?_
      exact ih (i + 1) (by omega)
    · refine px_aload_n d_X12_comesTo_104 rfl rfl ?_
      refine px_getR d_X12_comesTo_105 fl_X12_138 (by decide) (so36 hL) (sr36_50 hL) ?_
      refine px_bipush (v := 6) d_X12_comesTo_108 (by decide) ?_
      refine px_iload_n d_X12_comesTo_110 rfl rfl ?_
      refine px_imul d_X12_comesTo_111 ?_
      refine px_iconst (v := 5) d_X12_comesTo_112 (by decide) ?_
      refine px_iadd d_X12_comesTo_113 ?_
      refine px_val (y := nI (6 * i + 5)) (idx6n i 5) ?_
      refine px_iald d_X12_comesTo_114 (sa73 hL) rfl (by omega) ?_
      refine px_goto (tgt := 119) d_X12_comesTo_115 (by decide) ?_
      refine px_iadd d_X12_comesTo_119 ?_
      refine px_val (y := (slW (hI h 75) (hI h 73) 6 5 x (i + 1))) (by first | exact slW_n c101 | exact slW_y c101) ?_
      refine px_istore_n d_X12_comesTo_120 rfl (by decide) ?_
      refine px_inc1 d_X12_comesTo_121 rfl (by decide) ?_
      refine px_goto (tgt := 84) d_X12_comesTo_124 (by decide) ?_
      refine px_drop (lv' := [(0, .ref 36), (1, .int (slW (hI h 75) (hI h 73) 6 5 x (i + 1))), (3, .int (nI (i + 1)))]) ⟨rfl, rfl, px_si (nI_s1 _), trivial⟩ ?_
      exact ih (i + 1) (by omega)
theorem lp_X12_comesTo {h : PH} (hL : px_L h) {n : Nat} (hs1 : hI h 36 49 = nI n) (hn6 : n ≤ 6) : ∀ (k w : Nat) (x al : Int32), w + k = 6 → PW M_X12_comesTo (hn h) (hs h) (PMpost (some (.int (cmW (hI h 75) (hI h 73) (hI h 74) n k w x al))) h) 6 [(0, .ref 36), (1, .int x), (2, .int al), (3, .int (nI w))] [] h := by
  intro k
  induction k with
  | zero =>
    intro w x al hw
    have e : w = 6 := by omega
    subst e
    refine px_iload_n d_X12_comesTo_6 rfl rfl ?_
    refine px_bipush (v := 6) d_X12_comesTo_7 (by decide) ?_
    refine px_icmp_ge (tgt := 82) d_X12_comesTo_9 (by decide) (fun c9 => ?_) (fun c9 => (c9 (by decide)).elim)
    refine px_iconst (v := 0) d_X12_comesTo_82 (by decide) ?_
    refine px_istore_n d_X12_comesTo_83 rfl (by decide) ?_
    refine px_drop (lv' := [(0, .ref 36), (1, .int (slW (hI h 75) (hI h 73) 6 5 x 0)), (3, .int (nI 0))]) ⟨rfl, rfl, rfl, trivial⟩ ?_
    exact lpE_X12_comesTo hL hs1 hn6 n 0 (by omega)
  | succ k ih =>
    intro w x al hw
    refine px_iload_n d_X12_comesTo_6 rfl rfl ?_
    refine px_bipush (v := 6) d_X12_comesTo_7 (by decide) ?_
    refine px_icmp_ge (tgt := 82) d_X12_comesTo_9 (by decide) (fun c9 => absurd c9 (nI_ge (b := 6) (by omega) (by decide))) (fun c9 => ?_)
    refine px_iload_n d_X12_comesTo_12 rfl rfl ?_
    refine px_aload_n d_X12_comesTo_13 rfl rfl ?_
    refine px_getR d_X12_comesTo_14 fl_X12_141 (by decide) (so36 hL) (sr36_51 hL) ?_
    refine px_iload_n d_X12_comesTo_17 rfl rfl ?_
    refine px_iald d_X12_comesTo_18 (sa74 hL) rfl (by omega) ?_
    refine px_iadd d_X12_comesTo_19 ?_
    refine px_istore_n d_X12_comesTo_20 rfl (by decide) ?_
    refine px_iconst (v := 0) d_X12_comesTo_21 (by decide) ?_
    refine px_istore d_X12_comesTo_22 (by decide) ?_
    refine px_drop (lv' := [(0, .ref 36), (1, .int (slW (hI h 75) (hI h 73) (nI w) w x 0)), (2, .int (al + hI h 74 w)), (3, .int (nI w)), (4, .int (nI 0))]) ⟨rfl, rfl, rfl, rfl, rfl, trivial⟩ ?_
    refine lpI_X12_comesTo hL hs1 hn6 (by omega) ?_ n 0 (by omega)
    refine px_iload_n d_X12_comesTo_69 rfl rfl ?_
    refine px_iload_n d_X12_comesTo_70 rfl rfl ?_
    refine px_icmp_ge (tgt := 76) d_X12_comesTo_71 (by decide) (fun c71 => ?_) (fun c71 => ?_)
    · refine px_inc1 d_X12_comesTo_76 rfl (by decide) ?_
      refine px_goto (tgt := 6) d_X12_comesTo_79 (by decide) ?_
      rw [show cmW (hI h 75) (hI h 73) (hI h 74) n (k + 1) w x al = cmW (hI h 75) (hI h 73) (hI h 74) n k (w + 1) (slW (hI h 75) (hI h 73) (nI w) w x n) (al + hI h 74 w) from if_pos c71]
      refine px_drop (lv' := [(0, .ref 36), (1, .int (slW (hI h 75) (hI h 73) (nI w) w x n)), (2, .int (al + hI h 74 w)), (3, .int (nI (w + 1)))]) ⟨rfl, rfl, rfl, px_si (nI_s1 _), trivial⟩ ?_
      exact ih (w + 1) _ _ (by omega)
    · refine px_iconst (v := (-1)) d_X12_comesTo_74 (by decide) ?_
      exact px_ireturn d_X12_comesTo_75 rfl rfl ⟨rfl, px_si (if_neg c71).symm, rfl⟩
theorem c_X12_comesTo {h : PH} (hL : px_L h) {n : Nat} (hs1 : hI h 36 49 = nI n) (hn6 : n ≤ 6) : PM M_X12_comesTo [.ref 36] h (some (.int (cmW (hI h 75) (hI h 73) (hI h 74) n 6 0 0 0))) h := by
  refine PM.of (by decide +kernel) (by decide +kernel) (Nat.le_refl _) (Nat.le_refl _) (Nat.le_of_ble_eq_true rfl) ?_
  refine px_iconst (v := 0) d_X12_comesTo_0 (by decide) ?_
  refine px_istore_n d_X12_comesTo_1 rfl (by decide) ?_
  refine px_iconst (v := 0) d_X12_comesTo_2 (by decide) ?_
  refine px_istore_n d_X12_comesTo_3 rfl (by decide) ?_
  refine px_iconst (v := 0) d_X12_comesTo_4 (by decide) ?_
  refine px_istore_n d_X12_comesTo_5 rfl (by decide) ?_
  refine px_drop (lv' := [(0, .ref 36), (1, .int 0), (2, .int 0), (3, .int (nI 0))]) ⟨rfl, rfl, rfl, rfl, trivial⟩ ?_
  exact lp_X12_comesTo hL hs1 hn6 6 0 0 0 (by omega)
