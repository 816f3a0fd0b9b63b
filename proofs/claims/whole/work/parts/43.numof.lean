/-- the number of the first line of a rule whose test holds: i, line, the judge -/
def nOf (F tk : Nat → Int32) (rule : Int32) : Nat → Nat → Nat → JS → Int32
  | 0, _, _, _ => -1
  | k + 1, i, line, J => if i = line then nOf F tk rule k (i + 1) line (jClear (0, J.2)) else
    if tk i = -18 then (if tk line = rule then (if jW J = 0 then nOf F tk rule k (i + 1) (i + 1) (jEnd J) else tk (line + 1)) else nOf F tk rule k (i + 1) (i + 1) J)
    else if tk line = rule then (if line + 2 < i then nOf F tk rule k (i + 1) line (jTake F J (tk i)) else nOf F tk rule k (i + 1) line J) else nOf F tk rule k (i + 1) line J
section NOF
variable {F tk : Nat → Int32} {rule : Int32} {k i line : Nat} {J : JS}
theorem nOf_a (h : i = line) : nOf F tk rule (k + 1) i line J = nOf F tk rule k (i + 1) line (jClear (0, J.2)) := if_pos h
theorem nOf_b0 (h : ¬ i = line) (h1 : tk i = -18) (h2 : ¬ tk line = rule) : nOf F tk rule (k + 1) i line J = nOf F tk rule k (i + 1) (i + 1) J := (if_neg h).trans ((if_pos h1).trans (if_neg h2))
theorem nOf_b1 (h : ¬ i = line) (h1 : tk i = -18) (h2 : tk line = rule) (h3 : jW J = 0) : nOf F tk rule (k + 1) i line J = nOf F tk rule k (i + 1) (i + 1) (jEnd J) := (if_neg h).trans ((if_pos h1).trans ((if_pos h2).trans (if_pos h3)))
theorem nOf_b2 (h : ¬ i = line) (h1 : tk i = -18) (h2 : tk line = rule) (h3 : ¬ jW J = 0) : nOf F tk rule (k + 1) i line J = tk (line + 1) := (if_neg h).trans ((if_pos h1).trans ((if_pos h2).trans (if_neg h3)))
theorem nOf_c0 (h : ¬ i = line) (h1 : ¬ tk i = -18) (h2 : ¬ tk line = rule) : nOf F tk rule (k + 1) i line J = nOf F tk rule k (i + 1) line J := (if_neg h).trans ((if_neg h1).trans (if_neg h2))
theorem nOf_c1 (h : ¬ i = line) (h1 : ¬ tk i = -18) (h2 : tk line = rule) (h3 : ¬ line + 2 < i) : nOf F tk rule (k + 1) i line J = nOf F tk rule k (i + 1) line J := (if_neg h).trans ((if_neg h1).trans ((if_pos h2).trans (if_neg h3)))
theorem nOf_c2 (h : ¬ i = line) (h1 : ¬ tk i = -18) (h2 : tk line = rule) (h3 : line + 2 < i) : nOf F tk rule (k + 1) i line J = nOf F tk rule k (i + 1) line (jTake F J (tk i)) := (if_neg h).trans ((if_neg h1).trans ((if_pos h2).trans (if_pos h3)))
end NOF
def jQ (h : PH) (v : Int32) : Option Value → PH → Prop := fun r h' => r = some (.int v) ∧ ∃ J : JS, h' = setJ h J
theorem lp_X5_numberOf {h : PH} (hL : px_L h) {tc len : Nat} (ht : px_ar h tc 20 len) (h78 : px_NS ≤ tc) {rule : Int32} : ∀ (k i line : Nat) (J : JS), i + k = len → line ≤ i → (¬ i = line → J.1 < 6) → PW M_X5_numberOf (hn h) (hs h) (PXpost h 0 0 (jQ h (nOf (hI h 14) (hI h tc) rule k i line J))) 5 [(0, .ref 14), (1, .ref tc), (2, .int rule), (3, .int (nI (line))), (4, .int (nI (i)))] [] (setJ h J) := by
  have h78b : 78 ≤ tc := h78
  have hlen := ht.2.2
  intro k
  induction k with
  | zero =>
    intro i line J hi hli hJ
    have e : i = len := by omega
    rw [e]
    refine px_iload d_X5_numberOf_5 rfl ?_
    refine px_aload_n d_X5_numberOf_7 rfl rfl ?_
    refine px_alen d_X5_numberOf_8 ht (by decide) (by decide) ?_
    refine px_icmp_ge (tgt := 106) d_X5_numberOf_9 (by decide) (fun c9 => ?_) (fun c9 => (c9 (nI_le (by omega) (by omega))).elim)
    refine px_iconst (v := (-1)) d_X5_numberOf_106 (by decide) ?_
    exact px_ireturn d_X5_numberOf_107 rfl rfl ⟨rfl, ⟨rfl, _, rfl⟩, rfl, rfl⟩
  | succ k ih =>
    intro i line J hi hli hJ
    obtain ⟨L, s, g, l, r, t, w⟩ := J
    refine px_iload d_X5_numberOf_5 rfl ?_
    refine px_aload_n d_X5_numberOf_7 rfl rfl ?_
    refine px_alen d_X5_numberOf_8 ht (by decide) (by decide) ?_
    refine px_icmp_ge (tgt := 106) d_X5_numberOf_9 (by decide) (fun c9 => absurd c9 (nI_ge (by omega) (by omega))) (fun c9 => ?_)
    refine px_aload_n d_X5_numberOf_12 rfl rfl ?_
    refine px_iload_n d_X5_numberOf_13 rfl rfl ?_
    refine px_iald d_X5_numberOf_14 ht rfl (by omega) ?_
    refine px_val (y := hI h tc line) (congrFun (setJ_I (by omega) (by omega) (by omega) (by omega) (by omega) (by omega) (by omega)) _) ?_
    refine px_iload_n d_X5_numberOf_15 rfl rfl ?_
    refine px_icmp_ne (tgt := 23) d_X5_numberOf_16 (by decide) (fun c16 => ?_) (fun c16 => ?_)
    · refine px_iconst (v := 0) d_X5_numberOf_23 (by decide) ?_
      refine px_istore d_X5_numberOf_24 (by decide) ?_
      refine px_iload d_X5_numberOf_26 rfl ?_
      refine px_iload_n d_X5_numberOf_28 rfl rfl ?_
      refine px_icmp_ne (tgt := 44) d_X5_numberOf_29 (by decide) (fun c29 => ?_) (fun c29 => ?_)
      · refine px_aload_n d_X5_numberOf_44 rfl rfl ?_
        refine px_iload d_X5_numberOf_45 rfl ?_
        refine px_iald d_X5_numberOf_47 ht rfl (by omega) ?_
        refine px_val (y := hI h tc i) (congrFun (setJ_I (by omega) (by omega) (by omega) (by omega) (by omega) (by omega) (by omega)) _) ?_
        refine px_bipush (v := (-18)) d_X5_numberOf_48 (by decide) ?_
        refine px_icmp_ne (tgt := 79) d_X5_numberOf_50 (by decide) (fun c50 => ?_) (fun c50 => ?_)
        · refine px_iload d_X5_numberOf_79 rfl ?_
          refine px_if_eq (tgt := 100) d_X5_numberOf_81 (by decide) (fun c81 => ?_) (fun c81 => (by first | exact absurd c81 (by decide) | exact (c81 (by decide)).elim))
          refine px_inc1 d_X5_numberOf_100 rfl (by decide) ?_
          refine px_goto (tgt := 5) d_X5_numberOf_103 (by decide) ?_
          first
            | (rw [nOf_c0 (fun q => c29 (by rw [q])) c50 c16]
               refine px_drop (lv' := [(0, .ref 14), (1, .ref tc), (2, .int rule), (3, .int (nI (line))), (4, .int (nI (i + 1)))]) ⟨rfl, rfl, rfl, rfl, px_si (nI_s1 _), trivial⟩ ?_
               exact ih (i + 1) line (L, s, g, l, r, t, w) (by omega) (by omega) (fun _ => hJ (fun q => c29 (by rw [q]))))
            | (rw [nOf_c1 (fun q => c29 (by rw [q])) c50 c16 (fun q => absurd c89 (nI_ge q (by omega)))]
               refine px_drop (lv' := [(0, .ref 14), (1, .ref tc), (2, .int rule), (3, .int (nI (line))), (4, .int (nI (i + 1)))]) ⟨rfl, rfl, rfl, rfl, px_si (nI_s1 _), trivial⟩ ?_
               exact ih (i + 1) line (L, s, g, l, r, t, w) (by omega) (by omega) (fun _ => hJ (fun q => c29 (by rw [q]))))
            | (rw [nOf_c2 (fun q => c29 (by rw [q])) c50 c16 (Nat.not_le.mp fun q => c89 (nI_le q (by omega)))]
               refine px_drop (lv' := [(0, .ref 14), (1, .ref tc), (2, .int rule), (3, .int (nI (line))), (4, .int (nI (i + 1)))]) ⟨rfl, rfl, rfl, rfl, px_si (nI_s1 _), trivial⟩ ?_
               exact ih (i + 1) line (jTake (hI h 14) (L, s, g, l, r, t, w) (hI h tc i)) (by omega) (by omega) (fun _ => jTake_lt (hJ (fun q => c29 (by rw [q])))))
        · refine px_iload d_X5_numberOf_53 rfl ?_
          refine px_if_eq (tgt := 71) d_X5_numberOf_55 (by decide) (fun c55 => ?_) (fun c55 => (by first | exact absurd c55 (by decide) | exact (c55 (by decide)).elim))
          refine px_iload d_X5_numberOf_71 rfl ?_
          refine px_iconst (v := 1) d_X5_numberOf_73 (by decide) ?_
          refine px_iadd d_X5_numberOf_74 ?_
          refine px_istore_n d_X5_numberOf_75 rfl (by decide) ?_
          refine px_goto (tgt := 100) d_X5_numberOf_76 (by decide) ?_
          refine px_inc1 d_X5_numberOf_100 rfl (by decide) ?_
          refine px_goto (tgt := 5) d_X5_numberOf_103 (by decide) ?_
          first
            | (rw [nOf_b0 (fun q => c29 (by rw [q])) c50 c16]
               refine px_drop (lv' := [(0, .ref 14), (1, .ref tc), (2, .int rule), (3, .int (nI (i + 1))), (4, .int (nI (i + 1)))]) ⟨rfl, rfl, rfl, px_si (nI_s1 _), px_si (nI_s1 _), trivial⟩ ?_
               exact ih (i + 1) (i + 1) (L, s, g, l, r, t, w) (by omega) (by omega) (fun q => absurd rfl q))
            | (rw [nOf_b1 (fun q => c29 (by rw [q])) c50 c16 c62]
               refine px_drop (lv' := [(0, .ref 14), (1, .ref tc), (2, .int rule), (3, .int (nI (i + 1))), (4, .int (nI (i + 1)))]) ⟨rfl, rfl, rfl, px_si (nI_s1 _), px_si (nI_s1 _), trivial⟩ ?_
               exact ih (i + 1) (i + 1) (jEnd (L, s, g, l, r, t, w)) (by omega) (by omega) (fun q => absurd rfl q))
      · refine px_aload_n d_X5_numberOf_32 rfl rfl ?_
        refine px_iconst (v := 0) d_X5_numberOf_33 (by decide) ?_
        refine px_putI d_X5_numberOf_34 fl_X5_52 rfl (so14 hL) ?_
        refine px_heap (h2 := setJ h (0, s, g, l, r, t, w)) (sJ14 ..) ?_
        refine px_aload_n d_X5_numberOf_37 rfl rfl ?_
        refine px_callV (c_X5_clearLevel (L := 0) hL (by decide)) d_X5_numberOf_38 lk_X5_55 ok_X5_clearLevel ov_X5_clearLevel (so14 hL) (by decide) rfl rfl (Nat.le_of_ble_eq_true rfl) (by decide) ⟨Nat.le_refl (hn h), Nat.le_refl (hs h)⟩ ?_
        refine px_goto (tgt := 100) d_X5_numberOf_41 (by decide) ?_
        refine px_inc1 d_X5_numberOf_100 rfl (by decide) ?_
        refine px_goto (tgt := 5) d_X5_numberOf_103 (by decide) ?_
        rw [nOf_a ((nI_eq (by omega) (by omega)).mp c29)]
        refine px_drop (lv' := [(0, .ref 14), (1, .ref tc), (2, .int rule), (3, .int (nI (line))), (4, .int (nI (i + 1)))]) ⟨rfl, rfl, rfl, rfl, px_si (nI_s1 _), trivial⟩ ?_
        exact ih (i + 1) line (jClear (0, s, g, l, r, t, w)) (by omega) (by omega) (fun _ => (by decide : 0 < 6))
    · refine px_iconst (v := 1) d_X5_numberOf_19 (by decide) ?_
      refine px_goto (tgt := 24) d_X5_numberOf_20 (by decide) ?_
      refine px_istore d_X5_numberOf_24 (by decide) ?_
      refine px_iload d_X5_numberOf_26 rfl ?_
      refine px_iload_n d_X5_numberOf_28 rfl rfl ?_
      refine px_icmp_ne (tgt := 44) d_X5_numberOf_29 (by decide) (fun c29 => ?_) (fun c29 => ?_)
      · refine px_aload_n d_X5_numberOf_44 rfl rfl ?_
        refine px_iload d_X5_numberOf_45 rfl ?_
        refine px_iald d_X5_numberOf_47 ht rfl (by omega) ?_
        refine px_val (y := hI h tc i) (congrFun (setJ_I (by omega) (by omega) (by omega) (by omega) (by omega) (by omega) (by omega)) _) ?_
        refine px_bipush (v := (-18)) d_X5_numberOf_48 (by decide) ?_
        refine px_icmp_ne (tgt := 79) d_X5_numberOf_50 (by decide) (fun c50 => ?_) (fun c50 => ?_)
        · refine px_iload d_X5_numberOf_79 rfl ?_
          refine px_if_eq (tgt := 100) d_X5_numberOf_81 (by decide) (fun c81 => (by first | exact absurd c81 (by decide) | exact (c81 (by decide)).elim)) (fun c81 => ?_)
          refine px_iload d_X5_numberOf_84 rfl ?_
          refine px_iload_n d_X5_numberOf_86 rfl rfl ?_
          refine px_iconst (v := 2) d_X5_numberOf_87 (by decide) ?_
          refine px_iadd d_X5_numberOf_88 ?_
          refine px_val (y := nI (line + 2)) (nI_add line 2) ?_
          refine px_icmp_le (tgt := 100) d_X5_numberOf_89 (by decide) (fun c89 => ?_) (fun c89 => ?_)
          · refine px_inc1 d_X5_numberOf_100 rfl (by decide) ?_
            refine px_goto (tgt := 5) d_X5_numberOf_103 (by decide) ?_
            first
              | (rw [nOf_c0 (fun q => c29 (by rw [q])) c50 c16]
                 refine px_drop (lv' := [(0, .ref 14), (1, .ref tc), (2, .int rule), (3, .int (nI (line))), (4, .int (nI (i + 1)))]) ⟨rfl, rfl, rfl, rfl, px_si (nI_s1 _), trivial⟩ ?_
                 exact ih (i + 1) line (L, s, g, l, r, t, w) (by omega) (by omega) (fun _ => hJ (fun q => c29 (by rw [q]))))
              | (rw [nOf_c1 (fun q => c29 (by rw [q])) c50 c16 (fun q => absurd c89 (nI_ge q (by omega)))]
                 refine px_drop (lv' := [(0, .ref 14), (1, .ref tc), (2, .int rule), (3, .int (nI (line))), (4, .int (nI (i + 1)))]) ⟨rfl, rfl, rfl, rfl, px_si (nI_s1 _), trivial⟩ ?_
                 exact ih (i + 1) line (L, s, g, l, r, t, w) (by omega) (by omega) (fun _ => hJ (fun q => c29 (by rw [q]))))
              | (rw [nOf_c2 (fun q => c29 (by rw [q])) c50 c16 (Nat.not_le.mp fun q => c89 (nI_le q (by omega)))]
                 refine px_drop (lv' := [(0, .ref 14), (1, .ref tc), (2, .int rule), (3, .int (nI (line))), (4, .int (nI (i + 1)))]) ⟨rfl, rfl, rfl, rfl, px_si (nI_s1 _), trivial⟩ ?_
                 exact ih (i + 1) line (jTake (hI h 14) (L, s, g, l, r, t, w) (hI h tc i)) (by omega) (by omega) (fun _ => jTake_lt (hJ (fun q => c29 (by rw [q])))))
          · refine px_aload_n d_X5_numberOf_92 rfl rfl ?_
            refine px_aload_n d_X5_numberOf_93 rfl rfl ?_
            refine px_iload d_X5_numberOf_94 rfl ?_
            refine px_iald d_X5_numberOf_96 ht rfl (by omega) ?_
            refine px_val (y := hI h tc i) (congrFun (setJ_I (by omega) (by omega) (by omega) (by omega) (by omega) (by omega) (by omega)) _) ?_
            refine px_callV (c_X5_take hL (hJ (fun q => c29 (by rw [q])))) d_X5_numberOf_97 lk_X5_62 ok_X5_take ov_X5_take (so14 hL) (by decide) rfl rfl (Nat.le_of_ble_eq_true rfl) (by decide) ⟨Nat.le_refl (hn h), Nat.le_refl (hs h)⟩ ?_
            refine px_inc1 d_X5_numberOf_100 rfl (by decide) ?_
            refine px_goto (tgt := 5) d_X5_numberOf_103 (by decide) ?_
            first
              | (rw [nOf_c0 (fun q => c29 (by rw [q])) c50 c16]
                 refine px_drop (lv' := [(0, .ref 14), (1, .ref tc), (2, .int rule), (3, .int (nI (line))), (4, .int (nI (i + 1)))]) ⟨rfl, rfl, rfl, rfl, px_si (nI_s1 _), trivial⟩ ?_
                 exact ih (i + 1) line (L, s, g, l, r, t, w) (by omega) (by omega) (fun _ => hJ (fun q => c29 (by rw [q]))))
              | (rw [nOf_c1 (fun q => c29 (by rw [q])) c50 c16 (fun q => absurd c89 (nI_ge q (by omega)))]
                 refine px_drop (lv' := [(0, .ref 14), (1, .ref tc), (2, .int rule), (3, .int (nI (line))), (4, .int (nI (i + 1)))]) ⟨rfl, rfl, rfl, rfl, px_si (nI_s1 _), trivial⟩ ?_
                 exact ih (i + 1) line (L, s, g, l, r, t, w) (by omega) (by omega) (fun _ => hJ (fun q => c29 (by rw [q]))))
              | (rw [nOf_c2 (fun q => c29 (by rw [q])) c50 c16 (Nat.not_le.mp fun q => c89 (nI_le q (by omega)))]
                 refine px_drop (lv' := [(0, .ref 14), (1, .ref tc), (2, .int rule), (3, .int (nI (line))), (4, .int (nI (i + 1)))]) ⟨rfl, rfl, rfl, rfl, px_si (nI_s1 _), trivial⟩ ?_
                 exact ih (i + 1) line (jTake (hI h 14) (L, s, g, l, r, t, w) (hI h tc i)) (by omega) (by omega) (fun _ => jTake_lt (hJ (fun q => c29 (by rw [q])))))
        · refine px_iload d_X5_numberOf_53 rfl ?_
          refine px_if_eq (tgt := 71) d_X5_numberOf_55 (by decide) (fun c55 => (by first | exact absurd c55 (by decide) | exact (c55 (by decide)).elim)) (fun c55 => ?_)
          refine px_aload_n d_X5_numberOf_58 rfl rfl ?_
          refine px_callV (c_X5_endTest hL (hJ (fun q => c29 (by rw [q])))) d_X5_numberOf_59 lk_X5_58 ok_X5_endTest ov_X5_endTest (so14 hL) (by decide) rfl rfl (Nat.le_of_ble_eq_true rfl) (by decide) ⟨Nat.le_refl (hn h), Nat.le_refl (hs h)⟩ ?_
          refine px_if_eq (tgt := 71) d_X5_numberOf_62 (by decide) (fun c62 => ?_) (fun c62 => ?_)
          · refine px_iload d_X5_numberOf_71 rfl ?_
            refine px_iconst (v := 1) d_X5_numberOf_73 (by decide) ?_
            refine px_iadd d_X5_numberOf_74 ?_
            refine px_istore_n d_X5_numberOf_75 rfl (by decide) ?_
            refine px_goto (tgt := 100) d_X5_numberOf_76 (by decide) ?_
            refine px_inc1 d_X5_numberOf_100 rfl (by decide) ?_
            refine px_goto (tgt := 5) d_X5_numberOf_103 (by decide) ?_
            first
              | (rw [nOf_b0 (fun q => c29 (by rw [q])) c50 c16]
                 refine px_drop (lv' := [(0, .ref 14), (1, .ref tc), (2, .int rule), (3, .int (nI (i + 1))), (4, .int (nI (i + 1)))]) ⟨rfl, rfl, rfl, px_si (nI_s1 _), px_si (nI_s1 _), trivial⟩ ?_
                 exact ih (i + 1) (i + 1) (L, s, g, l, r, t, w) (by omega) (by omega) (fun q => absurd rfl q))
              | (rw [nOf_b1 (fun q => c29 (by rw [q])) c50 c16 c62]
                 refine px_drop (lv' := [(0, .ref 14), (1, .ref tc), (2, .int rule), (3, .int (nI (i + 1))), (4, .int (nI (i + 1)))]) ⟨rfl, rfl, rfl, px_si (nI_s1 _), px_si (nI_s1 _), trivial⟩ ?_
                 exact ih (i + 1) (i + 1) (jEnd (L, s, g, l, r, t, w)) (by omega) (by omega) (fun q => absurd rfl q))
          · refine px_aload_n d_X5_numberOf_65 rfl rfl ?_
            refine px_iload_n d_X5_numberOf_66 rfl rfl ?_
            refine px_iconst (v := 1) d_X5_numberOf_67 (by decide) ?_
            refine px_iadd d_X5_numberOf_68 ?_
            refine px_val (y := nI (line + 1)) (nI_s1 _) ?_
            refine px_iald d_X5_numberOf_69 ht rfl (by have q9 : ¬ i = line := fun q => c29 (by rw [q]); omega) ?_
            refine px_val (y := hI h tc (line + 1)) (congrFun (setJ_I (by omega) (by omega) (by omega) (by omega) (by omega) (by omega) (by omega)) _) ?_
            exact px_ireturn d_X5_numberOf_70 rfl rfl (by rw [nOf_b2 (fun q => c29 (by rw [q])) c50 c16 c62]; exact ⟨rfl, ⟨rfl, _, rfl⟩, rfl, rfl⟩)
      · refine px_aload_n d_X5_numberOf_32 rfl rfl ?_
        refine px_iconst (v := 0) d_X5_numberOf_33 (by decide) ?_
        refine px_putI d_X5_numberOf_34 fl_X5_52 rfl (so14 hL) ?_
        refine px_heap (h2 := setJ h (0, s, g, l, r, t, w)) (sJ14 ..) ?_
        refine px_aload_n d_X5_numberOf_37 rfl rfl ?_
        refine px_callV (c_X5_clearLevel (L := 0) hL (by decide)) d_X5_numberOf_38 lk_X5_55 ok_X5_clearLevel ov_X5_clearLevel (so14 hL) (by decide) rfl rfl (Nat.le_of_ble_eq_true rfl) (by decide) ⟨Nat.le_refl (hn h), Nat.le_refl (hs h)⟩ ?_
        refine px_goto (tgt := 100) d_X5_numberOf_41 (by decide) ?_
        refine px_inc1 d_X5_numberOf_100 rfl (by decide) ?_
        refine px_goto (tgt := 5) d_X5_numberOf_103 (by decide) ?_
        rw [nOf_a ((nI_eq (by omega) (by omega)).mp c29)]
        refine px_drop (lv' := [(0, .ref 14), (1, .ref tc), (2, .int rule), (3, .int (nI (line))), (4, .int (nI (i + 1)))]) ⟨rfl, rfl, rfl, rfl, px_si (nI_s1 _), trivial⟩ ?_
        exact ih (i + 1) line (jClear (0, s, g, l, r, t, w)) (by omega) (by omega) (fun _ => (by decide : 0 < 6))
theorem ofU (x : Int32) : ∃ n : Nat, x = nI n := ⟨x.toUInt32.toNat, by
  apply Int32.toBitVec_inj.mp
  show x.toBitVec = (Int32.ofNat x.toUInt32.toNat).toBitVec
  rw [Int32.toBitVec_ofNat']
  show x.toBitVec = BitVec.ofNat 32 x.toBitVec.toNat
  rw [BitVec.ofNat_toNat, BitVec.setWidth_eq]⟩
/-- the judge's scratch as it lies in the heap -/
theorem setJ_of (h : PH) : ∃ J : JS, setJ h J = h := by
  obtain ⟨n, hn⟩ := ofU (hI h 14 5)
  exact ⟨_, setJ_self hn⟩
theorem jClear_0 (J K : JS) : True := trivial
theorem nOf_J0 {F tk : Nat → Int32} {rule : Int32} : ∀ {k : Nat} {J : JS}, nOf F tk rule k 0 0 J = nOf F tk rule k 0 0 J := rfl
theorem x_X5_numberOf {h : PH} (hL : px_L h) {tc len : Nat} (ht : px_ar h tc 20 len) (h78 : px_NS ≤ tc) {rule : Int32} {J : JS} (hJ : setJ h J = h) : PX M_X5_numberOf [.ref 14, .ref tc, .int rule] h 0 0 (jQ h (nOf (hI h 14) (hI h tc) rule len 0 0 J)) := by
  refine PX.of (by decide +kernel) (by decide +kernel) (Nat.le_of_ble_eq_true rfl) ?_
  refine px_iconst (v := 0) d_X5_numberOf_0 (by decide) ?_
  refine px_istore_n d_X5_numberOf_1 rfl (by decide) ?_
  refine px_iconst (v := 0) d_X5_numberOf_2 (by decide) ?_
  refine px_istore d_X5_numberOf_3 (by decide) ?_
  rw [show (PW M_X5_numberOf (hn h + 0) (hs h + 0) : _) = PW M_X5_numberOf (hn h) (hs h) from rfl]
  refine px_heap (h2 := setJ h J) hJ.symm ?_
  exact lp_X5_numberOf hL ht h78 len 0 0 J (by omega) (by omega) (fun q => absurd rfl q)
