def tkr (tk o : Nat → Int32) (i : Nat) : Nat → Int32 := fun j => if j < i then tk j else o j
def flB (h : PH) (tk : Nat → Int32) (i : Nat) : PH := pI (rI h 10 (tkr tk (hI h 10) i)) 9 1 (nI i)
def flH (h : PH) (tk : Nat → Int32) (i p a : Nat) (g : GS) : PH := setG (tpS (flB h tk i) p a) g
theorem flH_tp (h : PH) (tk : Nat → Int32) (i p a p2 a2 : Nat) (g : GS) : tpS (flH h tk i p a g) p2 a2 = flH h tk i p2 a2 g := by
  refine PH.ext (fun x j => ?_) rfl
  unfold flH setG tpS
  simp only [gI, hI_rI]
  by_cases h1 : x = 11
  · simp [gI, hI_rI, h1]
  by_cases h2 : x = 9
  · simp [gI, hI_rI, h1, h2]
  by_cases h3 : x = 7
  · by_cases j1 : j = 2 <;> by_cases j2 : j = 3 <;> simp [gI, hI_rI, h1, h2, h3, j1, j2]
  simp [gI, hI_rI, h1, h2, h3]
theorem tkr_s (tk o : Nat → Int32) (i : Nat) : (fun j => if j = i then tk i else tkr tk o i j) = tkr tk o (i + 1) := by
  funext j
  unfold tkr
  by_cases h1 : j = i
  · rw [if_pos h1, if_pos (by omega), h1]
  · rw [if_neg h1]
    by_cases h2 : j < i
    · rw [if_pos h2, if_pos (by omega)]
    · rw [if_neg h2, if_neg (by omega)]
theorem flH_s (h : PH) (tk : Nat → Int32) (i p a : Nat) (g : GS) : pI (pI (flH h tk i p a g) 10 i (tk i)) 9 1 (nI (i + 1)) = flH h tk (i + 1) p a g := by
  refine PH.ext (fun x j => ?_) rfl
  unfold flH flB setG tpS
  rw [← tkr_s]
  simp only [gI, hI_rI]
  by_cases h1 : x = 11
  · simp [gI, hI_rI, h1]
  by_cases h2 : x = 9
  · by_cases j1 : j = 1 <;> simp [gI, hI_rI, h1, h2, j1]
  by_cases h4 : x = 10
  · simp [gI, hI_rI, h4]
  by_cases h3 : x = 7
  · simp [gI, hI_rI, h1, h2, h3, h4]
  simp [gI, hI_rI, h1, h2, h3, h4]
theorem flH_0 {h : PH} {tk : Nat → Int32} {p : Nat} (hp : hI h 7 2 = nI p) : pI (pI (pI (pI (pI h 7 3 0) 9 1 0) 9 3 0) 9 5 0) 9 2 0 = flH h tk 0 p 0 (0, 0, hI h 9 4, 0, hI h 11) := by
  have e0 : tkr tk (hI h 10) 0 = hI h 10 := funext fun j => if_neg (Nat.not_lt_zero j)
  refine PH.ext (fun x j => ?_) rfl
  unfold flH flB setG tpS
  rw [e0, rI_self]
  simp only [gI, hI_rI]
  by_cases h1 : x = 11
  · simp [gI, hI_rI, h1]
  by_cases h2 : x = 9
  · by_cases j1 : j = 2 <;> by_cases j2 : j = 3 <;> by_cases j3 : j = 4 <;> by_cases j4 : j = 5 <;> by_cases j5 : j = 1 <;> first | omega | (simp [gI, hI_rI, h1, h2, j1, j2, j3, j4, j5]; try rfl)
  by_cases h3 : x = 7
  · by_cases j1 : j = 2
    · simp [gI, hI_rI, h1, h2, h3, j1]
      exact hp
    by_cases j2 : j = 3
    · simp [gI, hI_rI, h1, h2, h3, j1, j2]
      try rfl
    simp [gI, hI_rI, h1, h2, h3, j1, j2]
  simp [gI, hI_rI, h1, h2, h3]
/-- the class's reading: the fault, and how many tokens were taken -/
def cFa (tk : Nat → Int32) (pl : Nat → Nat) : Nat → Nat → GS → Int32 × Nat
  | 0, i, g => (if g.1 = 0 then 0 else 9601, i)
  | k + 1, i, g => if g.1 = 0 ∧ tk i = -1 then (0, i) else if wrG g (tk i) = 0 then cFa tk pl k (i + 1) (stG g (tk i)) else (wrG g (tk i) + 16 * nI (pl i), i)
def tkI (S : Nat → Int32) (n i : Nat) : Int32 := tkT S n (pT S n i)
theorem aT_le (S : Nat → Int32) (n : Nat) : ∀ i, aT S n i ≤ n
  | 0 => Nat.zero_le _
  | i + 1 => by
    show enT S n (rnB S n (aT S n i)) ≤ n
    have h1 := rnB_le (S := S) (aT_le S n i)
    rcases Nat.lt_or_ge (rnB S n (aT S n i)) n with w | w
    · exact (enT_gt w).2
    · rw [show enT S n (rnB S n (aT S n i)) = rnB S n (aT S n i) from if_neg (by omega)]; exact h1.2
def faQ (h : PH) (tk : Nat → Int32) (v : Int32 × Nat) : Option Value → PH → Prop := fun r h' => r = some (.int v.1) ∧ ∃ (p a : Nat) (g : GS), h' = flH h tk v.2 p a g
theorem lp_X3_faultOf {h : PH} (hL : px_L h) {n : Nat} (hz : hI h 7 1 = nI n) (hn6 : n ≤ 600) : ∀ (k i p : Nat) (g : GS), i + k = 600 → g.2.2.2.1 ≤ 5 → PW M_X3_faultOf (hn h) (hs h) (PXpost h 0 0 (faQ h (tkI (hI h 8) n) (cFa (tkI (hI h 8) n) (pT (hI h 8) n) k i g))) 26 [(0, .ref 9), (1, .ref 7), (2, .int (nI (i)))] [] (flH h (tkI (hI h 8) n) i p (aT (hI h 8) n i) g) := by
  intro k
  induction k with
  | zero =>
    intro i p g hi hg
    have e : i = 600 := by omega
    subst e
    refine px_iload_n d_X3_faultOf_26 rfl rfl ?_
    refine px_sipush (v := 600) d_X3_faultOf_27 (by decide) ?_
    refine px_icmp_ge (tgt := 100) d_X3_faultOf_30 (by decide) (fun c30 => ?_) (fun c30 => (c30 (by decide)).elim)
    refine px_aload_n d_X3_faultOf_100 rfl rfl ?_
    refine px_getI d_X3_faultOf_101 fl_X3_34 rfl (so9 hL) ?_
    refine px_val (y := g.1) rfl ?_
    refine px_if_ne (tgt := 111) d_X3_faultOf_104 (by decide) (fun c104 => ?_) (fun c104 => ?_)
    · refine px_sipush (v := 9601) d_X3_faultOf_111 (by decide) ?_
      exact px_ireturn d_X3_faultOf_114 rfl rfl ⟨rfl, ⟨px_si (show _ = (if g.1 = 0 then (0 : Int32) else 9601) from by first | exact (if_pos c104).symm | exact (if_neg c104).symm), p, _, g, rfl⟩, rfl, rfl⟩
    · refine px_iconst (v := 0) d_X3_faultOf_107 (by decide) ?_
      refine px_goto (tgt := 114) d_X3_faultOf_108 (by decide) ?_
      exact px_ireturn d_X3_faultOf_114 rfl rfl ⟨rfl, ⟨px_si (show _ = (if g.1 = 0 then (0 : Int32) else 9601) from by first | exact (if_pos c104).symm | exact (if_neg c104).symm), p, _, g, rfl⟩, rfl, rfl⟩
  | succ k ih =>
    intro i p g hi hg
    have cN := c_X9_nextToken (h := flH h (tkI (hI h 8) n) i p (aT (hI h 8) n i) g) (n := n) (a := aT (hI h 8) n i) hL hz hn6 rfl (aT_le _ _ _)
    rw [show tpS (flH h (tkI (hI h 8) n) i p (aT (hI h 8) n i) g) (rnB (hI (flH h (tkI (hI h 8) n) i p (aT (hI h 8) n i) g) 8) n (aT (hI h 8) n i)) (enT (hI (flH h (tkI (hI h 8) n) i p (aT (hI h 8) n i) g) 8) n (rnB (hI (flH h (tkI (hI h 8) n) i p (aT (hI h 8) n i) g) 8) n (aT (hI h 8) n i))) = (flH h (tkI (hI h 8) n) i ((pT (hI h 8) n) i) (aT (hI h 8) n (i + 1)) g) from flH_tp ..] at cN
    refine px_iload_n d_X3_faultOf_26 rfl rfl ?_
    refine px_sipush (v := 600) d_X3_faultOf_27 (by decide) ?_
    refine px_icmp_ge (tgt := 100) d_X3_faultOf_30 (by decide) (fun c30 => absurd c30 (nI_ge (b := 600) (by omega) (by decide))) (fun c30 => ?_)
    refine px_aload_n d_X3_faultOf_33 rfl rfl ?_
    refine px_callV (cN) d_X3_faultOf_34 lk_X3_37 ok_X9_nextToken ov_X9_nextToken (so7 hL) (by decide) rfl rfl (Nat.le_of_ble_eq_true rfl) (by decide) ⟨Nat.le_refl (hn h), Nat.le_refl (hs h)⟩ ?_
    refine px_val (y := ((tkI (hI h 8) n) i)) rfl ?_
    refine px_istore_n d_X3_faultOf_37 rfl (by decide) ?_
    refine px_aload_n d_X3_faultOf_38 rfl rfl ?_
    refine px_getI d_X3_faultOf_39 fl_X3_34 rfl (so9 hL) ?_
    refine px_val (y := g.1) rfl ?_
    refine px_if_ne (tgt := 52) d_X3_faultOf_42 (by decide) (fun c42 => ?_) (fun c42 => ?_)
    · refine px_aload_n d_X3_faultOf_52 rfl rfl ?_
      refine px_iload_n d_X3_faultOf_53 rfl rfl ?_
      have hq : ¬ (g.1 = 0 ∧ ((tkI (hI h 8) n) i) = -1) := fun q => by first | exact c42 q.1 | exact c47 q.2
      obtain ⟨g1, g2, g3, g4, g5⟩ := g
      refine px_callV (c_X3_wrongness (h := tpS (flB h (tkI (hI h 8) n) i) ((pT (hI h 8) n) i) (aT (hI h 8) n (i + 1))) hL hg) d_X3_faultOf_54 lk_X3_41 ok_X3_wrongness ov_X3_wrongness (so9 hL) (by decide) rfl rfl (Nat.le_of_ble_eq_true rfl) (by decide) ⟨Nat.le_refl (hn h), Nat.le_refl (hs h)⟩ ?_
      refine px_istore d_X3_faultOf_57 (by decide) ?_
      refine px_iload d_X3_faultOf_59 rfl ?_
      refine px_if_eq (tgt := 75) d_X3_faultOf_61 (by decide) (fun c61 => ?_) (fun c61 => ?_)
      · refine px_aload_n d_X3_faultOf_75 rfl rfl ?_
        refine px_getR d_X3_faultOf_76 fl_X3_9 (by decide) (so9 hL) (sr9_0 hL) ?_
        refine px_iload_n d_X3_faultOf_79 rfl rfl ?_
        refine px_iload_n d_X3_faultOf_80 rfl rfl ?_
        refine px_iast d_X3_faultOf_81 (sa10 hL) rfl (by omega) ?_
        refine px_aload_n d_X3_faultOf_82 rfl rfl ?_
        refine px_iload_n d_X3_faultOf_83 rfl rfl ?_
        refine px_iconst (v := 1) d_X3_faultOf_84 (by decide) ?_
        refine px_iadd d_X3_faultOf_85 ?_
        refine px_val (y := nI (i + 1)) (nI_s1 i) ?_
        refine px_putI d_X3_faultOf_86 fl_X3_24 rfl (so9 hL) ?_
        refine px_heap (h2 := flH h (tkI (hI h 8) n) (i + 1) ((pT (hI h 8) n) i) (aT (hI h 8) n (i + 1)) (g1, g2, g3, g4, g5)) (flH_s ..) ?_
        refine px_aload_n d_X3_faultOf_89 rfl rfl ?_
        refine px_iload_n d_X3_faultOf_90 rfl rfl ?_
        refine px_callV (c_X3_step (h := tpS (flB h (tkI (hI h 8) n) (i + 1)) ((pT (hI h 8) n) i) (aT (hI h 8) n (i + 1))) hL hg) d_X3_faultOf_91 lk_X3_48 ok_X3_step ov_X3_step (so9 hL) (by decide) rfl rfl (Nat.le_of_ble_eq_true rfl) (by decide) ⟨Nat.le_refl (hn h), Nat.le_refl (hs h)⟩ ?_
        refine px_inc1 d_X3_faultOf_94 rfl (by decide) ?_
        refine px_goto (tgt := 26) d_X3_faultOf_97 (by decide) ?_
        rw [show cFa (tkI (hI h 8) n) (pT (hI h 8) n) (k + 1) i (g1, g2, g3, g4, g5) = cFa (tkI (hI h 8) n) (pT (hI h 8) n) k (i + 1) (stG (g1, g2, g3, g4, g5) ((tkI (hI h 8) n) i)) from (if_neg hq).trans (if_pos c61)]
        refine px_drop (lv' := [(0, .ref 9), (1, .ref 7), (2, .int (nI (i + 1)))]) ⟨rfl, rfl, px_si (nI_s1 _), trivial⟩ ?_
        exact ih (i + 1) _ _ (by omega) (stG_dp hg)
      · refine px_iload d_X3_faultOf_64 rfl ?_
        refine px_bipush (v := 16) d_X3_faultOf_66 (by decide) ?_
        refine px_aload_n d_X3_faultOf_68 rfl rfl ?_
        refine px_getI d_X3_faultOf_69 fl_X3_45 rfl (so7 hL) ?_
        refine px_val (y := nI ((pT (hI h 8) n) i)) rfl ?_
        refine px_imul d_X3_faultOf_72 ?_
        refine px_iadd d_X3_faultOf_73 ?_
        exact px_ireturn d_X3_faultOf_74 rfl rfl (have eF : cFa (tkI (hI h 8) n) (pT (hI h 8) n) (k + 1) i (g1, g2, g3, g4, g5) = (wrG (g1, g2, g3, g4, g5) ((tkI (hI h 8) n) i) + 16 * nI ((pT (hI h 8) n) i), i) := (if_neg hq).trans (if_neg c61)
  ⟨rfl, ⟨px_si (by rw [eF]), (pT (hI h 8) n) i, aT (hI h 8) n (i + 1), (g1, g2, g3, g4, g5), by rw [eF]; rfl⟩, rfl, rfl⟩)
    · refine px_iload_n d_X3_faultOf_45 rfl rfl ?_
      refine px_iconst (v := (-1)) d_X3_faultOf_46 (by decide) ?_
      refine px_icmp_ne (tgt := 52) d_X3_faultOf_47 (by decide) (fun c47 => ?_) (fun c47 => ?_)
      · refine px_aload_n d_X3_faultOf_52 rfl rfl ?_
        refine px_iload_n d_X3_faultOf_53 rfl rfl ?_
        have hq : ¬ (g.1 = 0 ∧ ((tkI (hI h 8) n) i) = -1) := fun q => by first | exact c42 q.1 | exact c47 q.2
        obtain ⟨g1, g2, g3, g4, g5⟩ := g
        refine px_callV (c_X3_wrongness (h := tpS (flB h (tkI (hI h 8) n) i) ((pT (hI h 8) n) i) (aT (hI h 8) n (i + 1))) hL hg) d_X3_faultOf_54 lk_X3_41 ok_X3_wrongness ov_X3_wrongness (so9 hL) (by decide) rfl rfl (Nat.le_of_ble_eq_true rfl) (by decide) ⟨Nat.le_refl (hn h), Nat.le_refl (hs h)⟩ ?_
        refine px_istore d_X3_faultOf_57 (by decide) ?_
        refine px_iload d_X3_faultOf_59 rfl ?_
        refine px_if_eq (tgt := 75) d_X3_faultOf_61 (by decide) (fun c61 => ?_) (fun c61 => ?_)
        · refine px_aload_n d_X3_faultOf_75 rfl rfl ?_
          refine px_getR d_X3_faultOf_76 fl_X3_9 (by decide) (so9 hL) (sr9_0 hL) ?_
          refine px_iload_n d_X3_faultOf_79 rfl rfl ?_
          refine px_iload_n d_X3_faultOf_80 rfl rfl ?_
          refine px_iast d_X3_faultOf_81 (sa10 hL) rfl (by omega) ?_
          refine px_aload_n d_X3_faultOf_82 rfl rfl ?_
          refine px_iload_n d_X3_faultOf_83 rfl rfl ?_
          refine px_iconst (v := 1) d_X3_faultOf_84 (by decide) ?_
          refine px_iadd d_X3_faultOf_85 ?_
          refine px_val (y := nI (i + 1)) (nI_s1 i) ?_
          refine px_putI d_X3_faultOf_86 fl_X3_24 rfl (so9 hL) ?_
          refine px_heap (h2 := flH h (tkI (hI h 8) n) (i + 1) ((pT (hI h 8) n) i) (aT (hI h 8) n (i + 1)) (g1, g2, g3, g4, g5)) (flH_s ..) ?_
          refine px_aload_n d_X3_faultOf_89 rfl rfl ?_
          refine px_iload_n d_X3_faultOf_90 rfl rfl ?_
          refine px_callV (c_X3_step (h := tpS (flB h (tkI (hI h 8) n) (i + 1)) ((pT (hI h 8) n) i) (aT (hI h 8) n (i + 1))) hL hg) d_X3_faultOf_91 lk_X3_48 ok_X3_step ov_X3_step (so9 hL) (by decide) rfl rfl (Nat.le_of_ble_eq_true rfl) (by decide) ⟨Nat.le_refl (hn h), Nat.le_refl (hs h)⟩ ?_
          refine px_inc1 d_X3_faultOf_94 rfl (by decide) ?_
          refine px_goto (tgt := 26) d_X3_faultOf_97 (by decide) ?_
          rw [show cFa (tkI (hI h 8) n) (pT (hI h 8) n) (k + 1) i (g1, g2, g3, g4, g5) = cFa (tkI (hI h 8) n) (pT (hI h 8) n) k (i + 1) (stG (g1, g2, g3, g4, g5) ((tkI (hI h 8) n) i)) from (if_neg hq).trans (if_pos c61)]
          refine px_drop (lv' := [(0, .ref 9), (1, .ref 7), (2, .int (nI (i + 1)))]) ⟨rfl, rfl, px_si (nI_s1 _), trivial⟩ ?_
          exact ih (i + 1) _ _ (by omega) (stG_dp hg)
        · refine px_iload d_X3_faultOf_64 rfl ?_
          refine px_bipush (v := 16) d_X3_faultOf_66 (by decide) ?_
          refine px_aload_n d_X3_faultOf_68 rfl rfl ?_
          refine px_getI d_X3_faultOf_69 fl_X3_45 rfl (so7 hL) ?_
          refine px_val (y := nI ((pT (hI h 8) n) i)) rfl ?_
          refine px_imul d_X3_faultOf_72 ?_
          refine px_iadd d_X3_faultOf_73 ?_
          exact px_ireturn d_X3_faultOf_74 rfl rfl (have eF : cFa (tkI (hI h 8) n) (pT (hI h 8) n) (k + 1) i (g1, g2, g3, g4, g5) = (wrG (g1, g2, g3, g4, g5) ((tkI (hI h 8) n) i) + 16 * nI ((pT (hI h 8) n) i), i) := (if_neg hq).trans (if_neg c61)
  ⟨rfl, ⟨px_si (by rw [eF]), (pT (hI h 8) n) i, aT (hI h 8) n (i + 1), (g1, g2, g3, g4, g5), by rw [eF]; rfl⟩, rfl, rfl⟩)
      · refine px_iconst (v := 0) d_X3_faultOf_50 (by decide) ?_
        exact px_ireturn d_X3_faultOf_51 rfl rfl ⟨rfl, ⟨px_si (congrArg Prod.fst (show cFa (tkI (hI h 8) n) (pT (hI h 8) n) (k + 1) i g = (0, i) from if_pos ⟨c42, Classical.not_not.mp (fun q => (by first | exact q c47 | exact c47 q))⟩)).symm, (pT (hI h 8) n) i, aT (hI h 8) n (i + 1), g, by rw [show cFa (tkI (hI h 8) n) (pT (hI h 8) n) (k + 1) i g = (0, i) from if_pos ⟨c42, Classical.not_not.mp (fun q => (by first | exact q c47 | exact c47 q))⟩]⟩, rfl, rfl⟩
theorem x_X3_faultOf {h : PH} (hL : px_L h) {n : Nat} (hz : hI h 7 1 = nI n) (hn6 : n ≤ 600) : PX M_X3_faultOf [.ref 9, .ref 7] h 0 0 (faQ h (tkI (hI h 8) n) (cFa (tkI (hI h 8) n) (pT (hI h 8) n) 600 0 (0, 0, hI h 9 4, 0, hI h 11))) := by
  obtain ⟨p0, hp0⟩ := ofU (hI h 7 2)
  refine PX.of (by decide +kernel) (by decide +kernel) (Nat.le_of_ble_eq_true rfl) ?_
  refine px_aload_n d_X3_faultOf_0 rfl rfl ?_
  refine px_callV (c_X9_rewind hL) d_X3_faultOf_1 lk_X3_19 ok_X9_rewind ov_X9_rewind (so7 hL) (by decide) rfl rfl (Nat.le_of_ble_eq_true rfl) (by decide) ⟨Nat.le_refl _, Nat.le_refl _⟩ ?_
  refine px_aload_n d_X3_faultOf_4 rfl rfl ?_
  refine px_iconst (v := 0) d_X3_faultOf_5 (by decide) ?_
  refine px_putI d_X3_faultOf_6 fl_X3_24 rfl (so9 hL) ?_
  refine px_aload_n d_X3_faultOf_9 rfl rfl ?_
  refine px_iconst (v := 0) d_X3_faultOf_10 (by decide) ?_
  refine px_putI d_X3_faultOf_11 fl_X3_28 rfl (so9 hL) ?_
  refine px_aload_n d_X3_faultOf_14 rfl rfl ?_
  refine px_iconst (v := 0) d_X3_faultOf_15 (by decide) ?_
  refine px_putI d_X3_faultOf_16 fl_X3_31 rfl (so9 hL) ?_
  refine px_aload_n d_X3_faultOf_19 rfl rfl ?_
  refine px_iconst (v := 0) d_X3_faultOf_20 (by decide) ?_
  refine px_putI d_X3_faultOf_21 fl_X3_34 rfl (so9 hL) ?_
  refine px_heap (h2 := flH h (tkI (hI h 8) n) 0 p0 0 (0, 0, hI h 9 4, 0, hI h 11)) (flH_0 hp0) ?_
  refine px_iconst (v := 0) d_X3_faultOf_24 (by decide) ?_
  refine px_istore_n d_X3_faultOf_25 rfl (by decide) ?_
  refine px_drop (lv' := [(0, .ref 9), (1, .ref 7), (2, .int (nI (0)))]) ⟨rfl, rfl, rfl, trivial⟩ ?_
  exact lp_X3_faultOf hL hz hn6 600 0 p0 (0, 0, hI h 9 4, 0, hI h 11) (by omega) (Nat.zero_le 5)
theorem c_X3_tokensRead {h : PH} (hL : px_L h) {k : Nat} (hk : hI h 9 1 = nI k) (hk6 : k < 600) : PM M_X3_tokensRead [.ref 9] h (some (.ref (hn h))) (rI (pN h 20 k k) (hn h) (fun j => if j < k then hI h 10 j else 0)) := by
  refine PM.of (by decide +kernel) (by decide +kernel) (Nat.le_succ _) (Nat.le_add_right _ _) (Nat.le_of_ble_eq_true rfl) ?_
  refine px_aload_n d_X3_tokensRead_0 rfl rfl ?_
  refine px_getR d_X3_tokensRead_1 fl_X3_9 (by decide) (so9 hL) (sr9_0 hL) ?_
  refine px_aload_n d_X3_tokensRead_4 rfl rfl ?_
  refine px_getI d_X3_tokensRead_5 fl_X3_24 rfl (so9 hL) ?_
  refine px_val (y := nI k) hk ?_
  refine px_callS (x_J7_copyOf_59c91 (sa10 hL) hk6) d_X3_tokensRead_8 lk_X3_52 ok_J7_copyOf_59c91 os_J7_copyOf_59c91 rfl (Nat.le_of_ble_eq_true rfl) (by decide) ⟨Nat.le_refl _, Nat.le_refl _⟩ ?_
  exact px_areturn d_X3_tokensRead_11 rfl (by first | exact Or.inl ⟨_, rfl⟩ | exact Or.inr ⟨_, rfl⟩) ⟨rfl, rfl, rfl⟩
theorem c_X8_init {h : PH} {r t : Nat} (ho : px_ob h r 8) {a b : Int32} : PM M_X8_init [.ref r, .int a, .int b, .ref t] h none (pR (pI (pI h r 0 a) r 1 b) r 2 (some t)) := by
  refine PM.of (by decide +kernel) (by decide +kernel) (Nat.le_refl _) (Nat.le_refl _) (Nat.le_of_ble_eq_true rfl) ?_
  refine px_aload_n d_X8_init_0 rfl rfl ?_
  refine px_obji d_X8_init_1 lk_X8_1 (by decide) (Nat.le_of_ble_eq_true rfl) ?_
  refine px_aload_n d_X8_init_4 rfl rfl ?_
  refine px_iload_n d_X8_init_5 rfl rfl ?_
  refine px_putIF d_X8_init_6 fl_X8_7 rfl rfl ho ?_
  refine px_aload_n d_X8_init_9 rfl rfl ?_
  refine px_iload_n d_X8_init_10 rfl rfl ?_
  refine px_putIF d_X8_init_11 fl_X8_13 rfl rfl ho ?_
  refine px_aload_n d_X8_init_14 rfl rfl ?_
  refine px_aload_n d_X8_init_15 rfl rfl ?_
  refine px_putRF d_X8_init_16 fl_X8_16 (by decide) rfl rfl rfl ho ?_
  exact px_return d_X8_init_19 rfl ⟨rfl, rfl, rfl⟩
theorem z_X10_mayFollow {h : PH} {d : Int32} (hL : px_L h) {n : Nat} {ro to ln : Nat → Nat} {fr kf : Nat → Int32} {ev : Nat → (Nat → Int32) → Int32 → Int32} (hT : TX h n ro to ln fr kf ev) (h0 : n = 0) : PM M_X10_mayFollow [.ref 12, .int d] h (some (.int 1)) h := by
  refine PM.of (by decide +kernel) (by decide +kernel) (Nat.le_refl _) (Nat.le_refl _) (Nat.le_of_ble_eq_true rfl) ?_
  have hn8 := hT.1
  refine px_aload_n d_X10_mayFollow_0 rfl rfl ?_
  refine px_getI d_X10_mayFollow_1 fl_X10_17 rfl (so12 hL) ?_
  refine px_val (y := nI n) hT.2.1 ?_
  refine px_bipush (v := 8) d_X10_mayFollow_4 (by decide) ?_
  refine px_icmp_lt (tgt := 11) d_X10_mayFollow_6 (by decide) (fun c6 => ?_) (fun c6 => absurd ((nI_ltI (b := 8) (by omega) (by decide)).mpr (by omega)) c6)
  refine px_aload_n d_X10_mayFollow_11 rfl rfl ?_
  refine px_getI d_X10_mayFollow_12 fl_X10_17 rfl (so12 hL) ?_
  refine px_val (y := nI n) hT.2.1 ?_
  refine px_if_ne (tgt := 22) d_X10_mayFollow_15 (by decide) (fun c15 => absurd (by rw [h0]; rfl) c15) (fun c15 => ?_)
  refine px_null d_X10_mayFollow_18 ?_
  refine px_goto (tgt := 33) d_X10_mayFollow_19 (by decide) ?_
  refine px_astore_nN d_X10_mayFollow_33 rfl (by decide) ?_
  refine px_aload_nN d_X10_mayFollow_34 rfl rfl ?_
  refine px_ifnullN (tgt := 46) d_X10_mayFollow_35 (by decide) ?_
  refine px_iconst (v := 1) d_X10_mayFollow_46 (by decide) ?_
  refine px_goto (tgt := 51) d_X10_mayFollow_47 (by decide) ?_
  exact px_ireturn d_X10_mayFollow_51 rfl rfl ⟨rfl, rfl, rfl⟩
theorem c_X10_mayFollow {h : PH} {d : Int32} (hL : px_L h) {n : Nat} {ro to ln : Nat → Nat} {fr kf : Nat → Int32} {ev : Nat → (Nat → Int32) → Int32 → Int32} (hT : TX h n ro to ln fr kf ev) (h0 : ¬ n = 0) (h8 : n < 8) : PM M_X10_mayFollow [.ref 12, .int d] h (some (.int (bI (¬ d ≤ fr (n - 1))))) h := by
  refine PM.of (by decide +kernel) (by decide +kernel) (Nat.le_refl _) (Nat.le_refl _) (Nat.le_of_ble_eq_true rfl) ?_
  refine px_aload_n d_X10_mayFollow_0 rfl rfl ?_
  refine px_getI d_X10_mayFollow_1 fl_X10_17 rfl (so12 hL) ?_
  refine px_val (y := nI n) hT.2.1 ?_
  refine px_bipush (v := 8) d_X10_mayFollow_4 (by decide) ?_
  refine px_icmp_lt (tgt := 11) d_X10_mayFollow_6 (by decide) (fun c6 => ?_) (fun c6 => absurd ((nI_ltI (b := 8) (by omega) (by decide)).mpr (by omega)) c6)
  refine px_aload_n d_X10_mayFollow_11 rfl rfl ?_
  refine px_getI d_X10_mayFollow_12 fl_X10_17 rfl (so12 hL) ?_
  refine px_val (y := nI n) hT.2.1 ?_
  refine px_if_ne (tgt := 22) d_X10_mayFollow_15 (by decide) (fun c15 => ?_) (fun c15 => absurd ((nI_eq (a := n) (b := 0) (by omega) (by decide)).mp (by first | exact c15 | exact Classical.not_not.mp c15)) h0)
  refine px_aload_n d_X10_mayFollow_22 rfl rfl ?_
  refine px_getR d_X10_mayFollow_23 fl_X10_11 (by decide) (so12 hL) (sr12_0 hL) ?_
  refine px_aload_n d_X10_mayFollow_26 rfl rfl ?_
  refine px_getI d_X10_mayFollow_27 fl_X10_17 rfl (so12 hL) ?_
  refine px_val (y := nI n) hT.2.1 ?_
  refine px_iconst (v := 1) d_X10_mayFollow_30 (by decide) ?_
  refine px_isub d_X10_mayFollow_31 ?_
  refine px_val (y := nI (n - 1)) (nI_sub (b := 1) (by omega)) ?_
  refine px_aaldB d_X10_mayFollow_32 (sa13 hL) rfl (by omega) (hT.2.2 (n - 1) (by omega)).1.1 ?_
  refine px_astore_n d_X10_mayFollow_33 rfl (by decide) ?_
  refine px_aload_n d_X10_mayFollow_34 rfl rfl ?_
  refine px_ifnull d_X10_mayFollow_35 ?_
  refine px_iload_n d_X10_mayFollow_38 rfl rfl ?_
  refine px_aload_n d_X10_mayFollow_39 rfl rfl ?_
  refine px_getI d_X10_mayFollow_40 fl_X10_21 rfl (hT.2.2 (n - 1) (by omega)).1.2.1 ?_
  refine px_val (y := fr (n - 1)) (hT.2.2 (n - 1) (by omega)).2.1.2.2.1 ?_
  refine px_icmp_le (tgt := 50) d_X10_mayFollow_43 (by decide) (fun c43 => ?_) (fun c43 => ?_)
  · refine px_iconst (v := 0) d_X10_mayFollow_50 (by decide) ?_
    exact px_ireturn d_X10_mayFollow_51 rfl (by first | rfl | decide) ⟨rfl, px_si (by first | exact (bI_0.mpr (fun q => q c43)).symm | exact (if_pos c43).symm), rfl⟩
  · refine px_iconst (v := 1) d_X10_mayFollow_46 (by decide) ?_
    refine px_goto (tgt := 51) d_X10_mayFollow_47 (by decide) ?_
    exact px_ireturn d_X10_mayFollow_51 rfl (by first | rfl | decide) ⟨rfl, px_si (by first | exact (bI_0.mpr (fun q => q c43)).symm | exact (if_pos c43).symm), rfl⟩
theorem n_X10_mayFollow {h : PH} {d : Int32} (hL : px_L h) (h8 : hI h 12 1 = nI 8) : PM M_X10_mayFollow [.ref 12, .int d] h (some (.int 0)) h := by
  refine PM.of (by decide +kernel) (by decide +kernel) (Nat.le_refl _) (Nat.le_refl _) (Nat.le_of_ble_eq_true rfl) ?_
  refine px_aload_n d_X10_mayFollow_0 rfl rfl ?_
  refine px_getI d_X10_mayFollow_1 fl_X10_17 rfl (so12 hL) ?_
  refine px_val (y := nI 8) h8 ?_
  refine px_bipush (v := 8) d_X10_mayFollow_4 (by decide) ?_
  refine px_icmp_lt (tgt := 11) d_X10_mayFollow_6 (by decide) (fun c6 => absurd c6 (by decide)) (fun c6 => ?_)
  refine px_iconst (v := 0) d_X10_mayFollow_9 (by decide) ?_
  exact px_ireturn d_X10_mayFollow_10 rfl rfl ⟨rfl, rfl, rfl⟩
theorem c_X10_keep {h : PH} (hL : px_L h) {n r : Nat} (hs1 : hI h 12 1 = nI n) (h8 : n < 8) (ho : px_ob h r 8) : PM M_X10_keep [.ref 12, .ref r] h none (pI (pR h 13 n (some r)) 12 1 (nI (n + 1))) := by
  refine PM.of (by decide +kernel) (by decide +kernel) (Nat.le_refl _) (Nat.le_refl _) (Nat.le_of_ble_eq_true rfl) ?_
  have hL2 : px_L (pR h 13 n (some r)) := hL.R1 (Or.inr (by decide))
  refine px_aload_n d_X10_keep_0 rfl rfl ?_
  refine px_getI d_X10_keep_1 fl_X10_17 rfl (so12 hL) ?_
  refine px_val (y := nI n) hs1 ?_
  refine px_bipush (v := 8) d_X10_keep_4 (by decide) ?_
  refine px_icmp_ge (tgt := 29) d_X10_keep_6 (by decide) (fun c6 => absurd c6 (nI_ge (b := 8) (by omega) (by decide))) (fun c6 => ?_)
  refine px_aload_n d_X10_keep_9 rfl rfl ?_
  refine px_getR d_X10_keep_10 fl_X10_11 (by decide) (so12 hL) (sr12_0 hL) ?_
  refine px_aload_n d_X10_keep_13 rfl rfl ?_
  refine px_getI d_X10_keep_14 fl_X10_17 rfl (so12 hL) ?_
  refine px_val (y := nI n) hs1 ?_
  refine px_aload_n d_X10_keep_17 rfl rfl ?_
  refine px_aastB d_X10_keep_18 (sa13 hL) rfl h8 ho (by decide) rfl ?_
  refine px_aload_n d_X10_keep_19 rfl rfl ?_
  refine px_dup d_X10_keep_20 rfl ?_
  refine px_getI d_X10_keep_21 fl_X10_17 rfl (so12 hL2) ?_
  refine px_val (y := nI n) hs1 ?_
  refine px_iconst (v := 1) d_X10_keep_24 (by decide) ?_
  refine px_iadd d_X10_keep_25 ?_
  refine px_val (y := nI (n + 1)) (nI_s1 n) ?_
  refine px_putI d_X10_keep_26 fl_X10_17 rfl (so12 hL2) ?_
  exact px_return d_X10_keep_29 rfl ⟨rfl, rfl, rfl⟩
/-- a text is kept -/
def txNew (x : PH) (k t : Nat) (d nw : Int32) : PH := pI (pI (pR (pR (pI (pI (rI (pN (pN x 8 0 3) 20 k k) (hn x + 1) (fun j => if j < k then hI x 10 j else 0)) (hn x) 0 d) (hn x) 1 nw) (hn x) 2 (some (hn x + 1))) 13 t (some (hn x))) 12 1 (nI (t + 1))) 7 1 0
theorem tl_X11_text {x : PH} (hL : px_L x) {k t : Nat} (hk : hI x 9 1 = nI k) (hk6 : k < 600) (hts : hI x 12 1 = nI t) (ht8 : t < 8) {d nw : Int32} (hnw : hI x 0 11 = nw) {N S : Nat} {Post : Nat → Option Value → PH → Prop} (hN : hn x + 2 ≤ N ∧ hs x + (3 + k) ≤ S) (hP : Post 0 (some (.int 0)) (txNew x k t d nw)) : PW M_X11_text N S Post 36 [(0, .ref 0), (1, .int d), (2, .int 0)] [] x := by
  have h78 : 78 ≤ hn x := hL.1
  have hL1 : px_L (pN x 8 0 3) := pN_L hL
  have e1 : ∀ c, c < 78 → hI (pN x 8 0 3) c = hI x c := fun c hc => pN_I (by omega)
  have hk1 : hI (pN x 8 0 3) 9 1 = nI k := (congrFun (e1 9 (by decide)) _).trans hk
  have cT := c_X3_tokensRead hL1 hk1 hk6
  rw [e1 10 (by decide)] at cT
  have hL2 : px_L (rI (pN (pN x 8 0 3) 20 k k) (hn x + 1) (fun j => if j < k then hI x 10 j else 0)) := pN_L hL1
  have ho2 : px_ob (rI (pN (pN x 8 0 3) 20 k k) (hn x + 1) (fun j => if j < k then hI x 10 j else 0)) (hn x) 8 := ⟨by show hn x < hn x + 1 + 1; omega, by show (up1 (up1 (hK x) (hn x) (8, 0)) (hn x + 1) (20, k) (hn x)).1 = 8; rw [up1_ne (by omega), up1_s]⟩
  have hL3 : px_L (pR (pI (pI (rI (pN (pN x 8 0 3) 20 k k) (hn x + 1) (fun j => if j < k then hI x 10 j else 0)) (hn x) 0 d) (hn x) 1 nw) (hn x) 2 (some (hn x + 1))) := px_L.R1 (h := pI (pI (rI (pN (pN x 8 0 3) 20 k k) (hn x + 1) (fun j => if j < k then hI x 10 j else 0)) (hn x) 0 d) (hn x) 1 nw) hL2 (Or.inl h78)
  have hts3 : hI (pR (pI (pI (rI (pN (pN x 8 0 3) 20 k k) (hn x + 1) (fun j => if j < k then hI x 10 j else 0)) (hn x) 0 d) (hn x) 1 nw) (hn x) 2 (some (hn x + 1))) 12 1 = nI t := by
    show hI (pI (pI (rI (pN (pN x 8 0 3) 20 k k) (hn x + 1) (fun j => if j < k then hI x 10 j else 0)) (hn x) 0 d) (hn x) 1 nw) 12 1 = nI t
    rw [hI_pI (by omega), hI_pI (by omega), hI_rn _ _ _ (by omega), pN_I (by show 12 ≠ hn x + 1; omega), e1 12 (by decide)]
    exact hts
  have hL4 : px_L (pI (pR (pR (pI (pI (rI (pN (pN x 8 0 3) 20 k k) (hn x + 1) (fun j => if j < k then hI x 10 j else 0)) (hn x) 0 d) (hn x) 1 nw) (hn x) 2 (some (hn x + 1))) 13 t (some (hn x))) 12 1 (nI (t + 1))) := px_L.R1 hL3 (Or.inr (by decide))
  have NB : hn x + 1 + 1 ≤ N ∧ hs x + 3 + k ≤ S := ⟨hN.1, by omega⟩
  refine px_aload_n d_X11_text_36 rfl rfl ?_
  refine px_getR d_X11_text_37 fl_X11_39 (by decide) (so0 hL) (sr0_4 hL) ?_
  refine px_new (ci := 8) d_X11_text_40 (by decide) cc_X11_128 in_X8 ii_X8 (by omega) (by show hs x + 3 ≤ S; omega) ?_
  refine px_heap (h2 := pN x 8 0 3) rfl ?_
  refine px_dup d_X11_text_43 rfl ?_
  refine px_iload_n d_X11_text_44 rfl rfl ?_
  refine px_aload_n d_X11_text_45 rfl rfl ?_
  refine px_getI d_X11_text_46 fl_X11_88 rfl (so0 hL1) ?_
  refine px_val (y := nw) ((congrFun (e1 0 (by decide)) _).trans hnw) ?_
  refine px_aload_n d_X11_text_49 rfl rfl ?_
  refine px_getR d_X11_text_50 fl_X11_32 (by decide) (so0 hL1) (sr0_3 hL1) ?_
  refine px_callV (cT) d_X11_text_53 lk_X11_130 ok_X3_tokensRead ov_X3_tokensRead (so9 hL1) (by decide) rfl rfl (Nat.le_of_ble_eq_true rfl) (by decide) NB ?_
  refine px_callI (c_X8_init ho2) d_X11_text_56 lk_X11_134 ok_X8_init oi_X8_init rfl rfl (Nat.le_of_ble_eq_true rfl) (by decide) NB ?_
  refine px_callV (c_X10_keep hL3 hts3 ht8 ho2) d_X11_text_59 lk_X11_137 ok_X10_keep ov_X10_keep (so12 hL3) (by decide) rfl rfl (Nat.le_of_ble_eq_true rfl) (by decide) NB ?_
  refine px_aload_n d_X11_text_62 rfl rfl ?_
  refine px_getR d_X11_text_63 fl_X11_25 (by decide) (so0 hL4) (sr0_2 hL4) ?_
  refine px_callV (c_X9_makeEmpty hL4) d_X11_text_66 lk_X11_141 ok_X9_makeEmpty ov_X9_makeEmpty (so7 hL4) (by decide) rfl rfl (Nat.le_of_ble_eq_true rfl) (by decide) NB ?_
  refine px_iload_n d_X11_text_69 rfl rfl ?_
  exact px_ireturn d_X11_text_70 rfl rfl hP
def ctQ0 (h : PH) (tk : Nat → Int32) (v : Int32 × Nat) : Option Value → PH → Prop := fun r h' => r = some (.int v.1) ∧ ∃ (p a : Nat) (g : GS), h' = pI (flH h tk v.2 p a g) 7 1 0
def ctQ1 (h : PH) (tk : Nat → Int32) (k t : Nat) (d nw : Int32) : Option Value → PH → Prop := fun r h' => r = some (.int 0) ∧ ∃ (p a : Nat) (g : GS), h' = txNew (flH h tk k p a g) k t d nw
theorem f_X11_text {h : PH} {d : Int32} (hL : px_L h) {n : Nat} (hz : hI h 7 1 = nI n) (hn6 : n ≤ 600) (hd : ¬ d < 0 ∧ ¬ 719 < d) (hmf : PM M_X10_mayFollow [.ref 12, .int d] h (some (.int 1)) h) (hf : ¬ (cFa (tkI (hI h 8) n) (pT (hI h 8) n) 600 0 (0, 0, hI h 9 4, 0, hI h 11)).1 = 0) : PX M_X11_text [.ref 0, .int d] h 0 0 (ctQ0 h (tkI (hI h 8) n) (cFa (tkI (hI h 8) n) (pT (hI h 8) n) 600 0 (0, 0, hI h 9 4, 0, hI h 11))) := by
  refine PX.of (by decide +kernel) (by decide +kernel) (Nat.le_of_ble_eq_true rfl) ?_
  refine px_iconst (v := (-1)) d_X11_text_0 (by decide) ?_
  refine px_istore_n d_X11_text_1 rfl (by decide) ?_
  refine px_iload_n d_X11_text_2 rfl rfl ?_
  refine px_callS (c_X11_isDay) d_X11_text_3 lk_X11_84 ok_X11_isDay os_X11_isDay rfl (Nat.le_of_ble_eq_true rfl) (by decide) ⟨Nat.le_add_right _ _, Nat.le_add_right _ _⟩ ?_
  refine px_if_eq (tgt := 62) d_X11_text_6 (by decide) (fun c6 => absurd c6 (bI_n.mpr hd)) (fun c6 => ?_)
  refine px_aload_n d_X11_text_9 rfl rfl ?_
  refine px_getR d_X11_text_10 fl_X11_39 (by decide) (so0 hL) (sr0_4 hL) ?_
  refine px_iload_n d_X11_text_13 rfl rfl ?_
  refine px_callV (hmf) d_X11_text_14 lk_X11_121 ok_X10_mayFollow ov_X10_mayFollow (so12 hL) (by decide) rfl rfl (Nat.le_of_ble_eq_true rfl) (by decide) ⟨Nat.le_add_right _ _, Nat.le_add_right _ _⟩ ?_
  refine px_if_eq (tgt := 62) d_X11_text_17 (by decide) (fun c17 => absurd c17 (by decide)) (fun c17 => ?_)
  refine px_aload_n d_X11_text_20 rfl rfl ?_
  refine px_getR d_X11_text_21 fl_X11_32 (by decide) (so0 hL) (sr0_3 hL) ?_
  refine px_aload_n d_X11_text_24 rfl rfl ?_
  refine px_getR d_X11_text_25 fl_X11_25 (by decide) (so0 hL) (sr0_2 hL) ?_
  refine px_callVX (x_X3_faultOf hL hz hn6) d_X11_text_28 lk_X11_124 ok_X3_faultOf ov_X3_faultOf (so9 hL) (by decide) rfl rfl (Nat.le_of_ble_eq_true rfl) (by decide) ⟨Nat.le_add_right _ _, Nat.le_add_right _ _⟩ (fun r9 h9 q9 n9 s9 => ?_)
  obtain ⟨rfl, p9, a9, g9, rfl⟩ := q9
  have hL9 : px_L h := hL
  refine px_istore_n d_X11_text_31 rfl (by decide) ?_
  refine px_iload_n d_X11_text_32 rfl rfl ?_
  refine px_if_ne (tgt := 62) d_X11_text_33 (by decide) (fun c33 => ?_) (fun c33 => absurd c33 hf)
  refine px_aload_n d_X11_text_62 rfl rfl ?_
  refine px_getR d_X11_text_63 fl_X11_25 (by decide) (so0 hL9) (sr0_2 hL9) ?_
  refine px_callV (c_X9_makeEmpty (h := flH h (tkI (hI h 8) n) (cFa (tkI (hI h 8) n) (pT (hI h 8) n) 600 0 (0, 0, hI h 9 4, 0, hI h 11)).2 p9 a9 g9) hL) d_X11_text_66 lk_X11_141 ok_X9_makeEmpty ov_X9_makeEmpty (so7 hL9) (by decide) rfl rfl (Nat.le_of_ble_eq_true rfl) (by decide) ⟨Nat.le_add_right (hn h) 0, Nat.le_add_right (hs h) 0⟩ ?_
  refine px_iload_n d_X11_text_69 rfl rfl ?_
  exact px_ireturn d_X11_text_70 rfl rfl ⟨rfl, ⟨rfl, p9, a9, g9, rfl⟩, rfl, rfl⟩
theorem x_X11_text {h : PH} {d nw : Int32} (hL : px_L h) {n : Nat} (hz : hI h 7 1 = nI n) (hn6 : n ≤ 600) (hd : ¬ d < 0 ∧ ¬ 719 < d) (hmf : PM M_X10_mayFollow [.ref 12, .int d] h (some (.int 1)) h) (hf : (cFa (tkI (hI h 8) n) (pT (hI h 8) n) 600 0 (0, 0, hI h 9 4, 0, hI h 11)).1 = 0) {k t : Nat} (hk : (cFa (tkI (hI h 8) n) (pT (hI h 8) n) 600 0 (0, 0, hI h 9 4, 0, hI h 11)).2 = k) (hk6 : k < 600) (hts : hI h 12 1 = nI t) (ht8 : t < 8) (hnw : hI h 0 11 = nw) : PX M_X11_text [.ref 0, .int d] h 2 (3 + k) (ctQ1 h (tkI (hI h 8) n) k t d nw) := by
  have hFO := x_X3_faultOf hL hz hn6
  rw [show (cFa (tkI (hI h 8) n) (pT (hI h 8) n) 600 0 (0, 0, hI h 9 4, 0, hI h 11)) = (0, k) from Prod.ext hf hk] at hFO
  refine PX.of (by decide +kernel) (by decide +kernel) (Nat.le_of_ble_eq_true rfl) ?_
  refine px_iconst (v := (-1)) d_X11_text_0 (by decide) ?_
  refine px_istore_n d_X11_text_1 rfl (by decide) ?_
  refine px_iload_n d_X11_text_2 rfl rfl ?_
  refine px_callS (c_X11_isDay) d_X11_text_3 lk_X11_84 ok_X11_isDay os_X11_isDay rfl (Nat.le_of_ble_eq_true rfl) (by decide) ⟨Nat.le_add_right _ _, Nat.le_add_right _ _⟩ ?_
  refine px_if_eq (tgt := 62) d_X11_text_6 (by decide) (fun c6 => absurd c6 (bI_n.mpr hd)) (fun c6 => ?_)
  refine px_aload_n d_X11_text_9 rfl rfl ?_
  refine px_getR d_X11_text_10 fl_X11_39 (by decide) (so0 hL) (sr0_4 hL) ?_
  refine px_iload_n d_X11_text_13 rfl rfl ?_
  refine px_callV (hmf) d_X11_text_14 lk_X11_121 ok_X10_mayFollow ov_X10_mayFollow (so12 hL) (by decide) rfl rfl (Nat.le_of_ble_eq_true rfl) (by decide) ⟨Nat.le_add_right _ _, Nat.le_add_right _ _⟩ ?_
  refine px_if_eq (tgt := 62) d_X11_text_17 (by decide) (fun c17 => absurd c17 (by decide)) (fun c17 => ?_)
  refine px_aload_n d_X11_text_20 rfl rfl ?_
  refine px_getR d_X11_text_21 fl_X11_32 (by decide) (so0 hL) (sr0_3 hL) ?_
  refine px_aload_n d_X11_text_24 rfl rfl ?_
  refine px_getR d_X11_text_25 fl_X11_25 (by decide) (so0 hL) (sr0_2 hL) ?_
  refine px_callVX (hFO) d_X11_text_28 lk_X11_124 ok_X3_faultOf ov_X3_faultOf (so9 hL) (by decide) rfl rfl (Nat.le_of_ble_eq_true rfl) (by decide) ⟨Nat.le_add_right _ _, Nat.le_add_right _ _⟩ (fun r9 h9 q9 n9 s9 => ?_)
  obtain ⟨rfl, p9, a9, g9, rfl⟩ := q9
  have hL9 : px_L h := hL
  refine px_istore_n d_X11_text_31 rfl (by decide) ?_
  refine px_iload_n d_X11_text_32 rfl rfl ?_
  refine px_if_ne (tgt := 62) d_X11_text_33 (by decide) (fun c33 => absurd rfl c33) (fun c33 => ?_)
  refine px_drop (lv' := [(0, .ref 0), (1, .int d), (2, .int 0)]) ⟨rfl, rfl, rfl, trivial⟩ ?_
  exact tl_X11_text (x := flH h (tkI (hI h 8) n) k p9 a9 g9) hL rfl hk6 hts ht8 hnw ⟨Nat.le_refl (hn h + 2), Nat.le_refl (hs h + (3 + k))⟩ ⟨rfl, ⟨rfl, p9, a9, g9, rfl⟩, rfl, by show hs h + 3 + k = hs h + (3 + k); omega⟩
theorem n_X11_text {h : PH} {d : Int32} (hL : px_L h) (hv : ¬ (¬ d < 0 ∧ ¬ 719 < d)) : PM M_X11_text [.ref 0, .int d] h (some (.int (-1))) (pI h 7 1 0) := by
  refine PM.of (by decide +kernel) (by decide +kernel) (Nat.le_refl _) (Nat.le_refl _) (Nat.le_of_ble_eq_true rfl) ?_
  refine px_iconst (v := (-1)) d_X11_text_0 (by decide) ?_
  refine px_istore_n d_X11_text_1 rfl (by decide) ?_
  refine px_iload_n d_X11_text_2 rfl rfl ?_
  refine px_callS (c_X11_isDay) d_X11_text_3 lk_X11_84 ok_X11_isDay os_X11_isDay rfl (Nat.le_of_ble_eq_true rfl) (by decide) ⟨Nat.le_refl (hn h), Nat.le_refl (hs h)⟩ ?_
  refine px_if_eq (tgt := 62) d_X11_text_6 (by decide) (fun c6 => ?_) (fun c6 => absurd (bI_n.mp c6) hv)
  refine px_aload_n d_X11_text_62 rfl rfl ?_
  refine px_getR d_X11_text_63 fl_X11_25 (by decide) (so0 hL) (sr0_2 hL) ?_
  refine px_callV (c_X9_makeEmpty hL) d_X11_text_66 lk_X11_141 ok_X9_makeEmpty ov_X9_makeEmpty (so7 hL) (by decide) rfl rfl (Nat.le_of_ble_eq_true rfl) (by decide) ⟨Nat.le_refl (hn h), Nat.le_refl (hs h)⟩ ?_
  refine px_iload_n d_X11_text_69 rfl rfl ?_
  exact px_ireturn d_X11_text_70 rfl rfl ⟨rfl, rfl, rfl⟩
theorem m_X11_text {h : PH} {d : Int32} (hL : px_L h) (hd : ¬ d < 0 ∧ ¬ 719 < d) (hmf : PM M_X10_mayFollow [.ref 12, .int d] h (some (.int 0)) h) : PM M_X11_text [.ref 0, .int d] h (some (.int (-1))) (pI h 7 1 0) := by
  refine PM.of (by decide +kernel) (by decide +kernel) (Nat.le_refl _) (Nat.le_refl _) (Nat.le_of_ble_eq_true rfl) ?_
  refine px_iconst (v := (-1)) d_X11_text_0 (by decide) ?_
  refine px_istore_n d_X11_text_1 rfl (by decide) ?_
  refine px_iload_n d_X11_text_2 rfl rfl ?_
  refine px_callS (c_X11_isDay) d_X11_text_3 lk_X11_84 ok_X11_isDay os_X11_isDay rfl (Nat.le_of_ble_eq_true rfl) (by decide) ⟨Nat.le_refl (hn h), Nat.le_refl (hs h)⟩ ?_
  refine px_if_eq (tgt := 62) d_X11_text_6 (by decide) (fun c6 => absurd c6 (bI_n.mpr hd)) (fun c6 => ?_)
  refine px_aload_n d_X11_text_9 rfl rfl ?_
  refine px_getR d_X11_text_10 fl_X11_39 (by decide) (so0 hL) (sr0_4 hL) ?_
  refine px_iload_n d_X11_text_13 rfl rfl ?_
  refine px_callV (hmf) d_X11_text_14 lk_X11_121 ok_X10_mayFollow ov_X10_mayFollow (so12 hL) (by decide) rfl rfl (Nat.le_of_ble_eq_true rfl) (by decide) ⟨Nat.le_refl (hn h), Nat.le_refl (hs h)⟩ ?_
  refine px_if_eq (tgt := 62) d_X11_text_17 (by decide) (fun c17 => ?_) (fun c17 => absurd rfl c17)
  refine px_aload_n d_X11_text_62 rfl rfl ?_
  refine px_getR d_X11_text_63 fl_X11_25 (by decide) (so0 hL) (sr0_2 hL) ?_
  refine px_callV (c_X9_makeEmpty hL) d_X11_text_66 lk_X11_141 ok_X9_makeEmpty ov_X9_makeEmpty (so7 hL) (by decide) rfl rfl (Nat.le_of_ble_eq_true rfl) (by decide) ⟨Nat.le_refl (hn h), Nat.le_refl (hs h)⟩ ?_
  refine px_iload_n d_X11_text_69 rfl rfl ?_
  exact px_ireturn d_X11_text_70 rfl rfl ⟨rfl, rfl, rfl⟩
