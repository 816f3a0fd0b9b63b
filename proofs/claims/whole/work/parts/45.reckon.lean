def bal (mv : Nat → Int32) (b : Int32) (i : Nat) : Nat → Int32
  | 0 => b
  | k + 1 => bal mv b i k + mv (i + k)
def mn2 (x y : Int32) : Int32 := if y < x then y else x
def lea (mv : Nat → Int32) (b : Int32) (i : Nat) : Nat → Int32
  | 0 => b + mv i
  | k + 1 => mn2 (lea mv b i k) (bal mv b i (k + 1))
/-- the months' reckoning: the balance, what was earned, what was earned last -/
def RK (mv : Nat → Int32) (rate : Nat → Int32 → Int32) : Nat → Int32 × Int32 × Int32
  | 0 => (0, 0, 0)
  | m + 1 => (bal mv (RK mv rate m).1 (30 * m) 30 + (if 1 ≤ lea mv (RK mv rate m).1 (30 * m) 30 / 240 then lea mv (RK mv rate m).1 (30 * m) 30 / 240 * rate m (lea mv (RK mv rate m).1 (30 * m) 30 / 240) / 100 else 0),
      (RK mv rate m).2.1 + (if 1 ≤ lea mv (RK mv rate m).1 (30 * m) 30 / 240 then lea mv (RK mv rate m).1 (30 * m) 30 / 240 * rate m (lea mv (RK mv rate m).1 (30 * m) 30 / 240) / 100 else 0),
      if 1 ≤ lea mv (RK mv rate m).1 (30 * m) 30 / 240 then lea mv (RK mv rate m).1 (30 * m) 30 / 240 * rate m (lea mv (RK mv rate m).1 (30 * m) 30 / 240) / 100 else 0)
def ern (rate : Nat → Int32 → Int32) (m : Nat) (l : Int32) : Int32 := if 1 ≤ l / 240 then l / 240 * rate m (l / 240) / 100 else 0
theorem RK_s (mv : Nat → Int32) (rate : Nat → Int32 → Int32) (m : Nat) : RK mv rate (m + 1) = (bal mv (RK mv rate m).1 (30 * m) 30 + ern rate m (lea mv (RK mv rate m).1 (30 * m) 30), (RK mv rate m).2.1 + ern rate m (lea mv (RK mv rate m).1 (30 * m) 30), ern rate m (lea mv (RK mv rate m).1 (30 * m) 30)) := rfl
theorem pI_self (h : PH) (a i : Nat) : pI h a i (hI h a i) = h := PH.ext (fun x j => by
  rw [gI]
  by_cases q : x = a ∧ j = i
  · rw [if_pos q, q.1, q.2]
  · rw [if_neg q]) rfl
theorem pI_pI (h : PH) (a i : Nat) (v w : Int32) : pI (pI h a i v) a i w = pI h a i w := PH.ext (fun x j => by
  rw [gI, gI, gI]
  by_cases q : x = a ∧ j = i
  · rw [if_pos q, if_pos q]
  · rw [if_neg q, if_neg q, if_neg q]) rfl
theorem nI_m30 (m : Nat) : nI m * 30 = nI (30 * m) := by
  show Int32.ofNat m * Int32.ofNat 30 = _
  rw [← Int32.ofNat_mul, Nat.mul_comm]
  rfl
theorem nI_a30 (m : Nat) : nI (30 * m) + 30 = nI (30 * m + 30) := nI_add _ 30
theorem lp_X7_leastOf {h : PH} {m : Nat} (hL : px_L h) (hm : m < 24) : ∀ (k i : Nat), i + k = 30 → PW M_X7_leastOf (hn h) (hs h) (PMpost (some (.int (lea (hI h 22) (hI h 21 4) (30 * m) 30))) (pI h 21 4 (bal (hI h 22) (hI h 21 4) (30 * m) 30))) 20 [(0, .ref 21), (1, .int (nI m)), (2, .int (nI (30 * m))), (3, .int (lea (hI h 22) (hI h 21 4) (30 * m) i)), (4, .int (nI (30 * m + i)))] [] (pI h 21 4 (bal (hI h 22) (hI h 21 4) (30 * m) i)) := by
  intro k
  induction k with
  | zero =>
    intro i hi
    have e : i = 30 := by omega
    rw [e]
    refine px_iload d_X7_leastOf_20 rfl ?_
    refine px_iload_n d_X7_leastOf_22 rfl rfl ?_
    refine px_bipush (v := 30) d_X7_leastOf_23 (by decide) ?_
    refine px_iadd d_X7_leastOf_25 ?_
    refine px_val (y := nI (30 * m + 30)) (nI_a30 m) ?_
    refine px_icmp_ge (tgt := 60) d_X7_leastOf_26 (by decide) (fun c26 => ?_) (fun c26 => (c26 (nI_le (by omega) (by omega))).elim)
    refine px_iload_n d_X7_leastOf_60 rfl rfl ?_
    exact px_ireturn d_X7_leastOf_61 rfl rfl ⟨rfl, rfl, rfl⟩
  | succ k ih =>
    intro i hi
    refine px_iload d_X7_leastOf_20 rfl ?_
    refine px_iload_n d_X7_leastOf_22 rfl rfl ?_
    refine px_bipush (v := 30) d_X7_leastOf_23 (by decide) ?_
    refine px_iadd d_X7_leastOf_25 ?_
    refine px_val (y := nI (30 * m + 30)) (nI_a30 m) ?_
    refine px_icmp_ge (tgt := 60) d_X7_leastOf_26 (by decide) (fun c26 => absurd c26 (nI_ge (by omega) (by omega))) (fun c26 => ?_)
    refine px_aload_n d_X7_leastOf_29 rfl rfl ?_
    refine px_dup d_X7_leastOf_30 rfl ?_
    refine px_getI d_X7_leastOf_31 fl_X7_35 rfl (so21 hL) ?_
    refine px_val (y := bal (hI h 22) (hI h 21 4) (30 * m) i) rfl ?_
    refine px_aload_n d_X7_leastOf_34 rfl rfl ?_
    refine px_getR d_X7_leastOf_35 fl_X7_9 (by decide) (so21 hL) (sr21_3 hL) ?_
    refine px_iload d_X7_leastOf_38 rfl ?_
    refine px_iald d_X7_leastOf_40 (sa22 hL) rfl (by omega) ?_
    refine px_iadd d_X7_leastOf_41 ?_
    refine px_putI d_X7_leastOf_42 fl_X7_35 rfl (so21 hL) ?_
    refine px_heap (h2 := (pI h 21 4 (bal (hI h 22) (hI h 21 4) (30 * m) (i + 1)))) (pI_pI ..) ?_
    refine px_iload_n d_X7_leastOf_45 rfl rfl ?_
    refine px_aload_n d_X7_leastOf_46 rfl rfl ?_
    refine px_getI d_X7_leastOf_47 fl_X7_35 rfl (so21 hL) ?_
    refine px_val (y := bal (hI h 22) (hI h 21 4) (30 * m) (i + 1)) rfl ?_
    refine px_mmin d_X7_leastOf_50 lk_X7_64 (by decide) (by decide) ?_
    refine px_istore_n d_X7_leastOf_53 rfl (by decide) ?_
    refine px_inc1 d_X7_leastOf_54 rfl (by decide) ?_
    refine px_goto (tgt := 20) d_X7_leastOf_57 (by decide) ?_
    refine px_drop (lv' := [(0, .ref 21), (1, .int (nI m)), (2, .int (nI (30 * m))), (3, .int (lea (hI h 22) (hI h 21 4) (30 * m) (i + 1))), (4, .int (nI (30 * m + (i + 1))))]) ⟨rfl, rfl, rfl, px_si (rfl), px_si (nI_s1 _), trivial⟩ ?_
    exact ih (i + 1) (by omega)
theorem c_X7_leastOf {h : PH} {m : Nat} (hL : px_L h) (hm : m < 24) : PM M_X7_leastOf [.ref 21, .int (nI m)] h (some (.int (lea (hI h 22) (hI h 21 4) (30 * m) 30))) (pI h 21 4 (bal (hI h 22) (hI h 21 4) (30 * m) 30)) := by
  refine PM.of (by decide +kernel) (by decide +kernel) (Nat.le_refl _) (Nat.le_refl _) (Nat.le_of_ble_eq_true rfl) ?_
  refine px_iload_n d_X7_leastOf_0 rfl rfl ?_
  refine px_bipush (v := 30) d_X7_leastOf_1 (by decide) ?_
  refine px_imul d_X7_leastOf_3 ?_
  refine px_val (y := nI (30 * m)) (nI_m30 m) ?_
  refine px_istore_n d_X7_leastOf_4 rfl (by decide) ?_
  refine px_aload_n d_X7_leastOf_5 rfl rfl ?_
  refine px_getI d_X7_leastOf_6 fl_X7_35 rfl (so21 hL) ?_
  refine px_aload_n d_X7_leastOf_9 rfl rfl ?_
  refine px_getR d_X7_leastOf_10 fl_X7_9 (by decide) (so21 hL) (sr21_3 hL) ?_
  refine px_iload_n d_X7_leastOf_13 rfl rfl ?_
  refine px_iald d_X7_leastOf_14 (sa22 hL) rfl (by omega) ?_
  refine px_iadd d_X7_leastOf_15 ?_
  refine px_istore_n d_X7_leastOf_16 rfl (by decide) ?_
  refine px_iload_n d_X7_leastOf_17 rfl rfl ?_
  refine px_istore d_X7_leastOf_18 (by decide) ?_
  refine px_drop (lv' := [(0, .ref 21), (1, .int (nI m)), (2, .int (nI (30 * m))), (3, .int (lea (hI h 22) (hI h 21 4) (30 * m) 0)), (4, .int (nI (30 * m + 0)))]) ⟨rfl, rfl, rfl, rfl, rfl, trivial⟩ ?_
  refine px_heap (h2 := (pI h 21 4 (bal (hI h 22) (hI h 21 4) (30 * m) 0))) (pI_self ..).symm ?_
  exact lp_X7_leastOf hL hm 30 0 (by omega)
def rkQ (h : PH) (mv : Nat → Int32) (q : Int32 × Int32 × Int32) : Option Value → PH → Prop := fun r h' => r = none ∧ px_same SC h h' ∧ hI h' 22 = mv ∧ hI h' 21 4 = q.1 ∧ hI h' 21 5 = q.2.1 ∧ hI h' 21 6 = q.2.2
theorem tl_X7_reckon {h x : PH} {kn M0 : Int32} {M : Nat} {r : Nat} {m : Nat} {p v B E : Int32} (hLx : px_L x) {Post : Nat → Option Value → PH → Prop} {N S : Nat} (x4 : hI x 21 4 = B) (x5 : hI x 21 5 = E) (kk : PW M_X7_reckon N S Post 34 [(0, .ref 21), (1, .ref r), (2, .int (nI M)), (3, .int kn), (4, .int (nI (m + 1)))] [] (pI (pI (pI x 21 6 v) 21 5 (E + v)) 21 4 (B + v))) : PW M_X7_reckon N S Post 86 [(0, .ref 21), (1, .ref r), (2, .int (nI M)), (3, .int kn), (4, .int (nI (m))), (5, .int p)] [.int v, .ref 21] x := by
  refine px_putI d_X7_reckon_86 fl_X7_39 rfl (so21 hLx) ?_
  refine px_aload_n d_X7_reckon_89 rfl rfl ?_
  refine px_dup d_X7_reckon_90 rfl ?_
  refine px_getI d_X7_reckon_91 fl_X7_42 rfl (so21 hLx) ?_
  refine px_val (y := E) x5 ?_
  refine px_aload_n d_X7_reckon_94 rfl rfl ?_
  refine px_getI d_X7_reckon_95 fl_X7_39 rfl (so21 hLx) ?_
  refine px_val (y := v) rfl ?_
  refine px_iadd d_X7_reckon_98 ?_
  refine px_putI d_X7_reckon_99 fl_X7_42 rfl (so21 hLx) ?_
  refine px_aload_n d_X7_reckon_102 rfl rfl ?_
  refine px_dup d_X7_reckon_103 rfl ?_
  refine px_getI d_X7_reckon_104 fl_X7_35 rfl (so21 hLx) ?_
  refine px_val (y := B) x4 ?_
  refine px_aload_n d_X7_reckon_107 rfl rfl ?_
  refine px_getI d_X7_reckon_108 fl_X7_39 rfl (so21 hLx) ?_
  refine px_val (y := v) rfl ?_
  refine px_iadd d_X7_reckon_111 ?_
  refine px_putI d_X7_reckon_112 fl_X7_35 rfl (so21 hLx) ?_
  refine px_inc1 d_X7_reckon_115 rfl (by decide) ?_
  refine px_goto (tgt := 34) d_X7_reckon_118 (by decide) ?_
  refine px_drop (lv' := [(0, .ref 21), (1, .ref r), (2, .int (nI M)), (3, .int kn), (4, .int (nI (m + 1)))]) ⟨rfl, rfl, rfl, rfl, px_si (nI_s1 _), trivial⟩ ?_
  exact kk
theorem lp_X7_reckon {h : PH} {kn : Int32} {mv : Nat → Int32} {M : Nat} (hL : px_L h) {n : Nat} {ro to ln : Nat → Nat} {fr kf : Nat → Int32} {ev : Nat → (Nat → Int32) → Int32 → Int32} (hT : TX h n ro to ln fr kf ev) {r r1 r2 : Nat} (hA : px_acc h r r1 r2) (h78 : 78 ≤ r) {kd op : Int32} (hkd : hI h r 1 = kd) (hop : hI h r 3 = op) (hM : M ≤ 24) : ∀ (k m : Nat) (g : PH), m + k = M → px_same SC h g → hI g 22 = mv → hI g 21 4 = (RK mv (rtF ev fr kf n kd op kn) m).1 → hI g 21 5 = (RK mv (rtF ev fr kf n kd op kn) m).2.1 → hI g 21 6 = (RK mv (rtF ev fr kf n kd op kn) m).2.2 → PW M_X7_reckon (hn h) (hs h) (PXpost h 0 0 (rkQ h mv (RK mv (rtF ev fr kf n kd op kn) M))) 34 [(0, .ref 21), (1, .ref r), (2, .int (nI M)), (3, .int kn), (4, .int (nI (m)))] [] g := by
  intro k
  induction k with
  | zero =>
    intro m g hm hg g22 g4 g5 g6
    have e : m = M := by omega
    subst e
    have hLg := hL.same hg
    refine px_iload d_X7_reckon_34 rfl ?_
    refine px_iload_n d_X7_reckon_36 rfl rfl ?_
    refine px_icmp_ge (tgt := 121) d_X7_reckon_37 (by decide) (fun c37 => ?_) (fun c37 => (c37 (nI_le (by omega) (by omega))).elim)
    exact px_return d_X7_reckon_121 rfl ⟨rfl, ⟨rfl, hg, g22, g4, g5, g6⟩, hg.1.2.2.2.1, hg.1.2.2.2.2⟩
  | succ k ih =>
    intro m g hm hg g22 g4 g5 g6
    have hLg := hL.same hg
    have eN : hn g = hn h := hg.1.2.2.2.1
    have eS : hs g = hs h := hg.1.2.2.2.2
    have cL := c_X7_leastOf (h := g) (m := m) hLg (by omega)
    rw [g22, g4] at cL
    have hg1 : px_same SC h (pI g 21 4 (bal mv (RK mv (rtF ev fr kf n kd op kn) m).1 (30 * m) 30)) := hg.I (by decide) _ _
    have hT1 := hT.same hg1 (by decide) (fun x hx => SC_hi hx)
    have cR := x_X7_rateOf (h := (pI g 21 4 (bal mv (RK mv (rtF ev fr kf n kd op kn) m).1 (30 * m) 30))) (p := (lea mv (RK mv (rtF ev fr kf n kd op kn) m).1 (30 * m) 30) / 240) (kn := kn) (m := m) (hL.same hg1) hT1 (hA.same hg1) h78 ((congrFun (hg1.2 r (SC_hi h78)) _).trans hkd) ((congrFun (hg1.2 r (SC_hi h78)) _).trans hop) (by omega)
    refine px_iload d_X7_reckon_34 rfl ?_
    refine px_iload_n d_X7_reckon_36 rfl rfl ?_
    refine px_icmp_ge (tgt := 121) d_X7_reckon_37 (by decide) (fun c37 => absurd c37 (nI_ge (by omega) (by omega))) (fun c37 => ?_)
    refine px_iload d_X7_reckon_40 rfl ?_
    refine px_bipush (v := 24) d_X7_reckon_42 (by decide) ?_
    refine px_icmp_ge (tgt := 121) d_X7_reckon_44 (by decide) (fun c44 => absurd c44 (nI_ge (b := 24) (by omega) (by decide))) (fun c44 => ?_)
    refine px_aload_n d_X7_reckon_47 rfl rfl ?_
    refine px_iload d_X7_reckon_48 rfl ?_
    refine px_callV (cL) d_X7_reckon_50 lk_X7_56 ok_X7_leastOf ov_X7_leastOf (so21 hLg) (by decide) rfl rfl (Nat.le_of_ble_eq_true rfl) (by decide) ⟨Nat.le_of_eq eN, Nat.le_of_eq eS⟩ ?_
    refine px_sipush (v := 240) d_X7_reckon_53 (by decide) ?_
    refine px_idiv d_X7_reckon_56 (by decide) ?_
    refine px_istore d_X7_reckon_57 (by decide) ?_
    refine px_aload_n d_X7_reckon_59 rfl rfl ?_
    refine px_iload d_X7_reckon_60 rfl ?_
    refine px_iconst (v := 1) d_X7_reckon_62 (by decide) ?_
    refine px_icmp_ge (tgt := 70) d_X7_reckon_63 (by decide) (fun c63 => ?_) (fun c63 => ?_)
    · refine px_iload d_X7_reckon_70 rfl ?_
      refine px_aload_n d_X7_reckon_72 rfl rfl ?_
      refine px_aload_n d_X7_reckon_73 rfl rfl ?_
      refine px_iload d_X7_reckon_74 rfl ?_
      refine px_iload d_X7_reckon_76 rfl ?_
      refine px_iload_n d_X7_reckon_78 rfl rfl ?_
      refine px_callVX (cR) d_X7_reckon_79 lk_X7_60 ok_X7_rateOf ov_X7_rateOf (so21 hLg) (by decide) rfl rfl (Nat.le_of_ble_eq_true rfl) (by decide) ⟨Nat.le_of_eq eN, Nat.le_of_eq eS⟩ (fun r9 h9 q9 n9 s9 => ?_)
      obtain ⟨rfl, hs9⟩ := q9
      refine px_imul d_X7_reckon_82 ?_
      refine px_bipush (v := 100) d_X7_reckon_83 (by decide) ?_
      refine px_idiv d_X7_reckon_85 (by decide) ?_
      first
        | (refine px_val (y := (ern (rtF ev fr kf n kd op kn) m (lea mv (RK mv (rtF ev fr kf n kd op kn) m).1 (30 * m) 30))) (if_neg c63).symm ?_
           refine tl_X7_reckon (M0 := 0) (h := h) (hL.same hg1) rfl ((show hI (pI g 21 4 (bal mv (RK mv (rtF ev fr kf n kd op kn) m).1 (30 * m) 30)) 21 5 = hI g 21 5 from rfl).trans g5) ?_
           refine ih (m + 1) _ (by omega) (((hg1.I (by decide) _ _).I (by decide) _ _).I (by decide) _ _) g22 ?_ ?_ ?_ <;> rw [RK_s] <;> rfl)
        | (have e4 : hI h9 21 4 = (bal mv (RK mv (rtF ev fr kf n kd op kn) m).1 (30 * m) 30) := congrFun (hs9.2 21 (by decide)) _
           have e5 : hI h9 21 5 = (RK mv (rtF ev fr kf n kd op kn) m).2.1 := (congrFun (hs9.2 21 (by decide)) _).trans g5
           refine px_val (y := (ern (rtF ev fr kf n kd op kn) m (lea mv (RK mv (rtF ev fr kf n kd op kn) m).1 (30 * m) 30))) (if_pos c63).symm ?_
           refine tl_X7_reckon (M0 := 0) (h := h) (hL.same (hg1.tr (hs9.mono (fun a ha => SJ_C ha)))) e4 e5 ?_
           refine ih (m + 1) _ (by omega) ((((hg1.tr (hs9.mono (fun a ha => SJ_C ha))).I (by decide) _ _).I (by decide) _ _).I (by decide) _ _) ((hs9.2 22 (by decide)).trans g22) ?_ ?_ ?_ <;> rw [RK_s] <;> rfl)
    · refine px_iconst (v := 0) d_X7_reckon_66 (by decide) ?_
      refine px_goto (tgt := 86) d_X7_reckon_67 (by decide) ?_
      first
        | (refine px_val (y := (ern (rtF ev fr kf n kd op kn) m (lea mv (RK mv (rtF ev fr kf n kd op kn) m).1 (30 * m) 30))) (if_neg c63).symm ?_
           refine tl_X7_reckon (M0 := 0) (h := h) (hL.same hg1) rfl ((show hI (pI g 21 4 (bal mv (RK mv (rtF ev fr kf n kd op kn) m).1 (30 * m) 30)) 21 5 = hI g 21 5 from rfl).trans g5) ?_
           refine ih (m + 1) _ (by omega) (((hg1.I (by decide) _ _).I (by decide) _ _).I (by decide) _ _) g22 ?_ ?_ ?_ <;> rw [RK_s] <;> rfl)
        | (have e4 : hI h9 21 4 = (bal mv (RK mv (rtF ev fr kf n kd op kn) m).1 (30 * m) 30) := congrFun (hs9.2 21 (by decide)) _
           have e5 : hI h9 21 5 = (RK mv (rtF ev fr kf n kd op kn) m).2.1 := (congrFun (hs9.2 21 (by decide)) _).trans g5
           refine px_val (y := (ern (rtF ev fr kf n kd op kn) m (lea mv (RK mv (rtF ev fr kf n kd op kn) m).1 (30 * m) 30))) (if_pos c63).symm ?_
           refine tl_X7_reckon (M0 := 0) (h := h) (hL.same (hg1.tr (hs9.mono (fun a ha => SJ_C ha)))) e4 e5 ?_
           refine ih (m + 1) _ (by omega) ((((hg1.tr (hs9.mono (fun a ha => SJ_C ha))).I (by decide) _ _).I (by decide) _ _).I (by decide) _ _) ((hs9.2 22 (by decide)).trans g22) ?_ ?_ ?_ <;> rw [RK_s] <;> rfl)
def mvC (h : PH) (a kn : Int32) (ne : Nat) : Nat → Int32 := fun j => if j < 720 then gat (hI h 3) (hI h 4) (hI h 5) (hI h 6) a kn ne j else hI h 22 j
theorem nI_d30 : ∀ d, d < 720 → nI d / 30 = nI (d / 30) := by decide +kernel
def balC (mv : Nat → Int32) (rate : Nat → Int32 → Int32) (d : Nat) : Int32 := bal mv (RK mv rate (d / 30)).1 (30 * (d / 30)) (d - 30 * (d / 30) + 1)
theorem x_X7_reckon {h : PH} {kn : Int32} {M : Nat} (hL : px_L h) {n : Nat} {ro to ln : Nat → Nat} {fr kf : Nat → Int32} {ev : Nat → (Nat → Int32) → Int32 → Int32} (hT : TX h n ro to ln fr kf ev) {r r1 r2 : Nat} (hA : px_acc h r r1 r2) (h78 : 78 ≤ r) {kd op : Int32} (hkd : hI h r 1 = kd) (hop : hI h r 3 = op) {ne : Nat} (hs1 : hI h 2 4 = nI ne) (hn4 : ne ≤ 400) (hd : ∀ i, i < ne → ∃ j, j < 720 ∧ hI h 4 i = nI j) {a : Int32} (ha : hI h r 0 = a) (hM : M ≤ 24) : PX M_X7_reckon [.ref 21, .ref r, .int (nI M), .int kn] h 0 0 (rkQ h (mvC h a kn ne) (RK (mvC h a kn ne) (rtF ev fr kf n kd op kn) M)) := by
  refine PX.of (by decide +kernel) (by decide +kernel) (Nat.le_of_ble_eq_true rfl) ?_
  refine px_aload_n d_X7_reckon_0 rfl rfl ?_
  refine px_getR d_X7_reckon_1 fl_X7_15 (by decide) (so21 hL) (sr21_0 hL) ?_
  refine px_aload_n d_X7_reckon_4 rfl rfl ?_
  refine px_getI d_X7_reckon_5 fl_X7_45 rfl hA.1 ?_
  refine px_val (y := a) ha ?_
  refine px_iload_n d_X7_reckon_8 rfl rfl ?_
  refine px_aload_n d_X7_reckon_9 rfl rfl ?_
  refine px_getR d_X7_reckon_10 fl_X7_9 (by decide) (so21 hL) (sr21_3 hL) ?_
  refine px_callV (c_X2_gatherByDay hL hs1 hn4 hd) d_X7_reckon_13 lk_X7_50 ok_X2_gatherByDay ov_X2_gatherByDay (so2 hL) (by decide) rfl rfl (Nat.le_of_ble_eq_true rfl) (by decide) ⟨Nat.le_refl (hn h), Nat.le_refl (hs h)⟩ ?_
  refine px_aload_n d_X7_reckon_16 rfl rfl ?_
  refine px_iconst (v := 0) d_X7_reckon_17 (by decide) ?_
  refine px_putI d_X7_reckon_18 fl_X7_35 rfl (so21 hL) ?_
  refine px_aload_n d_X7_reckon_21 rfl rfl ?_
  refine px_iconst (v := 0) d_X7_reckon_22 (by decide) ?_
  refine px_putI d_X7_reckon_23 fl_X7_42 rfl (so21 hL) ?_
  refine px_aload_n d_X7_reckon_26 rfl rfl ?_
  refine px_iconst (v := 0) d_X7_reckon_27 (by decide) ?_
  refine px_putI d_X7_reckon_28 fl_X7_39 rfl (so21 hL) ?_
  refine px_iconst (v := 0) d_X7_reckon_31 (by decide) ?_
  refine px_istore d_X7_reckon_32 (by decide) ?_
  refine px_drop (lv' := [(0, .ref 21), (1, .ref r), (2, .int (nI M)), (3, .int kn), (4, .int (nI (0)))]) ⟨rfl, rfl, rfl, rfl, rfl, trivial⟩ ?_
  exact lp_X7_reckon hL hT hA h78 hkd hop hM M 0 _ (by omega) ((((px_same.rf.r (by decide) _).I (by decide) _ _).I (by decide) _ _).I (by decide) _ _) rfl rfl rfl rfl
theorem lp_X7_balanceAt {h g : PH} {kn b : Int32} {mv : Nat → Int32} {r d q30 : Nat} (hL : px_L h) (hg : px_same SC h g) (g22 : hI g 22 = mv) (hd : d < 720) (hq : q30 ≤ d) : ∀ (k i : Nat), q30 + i + k = d + 1 → PW M_X7_balanceAt (hn h) (hs h) (PXpost h 0 0 (sQ SC h (bal mv b q30 (d - q30 + 1)))) 30 [(0, .ref 21), (1, .ref r), (2, .int (nI d)), (3, .int kn), (5, .int (nI (q30 + i)))] [] (pI g 21 4 (bal mv b q30 i)) := by
  have hLg := hL.same hg
  intro k
  induction k with
  | zero =>
    intro i hi
    have e : i = d - q30 + 1 := by omega
    rw [e]
    refine px_iload d_X7_balanceAt_30 rfl ?_
    refine px_iload_n d_X7_balanceAt_32 rfl rfl ?_
    refine px_icmp_gt (tgt := 58) d_X7_balanceAt_33 (by decide) (fun c33 => ?_) (fun c33 => (c33 (nI_lt (by omega) (by omega))).elim)
    refine px_aload_n d_X7_balanceAt_58 rfl rfl ?_
    refine px_getI d_X7_balanceAt_59 fl_X7_35 rfl (so21 hLg) ?_
    exact px_ireturn d_X7_balanceAt_62 rfl rfl ⟨rfl, ⟨rfl, hg.I (by decide) _ _⟩, hg.1.2.2.2.1, hg.1.2.2.2.2⟩
  | succ k ih =>
    intro i hi
    refine px_iload d_X7_balanceAt_30 rfl ?_
    refine px_iload_n d_X7_balanceAt_32 rfl rfl ?_
    refine px_icmp_gt (tgt := 58) d_X7_balanceAt_33 (by decide) (fun c33 => absurd c33 (nI_nlt (by omega) (by omega))) (fun c33 => ?_)
    refine px_aload_n d_X7_balanceAt_36 rfl rfl ?_
    refine px_dup d_X7_balanceAt_37 rfl ?_
    refine px_getI d_X7_balanceAt_38 fl_X7_35 rfl (so21 hLg) ?_
    refine px_val (y := bal mv b q30 i) rfl ?_
    refine px_aload_n d_X7_balanceAt_41 rfl rfl ?_
    refine px_getR d_X7_balanceAt_42 fl_X7_9 (by decide) (so21 hLg) (sr21_3 hLg) ?_
    refine px_iload d_X7_balanceAt_45 rfl ?_
    refine px_iald d_X7_balanceAt_47 (sa22 hLg) rfl (by omega) ?_
    refine px_val (y := mv (q30 + i)) (congrFun g22 _) ?_
    refine px_iadd d_X7_balanceAt_48 ?_
    refine px_putI d_X7_balanceAt_49 fl_X7_35 rfl (so21 hLg) ?_
    refine px_heap (h2 := (pI g 21 4 (bal mv b q30 (i + 1)))) (pI_pI ..) ?_
    refine px_inc1 d_X7_balanceAt_52 rfl (by decide) ?_
    refine px_goto (tgt := 30) d_X7_balanceAt_55 (by decide) ?_
    refine px_drop (lv' := [(0, .ref 21), (1, .ref r), (2, .int (nI d)), (3, .int kn), (5, .int (nI (q30 + (i + 1))))]) ⟨rfl, rfl, rfl, rfl, px_si (nI_s1 _), trivial⟩ ?_
    exact ih (i + 1) (by omega)
theorem x_X7_balanceAt {h : PH} {kn : Int32} {d : Nat} (hL : px_L h) {n : Nat} {ro to ln : Nat → Nat} {fr kf : Nat → Int32} {ev : Nat → (Nat → Int32) → Int32 → Int32} (hT : TX h n ro to ln fr kf ev) {r r1 r2 : Nat} (hA : px_acc h r r1 r2) (h78 : 78 ≤ r) {kd op : Int32} (hkd : hI h r 1 = kd) (hop : hI h r 3 = op) {ne : Nat} (hs1 : hI h 2 4 = nI ne) (hn4 : ne ≤ 400) (hd : ∀ i, i < ne → ∃ j, j < 720 ∧ hI h 4 i = nI j) {a : Int32} (ha : hI h r 0 = a) (hd7 : d < 720) : PX M_X7_balanceAt [.ref 21, .ref r, .int (nI d), .int kn] h 0 0 (sQ SC h (balC (mvC h a kn ne) (rtF ev fr kf n kd op kn) d)) := by
  refine PX.of (by decide +kernel) (by decide +kernel) (Nat.le_of_ble_eq_true rfl) ?_
  refine px_iload_n d_X7_balanceAt_0 rfl rfl ?_
  refine px_callSN (c_X11_isDay) d_X7_balanceAt_1 ln_X7_27 ok_X11_isDay os_X11_isDay rfl (Nat.le_of_ble_eq_true rfl) (by decide) ⟨Nat.le_refl (hn h), Nat.le_refl (hs h)⟩ ?_
  refine px_if_ne (tgt := 9) d_X7_balanceAt_4 (by decide) (fun c4 => ?_) (fun c4 => absurd c4 (bI_n.mpr ⟨nI_pos (by omega), nI_nlt (a := 719) (b := d) (by omega) (by decide)⟩))
  refine px_iload_n d_X7_balanceAt_9 rfl rfl ?_
  refine px_bipush (v := 30) d_X7_balanceAt_10 (by decide) ?_
  refine px_idiv d_X7_balanceAt_12 (by decide) ?_
  refine px_val (y := nI (d / 30)) (nI_d30 d hd7) ?_
  refine px_istore d_X7_balanceAt_13 (by decide) ?_
  refine px_aload_n d_X7_balanceAt_15 rfl rfl ?_
  refine px_aload_n d_X7_balanceAt_16 rfl rfl ?_
  refine px_iload d_X7_balanceAt_17 rfl ?_
  refine px_iload_n d_X7_balanceAt_19 rfl rfl ?_
  refine px_callVX (x_X7_reckon (M := d / 30) hL hT hA h78 hkd hop hs1 hn4 hd ha (by omega)) d_X7_balanceAt_20 lk_X7_31 ok_X7_reckon ov_X7_reckon (so21 hL) (by decide) rfl rfl (Nat.le_of_ble_eq_true rfl) (by decide) ⟨Nat.le_refl (hn h), Nat.le_refl (hs h)⟩ (fun r9 h9 q9 n9 s9 => ?_)
  obtain ⟨rfl, hs9, g22, g4, g5, g6⟩ := q9
  have hL9 := hL.same hs9
  refine px_iload d_X7_balanceAt_23 rfl ?_
  refine px_bipush (v := 30) d_X7_balanceAt_25 (by decide) ?_
  refine px_imul d_X7_balanceAt_27 ?_
  refine px_val (y := nI (30 * (d / 30))) (nI_m30 _) ?_
  refine px_istore d_X7_balanceAt_28 (by decide) ?_
  refine px_drop (lv' := [(0, .ref 21), (1, .ref r), (2, .int (nI d)), (3, .int kn), (5, .int (nI (30 * (d / 30) + 0)))]) ⟨rfl, rfl, rfl, rfl, rfl, trivial⟩ ?_
  refine px_heap (h2 := pI h9 21 4 (bal (mvC h a kn ne) (RK (mvC h a kn ne) (rtF ev fr kf n kd op kn) (d / 30)).1 (30 * (d / 30)) 0)) (by show h9 = pI h9 _ _ (RK (mvC h a kn ne) (rtF ev fr kf n kd op kn) (d / 30)).1; rw [← g4]; exact (pI_self ..).symm) ?_
  exact lp_X7_balanceAt hL hs9 g22 hd7 (by omega) (d + 1 - 30 * (d / 30)) 0 (by omega)
theorem n_X7_balanceAt {h : PH} {kn d : Int32} {r : Nat} (hv : ¬ (¬ d < 0 ∧ ¬ 719 < d)) : PM M_X7_balanceAt [.ref 21, .ref r, .int d, .int kn] h (some (.int 0)) h := by
  refine PM.of (by decide +kernel) (by decide +kernel) (Nat.le_refl _) (Nat.le_refl _) (Nat.le_of_ble_eq_true rfl) ?_
  refine px_iload_n d_X7_balanceAt_0 rfl rfl ?_
  refine px_callSN (c_X11_isDay) d_X7_balanceAt_1 ln_X7_27 ok_X11_isDay os_X11_isDay rfl (Nat.le_of_ble_eq_true rfl) (by decide) ⟨Nat.le_refl _, Nat.le_refl _⟩ ?_
  refine px_if_ne (tgt := 9) d_X7_balanceAt_4 (by decide) (fun c4 => absurd (bI_n.mp c4) hv) (fun c4 => ?_)
  refine px_iconst (v := 0) d_X7_balanceAt_7 (by decide) ?_
  exact px_ireturn d_X7_balanceAt_8 rfl rfl ⟨rfl, rfl, rfl⟩
theorem x_X7_earnedIn {h : PH} {kn : Int32} {m : Nat} (hL : px_L h) {n : Nat} {ro to ln : Nat → Nat} {fr kf : Nat → Int32} {ev : Nat → (Nat → Int32) → Int32 → Int32} (hT : TX h n ro to ln fr kf ev) {r r1 r2 : Nat} (hA : px_acc h r r1 r2) (h78 : 78 ≤ r) {kd op : Int32} (hkd : hI h r 1 = kd) (hop : hI h r 3 = op) {ne : Nat} (hs1 : hI h 2 4 = nI ne) (hn4 : ne ≤ 400) (hd : ∀ i, i < ne → ∃ j, j < 720 ∧ hI h 4 i = nI j) {a : Int32} (ha : hI h r 0 = a) (hm : m < 24) : PX M_X7_earnedIn [.ref 21, .ref r, .int (nI m), .int kn] h 0 0 (sQ SC h (RK (mvC h a kn ne) (rtF ev fr kf n kd op kn) (m + 1)).2.2) := by
  refine PX.of (by decide +kernel) (by decide +kernel) (Nat.le_of_ble_eq_true rfl) ?_
  refine px_aload_n d_X7_earnedIn_0 rfl rfl ?_
  refine px_aload_n d_X7_earnedIn_1 rfl rfl ?_
  refine px_iload_n d_X7_earnedIn_2 rfl rfl ?_
  refine px_iconst (v := 1) d_X7_earnedIn_3 (by decide) ?_
  refine px_iadd d_X7_earnedIn_4 ?_
  refine px_val (y := nI (m + 1)) (nI_s1 m) ?_
  refine px_iload_n d_X7_earnedIn_5 rfl rfl ?_
  refine px_callVX (x_X7_reckon (M := m + 1) hL hT hA h78 hkd hop hs1 hn4 hd ha (by omega)) d_X7_earnedIn_6 lk_X7_31 ok_X7_reckon ov_X7_reckon (so21 hL) (by decide) rfl rfl (Nat.le_of_ble_eq_true rfl) (by decide) ⟨Nat.le_refl (hn h), Nat.le_refl (hs h)⟩ (fun r9 h9 q9 n9 s9 => ?_)
  obtain ⟨rfl, hs9, g22, g4, g5, g6⟩ := q9
  have hL9 := hL.same hs9
  refine px_aload_n d_X7_earnedIn_9 rfl rfl ?_
  refine px_getI d_X7_earnedIn_10 fl_X7_39 rfl (so21 hL9) ?_
  exact px_ireturn d_X7_earnedIn_13 rfl rfl ⟨rfl, ⟨px_si g6, hs9⟩, n9, s9⟩
theorem x_X7_earnedAhead {h : PH} {kn : Int32} {d : Nat} (hL : px_L h) {n : Nat} {ro to ln : Nat → Nat} {fr kf : Nat → Int32} {ev : Nat → (Nat → Int32) → Int32 → Int32} (hT : TX h n ro to ln fr kf ev) {r r1 r2 : Nat} (hA : px_acc h r r1 r2) (h78 : 78 ≤ r) {kd op : Int32} (hkd : hI h r 1 = kd) (hop : hI h r 3 = op) {ne : Nat} (hs1 : hI h 2 4 = nI ne) (hn4 : ne ≤ 400) (hd : ∀ i, i < ne → ∃ j, j < 720 ∧ hI h 4 i = nI j) {a : Int32} (ha : hI h r 0 = a) (hd7 : d < 720) : PX M_X7_earnedAhead [.ref 21, .ref r, .int (nI d), .int kn] h 0 0 (sQ SC h (RK (mvC h a kn ne) (rtF ev fr kf n kd op kn) (d / 30)).2.1) := by
  refine PX.of (by decide +kernel) (by decide +kernel) (Nat.le_of_ble_eq_true rfl) ?_
  refine px_aload_n d_X7_earnedAhead_0 rfl rfl ?_
  refine px_aload_n d_X7_earnedAhead_1 rfl rfl ?_
  refine px_iload_n d_X7_earnedAhead_2 rfl rfl ?_
  refine px_bipush (v := 30) d_X7_earnedAhead_3 (by decide) ?_
  refine px_idiv d_X7_earnedAhead_5 (by decide) ?_
  refine px_val (y := nI (d / 30)) (nI_d30 d hd7) ?_
  refine px_iload_n d_X7_earnedAhead_6 rfl rfl ?_
  refine px_callVX (x_X7_reckon (M := d / 30) hL hT hA h78 hkd hop hs1 hn4 hd ha (by omega)) d_X7_earnedAhead_7 lk_X7_31 ok_X7_reckon ov_X7_reckon (so21 hL) (by decide) rfl rfl (Nat.le_of_ble_eq_true rfl) (by decide) ⟨Nat.le_refl (hn h), Nat.le_refl (hs h)⟩ (fun r9 h9 q9 n9 s9 => ?_)
  obtain ⟨rfl, hs9, g22, g4, g5, g6⟩ := q9
  have hL9 := hL.same hs9
  refine px_aload_n d_X7_earnedAhead_10 rfl rfl ?_
  refine px_getI d_X7_earnedAhead_11 fl_X7_42 rfl (so21 hL9) ?_
  exact px_ireturn d_X7_earnedAhead_14 rfl rfl ⟨rfl, ⟨px_si g5, hs9⟩, n9, s9⟩
