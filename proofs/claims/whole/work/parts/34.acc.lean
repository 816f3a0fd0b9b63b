theorem hn_I (h : PH) (a i : Nat) (v : Int32) : hn (pI h a i v) = hn h := rfl
theorem hs_I (h : PH) (a i : Nat) (v : Int32) : hs (pI h a i v) = hs h := rfl
theorem hn_J (h : PH) (a i : Nat) (v : Int64) : hn (pJ h a i v) = hn h := rfl
theorem hs_J (h : PH) (a i : Nat) (v : Int64) : hs (pJ h a i v) = hs h := rfl
theorem hn_R (h : PH) (a i : Nat) (v : Option Nat) : hn (pR h a i v) = hn h := rfl
theorem hs_R (h : PH) (a i : Nat) (v : Option Nat) : hs (pR h a i v) = hs h := rfl
theorem hn_N (h : PH) (kd len sl : Nat) : hn (pN h kd len sl) = hn h + 1 := rfl
theorem hs_N (h : PH) (kd len sl : Nat) : hs (pN h kd len sl) = hs h + sl := rfl
theorem ob_ar {h : PH} {r r1 ci kd len : Nat} (ho : px_ob h r ci) (ha : px_ar h r1 kd len) (hne : ci ≠ kd) : r ≠ r1 := by
  intro e
  subst e
  have h1 := ho.2
  rw [ha.2.1] at h1
  exact hne h1.symm
theorem px_ob.N {h : PH} {r ci kd len sl : Nat} (ho : px_ob h r ci) : px_ob (pN h kd len sl) r ci := ⟨Nat.lt_succ_of_lt ho.1, by
  have e : hK (pN h kd len sl) r = hK h r := up1_ne (Nat.ne_of_lt ho.1)
  rw [e]; exact ho.2⟩
theorem px_ar.N {h : PH} {r c0 l0 kd len sl : Nat} (ha : px_ar h r c0 l0) : px_ar (pN h kd len sl) r c0 l0 := ⟨Nat.lt_succ_of_lt ha.1, by
  have e : hK (pN h kd len sl) r = hK h r := up1_ne (Nat.ne_of_lt ha.1)
  rw [e]; exact ha.2.1, ha.2.2⟩
/-- an account's cells -/
def px_acc (h : PH) (r r1 r2 : Nat) : Prop := px_ob h r 0 ∧ (hR h r 4 = some r1 ∧ hR h r 5 = some r2) ∧ (px_ar h r1 20 40 ∧ px_ar h r2 20 40) ∧ r1 ≠ r2
def us (x n : Int32) : Int32 := (x.toUInt32 >>> (n.toUInt32 &&& Int32.toUInt32 31)).toInt32
def bc1 (x : Int32) : Int32 := x - (us x 1 &&& 1431655765)
def bc2 (x : Int32) : Int32 := (bc1 x &&& 858993459) + (us (bc1 x) 2 &&& 858993459)
def bc3 (x : Int32) : Int32 := (bc2 x + us (bc2 x) 4) &&& 252645135
def bc4 (x : Int32) : Int32 := bc3 x + us (bc3 x) 8
def bcF (x : Int32) : Int32 := (bc4 x + us (bc4 x) 16) &&& 63
def sgnC (kd wi td s : Int32) : Prop := if kd = 2 then ¬ bcF (s &&& 7) < 2 else if kd = 1 ∧ ¬ wi ≤ td then ¬ s &&& 8 = 0 else ¬ s &&& 1 = 0
def sgnD (kd wi td s : Int32) : Decidable (sgnC kd wi td s) := by unfold sgnC; infer_instance
theorem c_J6_bitCount_0f7a4 {h : PH} {x : Int32} : PM M_J6_bitCount_0f7a4 [.int x] h (some (.int (bcF x))) h := by
  refine PM.of (by decide +kernel) (by decide +kernel) (Nat.le_refl _) (Nat.le_refl _) (Nat.le_of_ble_eq_true rfl) ?_
  refine px_iload_n d_J6_bitCount_0f7a4_0 rfl rfl ?_
  refine px_iload_n d_J6_bitCount_0f7a4_1 rfl rfl ?_
  refine px_iconst (v := 1) d_J6_bitCount_0f7a4_2 (by decide) ?_
  refine px_iushr d_J6_bitCount_0f7a4_3 ?_
  refine px_ldcw d_J6_bitCount_0f7a4_4 ck_J6_265 ?_
  refine px_iand d_J6_bitCount_0f7a4_7 ?_
  refine px_isub d_J6_bitCount_0f7a4_8 ?_
  refine px_istore_n d_J6_bitCount_0f7a4_9 rfl (by decide) ?_
  refine px_iload_n d_J6_bitCount_0f7a4_10 rfl rfl ?_
  refine px_ldcw d_J6_bitCount_0f7a4_11 ck_J6_266 ?_
  refine px_iand d_J6_bitCount_0f7a4_14 ?_
  refine px_iload_n d_J6_bitCount_0f7a4_15 rfl rfl ?_
  refine px_iconst (v := 2) d_J6_bitCount_0f7a4_16 (by decide) ?_
  refine px_iushr d_J6_bitCount_0f7a4_17 ?_
  refine px_ldcw d_J6_bitCount_0f7a4_18 ck_J6_266 ?_
  refine px_iand d_J6_bitCount_0f7a4_21 ?_
  refine px_iadd d_J6_bitCount_0f7a4_22 ?_
  refine px_istore_n d_J6_bitCount_0f7a4_23 rfl (by decide) ?_
  refine px_iload_n d_J6_bitCount_0f7a4_24 rfl rfl ?_
  refine px_iload_n d_J6_bitCount_0f7a4_25 rfl rfl ?_
  refine px_iconst (v := 4) d_J6_bitCount_0f7a4_26 (by decide) ?_
  refine px_iushr d_J6_bitCount_0f7a4_27 ?_
  refine px_iadd d_J6_bitCount_0f7a4_28 ?_
  refine px_ldcw d_J6_bitCount_0f7a4_29 ck_J6_267 ?_
  refine px_iand d_J6_bitCount_0f7a4_32 ?_
  refine px_istore_n d_J6_bitCount_0f7a4_33 rfl (by decide) ?_
  refine px_iload_n d_J6_bitCount_0f7a4_34 rfl rfl ?_
  refine px_iload_n d_J6_bitCount_0f7a4_35 rfl rfl ?_
  refine px_bipush (v := 8) d_J6_bitCount_0f7a4_36 (by decide) ?_
  refine px_iushr d_J6_bitCount_0f7a4_38 ?_
  refine px_iadd d_J6_bitCount_0f7a4_39 ?_
  refine px_istore_n d_J6_bitCount_0f7a4_40 rfl (by decide) ?_
  refine px_iload_n d_J6_bitCount_0f7a4_41 rfl rfl ?_
  refine px_iload_n d_J6_bitCount_0f7a4_42 rfl rfl ?_
  refine px_bipush (v := 16) d_J6_bitCount_0f7a4_43 (by decide) ?_
  refine px_iushr d_J6_bitCount_0f7a4_45 ?_
  refine px_iadd d_J6_bitCount_0f7a4_46 ?_
  refine px_istore_n d_J6_bitCount_0f7a4_47 rfl (by decide) ?_
  refine px_iload_n d_J6_bitCount_0f7a4_48 rfl rfl ?_
  refine px_bipush (v := 63) d_J6_bitCount_0f7a4_49 (by decide) ?_
  refine px_iand d_J6_bitCount_0f7a4_51 ?_
  exact px_ireturn d_J6_bitCount_0f7a4_52 rfl rfl ⟨rfl, rfl, rfl⟩
theorem c_X0_isSigned {h : PH} {r r1 r2 : Nat} (hA : px_acc h r r1 r2) {s td : Int32} : PM M_X0_isSigned [.ref r, .int s, .int td] h (some (.int (@bI (sgnC (hI h r 1) (hI h r 2) td s) (sgnD _ _ _ _)))) h := by
  refine PM.of (by decide +kernel) (by decide +kernel) (Nat.le_refl _) (Nat.le_refl _) (Nat.le_of_ble_eq_true rfl) ?_
  refine px_aload_n d_X0_isSigned_0 rfl rfl ?_
  refine px_getI d_X0_isSigned_1 fl_X0_15 rfl hA.1 ?_
  refine px_iconst (v := 2) d_X0_isSigned_4 (by decide) ?_
  refine px_icmp_ne (tgt := 25) d_X0_isSigned_5 (by decide) (fun c5 => ?_) (fun c5 => ?_)
  · refine px_aload_n d_X0_isSigned_25 rfl rfl ?_
    refine px_getI d_X0_isSigned_26 fl_X0_15 rfl hA.1 ?_
    refine px_iconst (v := 1) d_X0_isSigned_29 (by decide) ?_
    refine px_icmp_ne (tgt := 54) d_X0_isSigned_30 (by decide) (fun c30 => ?_) (fun c30 => ?_)
    · refine px_iload_n d_X0_isSigned_54 rfl rfl ?_
      refine px_iconst (v := 1) d_X0_isSigned_55 (by decide) ?_
      refine px_iand d_X0_isSigned_56 ?_
      refine px_if_eq (tgt := 64) d_X0_isSigned_57 (by decide) (fun c57 => ?_) (fun c57 => ?_)
      · refine px_iconst (v := 0) d_X0_isSigned_64 (by decide) ?_
        exact px_ireturn d_X0_isSigned_65 rfl rfl ⟨rfl, px_si (by simp [bI, sgnC, c5, c30, c57]), rfl⟩
      · refine px_iconst (v := 1) d_X0_isSigned_60 (by decide) ?_
        refine px_goto (tgt := 65) d_X0_isSigned_61 (by decide) ?_
        exact px_ireturn d_X0_isSigned_65 rfl rfl ⟨rfl, px_si (by simp [bI, sgnC, c5, c30, c57]), rfl⟩
    · refine px_iload_n d_X0_isSigned_33 rfl rfl ?_
      refine px_aload_n d_X0_isSigned_34 rfl rfl ?_
      refine px_getI d_X0_isSigned_35 fl_X0_18 rfl hA.1 ?_
      refine px_icmp_ge (tgt := 54) d_X0_isSigned_38 (by decide) (fun c38 => ?_) (fun c38 => ?_)
      · refine px_iload_n d_X0_isSigned_54 rfl rfl ?_
        refine px_iconst (v := 1) d_X0_isSigned_55 (by decide) ?_
        refine px_iand d_X0_isSigned_56 ?_
        refine px_if_eq (tgt := 64) d_X0_isSigned_57 (by decide) (fun c57 => ?_) (fun c57 => ?_)
        · refine px_iconst (v := 0) d_X0_isSigned_64 (by decide) ?_
          exact px_ireturn d_X0_isSigned_65 rfl rfl ⟨rfl, px_si (by simp [bI, sgnC, c5, c30, c38, c57]), rfl⟩
        · refine px_iconst (v := 1) d_X0_isSigned_60 (by decide) ?_
          refine px_goto (tgt := 65) d_X0_isSigned_61 (by decide) ?_
          exact px_ireturn d_X0_isSigned_65 rfl rfl ⟨rfl, px_si (by simp [bI, sgnC, c5, c30, c38, c57]), rfl⟩
      · refine px_iload_n d_X0_isSigned_41 rfl rfl ?_
        refine px_bipush (v := 8) d_X0_isSigned_42 (by decide) ?_
        refine px_iand d_X0_isSigned_44 ?_
        refine px_if_eq (tgt := 52) d_X0_isSigned_45 (by decide) (fun c45 => ?_) (fun c45 => ?_)
        · refine px_iconst (v := 0) d_X0_isSigned_52 (by decide) ?_
          exact px_ireturn d_X0_isSigned_53 rfl rfl ⟨rfl, px_si (by simp [bI, sgnC, c5, c30, c38, c45]), rfl⟩
        · refine px_iconst (v := 1) d_X0_isSigned_48 (by decide) ?_
          refine px_goto (tgt := 53) d_X0_isSigned_49 (by decide) ?_
          exact px_ireturn d_X0_isSigned_53 rfl rfl ⟨rfl, px_si (by simp [bI, sgnC, c5, c30, c38, c45]), rfl⟩
  · refine px_iload_n d_X0_isSigned_8 rfl rfl ?_
    refine px_bipush (v := 7) d_X0_isSigned_9 (by decide) ?_
    refine px_iand d_X0_isSigned_11 ?_
    refine px_callS (c_J6_bitCount_0f7a4) d_X0_isSigned_12 lk_X0_31 ok_J6_bitCount_0f7a4 os_J6_bitCount_0f7a4 rfl (Nat.le_of_ble_eq_true rfl) (by decide) ⟨Nat.le_refl _, Nat.le_refl _⟩ ?_
    refine px_iconst (v := 2) d_X0_isSigned_15 (by decide) ?_
    refine px_icmp_lt (tgt := 23) d_X0_isSigned_16 (by decide) (fun c16 => ?_) (fun c16 => ?_)
    · refine px_iconst (v := 0) d_X0_isSigned_23 (by decide) ?_
      exact px_ireturn d_X0_isSigned_24 rfl rfl ⟨rfl, px_si (by simp [bI, sgnC, c5, c16]), rfl⟩
    · refine px_iconst (v := 1) d_X0_isSigned_19 (by decide) ?_
      refine px_goto (tgt := 24) d_X0_isSigned_20 (by decide) ?_
      exact px_ireturn d_X0_isSigned_24 rfl rfl ⟨rfl, px_si (by simp [bI, sgnC, c5, c16]), rfl⟩
theorem hA_n1 {h : PH} {r r1 r2 : Nat} (hA : px_acc h r r1 r2) : r ≠ r1 := ob_ar hA.1 hA.2.2.1.1 (by decide)
theorem hA_n2 {h : PH} {r r1 r2 : Nat} (hA : px_acc h r r1 r2) : r ≠ r2 := ob_ar hA.1 hA.2.2.1.2 (by decide)
def accLn (h : PH) (r r1 r2 m : Nat) (d s : Int32) : PH := pI (pI (pI h r1 m d) r2 m s) r 6 (nI (m + 1))
theorem c_X0_addLine {h : PH} {r r1 r2 : Nat} (hA : px_acc h r r1 r2) {m : Nat} (hm : hI h r 6 = nI m) (hm4 : m < 40) {d s : Int32} : PM M_X0_addLine [.ref r, .int d, .int s] h (some (.int (nI (m + 1)))) (accLn h r r1 r2 m d s) := by
  refine PM.of (by decide +kernel) (by decide +kernel) (Nat.le_refl _) (Nat.le_refl _) (Nat.le_of_ble_eq_true rfl) ?_
  have n1 := hA_n1 hA
  have n2 := hA_n2 hA
  have q1 : hI (pI h r1 m d) r 6 = nI m := (gI_n _ _ _ _ (fun w => n1 w.1)).trans hm
  have q2 : hI (pI (pI h r1 m d) r2 m s) r 6 = nI m := (gI_n _ _ _ _ (fun w => n2 w.1)).trans q1
  refine px_aload_n d_X0_addLine_0 rfl rfl ?_
  refine px_getI d_X0_addLine_1 fl_X0_37 rfl hA.1 ?_
  refine px_bipush (v := 40) d_X0_addLine_4 (by decide) ?_
  refine px_icmp_lt (tgt := 11) d_X0_addLine_6 (by decide) (fun c6 => ?_) (fun c6 => (c6 (by rw [hm]; exact (nI_ltI (b := 40) (by omega) (by decide)).mpr hm4)).elim)
  refine px_aload_n d_X0_addLine_11 rfl rfl ?_
  refine px_getR d_X0_addLine_12 fl_X0_24 (by decide) hA.1 hA.2.1.1 ?_
  refine px_aload_n d_X0_addLine_15 rfl rfl ?_
  refine px_getI d_X0_addLine_16 fl_X0_37 rfl hA.1 ?_
  refine px_iload_n d_X0_addLine_19 rfl rfl ?_
  refine px_iast d_X0_addLine_20 hA.2.2.1.1 hm (by omega) ?_
  refine px_aload_n d_X0_addLine_21 rfl rfl ?_
  refine px_getR d_X0_addLine_22 fl_X0_28 (by decide) hA.1 hA.2.1.2 ?_
  refine px_aload_n d_X0_addLine_25 rfl rfl ?_
  refine px_getI d_X0_addLine_26 fl_X0_37 rfl hA.1 ?_
  refine px_iload_n d_X0_addLine_29 rfl rfl ?_
  refine px_iast d_X0_addLine_30 hA.2.2.1.2 q1 (by omega) ?_
  refine px_aload_n d_X0_addLine_31 rfl rfl ?_
  refine px_dup d_X0_addLine_32 rfl ?_
  refine px_getI d_X0_addLine_33 fl_X0_37 rfl hA.1 ?_
  refine px_iconst (v := 1) d_X0_addLine_36 (by decide) ?_
  refine px_iadd d_X0_addLine_37 ?_
  refine px_val (y := nI (m + 1)) (by rw [← nI_s1, q2]) ?_
  refine px_putI d_X0_addLine_38 fl_X0_37 rfl hA.1 ?_
  refine px_aload_n d_X0_addLine_41 rfl rfl ?_
  refine px_getI d_X0_addLine_42 fl_X0_37 rfl hA.1 ?_
  exact px_ireturn d_X0_addLine_45 rfl rfl ⟨rfl, px_si (gI_s _ _ _ _), rfl⟩
theorem c_X0_addLine0 {h : PH} {r r1 r2 : Nat} (hA : px_acc h r r1 r2) (hm : hI h r 6 = nI 40) {d s : Int32} : PM M_X0_addLine [.ref r, .int d, .int s] h (some (.int (-1))) h := by
  refine PM.of (by decide +kernel) (by decide +kernel) (Nat.le_refl _) (Nat.le_refl _) (Nat.le_of_ble_eq_true rfl) ?_
  refine px_aload_n d_X0_addLine_0 rfl rfl ?_
  refine px_getI d_X0_addLine_1 fl_X0_37 rfl hA.1 ?_
  refine px_bipush (v := 40) d_X0_addLine_4 (by decide) ?_
  refine px_icmp_lt (tgt := 11) d_X0_addLine_6 (by decide) (fun c6 => absurd c6 (by rw [hm]; decide)) (fun c6 => ?_)
  refine px_iconst (v := (-1)) d_X0_addLine_9 (by decide) ?_
  exact px_ireturn d_X0_addLine_10 rfl rfl ⟨rfl, rfl, rfl⟩
/-- how many of the first n are x, y -/
def cnt2 (f g : Nat → Int32) (x y : Int32) : Nat → Int32
  | 0 => 0
  | n + 1 => cnt2 f g x y n + (if f n = x ∧ g n = y then 1 else 0)
/-- pairs of the first n lines -/
def prs (f g A D S : Nat → Int32) (a : Int32) (m : Nat) : Nat → Int32
  | 0 => 0
  | n + 1 => prs f g A D S a m n + (if ¬ cnt3 A D S a (f n) (g n) m < cnt2 f g (f n) (g n) (n + 1) then 1 else 0)
theorem lp_X0_linesLike {h : PH} {r r1 r2 : Nat} (hA : px_acc h r r1 r2) {t : Nat} (ht : t < 40) : ∀ (k : Nat) (i : Nat), i + k = t + 1 → PW M_X0_linesLike (hn h) (hs h) (PMpost (some (.int (cnt2 (hI h r1) (hI h r2) (hI h r1 t) (hI h r2 t) (t + 1)))) h) 4 [(0, .ref r), (1, .int (nI t)), (2, .int (cnt2 (hI h r1) (hI h r2) (hI h r1 t) (hI h r2 t) (i))), (3, .int (nI (i)))] [] h := by
  intro k
  induction k with
  | zero =>
    intro i hi
    have e : i = t + 1 := by omega
    subst e
    refine px_iload_n d_X0_linesLike_4 rfl rfl ?_
    refine px_iload_n d_X0_linesLike_5 rfl rfl ?_
    refine px_icmp_gt (tgt := 48) d_X0_linesLike_6 (by decide) (fun c6 => ?_) (fun c6 => (c6 ((nI_ltI (by omega) (by omega)).mpr (by omega))).elim)
    refine px_iload_n d_X0_linesLike_48 rfl rfl ?_
    exact px_ireturn d_X0_linesLike_49 rfl rfl ⟨rfl, rfl, rfl⟩
  | succ k ih =>
    intro i hi
    refine px_iload_n d_X0_linesLike_4 rfl rfl ?_
    refine px_iload_n d_X0_linesLike_5 rfl rfl ?_
    refine px_icmp_gt (tgt := 48) d_X0_linesLike_6 (by decide) (fun c6 => absurd c6 (nI_nlt (by omega) (by omega))) (fun c6 => ?_)
    refine px_aload_n d_X0_linesLike_9 rfl rfl ?_
    refine px_getR d_X0_linesLike_10 fl_X0_24 (by decide) hA.1 hA.2.1.1 ?_
    refine px_iload_n d_X0_linesLike_13 rfl rfl ?_
    refine px_iald d_X0_linesLike_14 hA.2.2.1.1 rfl (by omega) ?_
    refine px_aload_n d_X0_linesLike_15 rfl rfl ?_
    refine px_getR d_X0_linesLike_16 fl_X0_24 (by decide) hA.1 hA.2.1.1 ?_
    refine px_iload_n d_X0_linesLike_19 rfl rfl ?_
    refine px_iald d_X0_linesLike_20 hA.2.2.1.1 rfl (by omega) ?_
    refine px_icmp_ne (tgt := 42) d_X0_linesLike_21 (by decide) (fun c21 => ?_) (fun c21 => ?_)
    · refine px_inc1 d_X0_linesLike_42 rfl (by decide) ?_
      refine px_goto (tgt := 4) d_X0_linesLike_45 (by decide) ?_
      refine px_drop (lv' := [(0, .ref r), (1, .int (nI t)), (2, .int (cnt2 (hI h r1) (hI h r2) (hI h r1 t) (hI h r2 t) (i + 1))), (3, .int (nI (i + 1)))]) ⟨rfl, rfl, px_si (by simp [cnt2, c6, c21]), px_si (nI_s1 _), trivial⟩ ?_
      exact ih (i + 1) (by omega)
    · refine px_aload_n d_X0_linesLike_24 rfl rfl ?_
      refine px_getR d_X0_linesLike_25 fl_X0_28 (by decide) hA.1 hA.2.1.2 ?_
      refine px_iload_n d_X0_linesLike_28 rfl rfl ?_
      refine px_iald d_X0_linesLike_29 hA.2.2.1.2 rfl (by omega) ?_
      refine px_aload_n d_X0_linesLike_30 rfl rfl ?_
      refine px_getR d_X0_linesLike_31 fl_X0_28 (by decide) hA.1 hA.2.1.2 ?_
      refine px_iload_n d_X0_linesLike_34 rfl rfl ?_
      refine px_iald d_X0_linesLike_35 hA.2.2.1.2 rfl (by omega) ?_
      refine px_icmp_ne (tgt := 42) d_X0_linesLike_36 (by decide) (fun c36 => ?_) (fun c36 => ?_)
      · refine px_inc1 d_X0_linesLike_42 rfl (by decide) ?_
        refine px_goto (tgt := 4) d_X0_linesLike_45 (by decide) ?_
        refine px_drop (lv' := [(0, .ref r), (1, .int (nI t)), (2, .int (cnt2 (hI h r1) (hI h r2) (hI h r1 t) (hI h r2 t) (i + 1))), (3, .int (nI (i + 1)))]) ⟨rfl, rfl, px_si (by simp [cnt2, c6, c21, c36]), px_si (nI_s1 _), trivial⟩ ?_
        exact ih (i + 1) (by omega)
      · refine px_inc1 d_X0_linesLike_39 rfl (by decide) ?_
        refine px_inc1 d_X0_linesLike_42 rfl (by decide) ?_
        refine px_goto (tgt := 4) d_X0_linesLike_45 (by decide) ?_
        refine px_drop (lv' := [(0, .ref r), (1, .int (nI t)), (2, .int (cnt2 (hI h r1) (hI h r2) (hI h r1 t) (hI h r2 t) (i + 1))), (3, .int (nI (i + 1)))]) ⟨rfl, rfl, px_si (by simp [cnt2, c6, c21, c36]), px_si (nI_s1 _), trivial⟩ ?_
        exact ih (i + 1) (by omega)
theorem c_X0_linesLike {h : PH} {r r1 r2 : Nat} (hA : px_acc h r r1 r2) {t : Nat} (ht : t < 40) : PM M_X0_linesLike [.ref r, .int (nI t)] h (some (.int (cnt2 (hI h r1) (hI h r2) (hI h r1 t) (hI h r2 t) (t + 1)))) h := by
  refine PM.of (by decide +kernel) (by decide +kernel) (Nat.le_refl _) (Nat.le_refl _) (Nat.le_of_ble_eq_true rfl) ?_
  refine px_iconst (v := 0) d_X0_linesLike_0 (by decide) ?_
  refine px_istore_n d_X0_linesLike_1 rfl (by decide) ?_
  refine px_iconst (v := 0) d_X0_linesLike_2 (by decide) ?_
  refine px_istore_n d_X0_linesLike_3 rfl (by decide) ?_
  exact lp_X0_linesLike hA ht (t + 1) 0 (by omega)
theorem lp_X0_pairsWith {h : PH} (hL : px_L h) {r r1 r2 : Nat} (hA : px_acc h r r1 r2) {m n : Nat} (hm : hI h r 6 = nI m) (hm4 : m ≤ 40) (hs1 : hI h 2 4 = nI n) (hn4 : n ≤ 400) : ∀ (k : Nat) (i : Nat), i + k = m → PW M_X0_pairsWith (hn h) (hs h) (PMpost (some (.int (prs (hI h r1) (hI h r2) (hI h 3) (hI h 4) (hI h 5) (hI h r 0) n (m)))) h) 4 [(0, .ref r), (1, .ref 2), (2, .int (prs (hI h r1) (hI h r2) (hI h 3) (hI h 4) (hI h 5) (hI h r 0) n (i))), (3, .int (nI (i)))] [] h := by
  intro k
  induction k with
  | zero =>
    intro i hi
    have e : i = m := by omega
    subst e
    refine px_iload_n d_X0_pairsWith_4 rfl rfl ?_
    refine px_aload_n d_X0_pairsWith_5 rfl rfl ?_
    refine px_getI d_X0_pairsWith_6 fl_X0_37 rfl hA.1 ?_
    refine px_icmp_ge (tgt := 49) d_X0_pairsWith_9 (by decide) (fun c9 => ?_) (fun c9 => (c9 (by rw [hm]; exact nI_le (by omega) (by omega))).elim)
    refine px_iload_n d_X0_pairsWith_49 rfl rfl ?_
    exact px_ireturn d_X0_pairsWith_50 rfl rfl ⟨rfl, rfl, rfl⟩
  | succ k ih =>
    intro i hi
    refine px_iload_n d_X0_pairsWith_4 rfl rfl ?_
    refine px_aload_n d_X0_pairsWith_5 rfl rfl ?_
    refine px_getI d_X0_pairsWith_6 fl_X0_37 rfl hA.1 ?_
    refine px_icmp_ge (tgt := 49) d_X0_pairsWith_9 (by decide) (fun c9 => absurd c9 (by rw [hm]; exact nI_ge (by omega) (by omega))) (fun c9 => ?_)
    refine px_aload_n d_X0_pairsWith_12 rfl rfl ?_
    refine px_iload_n d_X0_pairsWith_13 rfl rfl ?_
    refine px_callV (c_X0_linesLike hA (t := i) (by omega)) d_X0_pairsWith_14 lk_X0_40 ok_X0_linesLike ov_X0_linesLike hA.1 (by decide) rfl rfl (Nat.le_of_ble_eq_true rfl) (by decide) ⟨Nat.le_refl _, Nat.le_refl _⟩ ?_
    refine px_aload_n d_X0_pairsWith_17 rfl rfl ?_
    refine px_aload_n d_X0_pairsWith_18 rfl rfl ?_
    refine px_getI d_X0_pairsWith_19 fl_X0_9 rfl hA.1 ?_
    refine px_aload_n d_X0_pairsWith_22 rfl rfl ?_
    refine px_getR d_X0_pairsWith_23 fl_X0_24 (by decide) hA.1 hA.2.1.1 ?_
    refine px_iload_n d_X0_pairsWith_26 rfl rfl ?_
    refine px_iald d_X0_pairsWith_27 hA.2.2.1.1 rfl (by omega) ?_
    refine px_aload_n d_X0_pairsWith_28 rfl rfl ?_
    refine px_getR d_X0_pairsWith_29 fl_X0_28 (by decide) hA.1 hA.2.1.2 ?_
    refine px_iload_n d_X0_pairsWith_32 rfl rfl ?_
    refine px_iald d_X0_pairsWith_33 hA.2.2.1.2 rfl (by omega) ?_
    refine px_callV (c_X2_countAlike hL hs1 hn4) d_X0_pairsWith_34 lk_X0_43 ok_X2_countAlike ov_X2_countAlike (so2 hL) (by decide) rfl rfl (Nat.le_of_ble_eq_true rfl) (by decide) ⟨Nat.le_refl _, Nat.le_refl _⟩ ?_
    refine px_icmp_gt (tgt := 43) d_X0_pairsWith_37 (by decide) (fun c37 => ?_) (fun c37 => ?_)
    · refine px_inc1 d_X0_pairsWith_43 rfl (by decide) ?_
      refine px_goto (tgt := 4) d_X0_pairsWith_46 (by decide) ?_
      refine px_drop (lv' := [(0, .ref r), (1, .ref 2), (2, .int (prs (hI h r1) (hI h r2) (hI h 3) (hI h 4) (hI h 5) (hI h r 0) n (i + 1))), (3, .int (nI (i + 1)))]) ⟨rfl, rfl, px_si (by simp [prs, c9, c37]), px_si (nI_s1 _), trivial⟩ ?_
      exact ih (i + 1) (by omega)
    · refine px_inc1 d_X0_pairsWith_40 rfl (by decide) ?_
      refine px_inc1 d_X0_pairsWith_43 rfl (by decide) ?_
      refine px_goto (tgt := 4) d_X0_pairsWith_46 (by decide) ?_
      refine px_drop (lv' := [(0, .ref r), (1, .ref 2), (2, .int (prs (hI h r1) (hI h r2) (hI h 3) (hI h 4) (hI h 5) (hI h r 0) n (i + 1))), (3, .int (nI (i + 1)))]) ⟨rfl, rfl, px_si (by simp [prs, c9, c37]), px_si (nI_s1 _), trivial⟩ ?_
      exact ih (i + 1) (by omega)
theorem c_X0_pairsWith {h : PH} (hL : px_L h) {r r1 r2 : Nat} (hA : px_acc h r r1 r2) {m n : Nat} (hm : hI h r 6 = nI m) (hm4 : m ≤ 40) (hs1 : hI h 2 4 = nI n) (hn4 : n ≤ 400) : PM M_X0_pairsWith [.ref r, .ref 2] h (some (.int (prs (hI h r1) (hI h r2) (hI h 3) (hI h 4) (hI h 5) (hI h r 0) n (m)))) h := by
  refine PM.of (by decide +kernel) (by decide +kernel) (Nat.le_refl _) (Nat.le_refl _) (Nat.le_of_ble_eq_true rfl) ?_
  refine px_iconst (v := 0) d_X0_pairsWith_0 (by decide) ?_
  refine px_istore_n d_X0_pairsWith_1 rfl (by decide) ?_
  refine px_iconst (v := 0) d_X0_pairsWith_2 (by decide) ?_
  refine px_istore_n d_X0_pairsWith_3 rfl (by decide) ?_
  exact lp_X0_pairsWith hL hA hm hm4 hs1 hn4 m 0 (by omega)
def accNew (h : PH) (r : Nat) (a b c d : Int32) : PH := pR (pN (pR (pN (pI (pI (pI (pI h r 0 a) r 1 b) r 2 c) r 3 d) 20 40 40) r 4 (some (hn h))) 20 40 40) r 5 (some (hn h + 1))
theorem c_X0_init {h : PH} {r : Nat} (ho : px_ob h r 0) {a b c d : Int32} : PM M_X0_init [.ref r, .int a, .int b, .int c, .int d] h none (accNew h r a b c d) := by
  refine PM.of (by decide +kernel) (by decide +kernel) (by unfold accNew; simp only [hn_I, hn_R, hn_N]; omega) (by unfold accNew; simp only [hs_I, hs_R, hs_N]; omega) (Nat.le_of_ble_eq_true rfl) ?_
  unfold accNew
  have ho1 : px_ob (pN (pI (pI (pI (pI h r 0 a) r 1 b) r 2 c) r 3 d) 20 40 40) r 0 := px_ob.N ho
  have ho2 : px_ob (pN (pR (pN (pI (pI (pI (pI h r 0 a) r 1 b) r 2 c) r 3 d) 20 40 40) r 4 (some (hn h))) 20 40 40) r 0 := px_ob.N (px_ob.N ho)
  refine px_aload_n d_X0_init_0 rfl rfl ?_
  refine px_obji d_X0_init_1 lk_X0_3 (by decide) (Nat.le_of_ble_eq_true rfl) ?_
  refine px_aload_n d_X0_init_4 rfl rfl ?_
  refine px_iload_n d_X0_init_5 rfl rfl ?_
  refine px_putIF d_X0_init_6 fl_X0_9 rfl rfl ho ?_
  refine px_aload_n d_X0_init_9 rfl rfl ?_
  refine px_iload_n d_X0_init_10 rfl rfl ?_
  refine px_putIF d_X0_init_11 fl_X0_15 rfl rfl ho ?_
  refine px_aload_n d_X0_init_14 rfl rfl ?_
  refine px_iload_n d_X0_init_15 rfl rfl ?_
  refine px_putIF d_X0_init_16 fl_X0_18 rfl rfl ho ?_
  refine px_aload_n d_X0_init_19 rfl rfl ?_
  refine px_iload d_X0_init_20 rfl ?_
  refine px_putIF d_X0_init_22 fl_X0_21 rfl rfl ho ?_
  refine px_aload_n d_X0_init_25 rfl rfl ?_
  refine px_bipush (v := 40) d_X0_init_26 (by decide) ?_
  refine px_newI (len := 40) d_X0_init_28 ac_int (by decide) (by decide) (by simp only [hn_I, hn_R, hn_J, hn_N, hs_I, hs_R, hs_J, hs_N]; omega) (by simp only [hn_I, hn_R, hn_J, hn_N, hs_I, hs_R, hs_J, hs_N]; omega) ?_
  refine px_putRF d_X0_init_30 fl_X0_24 (by decide) rfl rfl rfl ho1 ?_
  refine px_aload_n d_X0_init_33 rfl rfl ?_
  refine px_bipush (v := 40) d_X0_init_34 (by decide) ?_
  refine px_newI (len := 40) d_X0_init_36 ac_int (by decide) (by decide) (by simp only [hn_I, hn_R, hn_J, hn_N, hs_I, hs_R, hs_J, hs_N]; omega) (by simp only [hn_I, hn_R, hn_J, hn_N, hs_I, hs_R, hs_J, hs_N]; omega) ?_
  refine px_putRF d_X0_init_38 fl_X0_28 (by decide) rfl rfl rfl ho2 ?_
  exact px_return d_X0_init_41 rfl ⟨rfl, rfl, rfl⟩
