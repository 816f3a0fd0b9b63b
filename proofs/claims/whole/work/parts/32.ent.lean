theorem isBr {j : Nat} (hj : j < 4) : ¬ nI j < 0 ∧ nI j < 4 := ⟨nI_pos (by omega), (nI_ltI (b := 4) (by omega) (by decide)).mpr hj⟩
/-- the ledger: a row more -/
def entAdd (h : PH) (n : Nat) (a d s k : Int32) : PH := pI (pI (pI (pI (pI h 3 n a) 4 n d) 5 n s) 6 n k) 2 4 (nI (n + 1))
theorem c_X1_move {h : PH} (hL : px_L h) {j : Nat} (hj : j < 4) {s : Int32} : PM M_X1_move [.ref 28, .int (nI j), .int s] h none (pI h 29 j (hI h 29 j + s)) := by
  refine PM.of (by decide +kernel) (by decide +kernel) (Nat.le_refl _) (Nat.le_refl _) (Nat.le_of_ble_eq_true rfl) ?_
  refine px_iload_n d_X1_move_0 rfl rfl ?_
  refine px_callSN (c_X11_isBranch) d_X1_move_1 ln_X1_15 ok_X11_isBranch os_X11_isBranch rfl (Nat.le_of_ble_eq_true rfl) (by decide) ⟨Nat.le_refl _, Nat.le_refl _⟩ ?_
  refine px_if_eq (tgt := 17) d_X1_move_4 (by decide) (fun c4 => absurd c4 (bI_n.mpr (isBr hj))) (fun c4 => ?_)
  refine px_aload_n d_X1_move_7 rfl rfl ?_
  refine px_getR d_X1_move_8 fl_X1_9 (by decide) (so28 hL) (sr28_0 hL) ?_
  refine px_iload_n d_X1_move_11 rfl rfl ?_
  refine px_dup2 d_X1_move_12 rfl rfl ?_
  refine px_iald d_X1_move_13 (sa29 hL) rfl (by omega) ?_
  refine px_iload_n d_X1_move_14 rfl rfl ?_
  refine px_iadd d_X1_move_15 ?_
  refine px_iast d_X1_move_16 (sa29 hL) rfl (by omega) ?_
  exact px_return d_X1_move_17 rfl ⟨rfl, rfl, rfl⟩
theorem c_X1_countedAs {h : PH} (hL : px_L h) {j : Nat} (hj : j < 4) {s : Int32} : PM M_X1_countedAs [.ref 28, .int (nI j), .int s] h (some (.int (s - hI h 29 j))) (pI (pI h 29 j s) 28 1 (hI h 28 1 + (s - hI h 29 j))) := by
  refine PM.of (by decide +kernel) (by decide +kernel) (Nat.le_refl _) (Nat.le_refl _) (Nat.le_of_ble_eq_true rfl) ?_
  refine px_iload_n d_X1_countedAs_0 rfl rfl ?_
  refine px_callSN (c_X11_isBranch) d_X1_countedAs_1 ln_X1_15 ok_X11_isBranch os_X11_isBranch rfl (Nat.le_of_ble_eq_true rfl) (by decide) ⟨Nat.le_refl _, Nat.le_refl _⟩ ?_
  refine px_if_ne (tgt := 9) d_X1_countedAs_4 (by decide) (fun c4 => ?_) (fun c4 => absurd c4 (bI_n.mpr (isBr hj)))
  refine px_iload_n d_X1_countedAs_9 rfl rfl ?_
  refine px_aload_n d_X1_countedAs_10 rfl rfl ?_
  refine px_getR d_X1_countedAs_11 fl_X1_9 (by decide) (so28 hL) (sr28_0 hL) ?_
  refine px_iload_n d_X1_countedAs_14 rfl rfl ?_
  refine px_iald d_X1_countedAs_15 (sa29 hL) rfl (by omega) ?_
  refine px_isub d_X1_countedAs_16 ?_
  refine px_istore_n d_X1_countedAs_17 rfl (by decide) ?_
  refine px_aload_n d_X1_countedAs_18 rfl rfl ?_
  refine px_getR d_X1_countedAs_19 fl_X1_9 (by decide) (so28 hL) (sr28_0 hL) ?_
  refine px_iload_n d_X1_countedAs_22 rfl rfl ?_
  refine px_iload_n d_X1_countedAs_23 rfl rfl ?_
  refine px_iast d_X1_countedAs_24 (sa29 hL) rfl (by omega) ?_
  refine px_aload_n d_X1_countedAs_25 rfl rfl ?_
  refine px_dup d_X1_countedAs_26 rfl ?_
  refine px_getI d_X1_countedAs_27 fl_X1_19 rfl (so28 hL) ?_
  refine px_iload_n d_X1_countedAs_30 rfl rfl ?_
  refine px_iadd d_X1_countedAs_31 ?_
  refine px_putI d_X1_countedAs_32 fl_X1_19 rfl (so28 hL) ?_
  refine px_iload_n d_X1_countedAs_35 rfl rfl ?_
  exact px_ireturn d_X1_countedAs_36 rfl rfl ⟨rfl, rfl, rfl⟩
theorem c_X2_add {h : PH} (hL : px_L h) {n : Nat} (hs1 : hI h 2 4 = nI n) (hn4 : n < 400) {a d s k : Int32} : PM M_X2_add [.ref 2, .int a, .int d, .int s, .int k] h (some (.int (nI n))) (entAdd h n a d s k) := by
  refine PM.of (by decide +kernel) (by decide +kernel) (Nat.le_refl _) (Nat.le_refl _) (Nat.le_of_ble_eq_true rfl) ?_
  refine px_aload_n d_X2_add_0 rfl rfl ?_
  refine px_callV (c_X2_isFull hL) d_X2_add_1 lk_X2_28 ok_X2_isFull ov_X2_isFull (so2 hL) (by decide) rfl rfl (Nat.le_of_ble_eq_true rfl) (by decide) ⟨Nat.le_refl _, Nat.le_refl _⟩ ?_
  refine px_if_eq (tgt := 9) d_X2_add_4 (by decide) (fun c4 => ?_) (fun c4 => (c4 (bI_0.mpr (Classical.not_not.mpr (by rw [hs1]; exact (nI_ltI (b := 400) (by omega) (by decide)).mpr hn4)))).elim)
  refine px_aload_n d_X2_add_9 rfl rfl ?_
  refine px_getR d_X2_add_10 fl_X2_9 (by decide) (so2 hL) (sr2_0 hL) ?_
  refine px_aload_n d_X2_add_13 rfl rfl ?_
  refine px_getI d_X2_add_14 fl_X2_24 rfl (so2 hL) ?_
  refine px_iload_n d_X2_add_17 rfl rfl ?_
  refine px_iast d_X2_add_18 (sa3 hL) hs1 (by omega) ?_
  refine px_aload_n d_X2_add_19 rfl rfl ?_
  refine px_getR d_X2_add_20 fl_X2_15 (by decide) (so2 hL) (sr2_1 hL) ?_
  refine px_aload_n d_X2_add_23 rfl rfl ?_
  refine px_getI d_X2_add_24 fl_X2_24 rfl (so2 hL) ?_
  refine px_iload_n d_X2_add_27 rfl rfl ?_
  refine px_iast d_X2_add_28 (sa4 hL) hs1 (by omega) ?_
  refine px_aload_n d_X2_add_29 rfl rfl ?_
  refine px_getR d_X2_add_30 fl_X2_18 (by decide) (so2 hL) (sr2_2 hL) ?_
  refine px_aload_n d_X2_add_33 rfl rfl ?_
  refine px_getI d_X2_add_34 fl_X2_24 rfl (so2 hL) ?_
  refine px_iload_n d_X2_add_37 rfl rfl ?_
  refine px_iast d_X2_add_38 (sa5 hL) hs1 (by omega) ?_
  refine px_aload_n d_X2_add_39 rfl rfl ?_
  refine px_getR d_X2_add_40 fl_X2_21 (by decide) (so2 hL) (sr2_3 hL) ?_
  refine px_aload_n d_X2_add_43 rfl rfl ?_
  refine px_getI d_X2_add_44 fl_X2_24 rfl (so2 hL) ?_
  refine px_iload d_X2_add_47 rfl ?_
  refine px_iast d_X2_add_49 (sa6 hL) hs1 (by omega) ?_
  refine px_aload_n d_X2_add_50 rfl rfl ?_
  refine px_dup d_X2_add_51 rfl ?_
  refine px_getI d_X2_add_52 fl_X2_24 rfl (so2 hL) ?_
  refine px_iconst (v := 1) d_X2_add_55 (by decide) ?_
  refine px_iadd d_X2_add_56 ?_
  refine px_val (y := nI (n + 1)) (by rw [← nI_s1]; exact congrArg (· + 1) hs1) ?_
  refine px_putI d_X2_add_57 fl_X2_24 rfl (so2 hL) ?_
  refine px_aload_n d_X2_add_60 rfl rfl ?_
  refine px_getI d_X2_add_61 fl_X2_24 rfl (so2 hL) ?_
  refine px_iconst (v := 1) d_X2_add_64 (by decide) ?_
  refine px_isub d_X2_add_65 ?_
  exact px_ireturn d_X2_add_66 rfl rfl ⟨rfl, px_si (by rw [show hI (pI (pI (pI (pI (pI h 3 n a) 4 n d) 5 n s) 6 n k) 2 4 (nI (n + 1))) 2 4 = nI (n + 1) from gI_s _ _ _ _]; exact nI_pred n), rfl⟩
/-- how many of the first n are of the account, day and sum -/
def cnt3 (f g s : Nat → Int32) (a d v : Int32) : Nat → Int32
  | 0 => 0
  | n + 1 => cnt3 f g s a d v n + (if f n = a ∧ g n = d ∧ s n = v then 1 else 0)
/-- what was drawn -/
def drw (f g s : Nat → Int32) (a d : Int32) : Nat → Int32
  | 0 => 0
  | n + 1 => if f n = a ∧ g n = d ∧ ¬ 0 ≤ s n then drw f g s a d n - s n else drw f g s a d n
def cnt1 (f : Nat → Int32) (a : Int32) : Nat → Int32
  | 0 => 0
  | n + 1 => cnt1 f a n + (if f n = a then 1 else 0)
theorem lp_X2_countOf {h : PH} (hL : px_L h) {n : Nat} (hs1 : hI h 2 4 = nI n) (hn4 : n ≤ 400) {a : Int32} : ∀ (k : Nat) (i : Nat), i + k = n → PW M_X2_countOf (hn h) (hs h) (PMpost (some (.int (cnt1 (hI h 3) a n))) h) 4 [(0, .ref 2), (1, .int a), (2, .int (cnt1 (hI h 3) a (i))), (3, .int (nI (i)))] [] h := by
  intro k
  induction k with
  | zero =>
    intro i hi
    have e : i = n := by omega
    subst e
    refine px_iload_n d_X2_countOf_4 rfl rfl ?_
    refine px_aload_n d_X2_countOf_5 rfl rfl ?_
    refine px_getI d_X2_countOf_6 fl_X2_24 rfl (so2 hL) ?_
    refine px_icmp_ge (tgt := 31) d_X2_countOf_9 (by decide) (fun c9 => ?_) (fun c9 => (c9 (by rw [hs1]; exact nI_le (by omega) (by omega))).elim)
    refine px_iload_n d_X2_countOf_31 rfl rfl ?_
    exact px_ireturn d_X2_countOf_32 rfl rfl ⟨rfl, rfl, rfl⟩
  | succ k ih =>
    intro i hi
    refine px_iload_n d_X2_countOf_4 rfl rfl ?_
    refine px_aload_n d_X2_countOf_5 rfl rfl ?_
    refine px_getI d_X2_countOf_6 fl_X2_24 rfl (so2 hL) ?_
    refine px_icmp_ge (tgt := 31) d_X2_countOf_9 (by decide) (fun c9 => absurd c9 (by rw [hs1]; exact nI_ge (by omega) (by omega))) (fun c9 => ?_)
    refine px_aload_n d_X2_countOf_12 rfl rfl ?_
    refine px_getR d_X2_countOf_13 fl_X2_9 (by decide) (so2 hL) (sr2_0 hL) ?_
    refine px_iload_n d_X2_countOf_16 rfl rfl ?_
    refine px_iald d_X2_countOf_17 (sa3 hL) rfl (by omega) ?_
    refine px_iload_n d_X2_countOf_18 rfl rfl ?_
    refine px_icmp_ne (tgt := 25) d_X2_countOf_19 (by decide) (fun c19 => ?_) (fun c19 => ?_)
    · refine px_inc1 d_X2_countOf_25 rfl (by decide) ?_
      refine px_goto (tgt := 4) d_X2_countOf_28 (by decide) ?_
      refine px_drop (lv' := [(0, .ref 2), (1, .int a), (2, .int (cnt1 (hI h 3) a (i + 1))), (3, .int (nI (i + 1)))]) ⟨rfl, rfl, px_si (by simp [cnt1, c9, c19]), px_si (nI_s1 _), trivial⟩ ?_
      exact ih (i + 1) (by omega)
    · refine px_inc1 d_X2_countOf_22 rfl (by decide) ?_
      refine px_inc1 d_X2_countOf_25 rfl (by decide) ?_
      refine px_goto (tgt := 4) d_X2_countOf_28 (by decide) ?_
      refine px_drop (lv' := [(0, .ref 2), (1, .int a), (2, .int (cnt1 (hI h 3) a (i + 1))), (3, .int (nI (i + 1)))]) ⟨rfl, rfl, px_si (by simp [cnt1, c9, c19]), px_si (nI_s1 _), trivial⟩ ?_
      exact ih (i + 1) (by omega)
theorem c_X2_countOf {h : PH} (hL : px_L h) {n : Nat} (hs1 : hI h 2 4 = nI n) (hn4 : n ≤ 400) {a : Int32} : PM M_X2_countOf [.ref 2, .int a] h (some (.int (cnt1 (hI h 3) a n))) h := by
  refine PM.of (by decide +kernel) (by decide +kernel) (Nat.le_refl _) (Nat.le_refl _) (Nat.le_of_ble_eq_true rfl) ?_
  refine px_iconst (v := 0) d_X2_countOf_0 (by decide) ?_
  refine px_istore_n d_X2_countOf_1 rfl (by decide) ?_
  refine px_iconst (v := 0) d_X2_countOf_2 (by decide) ?_
  refine px_istore_n d_X2_countOf_3 rfl (by decide) ?_
  exact lp_X2_countOf hL hs1 hn4 n 0 (by omega)
theorem lp_X2_countAlike {h : PH} (hL : px_L h) {n : Nat} (hs1 : hI h 2 4 = nI n) (hn4 : n ≤ 400) {a d v : Int32} : ∀ (k : Nat) (i : Nat), i + k = n → PW M_X2_countAlike (hn h) (hs h) (PMpost (some (.int (cnt3 (hI h 3) (hI h 4) (hI h 5) a d v n))) h) 6 [(0, .ref 2), (1, .int a), (2, .int d), (3, .int v), (4, .int (cnt3 (hI h 3) (hI h 4) (hI h 5) a d v (i))), (5, .int (nI (i)))] [] h := by
  intro k
  induction k with
  | zero =>
    intro i hi
    have e : i = n := by omega
    subst e
    refine px_iload d_X2_countAlike_6 rfl ?_
    refine px_aload_n d_X2_countAlike_8 rfl rfl ?_
    refine px_getI d_X2_countAlike_9 fl_X2_24 rfl (so2 hL) ?_
    refine px_icmp_ge (tgt := 57) d_X2_countAlike_12 (by decide) (fun c12 => ?_) (fun c12 => (c12 (by rw [hs1]; exact nI_le (by omega) (by omega))).elim)
    refine px_iload d_X2_countAlike_57 rfl ?_
    exact px_ireturn d_X2_countAlike_59 rfl rfl ⟨rfl, rfl, rfl⟩
  | succ k ih =>
    intro i hi
    refine px_iload d_X2_countAlike_6 rfl ?_
    refine px_aload_n d_X2_countAlike_8 rfl rfl ?_
    refine px_getI d_X2_countAlike_9 fl_X2_24 rfl (so2 hL) ?_
    refine px_icmp_ge (tgt := 57) d_X2_countAlike_12 (by decide) (fun c12 => absurd c12 (by rw [hs1]; exact nI_ge (by omega) (by omega))) (fun c12 => ?_)
    refine px_aload_n d_X2_countAlike_15 rfl rfl ?_
    refine px_getR d_X2_countAlike_16 fl_X2_9 (by decide) (so2 hL) (sr2_0 hL) ?_
    refine px_iload d_X2_countAlike_19 rfl ?_
    refine px_iald d_X2_countAlike_21 (sa3 hL) rfl (by omega) ?_
    refine px_iload_n d_X2_countAlike_22 rfl rfl ?_
    refine px_icmp_ne (tgt := 51) d_X2_countAlike_23 (by decide) (fun c23 => ?_) (fun c23 => ?_)
    · refine px_inc1 d_X2_countAlike_51 rfl (by decide) ?_
      refine px_goto (tgt := 6) d_X2_countAlike_54 (by decide) ?_
      refine px_drop (lv' := [(0, .ref 2), (1, .int a), (2, .int d), (3, .int v), (4, .int (cnt3 (hI h 3) (hI h 4) (hI h 5) a d v (i + 1))), (5, .int (nI (i + 1)))]) ⟨rfl, rfl, rfl, rfl, px_si (by simp [cnt3, c12, c23]), px_si (nI_s1 _), trivial⟩ ?_
      exact ih (i + 1) (by omega)
    · refine px_aload_n d_X2_countAlike_26 rfl rfl ?_
      refine px_getR d_X2_countAlike_27 fl_X2_15 (by decide) (so2 hL) (sr2_1 hL) ?_
      refine px_iload d_X2_countAlike_30 rfl ?_
      refine px_iald d_X2_countAlike_32 (sa4 hL) rfl (by omega) ?_
      refine px_iload_n d_X2_countAlike_33 rfl rfl ?_
      refine px_icmp_ne (tgt := 51) d_X2_countAlike_34 (by decide) (fun c34 => ?_) (fun c34 => ?_)
      · refine px_inc1 d_X2_countAlike_51 rfl (by decide) ?_
        refine px_goto (tgt := 6) d_X2_countAlike_54 (by decide) ?_
        refine px_drop (lv' := [(0, .ref 2), (1, .int a), (2, .int d), (3, .int v), (4, .int (cnt3 (hI h 3) (hI h 4) (hI h 5) a d v (i + 1))), (5, .int (nI (i + 1)))]) ⟨rfl, rfl, rfl, rfl, px_si (by simp [cnt3, c12, c23, c34]), px_si (nI_s1 _), trivial⟩ ?_
        exact ih (i + 1) (by omega)
      · refine px_aload_n d_X2_countAlike_37 rfl rfl ?_
        refine px_getR d_X2_countAlike_38 fl_X2_18 (by decide) (so2 hL) (sr2_2 hL) ?_
        refine px_iload d_X2_countAlike_41 rfl ?_
        refine px_iald d_X2_countAlike_43 (sa5 hL) rfl (by omega) ?_
        refine px_iload_n d_X2_countAlike_44 rfl rfl ?_
        refine px_icmp_ne (tgt := 51) d_X2_countAlike_45 (by decide) (fun c45 => ?_) (fun c45 => ?_)
        · refine px_inc1 d_X2_countAlike_51 rfl (by decide) ?_
          refine px_goto (tgt := 6) d_X2_countAlike_54 (by decide) ?_
          refine px_drop (lv' := [(0, .ref 2), (1, .int a), (2, .int d), (3, .int v), (4, .int (cnt3 (hI h 3) (hI h 4) (hI h 5) a d v (i + 1))), (5, .int (nI (i + 1)))]) ⟨rfl, rfl, rfl, rfl, px_si (by simp [cnt3, c12, c23, c34, c45]), px_si (nI_s1 _), trivial⟩ ?_
          exact ih (i + 1) (by omega)
        · refine px_inc1 d_X2_countAlike_48 rfl (by decide) ?_
          refine px_inc1 d_X2_countAlike_51 rfl (by decide) ?_
          refine px_goto (tgt := 6) d_X2_countAlike_54 (by decide) ?_
          refine px_drop (lv' := [(0, .ref 2), (1, .int a), (2, .int d), (3, .int v), (4, .int (cnt3 (hI h 3) (hI h 4) (hI h 5) a d v (i + 1))), (5, .int (nI (i + 1)))]) ⟨rfl, rfl, rfl, rfl, px_si (by simp [cnt3, c12, c23, c34, c45]), px_si (nI_s1 _), trivial⟩ ?_
          exact ih (i + 1) (by omega)
theorem c_X2_countAlike {h : PH} (hL : px_L h) {n : Nat} (hs1 : hI h 2 4 = nI n) (hn4 : n ≤ 400) {a d v : Int32} : PM M_X2_countAlike [.ref 2, .int a, .int d, .int v] h (some (.int (cnt3 (hI h 3) (hI h 4) (hI h 5) a d v n))) h := by
  refine PM.of (by decide +kernel) (by decide +kernel) (Nat.le_refl _) (Nat.le_refl _) (Nat.le_of_ble_eq_true rfl) ?_
  refine px_iconst (v := 0) d_X2_countAlike_0 (by decide) ?_
  refine px_istore d_X2_countAlike_1 (by decide) ?_
  refine px_iconst (v := 0) d_X2_countAlike_3 (by decide) ?_
  refine px_istore d_X2_countAlike_4 (by decide) ?_
  exact lp_X2_countAlike hL hs1 hn4 n 0 (by omega)
theorem lp_X2_drawnOn {h : PH} (hL : px_L h) {n : Nat} (hs1 : hI h 2 4 = nI n) (hn4 : n ≤ 400) {a d : Int32} : ∀ (k : Nat) (i : Nat), i + k = n → PW M_X2_drawnOn (hn h) (hs h) (PMpost (some (.int (drw (hI h 3) (hI h 4) (hI h 5) a d n))) h) 5 [(0, .ref 2), (1, .int a), (2, .int d), (3, .int (drw (hI h 3) (hI h 4) (hI h 5) a d (i))), (4, .int (nI (i)))] [] h := by
  intro k
  induction k with
  | zero =>
    intro i hi
    have e : i = n := by omega
    subst e
    refine px_iload d_X2_drawnOn_5 rfl ?_
    refine px_aload_n d_X2_drawnOn_7 rfl rfl ?_
    refine px_getI d_X2_drawnOn_8 fl_X2_24 rfl (so2 hL) ?_
    refine px_icmp_ge (tgt := 62) d_X2_drawnOn_11 (by decide) (fun c11 => ?_) (fun c11 => (c11 (by rw [hs1]; exact nI_le (by omega) (by omega))).elim)
    refine px_iload_n d_X2_drawnOn_62 rfl rfl ?_
    exact px_ireturn d_X2_drawnOn_63 rfl rfl ⟨rfl, rfl, rfl⟩
  | succ k ih =>
    intro i hi
    refine px_iload d_X2_drawnOn_5 rfl ?_
    refine px_aload_n d_X2_drawnOn_7 rfl rfl ?_
    refine px_getI d_X2_drawnOn_8 fl_X2_24 rfl (so2 hL) ?_
    refine px_icmp_ge (tgt := 62) d_X2_drawnOn_11 (by decide) (fun c11 => absurd c11 (by rw [hs1]; exact nI_ge (by omega) (by omega))) (fun c11 => ?_)
    refine px_aload_n d_X2_drawnOn_14 rfl rfl ?_
    refine px_getR d_X2_drawnOn_15 fl_X2_9 (by decide) (so2 hL) (sr2_0 hL) ?_
    refine px_iload d_X2_drawnOn_18 rfl ?_
    refine px_iald d_X2_drawnOn_20 (sa3 hL) rfl (by omega) ?_
    refine px_iload_n d_X2_drawnOn_21 rfl rfl ?_
    refine px_icmp_ne (tgt := 56) d_X2_drawnOn_22 (by decide) (fun c22 => ?_) (fun c22 => ?_)
    · refine px_inc1 d_X2_drawnOn_56 rfl (by decide) ?_
      refine px_goto (tgt := 5) d_X2_drawnOn_59 (by decide) ?_
      refine px_drop (lv' := [(0, .ref 2), (1, .int a), (2, .int d), (3, .int (drw (hI h 3) (hI h 4) (hI h 5) a d (i + 1))), (4, .int (nI (i + 1)))]) ⟨rfl, rfl, rfl, px_si (by simp [drw, c11, c22]), px_si (nI_s1 _), trivial⟩ ?_
      exact ih (i + 1) (by omega)
    · refine px_aload_n d_X2_drawnOn_25 rfl rfl ?_
      refine px_getR d_X2_drawnOn_26 fl_X2_15 (by decide) (so2 hL) (sr2_1 hL) ?_
      refine px_iload d_X2_drawnOn_29 rfl ?_
      refine px_iald d_X2_drawnOn_31 (sa4 hL) rfl (by omega) ?_
      refine px_iload_n d_X2_drawnOn_32 rfl rfl ?_
      refine px_icmp_ne (tgt := 56) d_X2_drawnOn_33 (by decide) (fun c33 => ?_) (fun c33 => ?_)
      · refine px_inc1 d_X2_drawnOn_56 rfl (by decide) ?_
        refine px_goto (tgt := 5) d_X2_drawnOn_59 (by decide) ?_
        refine px_drop (lv' := [(0, .ref 2), (1, .int a), (2, .int d), (3, .int (drw (hI h 3) (hI h 4) (hI h 5) a d (i + 1))), (4, .int (nI (i + 1)))]) ⟨rfl, rfl, rfl, px_si (by simp [drw, c11, c22, c33]), px_si (nI_s1 _), trivial⟩ ?_
        exact ih (i + 1) (by omega)
      · refine px_aload_n d_X2_drawnOn_36 rfl rfl ?_
        refine px_getR d_X2_drawnOn_37 fl_X2_18 (by decide) (so2 hL) (sr2_2 hL) ?_
        refine px_iload d_X2_drawnOn_40 rfl ?_
        refine px_iald d_X2_drawnOn_42 (sa5 hL) rfl (by omega) ?_
        refine px_if_ge (tgt := 56) d_X2_drawnOn_43 (by decide) (fun c43 => ?_) (fun c43 => ?_)
        · refine px_inc1 d_X2_drawnOn_56 rfl (by decide) ?_
          refine px_goto (tgt := 5) d_X2_drawnOn_59 (by decide) ?_
          refine px_drop (lv' := [(0, .ref 2), (1, .int a), (2, .int d), (3, .int (drw (hI h 3) (hI h 4) (hI h 5) a d (i + 1))), (4, .int (nI (i + 1)))]) ⟨rfl, rfl, rfl, px_si (by simp [drw, c11, c22, c33, c43]), px_si (nI_s1 _), trivial⟩ ?_
          exact ih (i + 1) (by omega)
        · refine px_iload_n d_X2_drawnOn_46 rfl rfl ?_
          refine px_aload_n d_X2_drawnOn_47 rfl rfl ?_
          refine px_getR d_X2_drawnOn_48 fl_X2_18 (by decide) (so2 hL) (sr2_2 hL) ?_
          refine px_iload d_X2_drawnOn_51 rfl ?_
          refine px_iald d_X2_drawnOn_53 (sa5 hL) rfl (by omega) ?_
          refine px_isub d_X2_drawnOn_54 ?_
          refine px_istore_n d_X2_drawnOn_55 rfl (by decide) ?_
          refine px_inc1 d_X2_drawnOn_56 rfl (by decide) ?_
          refine px_goto (tgt := 5) d_X2_drawnOn_59 (by decide) ?_
          refine px_drop (lv' := [(0, .ref 2), (1, .int a), (2, .int d), (3, .int (drw (hI h 3) (hI h 4) (hI h 5) a d (i + 1))), (4, .int (nI (i + 1)))]) ⟨rfl, rfl, rfl, px_si (by simp [drw, c11, c22, c33, c43]), px_si (nI_s1 _), trivial⟩ ?_
          exact ih (i + 1) (by omega)
theorem c_X2_drawnOn {h : PH} (hL : px_L h) {n : Nat} (hs1 : hI h 2 4 = nI n) (hn4 : n ≤ 400) {a d : Int32} : PM M_X2_drawnOn [.ref 2, .int a, .int d] h (some (.int (drw (hI h 3) (hI h 4) (hI h 5) a d n))) h := by
  refine PM.of (by decide +kernel) (by decide +kernel) (Nat.le_refl _) (Nat.le_refl _) (Nat.le_of_ble_eq_true rfl) ?_
  refine px_iconst (v := 0) d_X2_drawnOn_0 (by decide) ?_
  refine px_istore_n d_X2_drawnOn_1 rfl (by decide) ?_
  refine px_iconst (v := 0) d_X2_drawnOn_2 (by decide) ?_
  refine px_istore d_X2_drawnOn_3 (by decide) ?_
  exact lp_X2_drawnOn hL hs1 hn4 n 0 (by omega)
/-- the first place from i on, of k, where p holds; -1 if there is none -/
def fst1 (p : Nat → Prop) (q : ∀ i, Decidable (p i)) : Nat → Nat → Int32
  | _, 0 => -1
  | i, k + 1 => if p i then nI i else fst1 p q (i + 1) k
/-- an unused notice of the account, of this sum or more, of this day at the latest -/
def ntc (h : PH) (a s d : Int32) (i : Nat) : Prop := hI h 27 i = 0 ∧ hI h 24 i = a ∧ ¬ hI h 25 i < s ∧ ¬ d < hI h 26 i
def ntcD (h : PH) (a s d : Int32) (i : Nat) : Decidable (ntc h a s d i) := inferInstanceAs (Decidable (_ ∧ _ ∧ _ ∧ _))
theorem lp_X6_eldest {h : PH} (hL : px_L h) {n : Nat} (hs1 : hI h 23 4 = nI n) (hn4 : n ≤ 60) {a s d : Int32} : ∀ (k : Nat) (i : Nat), i + k = n → PW M_X6_eldest (hn h) (hs h) (PMpost (some (.int (fst1 (ntc h a s d) (ntcD h a s d) i k))) h) 3 [(0, .ref 23), (1, .int a), (2, .int s), (3, .int d), (4, .int (nI (i)))] [] h := by
  intro k
  induction k with
  | zero =>
    intro i hi
    have e : i = n := by omega
    subst e
    refine px_iload d_X6_eldest_3 rfl ?_
    refine px_aload_n d_X6_eldest_5 rfl rfl ?_
    refine px_getI d_X6_eldest_6 fl_X6_25 rfl (so23 hL) ?_
    refine px_icmp_ge (tgt := 64) d_X6_eldest_9 (by decide) (fun c9 => ?_) (fun c9 => (c9 (by rw [hs1]; exact nI_le (by omega) (by omega))).elim)
    refine px_iconst (v := (-1)) d_X6_eldest_64 (by decide) ?_
    exact px_ireturn d_X6_eldest_65 rfl rfl ⟨rfl, rfl, rfl⟩
  | succ k ih =>
    intro i hi
    refine px_iload d_X6_eldest_3 rfl ?_
    refine px_aload_n d_X6_eldest_5 rfl rfl ?_
    refine px_getI d_X6_eldest_6 fl_X6_25 rfl (so23 hL) ?_
    refine px_icmp_ge (tgt := 64) d_X6_eldest_9 (by decide) (fun c9 => absurd c9 (by rw [hs1]; exact nI_ge (by omega) (by omega))) (fun c9 => ?_)
    refine px_aload_n d_X6_eldest_12 rfl rfl ?_
    refine px_getR d_X6_eldest_13 fl_X6_21 (by decide) (so23 hL) (sr23_3 hL) ?_
    refine px_iload d_X6_eldest_16 rfl ?_
    refine px_zald d_X6_eldest_18 (sa27 hL) rfl (by omega) ?_
    refine px_if_ne (tgt := 58) d_X6_eldest_19 (by decide) (fun c19 => ?_) (fun c19 => ?_)
    · refine px_inc1 d_X6_eldest_58 rfl (by decide) ?_
      refine px_goto (tgt := 3) d_X6_eldest_61 (by decide) ?_
      have e9 : fst1 (ntc h a s d) (ntcD h a s d) i (k + 1) = fst1 (ntc h a s d) (ntcD h a s d) (i + 1) k := by
        conv => lhs; unfold fst1
        rw [if_neg]
        rintro ⟨w1, w2, w3, w4⟩
        first | exact c19 w1 | exact c30 w2 | exact w3 c41 | exact w4 c52
      rw [e9]
      refine px_drop (lv' := [(0, .ref 23), (1, .int a), (2, .int s), (3, .int d), (4, .int (nI (i + 1)))]) ⟨rfl, rfl, rfl, rfl, px_si (nI_s1 _), trivial⟩ ?_
      exact ih (i + 1) (by omega)
    · refine px_aload_n d_X6_eldest_22 rfl rfl ?_
      refine px_getR d_X6_eldest_23 fl_X6_9 (by decide) (so23 hL) (sr23_0 hL) ?_
      refine px_iload d_X6_eldest_26 rfl ?_
      refine px_iald d_X6_eldest_28 (sa24 hL) rfl (by omega) ?_
      refine px_iload_n d_X6_eldest_29 rfl rfl ?_
      refine px_icmp_ne (tgt := 58) d_X6_eldest_30 (by decide) (fun c30 => ?_) (fun c30 => ?_)
      · refine px_inc1 d_X6_eldest_58 rfl (by decide) ?_
        refine px_goto (tgt := 3) d_X6_eldest_61 (by decide) ?_
        have e9 : fst1 (ntc h a s d) (ntcD h a s d) i (k + 1) = fst1 (ntc h a s d) (ntcD h a s d) (i + 1) k := by
          conv => lhs; unfold fst1
          rw [if_neg]
          rintro ⟨w1, w2, w3, w4⟩
          first | exact c19 w1 | exact c30 w2 | exact w3 c41 | exact w4 c52
        rw [e9]
        refine px_drop (lv' := [(0, .ref 23), (1, .int a), (2, .int s), (3, .int d), (4, .int (nI (i + 1)))]) ⟨rfl, rfl, rfl, rfl, px_si (nI_s1 _), trivial⟩ ?_
        exact ih (i + 1) (by omega)
      · refine px_aload_n d_X6_eldest_33 rfl rfl ?_
        refine px_getR d_X6_eldest_34 fl_X6_15 (by decide) (so23 hL) (sr23_1 hL) ?_
        refine px_iload d_X6_eldest_37 rfl ?_
        refine px_iald d_X6_eldest_39 (sa25 hL) rfl (by omega) ?_
        refine px_iload_n d_X6_eldest_40 rfl rfl ?_
        refine px_icmp_lt (tgt := 58) d_X6_eldest_41 (by decide) (fun c41 => ?_) (fun c41 => ?_)
        · refine px_inc1 d_X6_eldest_58 rfl (by decide) ?_
          refine px_goto (tgt := 3) d_X6_eldest_61 (by decide) ?_
          have e9 : fst1 (ntc h a s d) (ntcD h a s d) i (k + 1) = fst1 (ntc h a s d) (ntcD h a s d) (i + 1) k := by
            conv => lhs; unfold fst1
            rw [if_neg]
            rintro ⟨w1, w2, w3, w4⟩
            first | exact c19 w1 | exact c30 w2 | exact w3 c41 | exact w4 c52
          rw [e9]
          refine px_drop (lv' := [(0, .ref 23), (1, .int a), (2, .int s), (3, .int d), (4, .int (nI (i + 1)))]) ⟨rfl, rfl, rfl, rfl, px_si (nI_s1 _), trivial⟩ ?_
          exact ih (i + 1) (by omega)
        · refine px_aload_n d_X6_eldest_44 rfl rfl ?_
          refine px_getR d_X6_eldest_45 fl_X6_18 (by decide) (so23 hL) (sr23_2 hL) ?_
          refine px_iload d_X6_eldest_48 rfl ?_
          refine px_iald d_X6_eldest_50 (sa26 hL) rfl (by omega) ?_
          refine px_iload_n d_X6_eldest_51 rfl rfl ?_
          refine px_icmp_gt (tgt := 58) d_X6_eldest_52 (by decide) (fun c52 => ?_) (fun c52 => ?_)
          · refine px_inc1 d_X6_eldest_58 rfl (by decide) ?_
            refine px_goto (tgt := 3) d_X6_eldest_61 (by decide) ?_
            have e9 : fst1 (ntc h a s d) (ntcD h a s d) i (k + 1) = fst1 (ntc h a s d) (ntcD h a s d) (i + 1) k := by
              conv => lhs; unfold fst1
              rw [if_neg]
              rintro ⟨w1, w2, w3, w4⟩
              first | exact c19 w1 | exact c30 w2 | exact w3 c41 | exact w4 c52
            rw [e9]
            refine px_drop (lv' := [(0, .ref 23), (1, .int a), (2, .int s), (3, .int d), (4, .int (nI (i + 1)))]) ⟨rfl, rfl, rfl, rfl, px_si (nI_s1 _), trivial⟩ ?_
            exact ih (i + 1) (by omega)
          · refine px_iload d_X6_eldest_55 rfl ?_
            exact px_ireturn d_X6_eldest_57 rfl rfl ⟨rfl, px_si (by unfold fst1; rw [if_pos]; exact ⟨c19, c30, c41, c52⟩), rfl⟩
theorem c_X6_eldest {h : PH} (hL : px_L h) {n : Nat} (hs1 : hI h 23 4 = nI n) (hn4 : n ≤ 60) {a s d : Int32} : PM M_X6_eldest [.ref 23, .int a, .int s, .int d] h (some (.int (fst1 (ntc h a s d) (ntcD h a s d) 0 n))) h := by
  refine PM.of (by decide +kernel) (by decide +kernel) (Nat.le_refl _) (Nat.le_refl _) (Nat.le_of_ble_eq_true rfl) ?_
  refine px_iconst (v := 0) d_X6_eldest_0 (by decide) ?_
  refine px_istore d_X6_eldest_1 (by decide) ?_
  exact lp_X6_eldest hL hs1 hn4 n 0 (by omega)
theorem c_X6_use {h : PH} (hL : px_L h) {n j : Nat} (hs1 : hI h 23 4 = nI n) (hn4 : n ≤ 60) (hj : j < n) : PM M_X6_use [.ref 23, .int (nI j)] h none (pI h 27 j 1) := by
  refine PM.of (by decide +kernel) (by decide +kernel) (Nat.le_refl _) (Nat.le_refl _) (Nat.le_of_ble_eq_true rfl) ?_
  refine px_iload_n d_X6_use_0 rfl rfl ?_
  refine px_if_lt (tgt := 19) d_X6_use_1 (by decide) (fun c1 => absurd c1 (nI_pos (by omega))) (fun c1 => ?_)
  refine px_iload_n d_X6_use_4 rfl rfl ?_
  refine px_aload_n d_X6_use_5 rfl rfl ?_
  refine px_getI d_X6_use_6 fl_X6_25 rfl (so23 hL) ?_
  refine px_icmp_ge (tgt := 19) d_X6_use_9 (by decide) (fun c9 => absurd c9 (by rw [hs1]; exact nI_ge (by omega) (by omega))) (fun c9 => ?_)
  refine px_aload_n d_X6_use_12 rfl rfl ?_
  refine px_getR d_X6_use_13 fl_X6_21 (by decide) (so23 hL) (sr23_3 hL) ?_
  refine px_iload_n d_X6_use_16 rfl rfl ?_
  refine px_iconst (v := 1) d_X6_use_17 (by decide) ?_
  refine px_zast d_X6_use_18 (sa27 hL) rfl (by omega) rfl ?_
  exact px_return d_X6_use_19 rfl ⟨rfl, rfl, rfl⟩
def ntcAdd (h : PH) (n : Nat) (a s d : Int32) : PH := pI (pI (pI (pI h 24 n a) 25 n s) 26 n d) 23 4 (nI (n + 1))
theorem c_X6_give {h : PH} (hL : px_L h) {n : Nat} (hs1 : hI h 23 4 = nI n) (hn4 : n < 60) {a s d : Int32} : PM M_X6_give [.ref 23, .int a, .int s, .int d] h (some (.int 1)) (ntcAdd h n a s d) := by
  refine PM.of (by decide +kernel) (by decide +kernel) (Nat.le_refl _) (Nat.le_refl _) (Nat.le_of_ble_eq_true rfl) ?_
  refine px_aload_n d_X6_give_0 rfl rfl ?_
  refine px_getI d_X6_give_1 fl_X6_25 rfl (so23 hL) ?_
  refine px_bipush (v := 60) d_X6_give_4 (by decide) ?_
  refine px_icmp_lt (tgt := 11) d_X6_give_6 (by decide) (fun c6 => ?_) (fun c6 => (c6 (by rw [hs1]; exact (nI_ltI (b := 60) (by omega) (by decide)).mpr hn4)).elim)
  refine px_aload_n d_X6_give_11 rfl rfl ?_
  refine px_getR d_X6_give_12 fl_X6_9 (by decide) (so23 hL) (sr23_0 hL) ?_
  refine px_aload_n d_X6_give_15 rfl rfl ?_
  refine px_getI d_X6_give_16 fl_X6_25 rfl (so23 hL) ?_
  refine px_iload_n d_X6_give_19 rfl rfl ?_
  refine px_iast d_X6_give_20 (sa24 hL) hs1 (by omega) ?_
  refine px_aload_n d_X6_give_21 rfl rfl ?_
  refine px_getR d_X6_give_22 fl_X6_15 (by decide) (so23 hL) (sr23_1 hL) ?_
  refine px_aload_n d_X6_give_25 rfl rfl ?_
  refine px_getI d_X6_give_26 fl_X6_25 rfl (so23 hL) ?_
  refine px_iload_n d_X6_give_29 rfl rfl ?_
  refine px_iast d_X6_give_30 (sa25 hL) hs1 (by omega) ?_
  refine px_aload_n d_X6_give_31 rfl rfl ?_
  refine px_getR d_X6_give_32 fl_X6_18 (by decide) (so23 hL) (sr23_2 hL) ?_
  refine px_aload_n d_X6_give_35 rfl rfl ?_
  refine px_getI d_X6_give_36 fl_X6_25 rfl (so23 hL) ?_
  refine px_iload_n d_X6_give_39 rfl rfl ?_
  refine px_iast d_X6_give_40 (sa26 hL) hs1 (by omega) ?_
  refine px_aload_n d_X6_give_41 rfl rfl ?_
  refine px_dup d_X6_give_42 rfl ?_
  refine px_getI d_X6_give_43 fl_X6_25 rfl (so23 hL) ?_
  refine px_iconst (v := 1) d_X6_give_46 (by decide) ?_
  refine px_iadd d_X6_give_47 ?_
  refine px_val (y := nI (n + 1)) (by rw [← nI_s1]; exact congrArg (· + 1) hs1) ?_
  refine px_putI d_X6_give_48 fl_X6_25 rfl (so23 hL) ?_
  refine px_iconst (v := 1) d_X6_give_51 (by decide) ?_
  exact px_ireturn d_X6_give_52 rfl rfl ⟨rfl, rfl, rfl⟩
theorem c_X6_give0 {h : PH} (hL : px_L h) (hs1 : hI h 23 4 = nI 60) {a s d : Int32} : PM M_X6_give [.ref 23, .int a, .int s, .int d] h (some (.int 0)) h := by
  refine PM.of (by decide +kernel) (by decide +kernel) (Nat.le_refl _) (Nat.le_refl _) (Nat.le_of_ble_eq_true rfl) ?_
  refine px_aload_n d_X6_give_0 rfl rfl ?_
  refine px_getI d_X6_give_1 fl_X6_25 rfl (so23 hL) ?_
  refine px_bipush (v := 60) d_X6_give_4 (by decide) ?_
  refine px_icmp_lt (tgt := 11) d_X6_give_6 (by decide) (fun c6 => absurd c6 (by rw [hs1]; decide)) (fun c6 => ?_)
  refine px_iconst (v := 0) d_X6_give_9 (by decide) ?_
  exact px_ireturn d_X6_give_10 rfl rfl ⟨rfl, rfl, rfl⟩
