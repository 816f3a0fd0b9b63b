/-- a truth as an int -/
def bI (p : Prop) [Decidable p] : Int32 := if p then 1 else 0
theorem bI_0 {p : Prop} [Decidable p] : bI p = 0 ↔ ¬ p := by unfold bI; by_cases h : p <;> simp [h]
theorem bI_n {p : Prop} [Decidable p] : ¬ bI p = 0 ↔ p := by unfold bI; by_cases h : p <;> simp [h]
theorem bI_nar {p : Prop} [Decidable p] : narrow .boolean (.int (bI p)) = .int (bI p) := by unfold bI; by_cases h : p <;> simp [h] <;> rfl
theorem c_X11_isDay {h : PH} {d : Int32} : PM M_X11_isDay [.int d] h (some (.int (bI (¬ d < 0 ∧ ¬ 719 < d)))) h := by
  refine PM.of (by decide +kernel) (by decide +kernel) (Nat.le_refl _) (Nat.le_refl _) (Nat.le_of_ble_eq_true rfl) ?_
  refine px_iload_n d_X11_isDay_0 rfl rfl ?_
  refine px_if_lt (tgt := 15) d_X11_isDay_1 (by decide) (fun c1 => ?_) (fun c1 => ?_)
  · refine px_iconst (v := 0) d_X11_isDay_15 (by decide) ?_
    exact px_ireturn d_X11_isDay_16 rfl rfl ⟨rfl, px_si (by simp [bI, c1]), rfl⟩
  · refine px_iload_n d_X11_isDay_4 rfl rfl ?_
    refine px_sipush (v := 719) d_X11_isDay_5 (by decide) ?_
    refine px_icmp_gt (tgt := 15) d_X11_isDay_8 (by decide) (fun c8 => ?_) (fun c8 => ?_)
    · refine px_iconst (v := 0) d_X11_isDay_15 (by decide) ?_
      exact px_ireturn d_X11_isDay_16 rfl rfl ⟨rfl, px_si (by simp [bI, c1, c8]), rfl⟩
    · refine px_iconst (v := 1) d_X11_isDay_11 (by decide) ?_
      refine px_goto (tgt := 16) d_X11_isDay_12 (by decide) ?_
      exact px_ireturn d_X11_isDay_16 rfl rfl ⟨rfl, px_si (by simp [bI, c1, c8]), rfl⟩
theorem c_X11_isBranch {h : PH} {d : Int32} : PM M_X11_isBranch [.int d] h (some (.int (bI (¬ d < 0 ∧ d < 4)))) h := by
  refine PM.of (by decide +kernel) (by decide +kernel) (Nat.le_refl _) (Nat.le_refl _) (Nat.le_of_ble_eq_true rfl) ?_
  refine px_iload_n d_X11_isBranch_0 rfl rfl ?_
  refine px_if_lt (tgt := 13) d_X11_isBranch_1 (by decide) (fun c1 => ?_) (fun c1 => ?_)
  · refine px_iconst (v := 0) d_X11_isBranch_13 (by decide) ?_
    exact px_ireturn d_X11_isBranch_14 rfl rfl ⟨rfl, px_si (by simp [bI, c1]), rfl⟩
  · refine px_iload_n d_X11_isBranch_4 rfl rfl ?_
    refine px_iconst (v := 4) d_X11_isBranch_5 (by decide) ?_
    refine px_icmp_ge (tgt := 13) d_X11_isBranch_6 (by decide) (fun c6 => ?_) (fun c6 => ?_)
    · refine px_iconst (v := 0) d_X11_isBranch_13 (by decide) ?_
      exact px_ireturn d_X11_isBranch_14 rfl rfl ⟨rfl, px_si (by simp [bI, c1, c6]), rfl⟩
    · refine px_iconst (v := 1) d_X11_isBranch_9 (by decide) ?_
      refine px_goto (tgt := 14) d_X11_isBranch_10 (by decide) ?_
      exact px_ireturn d_X11_isBranch_14 rfl rfl ⟨rfl, px_si (by simp [bI, c1, c6]), rfl⟩
theorem c_X11_isDrawable {h : PH} {d : Int32} : PM M_X11_isDrawable [.int d] h (some (.int (bI (¬ d < 1 ∧ ¬ 100000 < d)))) h := by
  refine PM.of (by decide +kernel) (by decide +kernel) (Nat.le_refl _) (Nat.le_refl _) (Nat.le_of_ble_eq_true rfl) ?_
  refine px_iload_n d_X11_isDrawable_0 rfl rfl ?_
  refine px_iconst (v := 1) d_X11_isDrawable_1 (by decide) ?_
  refine px_icmp_lt (tgt := 15) d_X11_isDrawable_2 (by decide) (fun c2 => ?_) (fun c2 => ?_)
  · refine px_iconst (v := 0) d_X11_isDrawable_15 (by decide) ?_
    exact px_ireturn d_X11_isDrawable_16 rfl rfl ⟨rfl, px_si (by simp [bI, c2]), rfl⟩
  · refine px_iload_n d_X11_isDrawable_5 rfl rfl ?_
    refine px_ldc d_X11_isDrawable_6 ck_X11_105 ?_
    refine px_icmp_gt (tgt := 15) d_X11_isDrawable_8 (by decide) (fun c8 => ?_) (fun c8 => ?_)
    · refine px_iconst (v := 0) d_X11_isDrawable_15 (by decide) ?_
      exact px_ireturn d_X11_isDrawable_16 rfl rfl ⟨rfl, px_si (by simp [bI, c2, c8]), rfl⟩
    · refine px_iconst (v := 1) d_X11_isDrawable_11 (by decide) ?_
      refine px_goto (tgt := 16) d_X11_isDrawable_12 (by decide) ?_
      exact px_ireturn d_X11_isDrawable_16 rfl rfl ⟨rfl, px_si (by simp [bI, c2, c8]), rfl⟩
theorem c_X11_isPassed {h : PH} (hL : px_L h) {d : Int32} : PM M_X11_isPassed [.ref 0, .int d] h (some (.int (bI (¬ d < 0 ∧ ¬ hI h 0 11 < d)))) h := by
  refine PM.of (by decide +kernel) (by decide +kernel) (Nat.le_refl _) (Nat.le_refl _) (Nat.le_of_ble_eq_true rfl) ?_
  refine px_iload_n d_X11_isPassed_0 rfl rfl ?_
  refine px_if_lt (tgt := 16) d_X11_isPassed_1 (by decide) (fun c1 => ?_) (fun c1 => ?_)
  · refine px_iconst (v := 0) d_X11_isPassed_16 (by decide) ?_
    exact px_ireturn d_X11_isPassed_17 rfl rfl ⟨rfl, px_si (by simp [bI, c1]), rfl⟩
  · refine px_iload_n d_X11_isPassed_4 rfl rfl ?_
    refine px_aload_n d_X11_isPassed_5 rfl rfl ?_
    refine px_getI d_X11_isPassed_6 fl_X11_88 rfl (so0 hL) ?_
    refine px_icmp_gt (tgt := 16) d_X11_isPassed_9 (by decide) (fun c9 => ?_) (fun c9 => ?_)
    · refine px_iconst (v := 0) d_X11_isPassed_16 (by decide) ?_
      exact px_ireturn d_X11_isPassed_17 rfl rfl ⟨rfl, px_si (by simp [bI, c1, c9]), rfl⟩
    · refine px_iconst (v := 1) d_X11_isPassed_12 (by decide) ?_
      refine px_goto (tgt := 17) d_X11_isPassed_13 (by decide) ?_
      exact px_ireturn d_X11_isPassed_17 rfl rfl ⟨rfl, px_si (by simp [bI, c1, c9]), rfl⟩
theorem c_X2_isFull {h : PH} (hL : px_L h) : PM M_X2_isFull [.ref 2] h (some (.int (bI (¬ hI h 2 4 < 400)))) h := by
  refine PM.of (by decide +kernel) (by decide +kernel) (Nat.le_refl _) (Nat.le_refl _) (Nat.le_of_ble_eq_true rfl) ?_
  refine px_aload_n d_X2_isFull_0 rfl rfl ?_
  refine px_getI d_X2_isFull_1 fl_X2_24 rfl (so2 hL) ?_
  refine px_sipush (v := 400) d_X2_isFull_4 (by decide) ?_
  refine px_icmp_lt (tgt := 14) d_X2_isFull_7 (by decide) (fun c7 => ?_) (fun c7 => ?_)
  · refine px_iconst (v := 0) d_X2_isFull_14 (by decide) ?_
    exact px_ireturn d_X2_isFull_15 rfl rfl ⟨rfl, px_si (by simp [bI, c7]), rfl⟩
  · refine px_iconst (v := 1) d_X2_isFull_10 (by decide) ?_
    refine px_goto (tgt := 15) d_X2_isFull_11 (by decide) ?_
    exact px_ireturn d_X2_isFull_15 rfl rfl ⟨rfl, px_si (by simp [bI, c7]), rfl⟩
theorem c_X9_isLetter {h : PH} {d : Int32} : PM M_X9_isLetter [.int d] h (some (.int (bI (¬ d < 97 ∧ ¬ 122 < d)))) h := by
  refine PM.of (by decide +kernel) (by decide +kernel) (Nat.le_refl _) (Nat.le_refl _) (Nat.le_of_ble_eq_true rfl) ?_
  refine px_iload_n d_X9_isLetter_0 rfl rfl ?_
  refine px_bipush (v := 97) d_X9_isLetter_1 (by decide) ?_
  refine px_icmp_lt (tgt := 16) d_X9_isLetter_3 (by decide) (fun c3 => ?_) (fun c3 => ?_)
  · refine px_iconst (v := 0) d_X9_isLetter_16 (by decide) ?_
    exact px_ireturn d_X9_isLetter_17 rfl rfl ⟨rfl, px_si (by simp [bI, c3]), rfl⟩
  · refine px_iload_n d_X9_isLetter_6 rfl rfl ?_
    refine px_bipush (v := 122) d_X9_isLetter_7 (by decide) ?_
    refine px_icmp_gt (tgt := 16) d_X9_isLetter_9 (by decide) (fun c9 => ?_) (fun c9 => ?_)
    · refine px_iconst (v := 0) d_X9_isLetter_16 (by decide) ?_
      exact px_ireturn d_X9_isLetter_17 rfl rfl ⟨rfl, px_si (by simp [bI, c3, c9]), rfl⟩
    · refine px_iconst (v := 1) d_X9_isLetter_12 (by decide) ?_
      refine px_goto (tgt := 17) d_X9_isLetter_13 (by decide) ?_
      exact px_ireturn d_X9_isLetter_17 rfl rfl ⟨rfl, px_si (by simp [bI, c3, c9]), rfl⟩
theorem c_X9_isDigit {h : PH} {d : Int32} : PM M_X9_isDigit [.int d] h (some (.int (bI (¬ d < 48 ∧ ¬ 57 < d)))) h := by
  refine PM.of (by decide +kernel) (by decide +kernel) (Nat.le_refl _) (Nat.le_refl _) (Nat.le_of_ble_eq_true rfl) ?_
  refine px_iload_n d_X9_isDigit_0 rfl rfl ?_
  refine px_bipush (v := 48) d_X9_isDigit_1 (by decide) ?_
  refine px_icmp_lt (tgt := 16) d_X9_isDigit_3 (by decide) (fun c3 => ?_) (fun c3 => ?_)
  · refine px_iconst (v := 0) d_X9_isDigit_16 (by decide) ?_
    exact px_ireturn d_X9_isDigit_17 rfl rfl ⟨rfl, px_si (by simp [bI, c3]), rfl⟩
  · refine px_iload_n d_X9_isDigit_6 rfl rfl ?_
    refine px_bipush (v := 57) d_X9_isDigit_7 (by decide) ?_
    refine px_icmp_gt (tgt := 16) d_X9_isDigit_9 (by decide) (fun c9 => ?_) (fun c9 => ?_)
    · refine px_iconst (v := 0) d_X9_isDigit_16 (by decide) ?_
      exact px_ireturn d_X9_isDigit_17 rfl rfl ⟨rfl, px_si (by simp [bI, c3, c9]), rfl⟩
    · refine px_iconst (v := 1) d_X9_isDigit_12 (by decide) ?_
      refine px_goto (tgt := 17) d_X9_isDigit_13 (by decide) ?_
      exact px_ireturn d_X9_isDigit_17 rfl rfl ⟨rfl, px_si (by simp [bI, c3, c9]), rfl⟩
theorem c_X12_isLetter {h : PH} {d : Int32} : PM M_X12_isLetter [.int d] h (some (.int (bI (¬ d < 97 ∧ ¬ 122 < d)))) h := by
  refine PM.of (by decide +kernel) (by decide +kernel) (Nat.le_refl _) (Nat.le_refl _) (Nat.le_of_ble_eq_true rfl) ?_
  refine px_iload_n d_X12_isLetter_0 rfl rfl ?_
  refine px_bipush (v := 97) d_X12_isLetter_1 (by decide) ?_
  refine px_icmp_lt (tgt := 16) d_X12_isLetter_3 (by decide) (fun c3 => ?_) (fun c3 => ?_)
  · refine px_iconst (v := 0) d_X12_isLetter_16 (by decide) ?_
    exact px_ireturn d_X12_isLetter_17 rfl rfl ⟨rfl, px_si (by simp [bI, c3]), rfl⟩
  · refine px_iload_n d_X12_isLetter_6 rfl rfl ?_
    refine px_bipush (v := 122) d_X12_isLetter_7 (by decide) ?_
    refine px_icmp_gt (tgt := 16) d_X12_isLetter_9 (by decide) (fun c9 => ?_) (fun c9 => ?_)
    · refine px_iconst (v := 0) d_X12_isLetter_16 (by decide) ?_
      exact px_ireturn d_X12_isLetter_17 rfl rfl ⟨rfl, px_si (by simp [bI, c3, c9]), rfl⟩
    · refine px_iconst (v := 1) d_X12_isLetter_12 (by decide) ?_
      refine px_goto (tgt := 17) d_X12_isLetter_13 (by decide) ?_
      exact px_ireturn d_X12_isLetter_17 rfl rfl ⟨rfl, px_si (by simp [bI, c3, c9]), rfl⟩
theorem c_X12_isDigit {h : PH} {d : Int32} : PM M_X12_isDigit [.int d] h (some (.int (bI (¬ d < 48 ∧ ¬ 57 < d)))) h := by
  refine PM.of (by decide +kernel) (by decide +kernel) (Nat.le_refl _) (Nat.le_refl _) (Nat.le_of_ble_eq_true rfl) ?_
  refine px_iload_n d_X12_isDigit_0 rfl rfl ?_
  refine px_bipush (v := 48) d_X12_isDigit_1 (by decide) ?_
  refine px_icmp_lt (tgt := 16) d_X12_isDigit_3 (by decide) (fun c3 => ?_) (fun c3 => ?_)
  · refine px_iconst (v := 0) d_X12_isDigit_16 (by decide) ?_
    exact px_ireturn d_X12_isDigit_17 rfl rfl ⟨rfl, px_si (by simp [bI, c3]), rfl⟩
  · refine px_iload_n d_X12_isDigit_6 rfl rfl ?_
    refine px_bipush (v := 57) d_X12_isDigit_7 (by decide) ?_
    refine px_icmp_gt (tgt := 16) d_X12_isDigit_9 (by decide) (fun c9 => ?_) (fun c9 => ?_)
    · refine px_iconst (v := 0) d_X12_isDigit_16 (by decide) ?_
      exact px_ireturn d_X12_isDigit_17 rfl rfl ⟨rfl, px_si (by simp [bI, c3, c9]), rfl⟩
    · refine px_iconst (v := 1) d_X12_isDigit_12 (by decide) ?_
      refine px_goto (tgt := 17) d_X12_isDigit_13 (by decide) ?_
      exact px_ireturn d_X12_isDigit_17 rfl rfl ⟨rfl, px_si (by simp [bI, c3, c9]), rfl⟩
theorem c_X12_isSignOf {h : PH} {d : Int32} : PM M_X12_isSignOf [.int d] h (some (.int (bI (d = 40 ∨ d = 41 ∨ d = 59 ∨ d = 61 ∨ d = 60 ∨ d = 43 ∨ d = 45)))) h := by
  refine PM.of (by decide +kernel) (by decide +kernel) (Nat.le_refl _) (Nat.le_refl _) (Nat.le_of_ble_eq_true rfl) ?_
  refine px_iload_n d_X12_isSignOf_0 rfl rfl ?_
  refine px_bipush (v := 40) d_X12_isSignOf_1 (by decide) ?_
  refine px_icmp_eq (tgt := 42) d_X12_isSignOf_3 (by decide) (fun c3 => ?_) (fun c3 => ?_)
  · refine px_iconst (v := 1) d_X12_isSignOf_42 (by decide) ?_
    refine px_goto (tgt := 47) d_X12_isSignOf_43 (by decide) ?_
    exact px_ireturn d_X12_isSignOf_47 rfl rfl ⟨rfl, px_si (by simp [bI, c3]), rfl⟩
  · refine px_iload_n d_X12_isSignOf_6 rfl rfl ?_
    refine px_bipush (v := 41) d_X12_isSignOf_7 (by decide) ?_
    refine px_icmp_eq (tgt := 42) d_X12_isSignOf_9 (by decide) (fun c9 => ?_) (fun c9 => ?_)
    · refine px_iconst (v := 1) d_X12_isSignOf_42 (by decide) ?_
      refine px_goto (tgt := 47) d_X12_isSignOf_43 (by decide) ?_
      exact px_ireturn d_X12_isSignOf_47 rfl rfl ⟨rfl, px_si (by simp [bI, c3, c9]), rfl⟩
    · refine px_iload_n d_X12_isSignOf_12 rfl rfl ?_
      refine px_bipush (v := 59) d_X12_isSignOf_13 (by decide) ?_
      refine px_icmp_eq (tgt := 42) d_X12_isSignOf_15 (by decide) (fun c15 => ?_) (fun c15 => ?_)
      · refine px_iconst (v := 1) d_X12_isSignOf_42 (by decide) ?_
        refine px_goto (tgt := 47) d_X12_isSignOf_43 (by decide) ?_
        exact px_ireturn d_X12_isSignOf_47 rfl rfl ⟨rfl, px_si (by simp [bI, c3, c9, c15]), rfl⟩
      · refine px_iload_n d_X12_isSignOf_18 rfl rfl ?_
        refine px_bipush (v := 61) d_X12_isSignOf_19 (by decide) ?_
        refine px_icmp_eq (tgt := 42) d_X12_isSignOf_21 (by decide) (fun c21 => ?_) (fun c21 => ?_)
        · refine px_iconst (v := 1) d_X12_isSignOf_42 (by decide) ?_
          refine px_goto (tgt := 47) d_X12_isSignOf_43 (by decide) ?_
          exact px_ireturn d_X12_isSignOf_47 rfl rfl ⟨rfl, px_si (by simp [bI, c3, c9, c15, c21]), rfl⟩
        · refine px_iload_n d_X12_isSignOf_24 rfl rfl ?_
          refine px_bipush (v := 60) d_X12_isSignOf_25 (by decide) ?_
          refine px_icmp_eq (tgt := 42) d_X12_isSignOf_27 (by decide) (fun c27 => ?_) (fun c27 => ?_)
          · refine px_iconst (v := 1) d_X12_isSignOf_42 (by decide) ?_
            refine px_goto (tgt := 47) d_X12_isSignOf_43 (by decide) ?_
            exact px_ireturn d_X12_isSignOf_47 rfl rfl ⟨rfl, px_si (by simp [bI, c3, c9, c15, c21, c27]), rfl⟩
          · refine px_iload_n d_X12_isSignOf_30 rfl rfl ?_
            refine px_bipush (v := 43) d_X12_isSignOf_31 (by decide) ?_
            refine px_icmp_eq (tgt := 42) d_X12_isSignOf_33 (by decide) (fun c33 => ?_) (fun c33 => ?_)
            · refine px_iconst (v := 1) d_X12_isSignOf_42 (by decide) ?_
              refine px_goto (tgt := 47) d_X12_isSignOf_43 (by decide) ?_
              exact px_ireturn d_X12_isSignOf_47 rfl rfl ⟨rfl, px_si (by simp [bI, c3, c9, c15, c21, c27, c33]), rfl⟩
            · refine px_iload_n d_X12_isSignOf_36 rfl rfl ?_
              refine px_bipush (v := 45) d_X12_isSignOf_37 (by decide) ?_
              refine px_icmp_ne (tgt := 46) d_X12_isSignOf_39 (by decide) (fun c39 => ?_) (fun c39 => ?_)
              · refine px_iconst (v := 0) d_X12_isSignOf_46 (by decide) ?_
                exact px_ireturn d_X12_isSignOf_47 rfl rfl ⟨rfl, px_si (by simp [bI, c3, c9, c15, c21, c27, c33, c39]), rfl⟩
              · refine px_iconst (v := 1) d_X12_isSignOf_42 (by decide) ?_
                refine px_goto (tgt := 47) d_X12_isSignOf_43 (by decide) ?_
                exact px_ireturn d_X12_isSignOf_47 rfl rfl ⟨rfl, px_si (by simp [bI, c3, c9, c15, c21, c27, c33, c39]), rfl⟩
theorem c_X12_isAccount {h : PH} (hL : px_L h) {d : Int32} : PM M_X12_isAccount [.ref 36, .int d] h (some (.int (bI (¬ d < 0 ∧ ¬ hI h 36 27 ≤ d)))) h := by
  refine PM.of (by decide +kernel) (by decide +kernel) (Nat.le_refl _) (Nat.le_refl _) (Nat.le_of_ble_eq_true rfl) ?_
  refine px_iload_n d_X12_isAccount_0 rfl rfl ?_
  refine px_if_lt (tgt := 16) d_X12_isAccount_1 (by decide) (fun c1 => ?_) (fun c1 => ?_)
  · refine px_iconst (v := 0) d_X12_isAccount_16 (by decide) ?_
    exact px_ireturn d_X12_isAccount_17 rfl rfl ⟨rfl, px_si (by simp [bI, c1]), rfl⟩
  · refine px_iload_n d_X12_isAccount_4 rfl rfl ?_
    refine px_aload_n d_X12_isAccount_5 rfl rfl ?_
    refine px_getI d_X12_isAccount_6 fl_X12_256 rfl (so36 hL) ?_
    refine px_icmp_ge (tgt := 16) d_X12_isAccount_9 (by decide) (fun c9 => ?_) (fun c9 => ?_)
    · refine px_iconst (v := 0) d_X12_isAccount_16 (by decide) ?_
      exact px_ireturn d_X12_isAccount_17 rfl rfl ⟨rfl, px_si (by simp [bI, c1, c9]), rfl⟩
    · refine px_iconst (v := 1) d_X12_isAccount_12 (by decide) ?_
      refine px_goto (tgt := 17) d_X12_isAccount_13 (by decide) ?_
      exact px_ireturn d_X12_isAccount_17 rfl rfl ⟨rfl, px_si (by simp [bI, c1, c9]), rfl⟩
theorem c_X12_thrown {h : PH} (hL : px_L h) : PM M_X12_thrown [.ref 36] h (some (.int (hI h 36 0))) h := by
  refine PM.of (by decide +kernel) (by decide +kernel) (Nat.le_refl _) (Nat.le_refl _) (Nat.le_of_ble_eq_true rfl) ?_
  refine px_aload_n d_X12_thrown_0 rfl rfl ?_
  refine px_getI d_X12_thrown_1 fl_X12_150 rfl (so36 hL) ?_
  exact px_ireturn d_X12_thrown_4 rfl rfl ⟨rfl, rfl, rfl⟩
theorem c_X9_makeEmpty {h : PH} (hL : px_L h) : PM M_X9_makeEmpty [.ref 7] h none (pI h 7 1 0) := by
  refine PM.of (by decide +kernel) (by decide +kernel) (Nat.le_refl _) (Nat.le_refl _) (Nat.le_of_ble_eq_true rfl) ?_
  refine px_aload_n d_X9_makeEmpty_0 rfl rfl ?_
  refine px_iconst (v := 0) d_X9_makeEmpty_1 (by decide) ?_
  refine px_putI d_X9_makeEmpty_2 fl_X9_15 rfl (so7 hL) ?_
  exact px_return d_X9_makeEmpty_5 rfl ⟨rfl, rfl, rfl⟩
theorem c_X9_rewind {h : PH} (hL : px_L h) : PM M_X9_rewind [.ref 7] h none (pI h 7 3 0) := by
  refine PM.of (by decide +kernel) (by decide +kernel) (Nat.le_refl _) (Nat.le_refl _) (Nat.le_of_ble_eq_true rfl) ?_
  refine px_aload_n d_X9_rewind_0 rfl rfl ?_
  refine px_iconst (v := 0) d_X9_rewind_1 (by decide) ?_
  refine px_putI d_X9_rewind_2 fl_X9_19 rfl (so7 hL) ?_
  exact px_return d_X9_rewind_5 rfl ⟨rfl, rfl, rfl⟩
theorem c_X4_shiftOf {h : PH} {d : Int32} : PM M_X4_shiftOf [.int d] h (some (.int (3 * (5 - d)))) h := by
  refine PM.of (by decide +kernel) (by decide +kernel) (Nat.le_refl _) (Nat.le_refl _) (Nat.le_of_ble_eq_true rfl) ?_
  refine px_iconst (v := 3) d_X4_shiftOf_0 (by decide) ?_
  refine px_iconst (v := 5) d_X4_shiftOf_1 (by decide) ?_
  refine px_iload_n d_X4_shiftOf_2 rfl rfl ?_
  refine px_isub d_X4_shiftOf_3 ?_
  refine px_imul d_X4_shiftOf_4 ?_
  exact px_ireturn d_X4_shiftOf_5 rfl rfl ⟨rfl, rfl, rfl⟩
theorem lg_lt (x y : Int64) : lg_cmp x y < 0 ↔ x < y := by
  have h := lg_cmp_ge x y
  rw [← Int32.not_le, h, Int64.not_le]
theorem lg_gt (x y : Int64) : 0 < lg_cmp x y ↔ y < x := by
  unfold lg_cmp
  by_cases h1 : y < x
  · simp [h1]
  · by_cases h2 : x = y <;> simp [h1, h2]
theorem c_X4_isPrice {h : PH} {d : Int64} : PM M_X4_isPrice [.long d] h (some (.int (bI (¬ lg_cmp d 1 < 0 ∧ ¬ 0 < lg_cmp d 10000)))) h := by
  refine PM.of (by decide +kernel) (by decide +kernel) (Nat.le_refl _) (Nat.le_refl _) (Nat.le_of_ble_eq_true rfl) ?_
  refine px_lload_n d_X4_isPrice_0 rfl rfl ?_
  refine px_lconst (v := 1) d_X4_isPrice_1 (by decide) ?_
  refine px_lcmp d_X4_isPrice_2 ?_
  refine px_if_lt (tgt := 18) d_X4_isPrice_3 (by decide) (fun c3 => ?_) (fun c3 => ?_)
  · refine px_iconst (v := 0) d_X4_isPrice_18 (by decide) ?_
    exact px_ireturn d_X4_isPrice_19 rfl rfl ⟨rfl, px_si (by simp [bI, c3]), rfl⟩
  · refine px_lload_n d_X4_isPrice_6 rfl rfl ?_
    refine px_ldc2 d_X4_isPrice_7 cl_X4_38 ?_
    refine px_lcmp d_X4_isPrice_10 ?_
    refine px_if_gt (tgt := 18) d_X4_isPrice_11 (by decide) (fun c11 => ?_) (fun c11 => ?_)
    · refine px_iconst (v := 0) d_X4_isPrice_18 (by decide) ?_
      exact px_ireturn d_X4_isPrice_19 rfl rfl ⟨rfl, px_si (by simp [bI, c3, c11]), rfl⟩
    · refine px_iconst (v := 1) d_X4_isPrice_14 (by decide) ?_
      refine px_goto (tgt := 19) d_X4_isPrice_15 (by decide) ?_
      exact px_ireturn d_X4_isPrice_19 rfl rfl ⟨rfl, px_si (by simp [bI, c3, c11]), rfl⟩
