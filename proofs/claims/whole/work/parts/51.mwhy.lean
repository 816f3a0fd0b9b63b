theorem x_X12_balance {h : PH} {a : Nat} {kn d : Int32} (hL : px_L h) {n : Nat} {nl : Nat → Nat} {W : Nat → Nat → (Nat → Int32) → Int32} (hX : RX h n nl W) {kd op : Int32} (hkd : hI h 55 a = kd) (hop : hI h 57 a = op) (ha : a < 20) {ne : Nat} (hs1 : hI h 36 32 = nI ne) (hn4 : ne ≤ 400) {E : Int32 → Int32} (hE : ∀ d, eTo (hI h 59) (hI h 60) (hI h 61) (hI h 62) (nI a) d kn ne = E d) {R : Nat → Int32 → Int32} (hR : ∀ m w, m < 24 → rfM h nl W n (fctD kd op w (nI (30 * m + 29))) 0 (nI (30 * m + 29)) kn = R m w) (hva : ¬ nI a < 0 ∧ ¬ hI h 36 27 ≤ nI a) (hv : ¬ d < 0 ∧ ¬ 719 < d ∧ ¬ kn < 0 ∧ ¬ hI h 36 26 < kn) : PX M_X12_balance [.ref 36, .int (nI a), .int d, .int kn] h 0 0 (sQ SI (th0 h) (balM E R d)) := by
  refine PX.of (by decide +kernel) (by decide +kernel) (Nat.le_of_ble_eq_true rfl) ?_
  refine px_aload_n d_X12_balance_0 rfl rfl ?_
  refine px_aload_n d_X12_balance_1 rfl rfl ?_
  refine px_iload_n d_X12_balance_2 rfl rfl ?_
  refine px_callV (c_X12_isAccount hL) d_X12_balance_3 lk_X12_262 ok_X12_isAccount ov_X12_isAccount (so36 hL) (by decide) rfl rfl (Nat.le_of_ble_eq_true rfl) (by decide) ⟨Nat.le_refl (hn h), Nat.le_refl (hs h)⟩ ?_
  refine px_if_eq (tgt := 36) d_X12_balance_6 (by decide) (fun c6 => absurd c6 (bI_n.mpr hva)) (fun c6 => ?_)
  refine px_iload_n d_X12_balance_9 rfl rfl ?_
  refine px_if_lt (tgt := 36) d_X12_balance_10 (by decide) (fun c10 => absurd c10 hv.1) (fun c10 => ?_)
  refine px_iload_n d_X12_balance_13 rfl rfl ?_
  refine px_sipush (v := 719) d_X12_balance_14 (by decide) ?_
  refine px_icmp_gt (tgt := 36) d_X12_balance_17 (by decide) (fun c17 => absurd c17 hv.2.1) (fun c17 => ?_)
  refine px_iload_n d_X12_balance_20 rfl rfl ?_
  refine px_if_lt (tgt := 36) d_X12_balance_21 (by decide) (fun c21 => absurd c21 hv.2.2.1) (fun c21 => ?_)
  refine px_iload_n d_X12_balance_24 rfl rfl ?_
  refine px_aload_n d_X12_balance_25 rfl rfl ?_
  refine px_getI d_X12_balance_26 fl_X12_218 rfl (so36 hL) ?_
  refine px_icmp_gt (tgt := 36) d_X12_balance_29 (by decide) (fun c29 => absurd c29 hv.2.2.2) (fun c29 => ?_)
  refine px_iconst (v := 0) d_X12_balance_32 (by decide) ?_
  refine px_goto (tgt := 37) d_X12_balance_33 (by decide) ?_
  refine px_putI d_X12_balance_37 fl_X12_150 rfl (so36 hL) ?_
  refine px_aload_n d_X12_balance_40 rfl rfl ?_
  refine px_getI d_X12_balance_41 fl_X12_150 rfl (so36 hL) ?_
  refine px_val (y := 0) rfl ?_
  refine px_if_le (tgt := 51) d_X12_balance_44 (by decide) (fun c44 => ?_) (fun c44 => absurd (by decide) c44)
  refine px_aload_n d_X12_balance_51 rfl rfl ?_
  refine px_iload_n d_X12_balance_52 rfl rfl ?_
  refine px_iload_n d_X12_balance_53 rfl rfl ?_
  refine px_iload_n d_X12_balance_54 rfl rfl ?_
  refine px_callVX (x_X12_balanceAt (h := th0 h) hL hX hkd hop ha hs1 hn4 hE hR) d_X12_balance_55 lk_X12_282 ok_X12_balanceAt ov_X12_balanceAt (so36 hL) (by decide) rfl rfl (Nat.le_of_ble_eq_true rfl) (by decide) ⟨Nat.le_refl (hn h), Nat.le_refl (hs h)⟩ (fun r9 h9 q9 n9 s9 => ?_)
  obtain ⟨rfl, hs9⟩ := q9
  exact px_ireturn d_X12_balance_58 rfl rfl ⟨rfl, ⟨rfl, hs9⟩, n9, s9⟩
theorem n_X12_balance {h : PH} {a d kn : Int32} (hL : px_L h) (hv : ¬ ((¬ a < 0 ∧ ¬ hI h 36 27 ≤ a) ∧ ¬ d < 0 ∧ ¬ 719 < d ∧ ¬ kn < 0 ∧ ¬ hI h 36 26 < kn)) : PM M_X12_balance [.ref 36, .int a, .int d, .int kn] h (some (.int 0)) (pI h 36 0 1) := by
  refine PM.of (by decide +kernel) (by decide +kernel) (Nat.le_refl _) (Nat.le_refl _) (Nat.le_of_ble_eq_true rfl) ?_
  refine px_aload_n d_X12_balance_0 rfl rfl ?_
  refine px_aload_n d_X12_balance_1 rfl rfl ?_
  refine px_iload_n d_X12_balance_2 rfl rfl ?_
  refine px_callV (c_X12_isAccount hL) d_X12_balance_3 lk_X12_262 ok_X12_isAccount ov_X12_isAccount (so36 hL) (by decide) rfl rfl (Nat.le_of_ble_eq_true rfl) (by decide) ⟨Nat.le_refl _, Nat.le_refl _⟩ ?_
  refine px_if_eq (tgt := 36) d_X12_balance_6 (by decide) (fun c6 => ?_) (fun c6 => ?_)
  · refine px_iconst (v := 1) d_X12_balance_36 (by decide) ?_
    refine px_putI d_X12_balance_37 fl_X12_150 rfl (so36 hL) ?_
    refine px_aload_n d_X12_balance_40 rfl rfl ?_
    refine px_getI d_X12_balance_41 fl_X12_150 rfl (so36 hL) ?_
    refine px_val (y := 1) rfl ?_
    refine px_if_le (tgt := 51) d_X12_balance_44 (by decide) (fun c44 => absurd c44 (by decide)) (fun c44 => ?_)
    refine px_iconst (v := 0) d_X12_balance_47 (by decide) ?_
    refine px_goto (tgt := 58) d_X12_balance_48 (by decide) ?_
    exact px_ireturn d_X12_balance_58 rfl rfl ⟨rfl, rfl, rfl⟩
  · refine px_iload_n d_X12_balance_9 rfl rfl ?_
    refine px_if_lt (tgt := 36) d_X12_balance_10 (by decide) (fun c10 => ?_) (fun c10 => ?_)
    · refine px_iconst (v := 1) d_X12_balance_36 (by decide) ?_
      refine px_putI d_X12_balance_37 fl_X12_150 rfl (so36 hL) ?_
      refine px_aload_n d_X12_balance_40 rfl rfl ?_
      refine px_getI d_X12_balance_41 fl_X12_150 rfl (so36 hL) ?_
      refine px_val (y := 1) rfl ?_
      refine px_if_le (tgt := 51) d_X12_balance_44 (by decide) (fun c44 => absurd c44 (by decide)) (fun c44 => ?_)
      refine px_iconst (v := 0) d_X12_balance_47 (by decide) ?_
      refine px_goto (tgt := 58) d_X12_balance_48 (by decide) ?_
      exact px_ireturn d_X12_balance_58 rfl rfl ⟨rfl, rfl, rfl⟩
    · refine px_iload_n d_X12_balance_13 rfl rfl ?_
      refine px_sipush (v := 719) d_X12_balance_14 (by decide) ?_
      refine px_icmp_gt (tgt := 36) d_X12_balance_17 (by decide) (fun c17 => ?_) (fun c17 => ?_)
      · refine px_iconst (v := 1) d_X12_balance_36 (by decide) ?_
        refine px_putI d_X12_balance_37 fl_X12_150 rfl (so36 hL) ?_
        refine px_aload_n d_X12_balance_40 rfl rfl ?_
        refine px_getI d_X12_balance_41 fl_X12_150 rfl (so36 hL) ?_
        refine px_val (y := 1) rfl ?_
        refine px_if_le (tgt := 51) d_X12_balance_44 (by decide) (fun c44 => absurd c44 (by decide)) (fun c44 => ?_)
        refine px_iconst (v := 0) d_X12_balance_47 (by decide) ?_
        refine px_goto (tgt := 58) d_X12_balance_48 (by decide) ?_
        exact px_ireturn d_X12_balance_58 rfl rfl ⟨rfl, rfl, rfl⟩
      · refine px_iload_n d_X12_balance_20 rfl rfl ?_
        refine px_if_lt (tgt := 36) d_X12_balance_21 (by decide) (fun c21 => ?_) (fun c21 => ?_)
        · refine px_iconst (v := 1) d_X12_balance_36 (by decide) ?_
          refine px_putI d_X12_balance_37 fl_X12_150 rfl (so36 hL) ?_
          refine px_aload_n d_X12_balance_40 rfl rfl ?_
          refine px_getI d_X12_balance_41 fl_X12_150 rfl (so36 hL) ?_
          refine px_val (y := 1) rfl ?_
          refine px_if_le (tgt := 51) d_X12_balance_44 (by decide) (fun c44 => absurd c44 (by decide)) (fun c44 => ?_)
          refine px_iconst (v := 0) d_X12_balance_47 (by decide) ?_
          refine px_goto (tgt := 58) d_X12_balance_48 (by decide) ?_
          exact px_ireturn d_X12_balance_58 rfl rfl ⟨rfl, rfl, rfl⟩
        · refine px_iload_n d_X12_balance_24 rfl rfl ?_
          refine px_aload_n d_X12_balance_25 rfl rfl ?_
          refine px_getI d_X12_balance_26 fl_X12_218 rfl (so36 hL) ?_
          refine px_icmp_gt (tgt := 36) d_X12_balance_29 (by decide) (fun c29 => ?_) (fun c29 => ?_)
          · refine px_iconst (v := 1) d_X12_balance_36 (by decide) ?_
            refine px_putI d_X12_balance_37 fl_X12_150 rfl (so36 hL) ?_
            refine px_aload_n d_X12_balance_40 rfl rfl ?_
            refine px_getI d_X12_balance_41 fl_X12_150 rfl (so36 hL) ?_
            refine px_val (y := 1) rfl ?_
            refine px_if_le (tgt := 51) d_X12_balance_44 (by decide) (fun c44 => absurd c44 (by decide)) (fun c44 => ?_)
            refine px_iconst (v := 0) d_X12_balance_47 (by decide) ?_
            refine px_goto (tgt := 58) d_X12_balance_48 (by decide) ?_
            exact px_ireturn d_X12_balance_58 rfl rfl ⟨rfl, rfl, rfl⟩
          · exact absurd ⟨bI_n.mp c6, c10, c17, c21, c29⟩ hv
theorem x_X12_interest {h : PH} {a mo : Nat} {kn : Int32} (hL : px_L h) {n : Nat} {nl : Nat → Nat} {W : Nat → Nat → (Nat → Int32) → Int32} (hX : RX h n nl W) {kd op : Int32} (hkd : hI h 55 a = kd) (hop : hI h 57 a = op) (ha : a < 20) {ne : Nat} (hs1 : hI h 36 32 = nI ne) (hn4 : ne ≤ 400) {E : Int32 → Int32} (hE : ∀ d, eTo (hI h 59) (hI h 60) (hI h 61) (hI h 62) (nI a) d kn ne = E d) {R : Nat → Int32 → Int32} (hR : ∀ m w, m < 24 → rfM h nl W n (fctD kd op w (nI (30 * m + 29))) 0 (nI (30 * m + 29)) kn = R m w) (hva : ¬ nI a < 0 ∧ ¬ hI h 36 27 ≤ nI a) (hmo : mo < 24) (hv : ¬ kn < 0 ∧ ¬ hI h 36 26 < kn) : PX M_X12_interest [.ref 36, .int (nI a), .int (nI mo), .int kn] h 0 0 (sQ SI (th0 h) (itM E R mo)) := by
  refine PX.of (by decide +kernel) (by decide +kernel) (Nat.le_of_ble_eq_true rfl) ?_
  refine px_aload_n d_X12_interest_0 rfl rfl ?_
  refine px_aload_n d_X12_interest_1 rfl rfl ?_
  refine px_iload_n d_X12_interest_2 rfl rfl ?_
  refine px_callV (c_X12_isAccount hL) d_X12_interest_3 lk_X12_262 ok_X12_isAccount ov_X12_isAccount (so36 hL) (by decide) rfl rfl (Nat.le_of_ble_eq_true rfl) (by decide) ⟨Nat.le_refl (hn h), Nat.le_refl (hs h)⟩ ?_
  refine px_if_eq (tgt := 35) d_X12_interest_6 (by decide) (fun c6 => absurd c6 (bI_n.mpr hva)) (fun c6 => ?_)
  refine px_iload_n d_X12_interest_9 rfl rfl ?_
  refine px_if_lt (tgt := 35) d_X12_interest_10 (by decide) (fun c10 => absurd c10 (nI_pos (by omega))) (fun c10 => ?_)
  refine px_iload_n d_X12_interest_13 rfl rfl ?_
  refine px_bipush (v := 23) d_X12_interest_14 (by decide) ?_
  refine px_icmp_gt (tgt := 35) d_X12_interest_16 (by decide) (fun c16 => absurd c16 (nI_nlt (a := 23) (b := mo) (by omega) (by decide))) (fun c16 => ?_)
  refine px_iload_n d_X12_interest_19 rfl rfl ?_
  refine px_if_lt (tgt := 35) d_X12_interest_20 (by decide) (fun c20 => absurd c20 hv.1) (fun c20 => ?_)
  refine px_iload_n d_X12_interest_23 rfl rfl ?_
  refine px_aload_n d_X12_interest_24 rfl rfl ?_
  refine px_getI d_X12_interest_25 fl_X12_218 rfl (so36 hL) ?_
  refine px_icmp_gt (tgt := 35) d_X12_interest_28 (by decide) (fun c28 => absurd c28 hv.2) (fun c28 => ?_)
  refine px_iconst (v := 0) d_X12_interest_31 (by decide) ?_
  refine px_goto (tgt := 36) d_X12_interest_32 (by decide) ?_
  refine px_putI d_X12_interest_36 fl_X12_150 rfl (so36 hL) ?_
  refine px_aload_n d_X12_interest_39 rfl rfl ?_
  refine px_getI d_X12_interest_40 fl_X12_150 rfl (so36 hL) ?_
  refine px_val (y := 0) rfl ?_
  refine px_if_le (tgt := 48) d_X12_interest_43 (by decide) (fun c43 => ?_) (fun c43 => absurd (by decide) c43)
  refine px_aload_n d_X12_interest_48 rfl rfl ?_
  refine px_iload_n d_X12_interest_49 rfl rfl ?_
  refine px_iload_n d_X12_interest_50 rfl rfl ?_
  refine px_callVX (x_X12_findInterest (h := th0 h) hL hX hkd hop ha hs1 hn4 hE hR) d_X12_interest_51 lk_X12_279 ok_X12_findInterest ov_X12_findInterest (so36 hL) (by decide) rfl rfl (Nat.le_of_ble_eq_true rfl) (by decide) ⟨Nat.le_refl (hn h), Nat.le_refl (hs h)⟩ (fun r9 h9 q9 n9 s9 => ?_)
  obtain ⟨rfl, hs9, g64⟩ := q9
  have hL9 : px_L h9 := px_L.same (h := th0 h) hL hs9
  refine px_aload_n d_X12_interest_54 rfl rfl ?_
  refine px_getR d_X12_interest_55 fl_X12_111 (by decide) (so36 hL9) (sr36_38 hL9) ?_
  refine px_iload_n d_X12_interest_58 rfl rfl ?_
  refine px_iald d_X12_interest_59 (sa64 hL9) rfl hmo ?_
  refine px_val (y := itM E R mo) (g64 mo hmo) ?_
  exact px_ireturn d_X12_interest_60 rfl rfl ⟨rfl, ⟨rfl, hs9⟩, n9, s9⟩
theorem n_X12_interest {h : PH} {a d kn : Int32} (hL : px_L h) (hv : ¬ ((¬ a < 0 ∧ ¬ hI h 36 27 ≤ a) ∧ ¬ d < 0 ∧ ¬ 23 < d ∧ ¬ kn < 0 ∧ ¬ hI h 36 26 < kn)) : PM M_X12_interest [.ref 36, .int a, .int d, .int kn] h (some (.int 0)) (pI h 36 0 1) := by
  refine PM.of (by decide +kernel) (by decide +kernel) (Nat.le_refl _) (Nat.le_refl _) (Nat.le_of_ble_eq_true rfl) ?_
  refine px_aload_n d_X12_interest_0 rfl rfl ?_
  refine px_aload_n d_X12_interest_1 rfl rfl ?_
  refine px_iload_n d_X12_interest_2 rfl rfl ?_
  refine px_callV (c_X12_isAccount hL) d_X12_interest_3 lk_X12_262 ok_X12_isAccount ov_X12_isAccount (so36 hL) (by decide) rfl rfl (Nat.le_of_ble_eq_true rfl) (by decide) ⟨Nat.le_refl _, Nat.le_refl _⟩ ?_
  refine px_if_eq (tgt := 35) d_X12_interest_6 (by decide) (fun c6 => ?_) (fun c6 => ?_)
  · refine px_iconst (v := 1) d_X12_interest_35 (by decide) ?_
    refine px_putI d_X12_interest_36 fl_X12_150 rfl (so36 hL) ?_
    refine px_aload_n d_X12_interest_39 rfl rfl ?_
    refine px_getI d_X12_interest_40 fl_X12_150 rfl (so36 hL) ?_
    refine px_val (y := 1) rfl ?_
    refine px_if_le (tgt := 48) d_X12_interest_43 (by decide) (fun c43 => absurd c43 (by decide)) (fun c43 => ?_)
    refine px_iconst (v := 0) d_X12_interest_46 (by decide) ?_
    exact px_ireturn d_X12_interest_47 rfl rfl ⟨rfl, rfl, rfl⟩
  · refine px_iload_n d_X12_interest_9 rfl rfl ?_
    refine px_if_lt (tgt := 35) d_X12_interest_10 (by decide) (fun c10 => ?_) (fun c10 => ?_)
    · refine px_iconst (v := 1) d_X12_interest_35 (by decide) ?_
      refine px_putI d_X12_interest_36 fl_X12_150 rfl (so36 hL) ?_
      refine px_aload_n d_X12_interest_39 rfl rfl ?_
      refine px_getI d_X12_interest_40 fl_X12_150 rfl (so36 hL) ?_
      refine px_val (y := 1) rfl ?_
      refine px_if_le (tgt := 48) d_X12_interest_43 (by decide) (fun c43 => absurd c43 (by decide)) (fun c43 => ?_)
      refine px_iconst (v := 0) d_X12_interest_46 (by decide) ?_
      exact px_ireturn d_X12_interest_47 rfl rfl ⟨rfl, rfl, rfl⟩
    · refine px_iload_n d_X12_interest_13 rfl rfl ?_
      refine px_bipush (v := 23) d_X12_interest_14 (by decide) ?_
      refine px_icmp_gt (tgt := 35) d_X12_interest_16 (by decide) (fun c16 => ?_) (fun c16 => ?_)
      · refine px_iconst (v := 1) d_X12_interest_35 (by decide) ?_
        refine px_putI d_X12_interest_36 fl_X12_150 rfl (so36 hL) ?_
        refine px_aload_n d_X12_interest_39 rfl rfl ?_
        refine px_getI d_X12_interest_40 fl_X12_150 rfl (so36 hL) ?_
        refine px_val (y := 1) rfl ?_
        refine px_if_le (tgt := 48) d_X12_interest_43 (by decide) (fun c43 => absurd c43 (by decide)) (fun c43 => ?_)
        refine px_iconst (v := 0) d_X12_interest_46 (by decide) ?_
        exact px_ireturn d_X12_interest_47 rfl rfl ⟨rfl, rfl, rfl⟩
      · refine px_iload_n d_X12_interest_19 rfl rfl ?_
        refine px_if_lt (tgt := 35) d_X12_interest_20 (by decide) (fun c20 => ?_) (fun c20 => ?_)
        · refine px_iconst (v := 1) d_X12_interest_35 (by decide) ?_
          refine px_putI d_X12_interest_36 fl_X12_150 rfl (so36 hL) ?_
          refine px_aload_n d_X12_interest_39 rfl rfl ?_
          refine px_getI d_X12_interest_40 fl_X12_150 rfl (so36 hL) ?_
          refine px_val (y := 1) rfl ?_
          refine px_if_le (tgt := 48) d_X12_interest_43 (by decide) (fun c43 => absurd c43 (by decide)) (fun c43 => ?_)
          refine px_iconst (v := 0) d_X12_interest_46 (by decide) ?_
          exact px_ireturn d_X12_interest_47 rfl rfl ⟨rfl, rfl, rfl⟩
        · refine px_iload_n d_X12_interest_23 rfl rfl ?_
          refine px_aload_n d_X12_interest_24 rfl rfl ?_
          refine px_getI d_X12_interest_25 fl_X12_218 rfl (so36 hL) ?_
          refine px_icmp_gt (tgt := 35) d_X12_interest_28 (by decide) (fun c28 => ?_) (fun c28 => ?_)
          · refine px_iconst (v := 1) d_X12_interest_35 (by decide) ?_
            refine px_putI d_X12_interest_36 fl_X12_150 rfl (so36 hL) ?_
            refine px_aload_n d_X12_interest_39 rfl rfl ?_
            refine px_getI d_X12_interest_40 fl_X12_150 rfl (so36 hL) ?_
            refine px_val (y := 1) rfl ?_
            refine px_if_le (tgt := 48) d_X12_interest_43 (by decide) (fun c43 => absurd c43 (by decide)) (fun c43 => ?_)
            refine px_iconst (v := 0) d_X12_interest_46 (by decide) ?_
            exact px_ireturn d_X12_interest_47 rfl rfl ⟨rfl, rfl, rfl⟩
          · exact absurd ⟨bI_n.mp c6, c10, c16, c20, c28⟩ hv
def stQ (h : PH) (a : Nat) (v : Int32) : Option Value → PH → Prop := fun r h' => r = some (.int v) ∧ ∃ g, px_same SI (th0 h) g ∧ h' = pI g 58 a (hI h 58 a + v)
theorem lp_X12_settle {h g : PH} {a t : Nat} {x : Int32} {E : Int32 → Int32} {R : Nat → Int32 → Int32} (hL : px_L h) (ha : a < 20) (hnw : hI h 36 26 = nI t) (hg : px_same SI (th0 h) g) (g64 : ∀ m, m < 24 → hI g 64 m = itM E R m) : ∀ (k m : Nat), m + k = 24 → PW M_X12_settle (hn h) (hs h) (PXpost h 0 0 (stQ h a (blM E R x (nI t) 24))) 45 [(0, .ref 36), (1, .int (nI a)), (2, .int (blM E R x (nI t) (m))), (3, .int (nI (m)))] [] g := by
  have hLg : px_L g := px_L.same (h := th0 h) hL hg
  intro k
  induction k with
  | zero =>
    intro m hm
    have e : m = 24 := by omega
    subst e
    refine px_iload_n d_X12_settle_45 rfl rfl ?_
    refine px_bipush (v := 24) d_X12_settle_46 (by decide) ?_
    refine px_icmp_ge (tgt := 84) d_X12_settle_48 (by decide) (fun c48 => ?_) (fun c48 => (c48 (by decide)).elim)
    refine px_aload_n d_X12_settle_84 rfl rfl ?_
    refine px_getR d_X12_settle_85 fl_X12_93 (by decide) (so36 hLg) (sr36_31 hLg) ?_
    refine px_iload_n d_X12_settle_88 rfl rfl ?_
    refine px_dup2 d_X12_settle_89 rfl rfl ?_
    refine px_iald d_X12_settle_90 (sa58 hLg) rfl ha ?_
    refine px_val (y := hI h 58 a) (congrFun (hg.2 58 (by decide)) _) ?_
    refine px_iload_n d_X12_settle_91 rfl rfl ?_
    refine px_iadd d_X12_settle_92 ?_
    refine px_iast d_X12_settle_93 (sa58 hLg) rfl ha ?_
    refine px_iload_n d_X12_settle_94 rfl rfl ?_
    exact px_ireturn d_X12_settle_95 rfl rfl ⟨rfl, ⟨rfl, g, hg, rfl⟩, hg.1.2.2.2.1, hg.1.2.2.2.2⟩
  | succ k ih =>
    intro m hm
    refine px_iload_n d_X12_settle_45 rfl rfl ?_
    refine px_bipush (v := 24) d_X12_settle_46 (by decide) ?_
    refine px_icmp_ge (tgt := 84) d_X12_settle_48 (by decide) (fun c48 => absurd c48 (nI_ge (b := 24) (by omega) (by decide))) (fun c48 => ?_)
    refine px_iload_n d_X12_settle_51 rfl rfl ?_
    refine px_bipush (v := 30) d_X12_settle_52 (by decide) ?_
    refine px_iload_n d_X12_settle_54 rfl rfl ?_
    refine px_imul d_X12_settle_55 ?_
    refine px_val (y := nI (30 * m)) (nI_30 m) ?_
    refine px_bipush (v := 29) d_X12_settle_56 (by decide) ?_
    refine px_iadd d_X12_settle_58 ?_
    refine px_val (y := nI (30 * m + 29)) (nI_add _ 29) ?_
    refine px_aload_n d_X12_settle_59 rfl rfl ?_
    refine px_getI d_X12_settle_60 fl_X12_218 rfl (so36 hLg) ?_
    refine px_val (y := nI t) ((congrFun (hg.2 36 (by decide)) _).trans hnw) ?_
    refine px_icmp_ge (tgt := 75) d_X12_settle_63 (by decide) (fun c63 => ?_) (fun c63 => ?_)
    · refine px_iconst (v := 0) d_X12_settle_75 (by decide) ?_
      refine px_iadd d_X12_settle_76 ?_
      refine px_val (y := blM E R x (nI t) (m + 1)) (by rw [blM_e]; first | rw [if_pos c63] | rw [if_neg c63]) ?_
      refine px_istore_n d_X12_settle_77 rfl (by decide) ?_
      refine px_inc1 d_X12_settle_78 rfl (by decide) ?_
      refine px_goto (tgt := 45) d_X12_settle_81 (by decide) ?_
      refine px_drop (lv' := [(0, .ref 36), (1, .int (nI a)), (2, .int (blM E R x (nI t) (m + 1))), (3, .int (nI (m + 1)))]) ⟨rfl, rfl, rfl, px_si (nI_s1 _), trivial⟩ ?_
      exact ih (m + 1) (by omega)
    · refine px_aload_n d_X12_settle_66 rfl rfl ?_
      refine px_getR d_X12_settle_67 fl_X12_111 (by decide) (so36 hLg) (sr36_38 hLg) ?_
      refine px_iload_n d_X12_settle_70 rfl rfl ?_
      refine px_iald d_X12_settle_71 (sa64 hLg) rfl (by omega) ?_
      refine px_val (y := itM E R m) (g64 m (by omega)) ?_
      refine px_goto (tgt := 76) d_X12_settle_72 (by decide) ?_
      refine px_iadd d_X12_settle_76 ?_
      refine px_val (y := blM E R x (nI t) (m + 1)) (by rw [blM_e]; first | rw [if_pos c63] | rw [if_neg c63]) ?_
      refine px_istore_n d_X12_settle_77 rfl (by decide) ?_
      refine px_inc1 d_X12_settle_78 rfl (by decide) ?_
      refine px_goto (tgt := 45) d_X12_settle_81 (by decide) ?_
      refine px_drop (lv' := [(0, .ref 36), (1, .int (nI a)), (2, .int (blM E R x (nI t) (m + 1))), (3, .int (nI (m + 1)))]) ⟨rfl, rfl, rfl, px_si (nI_s1 _), trivial⟩ ?_
      exact ih (m + 1) (by omega)
theorem x_X12_settle {h : PH} {a t : Nat} (hnw : hI h 36 26 = nI t) (hL : px_L h) {n : Nat} {nl : Nat → Nat} {W : Nat → Nat → (Nat → Int32) → Int32} (hX : RX h n nl W) {kd op : Int32} (hkd : hI h 55 a = kd) (hop : hI h 57 a = op) (ha : a < 20) {ne : Nat} (hs1 : hI h 36 32 = nI ne) (hn4 : ne ≤ 400) {E : Int32 → Int32} (hE : ∀ d, eTo (hI h 59) (hI h 60) (hI h 61) (hI h 62) (nI a) d (nI t) ne = E d) {R : Nat → Int32 → Int32} (hR : ∀ m w, m < 24 → rfM h nl W n (fctD kd op w (nI (30 * m + 29))) 0 (nI (30 * m + 29)) (nI t) = R m w) (hva : ¬ nI a < 0 ∧ ¬ hI h 36 27 ≤ nI a) : PX M_X12_settle [.ref 36, .int (nI a)] h 0 0 (stQ h a (blM E R (- hI h 58 a) (nI t) 24)) := by
  refine PX.of (by decide +kernel) (by decide +kernel) (Nat.le_of_ble_eq_true rfl) ?_
  refine px_aload_n d_X12_settle_0 rfl rfl ?_
  refine px_aload_n d_X12_settle_1 rfl rfl ?_
  refine px_iload_n d_X12_settle_2 rfl rfl ?_
  refine px_callV (c_X12_isAccount hL) d_X12_settle_3 lk_X12_262 ok_X12_isAccount ov_X12_isAccount (so36 hL) (by decide) rfl rfl (Nat.le_of_ble_eq_true rfl) (by decide) ⟨Nat.le_refl (hn h), Nat.le_refl (hs h)⟩ ?_
  refine px_if_eq (tgt := 13) d_X12_settle_6 (by decide) (fun c6 => absurd c6 (bI_n.mpr hva)) (fun c6 => ?_)
  refine px_iconst (v := 0) d_X12_settle_9 (by decide) ?_
  refine px_goto (tgt := 14) d_X12_settle_10 (by decide) ?_
  refine px_putI d_X12_settle_14 fl_X12_150 rfl (so36 hL) ?_
  refine px_aload_n d_X12_settle_17 rfl rfl ?_
  refine px_getI d_X12_settle_18 fl_X12_150 rfl (so36 hL) ?_
  refine px_val (y := 0) rfl ?_
  refine px_if_le (tgt := 26) d_X12_settle_21 (by decide) (fun c21 => ?_) (fun c21 => absurd (by decide) c21)
  refine px_aload_n d_X12_settle_26 rfl rfl ?_
  refine px_iload_n d_X12_settle_27 rfl rfl ?_
  refine px_aload_n d_X12_settle_28 rfl rfl ?_
  refine px_getI d_X12_settle_29 fl_X12_218 rfl (so36 hL) ?_
  refine px_val (y := nI t) hnw ?_
  refine px_callVX (x_X12_findInterest (h := th0 h) hL hX hkd hop ha hs1 hn4 hE hR) d_X12_settle_32 lk_X12_279 ok_X12_findInterest ov_X12_findInterest (so36 hL) (by decide) rfl rfl (Nat.le_of_ble_eq_true rfl) (by decide) ⟨Nat.le_refl (hn h), Nat.le_refl (hs h)⟩ (fun r9 h9 q9 n9 s9 => ?_)
  obtain ⟨rfl, hs9, g64⟩ := q9
  have hL9 : px_L h9 := px_L.same (h := th0 h) hL hs9
  refine px_aload_n d_X12_settle_35 rfl rfl ?_
  refine px_getR d_X12_settle_36 fl_X12_93 (by decide) (so36 hL9) (sr36_31 hL9) ?_
  refine px_iload_n d_X12_settle_39 rfl rfl ?_
  refine px_iald d_X12_settle_40 (sa58 hL9) rfl ha ?_
  refine px_val (y := hI h 58 a) (congrFun (hs9.2 58 (by decide)) _) ?_
  refine px_ineg d_X12_settle_41 ?_
  refine px_istore_n d_X12_settle_42 rfl (by decide) ?_
  refine px_iconst (v := 0) d_X12_settle_43 (by decide) ?_
  refine px_istore_n d_X12_settle_44 rfl (by decide) ?_
  refine px_drop (lv' := [(0, .ref 36), (1, .int (nI a)), (2, .int (blM E R (- hI h 58 a) (nI t) 0)), (3, .int (nI 0))]) ⟨rfl, rfl, rfl, rfl, trivial⟩ ?_
  exact lp_X12_settle hL ha hnw hs9 g64 24 0 (by omega)
theorem n_X12_settle {h : PH} {a : Int32} (hL : px_L h) (hv : ¬ (¬ a < 0 ∧ ¬ hI h 36 27 ≤ a)) : PM M_X12_settle [.ref 36, .int a] h (some (.int 0)) (pI h 36 0 1) := by
  refine PM.of (by decide +kernel) (by decide +kernel) (Nat.le_refl _) (Nat.le_refl _) (Nat.le_of_ble_eq_true rfl) ?_
  refine px_aload_n d_X12_settle_0 rfl rfl ?_
  refine px_aload_n d_X12_settle_1 rfl rfl ?_
  refine px_iload_n d_X12_settle_2 rfl rfl ?_
  refine px_callV (c_X12_isAccount hL) d_X12_settle_3 lk_X12_262 ok_X12_isAccount ov_X12_isAccount (so36 hL) (by decide) rfl rfl (Nat.le_of_ble_eq_true rfl) (by decide) ⟨Nat.le_refl _, Nat.le_refl _⟩ ?_
  refine px_if_eq (tgt := 13) d_X12_settle_6 (by decide) (fun c6 => ?_) (fun c6 => ?_)
  · refine px_iconst (v := 1) d_X12_settle_13 (by decide) ?_
    refine px_putI d_X12_settle_14 fl_X12_150 rfl (so36 hL) ?_
    refine px_aload_n d_X12_settle_17 rfl rfl ?_
    refine px_getI d_X12_settle_18 fl_X12_150 rfl (so36 hL) ?_
    refine px_val (y := 1) rfl ?_
    refine px_if_le (tgt := 26) d_X12_settle_21 (by decide) (fun c21 => absurd c21 (by decide)) (fun c21 => ?_)
    refine px_iconst (v := 0) d_X12_settle_24 (by decide) ?_
    exact px_ireturn d_X12_settle_25 rfl rfl ⟨rfl, rfl, rfl⟩
  · exact absurd (bI_n.mp c6) hv
/-- the balance at the end of the day ahead -/
def prM (E : Int32 → Int32) (R : Nat → Int32 → Int32) (t : Nat) : Int32 := if nI t = 0 then 0 else balM E R (nI t - 1)
def pnM (b : Int32) : Int32 := if 0 ≤ b then b / 240 else 0
def lmM (h : PH) (nl : Nat → Nat) (W : Nat → Nat → (Nat → Int32) → Int32) (n : Nat) (kd op b : Int32) (t : Nat) : Int32 := rfM h nl W n (fctD kd op (pnM b) (nI t)) 1 (nI t) (nI t)
def ltB (lim dn s : Int32) : Int32 := bI (¬ lim < 0 ∧ ¬ dn + s ≤ lim)
theorem tB_X12_isLimited {h g : PH} {a t : Nat} {s b p : Int32} (hp : p = pnM b) (hL : px_L h) (hnw : hI h 36 26 = nI t) {n : Nat} {nl : Nat → Nat} {W : Nat → Nat → (Nat → Int32) → Int32} (hX : RX h n nl W) {kd op : Int32} (hkd : hI h 55 a = kd) (hop : hI h 57 a = op) (ha : a < 20) {ne : Nat} (hs1 : hI h 36 32 = nI ne) (hn4 : ne ≤ 400) (hg : px_same SI h g) : PW M_X12_isLimited (hn h) (hs h) (PXpost h 0 0 (sQ SI h (ltB (lmM h nl W n kd op b t) (drN (hI h 59) (hI h 60) (hI h 61) (nI a) (nI t) ne) s))) 57 [(0, .ref 36), (1, .int (nI a)), (2, .int s), (3, .int b)] [.int p, .int 1, .ref 53] (pI g 53 0 kd) := by
  have hLg := hL.same hg
  have eN : hn g = hn h := hg.1.2.2.2.1
  have eS : hs g = hs h := hg.1.2.2.2.2
  subst hp
  have hs9 : px_same SI h (knM g kd (pnM b) (nI t - op) (nI t / 30) (nI t - nI t / 30 * 30)) := knM_s hg _ _ _ _ _
  refine px_iast (j := 1) d_X12_isLimited_57 (sa53 hLg) rfl (by decide) ?_
  refine px_aload_n d_X12_isLimited_58 rfl rfl ?_
  refine px_getR d_X12_isLimited_59 fl_X12_78 (by decide) (so36 hLg) (sr36_24 hLg) ?_
  refine px_iconst (v := 2) d_X12_isLimited_62 (by decide) ?_
  refine px_aload_n d_X12_isLimited_63 rfl rfl ?_
  refine px_getI d_X12_isLimited_64 fl_X12_218 rfl (so36 hLg) ?_
  refine px_val (y := nI t) ((congrFun (hg.2 36 (by decide)) _).trans hnw) ?_
  refine px_aload_n d_X12_isLimited_67 rfl rfl ?_
  refine px_getR d_X12_isLimited_68 fl_X12_90 (by decide) (so36 hLg) (sr36_30 hLg) ?_
  refine px_iload_n d_X12_isLimited_71 rfl rfl ?_
  refine px_iald d_X12_isLimited_72 (sa57 hLg) rfl ha ?_
  refine px_val (y := op) ((congrFun (hg.2 57 (by decide)) _).trans hop) ?_
  refine px_isub d_X12_isLimited_73 ?_
  refine px_iast (j := 2) d_X12_isLimited_74 (sa53 hLg) rfl (by decide) ?_
  refine px_aload_n d_X12_isLimited_75 rfl rfl ?_
  refine px_getR d_X12_isLimited_76 fl_X12_78 (by decide) (so36 hLg) (sr36_24 hLg) ?_
  refine px_iconst (v := 3) d_X12_isLimited_79 (by decide) ?_
  refine px_aload_n d_X12_isLimited_80 rfl rfl ?_
  refine px_getI d_X12_isLimited_81 fl_X12_218 rfl (so36 hLg) ?_
  refine px_val (y := nI t) ((congrFun (hg.2 36 (by decide)) _).trans hnw) ?_
  refine px_bipush (v := 30) d_X12_isLimited_84 (by decide) ?_
  refine px_idiv d_X12_isLimited_86 (by decide) ?_
  refine px_iast (j := 3) d_X12_isLimited_87 (sa53 hLg) rfl (by decide) ?_
  refine px_aload_n d_X12_isLimited_88 rfl rfl ?_
  refine px_getR d_X12_isLimited_89 fl_X12_78 (by decide) (so36 hLg) (sr36_24 hLg) ?_
  refine px_iconst (v := 4) d_X12_isLimited_92 (by decide) ?_
  refine px_aload_n d_X12_isLimited_93 rfl rfl ?_
  refine px_getI d_X12_isLimited_94 fl_X12_218 rfl (so36 hLg) ?_
  refine px_val (y := nI t) ((congrFun (hg.2 36 (by decide)) _).trans hnw) ?_
  refine px_bipush (v := 30) d_X12_isLimited_97 (by decide) ?_
  refine px_irem d_X12_isLimited_99 (by decide) ?_
  refine px_iast (j := 4) d_X12_isLimited_100 (sa53 hLg) rfl (by decide) ?_
  refine px_heap (h2 := (knM g kd (pnM b) (nI t - op) (nI t / 30) (nI t - nI t / 30 * 30))) rfl ?_
  refine px_aload_n d_X12_isLimited_101 rfl rfl ?_
  refine px_iconst (v := 1) d_X12_isLimited_102 (by decide) ?_
  refine px_aload_n d_X12_isLimited_103 rfl rfl ?_
  refine px_getI d_X12_isLimited_104 fl_X12_218 rfl (so36 hLg) ?_
  refine px_val (y := nI t) ((congrFun (hg.2 36 (by decide)) _).trans hnw) ?_
  refine px_aload_n d_X12_isLimited_107 rfl rfl ?_
  refine px_getI d_X12_isLimited_108 fl_X12_218 rfl (so36 hLg) ?_
  refine px_val (y := nI t) ((congrFun (hg.2 36 (by decide)) _).trans hnw) ?_
  refine px_callVX (k_X12_firstOf hL hX hs9 (F := fctD kd op (pnM b) (nI t)) (fun j hj => knM_F g _ _ _ _ _ j hj)) d_X12_isLimited_111 lk_X12_275 ok_X12_firstOf ov_X12_firstOf (so36 hLg) (by decide) rfl rfl (Nat.le_of_ble_eq_true rfl) (by decide) ⟨Nat.le_of_eq eN, Nat.le_of_eq eS⟩ (fun r9 h9 q9 n9 s9 => ?_)
  obtain ⟨rfl, hq9⟩ := q9
  have hs8 := hs9.tr (hq9.mono (fun a ha => SI_W ha))
  have hL9 := hL.same hs8
  have cD := c_X12_drawnNow (h := h9) (n := ne) (a := nI a) hL9 ((congrFun (hs8.2 36 (by decide)) _).trans hs1) hn4
  rw [hs8.2 59 (by decide), hs8.2 60 (by decide), hs8.2 61 (by decide), (congrFun (hs8.2 36 (by decide)) _).trans hnw] at cD
  have eN8 : hn h9 = hn h := hs8.1.2.2.2.1
  have eS8 : hs h9 = hs h := hs8.1.2.2.2.2
  refine px_val (y := (lmM h nl W n kd op b t)) rfl ?_
  refine px_istore d_X12_isLimited_114 (by decide) ?_
  refine px_iload d_X12_isLimited_116 rfl ?_
  refine px_if_lt (tgt := 137) d_X12_isLimited_118 (by decide) (fun c118 => ?_) (fun c118 => ?_)
  · refine px_iconst (v := 0) d_X12_isLimited_137 (by decide) ?_
    exact px_ireturn d_X12_isLimited_138 rfl (by first | rfl | decide) ⟨rfl, ⟨px_si (by first | exact (bI_0.mpr (fun q => by first | exact q.1 c118 | exact q.2 c130)).symm | exact (if_pos ⟨c118, c130⟩).symm), hs8⟩, eN8, eS8⟩
  · refine px_aload_n d_X12_isLimited_121 rfl rfl ?_
    refine px_iload_n d_X12_isLimited_122 rfl rfl ?_
    refine px_callV (cD) d_X12_isLimited_123 lk_X12_288 ok_X12_drawnNow ov_X12_drawnNow (so36 hL9) (by decide) rfl rfl (Nat.le_of_ble_eq_true rfl) (by decide) ⟨Nat.le_of_eq eN8, Nat.le_of_eq eS8⟩ ?_
    refine px_iload_n d_X12_isLimited_126 rfl rfl ?_
    refine px_iadd d_X12_isLimited_127 ?_
    refine px_iload d_X12_isLimited_128 rfl ?_
    refine px_icmp_le (tgt := 137) d_X12_isLimited_130 (by decide) (fun c130 => ?_) (fun c130 => ?_)
    · refine px_iconst (v := 0) d_X12_isLimited_137 (by decide) ?_
      exact px_ireturn d_X12_isLimited_138 rfl (by first | rfl | decide) ⟨rfl, ⟨px_si (by first | exact (bI_0.mpr (fun q => by first | exact q.1 c118 | exact q.2 c130)).symm | exact (if_pos ⟨c118, c130⟩).symm), hs8⟩, eN8, eS8⟩
    · refine px_iconst (v := 1) d_X12_isLimited_133 (by decide) ?_
      refine px_goto (tgt := 138) d_X12_isLimited_134 (by decide) ?_
      exact px_ireturn d_X12_isLimited_138 rfl (by first | rfl | decide) ⟨rfl, ⟨px_si (by first | exact (bI_0.mpr (fun q => by first | exact q.1 c118 | exact q.2 c130)).symm | exact (if_pos ⟨c118, c130⟩).symm), hs8⟩, eN8, eS8⟩
theorem tA_X12_isLimited {h g : PH} {a t : Nat} {s b : Int32} (hL : px_L h) (hnw : hI h 36 26 = nI t) {n : Nat} {nl : Nat → Nat} {W : Nat → Nat → (Nat → Int32) → Int32} (hX : RX h n nl W) {kd op : Int32} (hkd : hI h 55 a = kd) (hop : hI h 57 a = op) (ha : a < 20) {ne : Nat} (hs1 : hI h 36 32 = nI ne) (hn4 : ne ≤ 400) (hg : px_same SI h g) : PW M_X12_isLimited (hn h) (hs h) (PXpost h 0 0 (sQ SI h (ltB (lmM h nl W n kd op b t) (drN (hI h 59) (hI h 60) (hI h 61) (nI a) (nI t) ne) s))) 27 [(0, .ref 36), (1, .int (nI a)), (2, .int s), (3, .int b)] [] g := by
  have hLg := hL.same hg
  refine px_aload_n d_X12_isLimited_27 rfl rfl ?_
  refine px_getR d_X12_isLimited_28 fl_X12_78 (by decide) (so36 hLg) (sr36_24 hLg) ?_
  refine px_iconst (v := 0) d_X12_isLimited_31 (by decide) ?_
  refine px_aload_n d_X12_isLimited_32 rfl rfl ?_
  refine px_getR d_X12_isLimited_33 fl_X12_84 (by decide) (so36 hLg) (sr36_28 hLg) ?_
  refine px_iload_n d_X12_isLimited_36 rfl rfl ?_
  refine px_iald d_X12_isLimited_37 (sa55 hLg) rfl ha ?_
  refine px_val (y := kd) ((congrFun (hg.2 55 (by decide)) _).trans hkd) ?_
  refine px_iast (j := 0) d_X12_isLimited_38 (sa53 hLg) rfl (by decide) ?_
  refine px_aload_n d_X12_isLimited_39 rfl rfl ?_
  refine px_getR d_X12_isLimited_40 fl_X12_78 (by decide) (so36 hLg) (sr36_24 hLg) ?_
  refine px_iconst (v := 1) d_X12_isLimited_43 (by decide) ?_
  refine px_iload_n d_X12_isLimited_44 rfl rfl ?_
  refine px_if_ge (tgt := 52) d_X12_isLimited_45 (by decide) (fun c45 => ?_) (fun c45 => ?_)
  · refine px_iload_n d_X12_isLimited_52 rfl rfl ?_
    refine px_sipush (v := 240) d_X12_isLimited_53 (by decide) ?_
    refine px_idiv d_X12_isLimited_56 (by decide) ?_
    exact tB_X12_isLimited (by first | exact (if_pos c45).symm | exact (if_neg c45).symm) hL hnw hX hkd hop ha hs1 hn4 hg
  · refine px_iconst (v := 0) d_X12_isLimited_48 (by decide) ?_
    refine px_goto (tgt := 57) d_X12_isLimited_49 (by decide) ?_
    exact tB_X12_isLimited (by first | exact (if_pos c45).symm | exact (if_neg c45).symm) hL hnw hX hkd hop ha hs1 hn4 hg
theorem x_X12_isLimited {h : PH} {a t : Nat} {s : Int32} (hnw : hI h 36 26 = nI t) (hL : px_L h) {n : Nat} {nl : Nat → Nat} {W : Nat → Nat → (Nat → Int32) → Int32} (hX : RX h n nl W) {kd op : Int32} (hkd : hI h 55 a = kd) (hop : hI h 57 a = op) (ha : a < 20) {ne : Nat} (hs1 : hI h 36 32 = nI ne) (hn4 : ne ≤ 400) {E : Int32 → Int32} (hE : ∀ d, eTo (hI h 59) (hI h 60) (hI h 61) (hI h 62) (nI a) d (nI t) ne = E d) {R : Nat → Int32 → Int32} (hR : ∀ m w, m < 24 → rfM h nl W n (fctD kd op w (nI (30 * m + 29))) 0 (nI (30 * m + 29)) (nI t) = R m w) : PX M_X12_isLimited [.ref 36, .int (nI a), .int s] h 0 0 (sQ SI h (ltB (lmM h nl W n kd op (prM E R t) t) (drN (hI h 59) (hI h 60) (hI h 61) (nI a) (nI t) ne) s)) := by
  refine PX.of (by decide +kernel) (by decide +kernel) (Nat.le_of_ble_eq_true rfl) ?_
  refine px_aload_n d_X12_isLimited_0 rfl rfl ?_
  refine px_getI d_X12_isLimited_1 fl_X12_218 rfl (so36 hL) ?_
  refine px_val (y := nI t) hnw ?_
  refine px_if_ne (tgt := 11) d_X12_isLimited_4 (by decide) (fun c4 => ?_) (fun c4 => ?_)
  · refine px_aload_n d_X12_isLimited_11 rfl rfl ?_
    refine px_iload_n d_X12_isLimited_12 rfl rfl ?_
    refine px_aload_n d_X12_isLimited_13 rfl rfl ?_
    refine px_getI d_X12_isLimited_14 fl_X12_218 rfl (so36 hL) ?_
    refine px_val (y := nI t) hnw ?_
    refine px_iconst (v := 1) d_X12_isLimited_17 (by decide) ?_
    refine px_isub d_X12_isLimited_18 ?_
    refine px_aload_n d_X12_isLimited_19 rfl rfl ?_
    refine px_getI d_X12_isLimited_20 fl_X12_218 rfl (so36 hL) ?_
    refine px_val (y := nI t) hnw ?_
    refine px_callVX (x_X12_balanceAt hL hX hkd hop ha hs1 hn4 hE hR) d_X12_isLimited_23 lk_X12_282 ok_X12_balanceAt ov_X12_balanceAt (so36 hL) (by decide) rfl rfl (Nat.le_of_ble_eq_true rfl) (by decide) ⟨Nat.le_refl (hn h), Nat.le_refl (hs h)⟩ (fun r9 h9 q9 n9 s9 => ?_)
    obtain ⟨rfl, hs9⟩ := q9
    refine px_val (y := prM E R t) (by first | exact (if_pos c4).symm | exact (if_neg c4).symm) ?_
    refine px_istore_n d_X12_isLimited_26 rfl (by decide) ?_
    first
      | exact tA_X12_isLimited hL hnw hX hkd hop ha hs1 hn4 hs9
      | exact tA_X12_isLimited hL hnw hX hkd hop ha hs1 hn4 px_same.rf
  · refine px_iconst (v := 0) d_X12_isLimited_7 (by decide) ?_
    refine px_goto (tgt := 26) d_X12_isLimited_8 (by decide) ?_
    refine px_val (y := prM E R t) (by first | exact (if_pos c4).symm | exact (if_neg c4).symm) ?_
    refine px_istore_n d_X12_isLimited_26 rfl (by decide) ?_
    first
      | exact tA_X12_isLimited hL hnw hX hkd hop ha hs1 hn4 hs9
      | exact tA_X12_isLimited hL hnw hX hkd hop ha hs1 hn4 px_same.rf
theorem mnt_same {S : Nat → Bool} {h g : PH} (a : px_same S h g) (s0 : S 36 = false) (s1 : S 65 = false) (s2 : S 66 = false) (s3 : S 67 = false) (s4 : S 68 = false) {x y z : Int32} (k i : Nat) : fst1 (mnt g x y z) (mntD g x y z) i k = fst1 (mnt h x y z) (mntD h x y z) i k := fst1_cg (fun j => by unfold mnt; rw [a.2 65 s1, a.2 66 s2, a.2 67 s3, a.2 68 s4, a.2 36 s0]) k i
def whyM (s bl sg kd eld lt : Int32) : Int32 := if s < 1 ∨ 100000 < s then 1 else if s ≤ bl then (if sg = 0 then 3 else if kd = 3 ∧ eld < 0 then 4 else if lt = 0 then 0 else 5) else 2
theorem whyM_1 {s bl sg kd eld lt : Int32} (c : s < 1 ∨ 100000 < s) : whyM s bl sg kd eld lt = 1 := if_pos c
theorem whyM_2 {s bl sg kd eld lt : Int32} (c : ¬ (s < 1 ∨ 100000 < s)) (d : ¬ s ≤ bl) : whyM s bl sg kd eld lt = 2 := (if_neg c).trans (if_neg d)
theorem whyM_3 {s bl sg kd eld lt : Int32} (c : ¬ (s < 1 ∨ 100000 < s)) (d : s ≤ bl) (e : sg = 0) : whyM s bl sg kd eld lt = 3 := (if_neg c).trans ((if_pos d).trans (if_pos e))
theorem whyM_4 {s bl sg kd eld lt : Int32} (c : ¬ (s < 1 ∨ 100000 < s)) (d : s ≤ bl) (e : ¬ sg = 0) (g : kd = 3 ∧ eld < 0) : whyM s bl sg kd eld lt = 4 := (if_neg c).trans ((if_pos d).trans ((if_neg e).trans (if_pos g)))
theorem whyM_0 {s bl sg kd eld lt : Int32} (c : ¬ (s < 1 ∨ 100000 < s)) (d : s ≤ bl) (e : ¬ sg = 0) (g : ¬ (kd = 3 ∧ eld < 0)) (k : lt = 0) : whyM s bl sg kd eld lt = 0 := (if_neg c).trans ((if_pos d).trans ((if_neg e).trans ((if_neg g).trans (if_pos k))))
theorem whyM_5 {s bl sg kd eld lt : Int32} (c : ¬ (s < 1 ∨ 100000 < s)) (d : s ≤ bl) (e : ¬ sg = 0) (g : ¬ (kd = 3 ∧ eld < 0)) (k : ¬ lt = 0) : whyM s bl sg kd eld lt = 5 := (if_neg c).trans ((if_pos d).trans ((if_neg e).trans ((if_neg g).trans (if_neg k))))
theorem tA_X12_why {h g : PH} {a t : Nat} {s sg : Int32} (hnw : hI h 36 26 = nI t) (hL : px_L h) {n : Nat} {nl : Nat → Nat} {W : Nat → Nat → (Nat → Int32) → Int32} (hX : RX h n nl W) {kd op : Int32} (hkd : hI h 55 a = kd) (hop : hI h 57 a = op) (ha : a < 20) {ne : Nat} (hs1 : hI h 36 32 = nI ne) (hn4 : ne ≤ 400) {E : Int32 → Int32} (hE : ∀ d, eTo (hI h 59) (hI h 60) (hI h 61) (hI h 62) (nI a) d (nI t) ne = E d) {R : Nat → Int32 → Int32} (hR : ∀ m w, m < 24 → rfM h nl W n (fctD kd op w (nI (30 * m + 29))) 0 (nI (30 * m + 29)) (nI t) = R m w) {wi : Int32} (hwi : hI h 56 a = wi) {nn : Nat} (hnn : hI h 36 39 = nI nn) (hnn6 : nn ≤ 60) (hg : px_same SI h g) (c1 : ¬ (s < 1 ∨ 100000 < s)) (c2 : s ≤ balM E R (nI t)) (c3 : ¬ (@bI (sgnM kd wi (nI t) sg) (sgnMD _ _ _ _)) = 0) (c4 : ¬ (kd = 3 ∧ (fst1 (mnt h (nI a) s wi) (mntD h (nI a) s wi) 0 nn) < 0)) : PW M_X12_why (hn h) (hs h) (PXpost h 0 0 (sQ SI h (whyM s (balM E R (nI t)) (@bI (sgnM kd wi (nI t) sg) (sgnMD _ _ _ _)) kd (fst1 (mnt h (nI a) s wi) (mntD h (nI a) s wi) 0 nn) (ltB (lmM h nl W n kd op (prM E R t) t) (drN (hI h 59) (hI h 60) (hI h 61) (nI a) (nI t) ne) s)))) 73 [(0, .ref 36), (1, .int (nI a)), (2, .int s), (3, .int sg)] [] g := by
  have hLg := hL.same hg
  have eN : hn g = hn h := hg.1.2.2.2.1
  have eS : hs g = hs h := hg.1.2.2.2.2
  have cL := x_X12_isLimited (h := g) (s := s) (t := t) (ne := ne) ((congrFun (hg.2 36 (by decide)) _).trans hnw) hLg (hX.same hg (by decide) (by decide) (by decide) (by decide) (by decide)) ((congrFun (hg.2 55 (by decide)) _).trans hkd) ((congrFun (hg.2 57 (by decide)) _).trans hop) ha ((congrFun (hg.2 36 (by decide)) _).trans hs1) hn4 (E := E) (fun d => by rw [hg.2 59 (by decide), hg.2 60 (by decide), hg.2 61 (by decide), hg.2 62 (by decide)]; exact hE d) (R := R) (fun m w hm => by rw [← hR m w hm]; unfold rfM; rw [hg.2 42 (by decide), hg.2 43 (by decide), fOf_same nl W _ _ hg (by decide) (by decide)])
  rw [show ltB (lmM g nl W n kd op (prM E R t) t) (drN (hI g 59) (hI g 60) (hI g 61) (nI a) (nI t) ne) s = (ltB (lmM h nl W n kd op (prM E R t) t) (drN (hI h 59) (hI h 60) (hI h 61) (nI a) (nI t) ne) s) from by unfold lmM rfM; rw [hg.2 59 (by decide), hg.2 60 (by decide), hg.2 61 (by decide), hg.2 42 (by decide), hg.2 43 (by decide), fOf_same nl W _ _ hg (by decide) (by decide)]] at cL
  refine px_aload_n d_X12_why_73 rfl rfl ?_
  refine px_iload_n d_X12_why_74 rfl rfl ?_
  refine px_iload_n d_X12_why_75 rfl rfl ?_
  refine px_callVX (cL) d_X12_why_76 lk_X12_299 ok_X12_isLimited ov_X12_isLimited (so36 hLg) (by decide) rfl rfl (Nat.le_of_ble_eq_true rfl) (by decide) ⟨Nat.le_of_eq eN, Nat.le_of_eq eS⟩ (fun r9 h9 q9 n9 s9 => ?_)
  obtain ⟨rfl, hq9⟩ := q9
  have hs9 := hg.tr hq9
  refine px_if_eq (tgt := 86) d_X12_why_79 (by decide) (fun c79 => ?_) (fun c79 => ?_)
  · refine px_iconst (v := 0) d_X12_why_86 (by decide) ?_
    exact px_ireturn d_X12_why_87 rfl rfl ⟨rfl, ⟨px_si (by first | exact (whyM_0 c1 c2 c3 c4 c79).symm | exact (whyM_5 c1 c2 c3 c4 c79).symm), hs9⟩, hs9.1.2.2.2.1, hs9.1.2.2.2.2⟩
  · refine px_iconst (v := 5) d_X12_why_82 (by decide) ?_
    refine px_goto (tgt := 87) d_X12_why_83 (by decide) ?_
    exact px_ireturn d_X12_why_87 rfl rfl ⟨rfl, ⟨px_si (by first | exact (whyM_0 c1 c2 c3 c4 c79).symm | exact (whyM_5 c1 c2 c3 c4 c79).symm), hs9⟩, hs9.1.2.2.2.1, hs9.1.2.2.2.2⟩
theorem x_X12_why {h : PH} {a t : Nat} {s sg : Int32} (hnw : hI h 36 26 = nI t) (hL : px_L h) {n : Nat} {nl : Nat → Nat} {W : Nat → Nat → (Nat → Int32) → Int32} (hX : RX h n nl W) {kd op : Int32} (hkd : hI h 55 a = kd) (hop : hI h 57 a = op) (ha : a < 20) {ne : Nat} (hs1 : hI h 36 32 = nI ne) (hn4 : ne ≤ 400) {E : Int32 → Int32} (hE : ∀ d, eTo (hI h 59) (hI h 60) (hI h 61) (hI h 62) (nI a) d (nI t) ne = E d) {R : Nat → Int32 → Int32} (hR : ∀ m w, m < 24 → rfM h nl W n (fctD kd op w (nI (30 * m + 29))) 0 (nI (30 * m + 29)) (nI t) = R m w) {wi : Int32} (hwi : hI h 56 a = wi) {nn : Nat} (hnn : hI h 36 39 = nI nn) (hnn6 : nn ≤ 60) (hva : ¬ nI a < 0 ∧ ¬ hI h 36 27 ≤ nI a) : PX M_X12_why [.ref 36, .int (nI a), .int s, .int sg] h 0 0 (sQ SI h (whyM s (balM E R (nI t)) (@bI (sgnM kd wi (nI t) sg) (sgnMD _ _ _ _)) kd (fst1 (mnt h (nI a) s wi) (mntD h (nI a) s wi) 0 nn) (ltB (lmM h nl W n kd op (prM E R t) t) (drN (hI h 59) (hI h 60) (hI h 61) (nI a) (nI t) ne) s))) := by
  refine PX.of (by decide +kernel) (by decide +kernel) (Nat.le_of_ble_eq_true rfl) ?_
  refine px_aload_n d_X12_why_0 rfl rfl ?_
  refine px_iload_n d_X12_why_1 rfl rfl ?_
  refine px_callV (c_X12_isAccount hL) d_X12_why_2 lk_X12_262 ok_X12_isAccount ov_X12_isAccount (so36 hL) (by decide) rfl rfl (Nat.le_of_ble_eq_true rfl) (by decide) ⟨Nat.le_refl (hn h), Nat.le_refl (hs h)⟩ ?_
  refine px_if_eq (tgt := 20) d_X12_why_5 (by decide) (fun c5 => absurd c5 (bI_n.mpr hva)) (fun c5 => ?_)
  refine px_iload_n d_X12_why_8 rfl rfl ?_
  refine px_iconst (v := 1) d_X12_why_9 (by decide) ?_
  refine px_icmp_lt (tgt := 20) d_X12_why_10 (by decide) (fun c10 => ?_) (fun c10 => ?_)
  · refine px_iconst (v := 1) d_X12_why_20 (by decide) ?_
    exact px_ireturn d_X12_why_21 rfl rfl ⟨rfl, ⟨px_si (whyM_1 (by first | exact Or.inl c10 | exact Or.inr (Int32.not_le.mp c17))).symm, px_same.rf⟩, rfl, rfl⟩
  · refine px_iload_n d_X12_why_13 rfl rfl ?_
    refine px_ldcw d_X12_why_14 ck_X12_266 ?_
    refine px_icmp_le (tgt := 22) d_X12_why_17 (by decide) (fun c17 => ?_) (fun c17 => ?_)
    · refine px_aload_n d_X12_why_22 rfl rfl ?_
      refine px_iload_n d_X12_why_23 rfl rfl ?_
      refine px_aload_n d_X12_why_24 rfl rfl ?_
      refine px_getI d_X12_why_25 fl_X12_218 rfl (so36 hL) ?_
      refine px_val (y := nI t) hnw ?_
      refine px_aload_n d_X12_why_28 rfl rfl ?_
      refine px_getI d_X12_why_29 fl_X12_218 rfl (so36 hL) ?_
      refine px_val (y := nI t) hnw ?_
      refine px_callVX (x_X12_balanceAt hL hX hkd hop ha hs1 hn4 hE hR) d_X12_why_32 lk_X12_282 ok_X12_balanceAt ov_X12_balanceAt (so36 hL) (by decide) rfl rfl (Nat.le_of_ble_eq_true rfl) (by decide) ⟨Nat.le_refl (hn h), Nat.le_refl (hs h)⟩ (fun r9 h9 q9 n9 s9 => ?_)
      obtain ⟨rfl, hg⟩ := q9
      have hLg := hL.same hg
      have eN : hn h9 = hn h := hg.1.2.2.2.1
      have eS : hs h9 = hs h := hg.1.2.2.2.2
      have d1 : ¬ (s < 1 ∨ 100000 < s) := fun q => q.elim c10 (fun w => absurd c17 (Int32.not_le.mpr w))
      have cS := c_X12_isSigned (h := h9) (a := a) (s := sg) hLg ha
      rw [hg.2 55 (by decide), hg.2 56 (by decide), (congrFun (hg.2 36 (by decide)) _).trans hnw, hkd, hwi] at cS
      have cN := c_X12_noticeFor (h := h9) (a := a) (s := s) hLg ((congrFun (hg.2 36 (by decide)) _).trans hnn) hnn6 ha
      rw [mnt_same hg (by decide) (by decide) (by decide) (by decide) (by decide), hg.2 56 (by decide), hwi] at cN
      refine px_iload_n d_X12_why_35 rfl rfl ?_
      refine px_icmp_ge (tgt := 41) d_X12_why_36 (by decide) (fun c36 => ?_) (fun c36 => ?_)
      · refine px_aload_n d_X12_why_41 rfl rfl ?_
        refine px_iload_n d_X12_why_42 rfl rfl ?_
        refine px_iload_n d_X12_why_43 rfl rfl ?_
        refine px_callV (cS) d_X12_why_44 lk_X12_291 ok_X12_isSigned ov_X12_isSigned (so36 hLg) (by decide) rfl rfl (Nat.le_of_ble_eq_true rfl) (by decide) ⟨Nat.le_of_eq eN, Nat.le_of_eq eS⟩ ?_
        refine px_if_ne (tgt := 52) d_X12_why_47 (by decide) (fun c47 => ?_) (fun c47 => ?_)
        · refine px_aload_n d_X12_why_52 rfl rfl ?_
          refine px_getR d_X12_why_53 fl_X12_84 (by decide) (so36 hLg) (sr36_28 hLg) ?_
          refine px_iload_n d_X12_why_56 rfl rfl ?_
          refine px_iald d_X12_why_57 (sa55 hLg) rfl ha ?_
          refine px_val (y := kd) ((congrFun (hg.2 55 (by decide)) _).trans hkd) ?_
          refine px_iconst (v := 3) d_X12_why_58 (by decide) ?_
          refine px_icmp_ne (tgt := 73) d_X12_why_59 (by decide) (fun c59 => ?_) (fun c59 => ?_)
          · exact tA_X12_why hnw hL hX hkd hop ha hs1 hn4 hE hR hwi hnn hnn6 hg d1 c36 c47 (fun q => by first | exact c59 q.1 | exact absurd q.2 (Int32.not_lt.mpr c68))
          · refine px_aload_n d_X12_why_62 rfl rfl ?_
            refine px_iload_n d_X12_why_63 rfl rfl ?_
            refine px_iload_n d_X12_why_64 rfl rfl ?_
            refine px_callV (cN) d_X12_why_65 lk_X12_295 ok_X12_noticeFor ov_X12_noticeFor (so36 hLg) (by decide) rfl rfl (Nat.le_of_ble_eq_true rfl) (by decide) ⟨Nat.le_of_eq eN, Nat.le_of_eq eS⟩ ?_
            refine px_if_ge (tgt := 73) d_X12_why_68 (by decide) (fun c68 => ?_) (fun c68 => ?_)
            · exact tA_X12_why hnw hL hX hkd hop ha hs1 hn4 hE hR hwi hnn hnn6 hg d1 c36 c47 (fun q => by first | exact c59 q.1 | exact absurd q.2 (Int32.not_lt.mpr c68))
            · refine px_iconst (v := 4) d_X12_why_71 (by decide) ?_
              exact px_ireturn d_X12_why_72 rfl rfl ⟨rfl, ⟨px_si (whyM_4 d1 c36 c47 ⟨by first | exact c59 | exact Classical.not_not.mp c59, Int32.not_le.mp c68⟩).symm, hg⟩, eN, eS⟩
        · refine px_iconst (v := 3) d_X12_why_50 (by decide) ?_
          exact px_ireturn d_X12_why_51 rfl rfl ⟨rfl, ⟨px_si (whyM_3 d1 c36 c47).symm, hg⟩, eN, eS⟩
      · refine px_iconst (v := 2) d_X12_why_39 (by decide) ?_
        exact px_ireturn d_X12_why_40 rfl rfl ⟨rfl, ⟨px_si (whyM_2 d1 c36).symm, hg⟩, eN, eS⟩
    · refine px_iconst (v := 1) d_X12_why_20 (by decide) ?_
      exact px_ireturn d_X12_why_21 rfl rfl ⟨rfl, ⟨px_si (whyM_1 (by first | exact Or.inl c10 | exact Or.inr (Int32.not_le.mp c17))).symm, px_same.rf⟩, rfl, rfl⟩
theorem n_X12_why {h : PH} {a s sg : Int32} (hL : px_L h) (hv : ¬ (¬ a < 0 ∧ ¬ hI h 36 27 ≤ a)) : PM M_X12_why [.ref 36, .int a, .int s, .int sg] h (some (.int 1)) h := by
  refine PM.of (by decide +kernel) (by decide +kernel) (Nat.le_refl _) (Nat.le_refl _) (Nat.le_of_ble_eq_true rfl) ?_
  refine px_aload_n d_X12_why_0 rfl rfl ?_
  refine px_iload_n d_X12_why_1 rfl rfl ?_
  refine px_callV (c_X12_isAccount hL) d_X12_why_2 lk_X12_262 ok_X12_isAccount ov_X12_isAccount (so36 hL) (by decide) rfl rfl (Nat.le_of_ble_eq_true rfl) (by decide) ⟨Nat.le_refl _, Nat.le_refl _⟩ ?_
  refine px_if_eq (tgt := 20) d_X12_why_5 (by decide) (fun c5 => ?_) (fun c5 => absurd (bI_n.mp c5) hv)
  refine px_iconst (v := 1) d_X12_why_20 (by decide) ?_
  exact px_ireturn d_X12_why_21 rfl rfl ⟨rfl, rfl, rfl⟩
theorem x_X12_may {h : PH} {a t : Nat} {s sg : Int32} (hnw : hI h 36 26 = nI t) (hL : px_L h) {n : Nat} {nl : Nat → Nat} {W : Nat → Nat → (Nat → Int32) → Int32} (hX : RX h n nl W) {kd op : Int32} (hkd : hI h 55 a = kd) (hop : hI h 57 a = op) (ha : a < 20) {ne : Nat} (hs1 : hI h 36 32 = nI ne) (hn4 : ne ≤ 400) {E : Int32 → Int32} (hE : ∀ d, eTo (hI h 59) (hI h 60) (hI h 61) (hI h 62) (nI a) d (nI t) ne = E d) {R : Nat → Int32 → Int32} (hR : ∀ m w, m < 24 → rfM h nl W n (fctD kd op w (nI (30 * m + 29))) 0 (nI (30 * m + 29)) (nI t) = R m w) {wi : Int32} (hwi : hI h 56 a = wi) {nn : Nat} (hnn : hI h 36 39 = nI nn) (hnn6 : nn ≤ 60) (hva : ¬ nI a < 0 ∧ ¬ hI h 36 27 ≤ nI a) : PX M_X12_may [.ref 36, .int (nI a), .int s, .int sg] h 0 0 (sQ SI (th0 h) (whyM s (balM E R (nI t)) (@bI (sgnM kd wi (nI t) sg) (sgnMD _ _ _ _)) kd (fst1 (mnt h (nI a) s wi) (mntD h (nI a) s wi) 0 nn) (ltB (lmM h nl W n kd op (prM E R t) t) (drN (hI h 59) (hI h 60) (hI h 61) (nI a) (nI t) ne) s))) := by
  refine PX.of (by decide +kernel) (by decide +kernel) (Nat.le_of_ble_eq_true rfl) ?_
  refine px_aload_n d_X12_may_0 rfl rfl ?_
  refine px_iconst (v := 0) d_X12_may_1 (by decide) ?_
  refine px_putI d_X12_may_2 fl_X12_150 rfl (so36 hL) ?_
  refine px_aload_n d_X12_may_5 rfl rfl ?_
  refine px_iload_n d_X12_may_6 rfl rfl ?_
  refine px_iload_n d_X12_may_7 rfl rfl ?_
  refine px_iload_n d_X12_may_8 rfl rfl ?_
  refine px_callVX (x_X12_why (h := th0 h) (t := t) hnw hL hX hkd hop ha hs1 hn4 hE hR hwi hnn hnn6 hva) d_X12_may_9 lk_X12_302 ok_X12_why ov_X12_why (so36 hL) (by decide) rfl rfl (Nat.le_of_ble_eq_true rfl) (by decide) ⟨Nat.le_refl (hn h), Nat.le_refl (hs h)⟩ (fun r9 h9 q9 n9 s9 => ?_)
  obtain ⟨rfl, hs9⟩ := q9
  exact px_ireturn d_X12_may_12 rfl rfl ⟨rfl, ⟨rfl, hs9⟩, n9, s9⟩
theorem n_X12_may {h : PH} {a s sg : Int32} (hL : px_L h) (hv : ¬ (¬ a < 0 ∧ ¬ hI h 36 27 ≤ a)) : PM M_X12_may [.ref 36, .int a, .int s, .int sg] h (some (.int 1)) (th0 h) := by
  refine PM.of (by decide +kernel) (by decide +kernel) (Nat.le_refl _) (Nat.le_refl _) (Nat.le_of_ble_eq_true rfl) ?_
  refine px_aload_n d_X12_may_0 rfl rfl ?_
  refine px_iconst (v := 0) d_X12_may_1 (by decide) ?_
  refine px_putI d_X12_may_2 fl_X12_150 rfl (so36 hL) ?_
  refine px_aload_n d_X12_may_5 rfl rfl ?_
  refine px_iload_n d_X12_may_6 rfl rfl ?_
  refine px_iload_n d_X12_may_7 rfl rfl ?_
  refine px_iload_n d_X12_may_8 rfl rfl ?_
  refine px_callV (n_X12_why (h := th0 h) hL hv) d_X12_may_9 lk_X12_302 ok_X12_why ov_X12_why (so36 hL) (by decide) rfl rfl (Nat.le_of_ble_eq_true rfl) (by decide) ⟨Nat.le_refl _, Nat.le_refl _⟩ ?_
  exact px_ireturn d_X12_may_12 rfl rfl ⟨rfl, rfl, rfl⟩
theorem n_X12_draw {h : PH} {a b s sg : Int32} (hL : px_L h) (hv : ¬ (¬ a < 0 ∧ ¬ hI h 36 27 ≤ a)) : PM M_X12_draw [.ref 36, .int a, .int b, .int s, .int sg] h (some (.int 1)) (th0 h) := by
  refine PM.of (by decide +kernel) (by decide +kernel) (Nat.le_refl _) (Nat.le_refl _) (Nat.le_of_ble_eq_true rfl) ?_
  refine px_aload_n d_X12_draw_0 rfl rfl ?_
  refine px_iconst (v := 0) d_X12_draw_1 (by decide) ?_
  refine px_putI d_X12_draw_2 fl_X12_150 rfl (so36 hL) ?_
  refine px_aload_n d_X12_draw_5 rfl rfl ?_
  refine px_iload_n d_X12_draw_6 rfl rfl ?_
  refine px_iload_n d_X12_draw_7 rfl rfl ?_
  refine px_iload d_X12_draw_8 rfl ?_
  refine px_callV (n_X12_why (h := th0 h) hL hv) d_X12_draw_10 lk_X12_302 ok_X12_why ov_X12_why (so36 hL) (by decide) rfl rfl (Nat.le_of_ble_eq_true rfl) (by decide) ⟨Nat.le_refl _, Nat.le_refl _⟩ ?_
  refine px_istore d_X12_draw_13 (by decide) ?_
  refine px_iload d_X12_draw_15 rfl ?_
  refine px_if_le (tgt := 23) d_X12_draw_17 (by decide) (fun c17 => absurd c17 (by decide)) (fun c17 => ?_)
  refine px_iload d_X12_draw_20 rfl ?_
  exact px_ireturn d_X12_draw_22 rfl rfl ⟨rfl, rfl, rfl⟩
theorem le0_of {x : Int32} (h : x = 0) : x ≤ 0 := by rw [h]; decide
theorem whyM_v (s bl sg kd eld lt : Int32) : whyM s bl sg kd eld lt = 0 ∨ 0 < whyM s bl sg kd eld lt := by
  unfold whyM
  repeat' split
  all_goals first | exact Or.inl rfl | exact Or.inr (by decide)
theorem x_X12_draw {h : PH} {a t : Nat} {s sg b : Int32} (hnw : hI h 36 26 = nI t) (hL : px_L h) {n : Nat} {nl : Nat → Nat} {W : Nat → Nat → (Nat → Int32) → Int32} (hX : RX h n nl W) {kd op : Int32} (hkd : hI h 55 a = kd) (hop : hI h 57 a = op) (ha : a < 20) {ne : Nat} (hs1 : hI h 36 32 = nI ne) (hn4 : ne ≤ 400) {E : Int32 → Int32} (hE : ∀ d, eTo (hI h 59) (hI h 60) (hI h 61) (hI h 62) (nI a) d (nI t) ne = E d) {R : Nat → Int32 → Int32} (hR : ∀ m w, m < 24 → rfM h nl W n (fctD kd op w (nI (30 * m + 29))) 0 (nI (30 * m + 29)) (nI t) = R m w) {wi : Int32} (hwi : hI h 56 a = wi) {nn : Nat} (hnn : hI h 36 39 = nI nn) (hnn6 : nn ≤ 60) (hva : ¬ nI a < 0 ∧ ¬ hI h 36 27 ≤ nI a) (hw : ¬ (whyM s (balM E R (nI t)) (@bI (sgnM kd wi (nI t) sg) (sgnMD _ _ _ _)) kd (fst1 (mnt h (nI a) s wi) (mntD h (nI a) s wi) 0 nn) (ltB (lmM h nl W n kd op (prM E R t) t) (drN (hI h 59) (hI h 60) (hI h 61) (nI a) (nI t) ne) s)) = 0) : PX M_X12_draw [.ref 36, .int (nI a), .int b, .int s, .int sg] h 0 0 (sQ SI (th0 h) (whyM s (balM E R (nI t)) (@bI (sgnM kd wi (nI t) sg) (sgnMD _ _ _ _)) kd (fst1 (mnt h (nI a) s wi) (mntD h (nI a) s wi) 0 nn) (ltB (lmM h nl W n kd op (prM E R t) t) (drN (hI h 59) (hI h 60) (hI h 61) (nI a) (nI t) ne) s))) := by
  refine PX.of (by decide +kernel) (by decide +kernel) (Nat.le_of_ble_eq_true rfl) ?_
  refine px_aload_n d_X12_draw_0 rfl rfl ?_
  refine px_iconst (v := 0) d_X12_draw_1 (by decide) ?_
  refine px_putI d_X12_draw_2 fl_X12_150 rfl (so36 hL) ?_
  refine px_aload_n d_X12_draw_5 rfl rfl ?_
  refine px_iload_n d_X12_draw_6 rfl rfl ?_
  refine px_iload_n d_X12_draw_7 rfl rfl ?_
  refine px_iload d_X12_draw_8 rfl ?_
  refine px_callVX (x_X12_why (h := th0 h) (t := t) hnw hL hX hkd hop ha hs1 hn4 hE hR hwi hnn hnn6 hva) d_X12_draw_10 lk_X12_302 ok_X12_why ov_X12_why (so36 hL) (by decide) rfl rfl (Nat.le_of_ble_eq_true rfl) (by decide) ⟨Nat.le_refl (hn h), Nat.le_refl (hs h)⟩ (fun r9 h9 q9 n9 s9 => ?_)
  obtain ⟨rfl, hs9⟩ := q9
  have hL9 : px_L h9 := px_L.same (h := th0 h) hL hs9
  have eN : hn h9 ≤ hn h := Nat.le_of_eq n9
  have eS : hs h9 ≤ hs h := Nat.le_of_eq s9
  refine px_istore d_X12_draw_13 (by decide) ?_
  refine px_iload d_X12_draw_15 rfl ?_
  refine px_if_le (tgt := 23) d_X12_draw_17 (by decide) (fun c17 => absurd ((whyM_v _ _ _ _ _ _).resolve_left hw) (Int32.not_lt.mpr c17)) (fun c17 => ?_)
  refine px_iload d_X12_draw_20 rfl ?_
  exact px_ireturn d_X12_draw_22 rfl rfl ⟨rfl, ⟨rfl, hs9⟩, n9, s9⟩
theorem y_X12_draw {h : PH} {a t : Nat} {s sg b : Int32} (hnw : hI h 36 26 = nI t) (hL : px_L h) {n : Nat} {nl : Nat → Nat} {W : Nat → Nat → (Nat → Int32) → Int32} (hX : RX h n nl W) {kd op : Int32} (hkd : hI h 55 a = kd) (hop : hI h 57 a = op) (ha : a < 20) {ne : Nat} (hs1 : hI h 36 32 = nI ne) (hn4 : ne ≤ 400) {E : Int32 → Int32} (hE : ∀ d, eTo (hI h 59) (hI h 60) (hI h 61) (hI h 62) (nI a) d (nI t) ne = E d) {R : Nat → Int32 → Int32} (hR : ∀ m w, m < 24 → rfM h nl W n (fctD kd op w (nI (30 * m + 29))) 0 (nI (30 * m + 29)) (nI t) = R m w) {wi : Int32} (hwi : hI h 56 a = wi) {nn : Nat} (hnn : hI h 36 39 = nI nn) (hnn6 : nn ≤ 60) (hva : ¬ nI a < 0 ∧ ¬ hI h 36 27 ≤ nI a) (hw : (whyM s (balM E R (nI t)) (@bI (sgnM kd wi (nI t) sg) (sgnMD _ _ _ _)) kd (fst1 (mnt h (nI a) s wi) (mntD h (nI a) s wi) 0 nn) (ltB (lmM h nl W n kd op (prM E R t) t) (drN (hI h 59) (hI h 60) (hI h 61) (nI a) (nI t) ne) s)) = 0) (hv : ¬ (¬ b < 0 ∧ ¬ 3 < b ∧ ¬ hI h 36 32 = 400)) : PX M_X12_draw [.ref 36, .int (nI a), .int b, .int s, .int sg] h 0 0 (sQ SI (th0 h) 6) := by
  refine PX.of (by decide +kernel) (by decide +kernel) (Nat.le_of_ble_eq_true rfl) ?_
  refine px_aload_n d_X12_draw_0 rfl rfl ?_
  refine px_iconst (v := 0) d_X12_draw_1 (by decide) ?_
  refine px_putI d_X12_draw_2 fl_X12_150 rfl (so36 hL) ?_
  refine px_aload_n d_X12_draw_5 rfl rfl ?_
  refine px_iload_n d_X12_draw_6 rfl rfl ?_
  refine px_iload_n d_X12_draw_7 rfl rfl ?_
  refine px_iload d_X12_draw_8 rfl ?_
  refine px_callVX (x_X12_why (h := th0 h) (t := t) hnw hL hX hkd hop ha hs1 hn4 hE hR hwi hnn hnn6 hva) d_X12_draw_10 lk_X12_302 ok_X12_why ov_X12_why (so36 hL) (by decide) rfl rfl (Nat.le_of_ble_eq_true rfl) (by decide) ⟨Nat.le_refl (hn h), Nat.le_refl (hs h)⟩ (fun r9 h9 q9 n9 s9 => ?_)
  obtain ⟨rfl, hs9⟩ := q9
  have hL9 : px_L h9 := px_L.same (h := th0 h) hL hs9
  have eN : hn h9 ≤ hn h := Nat.le_of_eq n9
  have eS : hs h9 ≤ hs h := Nat.le_of_eq s9
  refine px_istore d_X12_draw_13 (by decide) ?_
  refine px_iload d_X12_draw_15 rfl ?_
  refine px_if_le (tgt := 23) d_X12_draw_17 (by decide) (fun c17 => ?_) (fun c17 => absurd (le0_of hw) c17)
  refine px_iload_n d_X12_draw_23 rfl rfl ?_
  refine px_if_lt (tgt := 42) d_X12_draw_24 (by decide) (fun c24 => ?_) (fun c24 => ?_)
  · refine px_bipush (v := 6) d_X12_draw_42 (by decide) ?_
    exact px_ireturn d_X12_draw_44 rfl rfl ⟨rfl, ⟨rfl, hs9⟩, n9, s9⟩
  · refine px_iload_n d_X12_draw_27 rfl rfl ?_
    refine px_iconst (v := 3) d_X12_draw_28 (by decide) ?_
    refine px_icmp_gt (tgt := 42) d_X12_draw_29 (by decide) (fun c29 => ?_) (fun c29 => ?_)
    · refine px_bipush (v := 6) d_X12_draw_42 (by decide) ?_
      exact px_ireturn d_X12_draw_44 rfl rfl ⟨rfl, ⟨rfl, hs9⟩, n9, s9⟩
    · refine px_aload_n d_X12_draw_32 rfl rfl ?_
      refine px_getI d_X12_draw_33 fl_X12_259 rfl (so36 hL9) ?_
      refine px_val (y := hI h 36 32) (congrFun (hs9.2 36 (by decide)) _) ?_
      refine px_sipush (v := 400) d_X12_draw_36 (by decide) ?_
      refine px_icmp_ne (tgt := 45) d_X12_draw_39 (by decide) (fun c39 => ?_) (fun c39 => ?_)
      · exact absurd ⟨c24, c29, c39⟩ hv
      · refine px_bipush (v := 6) d_X12_draw_42 (by decide) ?_
        exact px_ireturn d_X12_draw_44 rfl rfl ⟨rfl, ⟨rfl, hs9⟩, n9, s9⟩
def drmQ (h : PH) (ne a b t : Nat) (s : Int32) : Option Value → PH → Prop := fun r h' => r = some (.int 0) ∧ ∃ g, px_same SI (th0 h) g ∧ h' = moEnt g ne (nI a) b (nI t) (-s)
def drmQ3 (h : PH) (ne a b t : Nat) (s : Int32) (e0 : Nat) : Option Value → PH → Prop := fun r h' => r = some (.int 0) ∧ ∃ g, px_same SI (th0 h) g ∧ h' = moEnt (pI g 68 e0 1) ne (nI a) b (nI t) (-s)
theorem z_X12_draw {h : PH} {a t : Nat} {s sg : Int32} (hnw : hI h 36 26 = nI t) (hL : px_L h) {n : Nat} {nl : Nat → Nat} {W : Nat → Nat → (Nat → Int32) → Int32} (hX : RX h n nl W) {kd op : Int32} (hkd : hI h 55 a = kd) (hop : hI h 57 a = op) (ha : a < 20) {ne : Nat} (hs1 : hI h 36 32 = nI ne) (hn4 : ne ≤ 400) {E : Int32 → Int32} (hE : ∀ d, eTo (hI h 59) (hI h 60) (hI h 61) (hI h 62) (nI a) d (nI t) ne = E d) {R : Nat → Int32 → Int32} (hR : ∀ m w, m < 24 → rfM h nl W n (fctD kd op w (nI (30 * m + 29))) 0 (nI (30 * m + 29)) (nI t) = R m w) {wi : Int32} (hwi : hI h 56 a = wi) {nn : Nat} (hnn : hI h 36 39 = nI nn) (hnn6 : nn ≤ 60) (hva : ¬ nI a < 0 ∧ ¬ hI h 36 27 ≤ nI a) {b : Nat} (hb : b < 4) (hne : ne < 400) (hw : (whyM s (balM E R (nI t)) (@bI (sgnM kd wi (nI t) sg) (sgnMD _ _ _ _)) kd (fst1 (mnt h (nI a) s wi) (mntD h (nI a) s wi) 0 nn) (ltB (lmM h nl W n kd op (prM E R t) t) (drN (hI h 59) (hI h 60) (hI h 61) (nI a) (nI t) ne) s)) = 0) (hk : ¬ kd = 3) : PX M_X12_draw [.ref 36, .int (nI a), .int (nI b), .int s, .int sg] h 0 0 (drmQ h ne a b t s) := by
  refine PX.of (by decide +kernel) (by decide +kernel) (Nat.le_of_ble_eq_true rfl) ?_
  refine px_aload_n d_X12_draw_0 rfl rfl ?_
  refine px_iconst (v := 0) d_X12_draw_1 (by decide) ?_
  refine px_putI d_X12_draw_2 fl_X12_150 rfl (so36 hL) ?_
  refine px_aload_n d_X12_draw_5 rfl rfl ?_
  refine px_iload_n d_X12_draw_6 rfl rfl ?_
  refine px_iload_n d_X12_draw_7 rfl rfl ?_
  refine px_iload d_X12_draw_8 rfl ?_
  refine px_callVX (x_X12_why (h := th0 h) (t := t) hnw hL hX hkd hop ha hs1 hn4 hE hR hwi hnn hnn6 hva) d_X12_draw_10 lk_X12_302 ok_X12_why ov_X12_why (so36 hL) (by decide) rfl rfl (Nat.le_of_ble_eq_true rfl) (by decide) ⟨Nat.le_refl (hn h), Nat.le_refl (hs h)⟩ (fun r9 h9 q9 n9 s9 => ?_)
  obtain ⟨rfl, hs9⟩ := q9
  have hL9 : px_L h9 := px_L.same (h := th0 h) hL hs9
  have eN : hn h9 ≤ hn h := Nat.le_of_eq n9
  have eS : hs h9 ≤ hs h := Nat.le_of_eq s9
  refine px_istore d_X12_draw_13 (by decide) ?_
  refine px_iload d_X12_draw_15 rfl ?_
  refine px_if_le (tgt := 23) d_X12_draw_17 (by decide) (fun c17 => ?_) (fun c17 => absurd (le0_of hw) c17)
  refine px_iload_n d_X12_draw_23 rfl rfl ?_
  refine px_if_lt (tgt := 42) d_X12_draw_24 (by decide) (fun c24 => absurd c24 (nI_pos (by omega))) (fun c24 => ?_)
  refine px_iload_n d_X12_draw_27 rfl rfl ?_
  refine px_iconst (v := 3) d_X12_draw_28 (by decide) ?_
  refine px_icmp_gt (tgt := 42) d_X12_draw_29 (by decide) (fun c29 => absurd c29 (nI_nlt (a := 3) (b := b) (by omega) (by decide))) (fun c29 => ?_)
  refine px_aload_n d_X12_draw_32 rfl rfl ?_
  refine px_getI d_X12_draw_33 fl_X12_259 rfl (so36 hL9) ?_
  refine px_val (y := nI ne) ((congrFun (hs9.2 36 (by decide)) _).trans hs1) ?_
  refine px_sipush (v := 400) d_X12_draw_36 (by decide) ?_
  refine px_icmp_ne (tgt := 45) d_X12_draw_39 (by decide) (fun c39 => ?_) (fun c39 => absurd ((nI_eq (a := ne) (b := 400) (by omega) (by decide)).mp (by first | exact c39 | exact Classical.not_not.mp c39)) (by omega))
  refine px_aload_n d_X12_draw_45 rfl rfl ?_
  refine px_getR d_X12_draw_46 fl_X12_84 (by decide) (so36 hL9) (sr36_28 hL9) ?_
  refine px_iload_n d_X12_draw_49 rfl rfl ?_
  refine px_iald d_X12_draw_50 (sa55 hL9) rfl ha ?_
  refine px_val (y := kd) ((congrFun (hs9.2 55 (by decide)) _).trans hkd) ?_
  refine px_iconst (v := 3) d_X12_draw_51 (by decide) ?_
  refine px_icmp_ne (tgt := 67) d_X12_draw_52 (by decide) (fun c52 => ?_) (fun c52 => absurd c52 hk)
  refine px_aload_n d_X12_draw_67 rfl rfl ?_
  refine px_iload_n d_X12_draw_68 rfl rfl ?_
  refine px_iload_n d_X12_draw_69 rfl rfl ?_
  refine px_aload_n d_X12_draw_70 rfl rfl ?_
  refine px_getI d_X12_draw_71 fl_X12_218 rfl (so36 hL9) ?_
  refine px_val (y := nI t) ((congrFun (hs9.2 36 (by decide)) _).trans hnw) ?_
  refine px_iload_n d_X12_draw_74 rfl rfl ?_
  refine px_ineg d_X12_draw_75 ?_
  refine px_callV (c_X12_posts (h := h9) hL9 ((congrFun (hs9.2 36 (by decide)) _).trans hs1) hne hb) d_X12_draw_76 lk_X12_267 ok_X12_posts ov_X12_posts (so36 hL9) (by decide) rfl rfl (Nat.le_of_ble_eq_true rfl) (by decide) ⟨eN, eS⟩ ?_
  refine px_iconst (v := 0) d_X12_draw_79 (by decide) ?_
  exact px_ireturn d_X12_draw_80 rfl rfl ⟨rfl, ⟨rfl, h9, hs9, rfl⟩, n9, s9⟩
theorem v_X12_draw {h : PH} {a t : Nat} {s sg : Int32} (hnw : hI h 36 26 = nI t) (hL : px_L h) {n : Nat} {nl : Nat → Nat} {W : Nat → Nat → (Nat → Int32) → Int32} (hX : RX h n nl W) {kd op : Int32} (hkd : hI h 55 a = kd) (hop : hI h 57 a = op) (ha : a < 20) {ne : Nat} (hs1 : hI h 36 32 = nI ne) (hn4 : ne ≤ 400) {E : Int32 → Int32} (hE : ∀ d, eTo (hI h 59) (hI h 60) (hI h 61) (hI h 62) (nI a) d (nI t) ne = E d) {R : Nat → Int32 → Int32} (hR : ∀ m w, m < 24 → rfM h nl W n (fctD kd op w (nI (30 * m + 29))) 0 (nI (30 * m + 29)) (nI t) = R m w) {wi : Int32} (hwi : hI h 56 a = wi) {nn : Nat} (hnn : hI h 36 39 = nI nn) (hnn6 : nn ≤ 60) (hva : ¬ nI a < 0 ∧ ¬ hI h 36 27 ≤ nI a) {b : Nat} (hb : b < 4) (hne : ne < 400) (hw : (whyM s (balM E R (nI t)) (@bI (sgnM kd wi (nI t) sg) (sgnMD _ _ _ _)) kd (fst1 (mnt h (nI a) s wi) (mntD h (nI a) s wi) 0 nn) (ltB (lmM h nl W n kd op (prM E R t) t) (drN (hI h 59) (hI h 60) (hI h 61) (nI a) (nI t) ne) s)) = 0) (hk : kd = 3) {e0 : Nat} (he : (fst1 (mnt h (nI a) s wi) (mntD h (nI a) s wi) 0 nn) = nI e0) (he0 : e0 < nn) : PX M_X12_draw [.ref 36, .int (nI a), .int (nI b), .int s, .int sg] h 0 0 (drmQ3 h ne a b t s e0) := by
  refine PX.of (by decide +kernel) (by decide +kernel) (Nat.le_of_ble_eq_true rfl) ?_
  refine px_aload_n d_X12_draw_0 rfl rfl ?_
  refine px_iconst (v := 0) d_X12_draw_1 (by decide) ?_
  refine px_putI d_X12_draw_2 fl_X12_150 rfl (so36 hL) ?_
  refine px_aload_n d_X12_draw_5 rfl rfl ?_
  refine px_iload_n d_X12_draw_6 rfl rfl ?_
  refine px_iload_n d_X12_draw_7 rfl rfl ?_
  refine px_iload d_X12_draw_8 rfl ?_
  refine px_callVX (x_X12_why (h := th0 h) (t := t) hnw hL hX hkd hop ha hs1 hn4 hE hR hwi hnn hnn6 hva) d_X12_draw_10 lk_X12_302 ok_X12_why ov_X12_why (so36 hL) (by decide) rfl rfl (Nat.le_of_ble_eq_true rfl) (by decide) ⟨Nat.le_refl (hn h), Nat.le_refl (hs h)⟩ (fun r9 h9 q9 n9 s9 => ?_)
  obtain ⟨rfl, hs9⟩ := q9
  have hL9 : px_L h9 := px_L.same (h := th0 h) hL hs9
  have eN : hn h9 ≤ hn h := Nat.le_of_eq n9
  have eS : hs h9 ≤ hs h := Nat.le_of_eq s9
  refine px_istore d_X12_draw_13 (by decide) ?_
  refine px_iload d_X12_draw_15 rfl ?_
  refine px_if_le (tgt := 23) d_X12_draw_17 (by decide) (fun c17 => ?_) (fun c17 => absurd (le0_of hw) c17)
  refine px_iload_n d_X12_draw_23 rfl rfl ?_
  refine px_if_lt (tgt := 42) d_X12_draw_24 (by decide) (fun c24 => absurd c24 (nI_pos (by omega))) (fun c24 => ?_)
  refine px_iload_n d_X12_draw_27 rfl rfl ?_
  refine px_iconst (v := 3) d_X12_draw_28 (by decide) ?_
  refine px_icmp_gt (tgt := 42) d_X12_draw_29 (by decide) (fun c29 => absurd c29 (nI_nlt (a := 3) (b := b) (by omega) (by decide))) (fun c29 => ?_)
  refine px_aload_n d_X12_draw_32 rfl rfl ?_
  refine px_getI d_X12_draw_33 fl_X12_259 rfl (so36 hL9) ?_
  refine px_val (y := nI ne) ((congrFun (hs9.2 36 (by decide)) _).trans hs1) ?_
  refine px_sipush (v := 400) d_X12_draw_36 (by decide) ?_
  refine px_icmp_ne (tgt := 45) d_X12_draw_39 (by decide) (fun c39 => ?_) (fun c39 => absurd ((nI_eq (a := ne) (b := 400) (by omega) (by decide)).mp (by first | exact c39 | exact Classical.not_not.mp c39)) (by omega))
  refine px_aload_n d_X12_draw_45 rfl rfl ?_
  refine px_getR d_X12_draw_46 fl_X12_84 (by decide) (so36 hL9) (sr36_28 hL9) ?_
  refine px_iload_n d_X12_draw_49 rfl rfl ?_
  refine px_iald d_X12_draw_50 (sa55 hL9) rfl ha ?_
  refine px_val (y := kd) ((congrFun (hs9.2 55 (by decide)) _).trans hkd) ?_
  refine px_iconst (v := 3) d_X12_draw_51 (by decide) ?_
  refine px_icmp_ne (tgt := 67) d_X12_draw_52 (by decide) (fun c52 => absurd hk c52) (fun c52 => ?_)
  refine px_aload_n d_X12_draw_55 rfl rfl ?_
  refine px_getR d_X12_draw_56 fl_X12_123 (by decide) (so36 hL9) (sr36_43 hL9) ?_
  refine px_aload_n d_X12_draw_59 rfl rfl ?_
  refine px_iload_n d_X12_draw_60 rfl rfl ?_
  refine px_iload_n d_X12_draw_61 rfl rfl ?_
  have cN := c_X12_noticeFor (h := h9) (a := a) (s := s) hL9 ((congrFun (hs9.2 36 (by decide)) _).trans hnn) hnn6 ha
  rw [mnt_same hs9 (by decide) (by decide) (by decide) (by decide) (by decide), show hI h9 56 a = wi from (congrFun (hs9.2 56 (by decide)) _).trans hwi, show fst1 (mnt (th0 h) (nI a) s wi) (mntD (th0 h) (nI a) s wi) 0 nn = nI e0 from he] at cN
  refine px_callV (cN) d_X12_draw_62 lk_X12_295 ok_X12_noticeFor ov_X12_noticeFor (so36 hL9) (by decide) rfl rfl (Nat.le_of_ble_eq_true rfl) (by decide) ⟨eN, eS⟩ ?_
  refine px_iconst (v := 1) d_X12_draw_65 (by decide) ?_
  refine px_zast d_X12_draw_66 (sa68 hL9) rfl (by omega) rfl ?_
  refine px_aload_n d_X12_draw_67 rfl rfl ?_
  refine px_iload_n d_X12_draw_68 rfl rfl ?_
  refine px_iload_n d_X12_draw_69 rfl rfl ?_
  refine px_aload_n d_X12_draw_70 rfl rfl ?_
  refine px_getI d_X12_draw_71 fl_X12_218 rfl (so36 hL9) ?_
  refine px_val (y := nI t) ((congrFun (hs9.2 36 (by decide)) _).trans hnw) ?_
  refine px_iload_n d_X12_draw_74 rfl rfl ?_
  refine px_ineg d_X12_draw_75 ?_
  refine px_callV (c_X12_posts (h := pI h9 68 e0 1) hL9 ((congrFun (hs9.2 36 (by decide)) _).trans hs1) hne hb) d_X12_draw_76 lk_X12_267 ok_X12_posts ov_X12_posts (so36 hL9) (by decide) rfl rfl (Nat.le_of_ble_eq_true rfl) (by decide) ⟨eN, eS⟩ ?_
  refine px_iconst (v := 0) d_X12_draw_79 (by decide) ?_
  exact px_ireturn d_X12_draw_80 rfl rfl ⟨rfl, ⟨rfl, h9, hs9, rfl⟩, n9, s9⟩
