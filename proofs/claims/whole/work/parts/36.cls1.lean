theorem c_X11_accountOf {h : PH} (hL : px_L h) {m : Nat} (hm : hI h 0 10 = nI m) (hm2 : m ≤ 20) {j r : Nat} (hj : j < m) (hr : hR h 1 j = some r) : PM M_X11_accountOf [.ref 0, .int (nI j)] h (some (.ref r)) h := by
  refine PM.of (by decide +kernel) (by decide +kernel) (Nat.le_refl _) (Nat.le_refl _) (Nat.le_of_ble_eq_true rfl) ?_
  refine px_iload_n d_X11_accountOf_0 rfl rfl ?_
  refine px_if_lt (tgt := 21) d_X11_accountOf_1 (by decide) (fun c1 => absurd c1 (nI_pos (by omega))) (fun c1 => ?_)
  refine px_iload_n d_X11_accountOf_4 rfl rfl ?_
  refine px_aload_n d_X11_accountOf_5 rfl rfl ?_
  refine px_getI d_X11_accountOf_6 fl_X11_80 rfl (so0 hL) ?_
  refine px_icmp_ge (tgt := 21) d_X11_accountOf_9 (by decide) (fun c9 => absurd c9 (by rw [hm]; exact nI_ge (by omega) (by omega))) (fun c9 => ?_)
  refine px_iload_n d_X11_accountOf_12 rfl rfl ?_
  refine px_aload_n d_X11_accountOf_13 rfl rfl ?_
  refine px_getR d_X11_accountOf_14 fl_X11_11 (by decide) (so0 hL) (sr0_0 hL) ?_
  refine px_alen d_X11_accountOf_17 (sa1 hL) (by decide) (by decide) ?_
  refine px_icmp_lt (tgt := 25) d_X11_accountOf_18 (by decide) (fun c18 => ?_) (fun c18 => (c18 ((nI_ltI (b := 20) (by omega) (by decide)).mpr (by omega))).elim)
  refine px_aload_n d_X11_accountOf_25 rfl rfl ?_
  refine px_getR d_X11_accountOf_26 fl_X11_11 (by decide) (so0 hL) (sr0_0 hL) ?_
  refine px_iload_n d_X11_accountOf_29 rfl rfl ?_
  refine px_aaldA d_X11_accountOf_30 (sa1 hL) rfl (by omega) hr ?_
  exact px_areturn d_X11_accountOf_31 rfl (by first | exact Or.inl ⟨_, rfl⟩ | exact Or.inr ⟨_, rfl⟩) ⟨rfl, rfl, rfl⟩
theorem n_X11_accountOf {h : PH} (hL : px_L h) {d : Int32} (hv : ¬ (¬ d < 0 ∧ ¬ hI h 0 10 ≤ d)) : PM M_X11_accountOf [.ref 0, .int d] h (some .null) h := by
  refine PM.of (by decide +kernel) (by decide +kernel) (Nat.le_refl _) (Nat.le_refl _) (Nat.le_of_ble_eq_true rfl) ?_
  refine px_iload_n d_X11_accountOf_0 rfl rfl ?_
  refine px_if_lt (tgt := 21) d_X11_accountOf_1 (by decide) (fun c1 => ?_) (fun c1 => ?_)
  · refine px_null d_X11_accountOf_21 ?_
    refine px_goto (tgt := 31) d_X11_accountOf_22 (by decide) ?_
    exact px_areturnN d_X11_accountOf_31 rfl (by first | exact Or.inl ⟨_, rfl⟩ | exact Or.inr ⟨_, rfl⟩) ⟨rfl, rfl, rfl⟩
  · refine px_iload_n d_X11_accountOf_4 rfl rfl ?_
    refine px_aload_n d_X11_accountOf_5 rfl rfl ?_
    refine px_getI d_X11_accountOf_6 fl_X11_80 rfl (so0 hL) ?_
    refine px_icmp_ge (tgt := 21) d_X11_accountOf_9 (by decide) (fun c9 => ?_) (fun c9 => ?_)
    · refine px_null d_X11_accountOf_21 ?_
      refine px_goto (tgt := 31) d_X11_accountOf_22 (by decide) ?_
      exact px_areturnN d_X11_accountOf_31 rfl (by first | exact Or.inl ⟨_, rfl⟩ | exact Or.inr ⟨_, rfl⟩) ⟨rfl, rfl, rfl⟩
    · exact absurd ⟨c1, c9⟩ hv
theorem c_X11_days {h : PH} {d : Int32} (hL : px_L h) (hv : ¬ d < 0 ∧ ¬ 200 < d ∧ hI h 0 11 + d ≤ 719) : PM M_X11_days [.ref 0, .int d] h (some (.int (hI h 0 11 + d))) (pI h 0 11 (hI h 0 11 + d)) := by
  refine PM.of (by decide +kernel) (by decide +kernel) (Nat.le_refl _) (Nat.le_refl _) (Nat.le_of_ble_eq_true rfl) ?_
  refine px_iload_n d_X11_days_0 rfl rfl ?_
  refine px_if_lt (tgt := 23) d_X11_days_1 (by decide) (fun c1 => (by first | exact absurd c1 hv.1 | exact (c1 hv.1).elim)) (fun c1 => ?_)
  refine px_iload_n d_X11_days_4 rfl rfl ?_
  refine px_sipush (v := 200) d_X11_days_5 (by decide) ?_
  refine px_icmp_gt (tgt := 23) d_X11_days_8 (by decide) (fun c8 => (by first | exact absurd c8 hv.2.1 | exact (c8 hv.2.1).elim)) (fun c8 => ?_)
  refine px_aload_n d_X11_days_11 rfl rfl ?_
  refine px_getI d_X11_days_12 fl_X11_88 rfl (so0 hL) ?_
  refine px_iload_n d_X11_days_15 rfl rfl ?_
  refine px_iadd d_X11_days_16 ?_
  refine px_sipush (v := 719) d_X11_days_17 (by decide) ?_
  refine px_icmp_le (tgt := 25) d_X11_days_20 (by decide) (fun c20 => ?_) (fun c20 => (by first | exact absurd c20 hv.2.2 | exact (c20 hv.2.2).elim))
  refine px_aload_n d_X11_days_25 rfl rfl ?_
  refine px_dup d_X11_days_26 rfl ?_
  refine px_getI d_X11_days_27 fl_X11_88 rfl (so0 hL) ?_
  refine px_iload_n d_X11_days_30 rfl rfl ?_
  refine px_iadd d_X11_days_31 ?_
  refine px_putI d_X11_days_32 fl_X11_88 rfl (so0 hL) ?_
  refine px_aload_n d_X11_days_35 rfl rfl ?_
  refine px_getI d_X11_days_36 fl_X11_88 rfl (so0 hL) ?_
  exact px_ireturn d_X11_days_39 rfl rfl ⟨rfl, rfl, rfl⟩
theorem n_X11_days {h : PH} {d : Int32} (hL : px_L h) (hv : ¬ (¬ d < 0 ∧ ¬ 200 < d ∧ hI h 0 11 + d ≤ 719)) : PM M_X11_days [.ref 0, .int d] h (some (.int (-1))) h := by
  refine PM.of (by decide +kernel) (by decide +kernel) (Nat.le_refl _) (Nat.le_refl _) (Nat.le_of_ble_eq_true rfl) ?_
  refine px_iload_n d_X11_days_0 rfl rfl ?_
  refine px_if_lt (tgt := 23) d_X11_days_1 (by decide) (fun c1 => ?_) (fun c1 => ?_)
  · refine px_iconst (v := (-1)) d_X11_days_23 (by decide) ?_
    exact px_ireturn d_X11_days_24 rfl rfl ⟨rfl, rfl, rfl⟩
  · refine px_iload_n d_X11_days_4 rfl rfl ?_
    refine px_sipush (v := 200) d_X11_days_5 (by decide) ?_
    refine px_icmp_gt (tgt := 23) d_X11_days_8 (by decide) (fun c8 => ?_) (fun c8 => ?_)
    · refine px_iconst (v := (-1)) d_X11_days_23 (by decide) ?_
      exact px_ireturn d_X11_days_24 rfl rfl ⟨rfl, rfl, rfl⟩
    · refine px_aload_n d_X11_days_11 rfl rfl ?_
      refine px_getI d_X11_days_12 fl_X11_88 rfl (so0 hL) ?_
      refine px_iload_n d_X11_days_15 rfl rfl ?_
      refine px_iadd d_X11_days_16 ?_
      refine px_sipush (v := 719) d_X11_days_17 (by decide) ?_
      refine px_icmp_le (tgt := 25) d_X11_days_20 (by decide) (fun c20 => ?_) (fun c20 => ?_)
      · exact absurd ⟨c1, c8, c20⟩ hv
      · refine px_iconst (v := (-1)) d_X11_days_23 (by decide) ?_
        exact px_ireturn d_X11_days_24 rfl rfl ⟨rfl, rfl, rfl⟩
def pbEnt (h : PH) (n : Nat) (a : Int32) (b : Nat) (d s : Int32) : PH := entAdd (pI h 29 b (hI h 29 b + s)) n a d s (hI h 0 11)
theorem c_X11_enter {h : PH} (hL : px_L h) {n : Nat} (hs1 : hI h 2 4 = nI n) (hn4 : n < 400) {b : Nat} (hb : b < 4) {a d s : Int32} : PM M_X11_enter [.ref 0, .int a, .int (nI b), .int d, .int s] h (some (.int (nI n))) (pbEnt h n a b d s) := by
  refine PM.of (by decide +kernel) (by decide +kernel) (Nat.le_refl _) (Nat.le_refl _) (Nat.le_of_ble_eq_true rfl) ?_
  refine px_aload_n d_X11_enter_0 rfl rfl ?_
  refine px_getR d_X11_enter_1 fl_X11_69 (by decide) (so0 hL) (sr0_8 hL) ?_
  refine px_iload_n d_X11_enter_4 rfl rfl ?_
  refine px_iload d_X11_enter_5 rfl ?_
  refine px_callV (c_X1_move hL hb) d_X11_enter_7 lk_X11_240 ok_X1_move ov_X1_move (so28 hL) (by decide) rfl rfl (Nat.le_of_ble_eq_true rfl) (by decide) ⟨Nat.le_refl _, Nat.le_refl _⟩ ?_
  refine px_aload_n d_X11_enter_10 rfl rfl ?_
  refine px_getR d_X11_enter_11 fl_X11_18 (by decide) (so0 hL) (sr0_1 hL) ?_
  refine px_iload_n d_X11_enter_14 rfl rfl ?_
  refine px_iload_n d_X11_enter_15 rfl rfl ?_
  refine px_iload d_X11_enter_16 rfl ?_
  refine px_aload_n d_X11_enter_18 rfl rfl ?_
  refine px_getI d_X11_enter_19 fl_X11_88 rfl (so0 hL) ?_
  refine px_callV (c_X2_add (h := pI h 29 b (hI h 29 b + s)) hL hs1 hn4) d_X11_enter_22 lk_X11_244 ok_X2_add ov_X2_add (so2 hL) (by decide) rfl rfl (Nat.le_of_ble_eq_true rfl) (by decide) ⟨Nat.le_refl _, Nat.le_refl _⟩ ?_
  exact px_ireturn d_X11_enter_25 rfl rfl ⟨rfl, rfl, rfl⟩
theorem brN {b : Int32} (h : ¬ b < 0 ∧ b < 4) : ∃ j : Nat, j < 4 ∧ b = nI j := by
  obtain ⟨j, hj, e⟩ := nI_of h.1
  refine ⟨j, ?_, e⟩
  have h2 := h.2
  rw [e] at h2
  exact (nI_ltI (b := 4) hj (by decide)).mp h2
theorem c_X11_post {h : PH} {b d s : Int32} (hL : px_L h) {m : Nat} (hm : hI h 0 10 = nI m) (hm2 : m ≤ 20) {j r : Nat} (hj : j < m) (hr : hR h 1 j = some r) {n : Nat} (hs1 : hI h 2 4 = nI n) (hn4 : n ≤ 400) {b0 : Nat} (hb0 : b = nI b0) (hb4 : b0 < 4 ∨ ¬ b < 4) (hv : (¬ b < 0 ∧ b < 4) ∧ (¬ d < 0 ∧ ¬ hI h 0 11 < d) ∧ ¬ s = 0 ∧ ¬ s < -100000 ∧ ¬ 100000 < s ∧ hI h 2 4 < 400) : PM M_X11_post [.ref 0, .int (nI j), .int b, .int d, .int s] h (some (.int (nI n))) (pbEnt h n (nI j) b0 d s) := by
  have hn5 : n < 400 := by
    have h1 := hv.2.2.2.2.2
    rw [hs1] at h1
    exact (nI_ltI (b := 400) (by omega) (by decide)).mp h1
  refine PM.of (by decide +kernel) (by decide +kernel) (Nat.le_refl _) (Nat.le_refl _) (Nat.le_of_ble_eq_true rfl) ?_
  refine px_aload_n d_X11_post_0 rfl rfl ?_
  refine px_iload_n d_X11_post_1 rfl rfl ?_
  refine px_callV (c_X11_accountOf hL hm hm2 hj hr) d_X11_post_2 lk_X11_94 ok_X11_accountOf ov_X11_accountOf (so0 hL) (by decide) rfl rfl (Nat.le_of_ble_eq_true rfl) (by decide) ⟨Nat.le_refl _, Nat.le_refl _⟩ ?_
  refine px_ifnull d_X11_post_5 ?_
  refine px_iload_n d_X11_post_8 rfl rfl ?_
  refine px_callS (c_X11_isBranch) d_X11_post_9 lk_X11_98 ok_X11_isBranch os_X11_isBranch rfl (Nat.le_of_ble_eq_true rfl) (by decide) ⟨Nat.le_refl _, Nat.le_refl _⟩ ?_
  refine px_if_eq (tgt := 23) d_X11_post_12 (by decide) (fun c12 => (by first | exact absurd c12 (bI_n.mpr hv.1) | exact (c12 (bI_n.mpr hv.1)).elim)) (fun c12 => ?_)
  refine px_aload_n d_X11_post_15 rfl rfl ?_
  refine px_iload_n d_X11_post_16 rfl rfl ?_
  refine px_callV (c_X11_isPassed hL) d_X11_post_17 lk_X11_101 ok_X11_isPassed ov_X11_isPassed (so0 hL) (by decide) rfl rfl (Nat.le_of_ble_eq_true rfl) (by decide) ⟨Nat.le_refl _, Nat.le_refl _⟩ ?_
  refine px_if_ne (tgt := 25) d_X11_post_20 (by decide) (fun c20 => ?_) (fun c20 => (by first | exact absurd c20 (bI_n.mpr hv.2.1) | exact (c20 (bI_n.mpr hv.2.1)).elim))
  refine px_iload d_X11_post_25 rfl ?_
  refine px_if_eq (tgt := 54) d_X11_post_27 (by decide) (fun c27 => (by first | exact absurd c27 hv.2.2.1 | exact (c27 hv.2.2.1).elim)) (fun c27 => ?_)
  refine px_iload d_X11_post_30 rfl ?_
  refine px_ldc d_X11_post_32 ck_X11_104 ?_
  refine px_icmp_lt (tgt := 54) d_X11_post_34 (by decide) (fun c34 => (by first | exact absurd c34 hv.2.2.2.1 | exact (c34 hv.2.2.2.1).elim)) (fun c34 => ?_)
  refine px_iload d_X11_post_37 rfl ?_
  refine px_ldc d_X11_post_39 ck_X11_105 ?_
  refine px_icmp_gt (tgt := 54) d_X11_post_41 (by decide) (fun c41 => (by first | exact absurd c41 hv.2.2.2.2.1 | exact (c41 hv.2.2.2.2.1).elim)) (fun c41 => ?_)
  refine px_aload_n d_X11_post_44 rfl rfl ?_
  refine px_getR d_X11_post_45 fl_X11_18 (by decide) (so0 hL) (sr0_1 hL) ?_
  refine px_callV (c_X2_isFull hL) d_X11_post_48 lk_X11_106 ok_X2_isFull ov_X2_isFull (so2 hL) (by decide) rfl rfl (Nat.le_of_ble_eq_true rfl) (by decide) ⟨Nat.le_refl _, Nat.le_refl _⟩ ?_
  refine px_if_eq (tgt := 56) d_X11_post_51 (by decide) (fun c51 => ?_) (fun c51 => (by first | exact absurd c51 (bI_0.mpr (Classical.not_not.mpr hv.2.2.2.2.2)) | exact (c51 (bI_0.mpr (Classical.not_not.mpr hv.2.2.2.2.2))).elim))
  refine px_aload_n d_X11_post_56 rfl rfl ?_
  refine px_iload_n d_X11_post_57 rfl rfl ?_
  refine px_iload_n d_X11_post_58 rfl rfl ?_
  refine px_iload_n d_X11_post_59 rfl rfl ?_
  refine px_iload d_X11_post_60 rfl ?_
  subst hb0
  have hb4 : b0 < 4 := hb4.elim id (fun q => absurd hv.1.2 q)
  refine px_callV (c_X11_enter hL hs1 hn5 hb4) d_X11_post_62 lk_X11_110 ok_X11_enter ov_X11_enter (so0 hL) (by decide) rfl rfl (Nat.le_of_ble_eq_true rfl) (by decide) ⟨Nat.le_refl _, Nat.le_refl _⟩ ?_
  exact px_ireturn d_X11_post_65 rfl rfl ⟨rfl, rfl, rfl⟩
theorem n_X11_post {h : PH} {b d s : Int32} (hL : px_L h) {m : Nat} (hm : hI h 0 10 = nI m) (hm2 : m ≤ 20) {j r : Nat} (hj : j < m) (hr : hR h 1 j = some r) {n : Nat} (hs1 : hI h 2 4 = nI n) (hn4 : n ≤ 400) {b0 : Nat} (hb0 : b = nI b0) (hb4 : b0 < 4 ∨ ¬ b < 4) (hv : ¬ ((¬ b < 0 ∧ b < 4) ∧ (¬ d < 0 ∧ ¬ hI h 0 11 < d) ∧ ¬ s = 0 ∧ ¬ s < -100000 ∧ ¬ 100000 < s ∧ hI h 2 4 < 400)) : PM M_X11_post [.ref 0, .int (nI j), .int b, .int d, .int s] h (some (.int (-1))) h := by
  refine PM.of (by decide +kernel) (by decide +kernel) (Nat.le_refl _) (Nat.le_refl _) (Nat.le_of_ble_eq_true rfl) ?_
  refine px_aload_n d_X11_post_0 rfl rfl ?_
  refine px_iload_n d_X11_post_1 rfl rfl ?_
  refine px_callV (c_X11_accountOf hL hm hm2 hj hr) d_X11_post_2 lk_X11_94 ok_X11_accountOf ov_X11_accountOf (so0 hL) (by decide) rfl rfl (Nat.le_of_ble_eq_true rfl) (by decide) ⟨Nat.le_refl _, Nat.le_refl _⟩ ?_
  refine px_ifnull d_X11_post_5 ?_
  refine px_iload_n d_X11_post_8 rfl rfl ?_
  refine px_callS (c_X11_isBranch) d_X11_post_9 lk_X11_98 ok_X11_isBranch os_X11_isBranch rfl (Nat.le_of_ble_eq_true rfl) (by decide) ⟨Nat.le_refl _, Nat.le_refl _⟩ ?_
  refine px_if_eq (tgt := 23) d_X11_post_12 (by decide) (fun c12 => ?_) (fun c12 => ?_)
  · refine px_iconst (v := (-1)) d_X11_post_23 (by decide) ?_
    exact px_ireturn d_X11_post_24 rfl rfl ⟨rfl, rfl, rfl⟩
  · refine px_aload_n d_X11_post_15 rfl rfl ?_
    refine px_iload_n d_X11_post_16 rfl rfl ?_
    refine px_callV (c_X11_isPassed hL) d_X11_post_17 lk_X11_101 ok_X11_isPassed ov_X11_isPassed (so0 hL) (by decide) rfl rfl (Nat.le_of_ble_eq_true rfl) (by decide) ⟨Nat.le_refl _, Nat.le_refl _⟩ ?_
    refine px_if_ne (tgt := 25) d_X11_post_20 (by decide) (fun c20 => ?_) (fun c20 => ?_)
    · refine px_iload d_X11_post_25 rfl ?_
      refine px_if_eq (tgt := 54) d_X11_post_27 (by decide) (fun c27 => ?_) (fun c27 => ?_)
      · refine px_iconst (v := (-1)) d_X11_post_54 (by decide) ?_
        exact px_ireturn d_X11_post_55 rfl rfl ⟨rfl, rfl, rfl⟩
      · refine px_iload d_X11_post_30 rfl ?_
        refine px_ldc d_X11_post_32 ck_X11_104 ?_
        refine px_icmp_lt (tgt := 54) d_X11_post_34 (by decide) (fun c34 => ?_) (fun c34 => ?_)
        · refine px_iconst (v := (-1)) d_X11_post_54 (by decide) ?_
          exact px_ireturn d_X11_post_55 rfl rfl ⟨rfl, rfl, rfl⟩
        · refine px_iload d_X11_post_37 rfl ?_
          refine px_ldc d_X11_post_39 ck_X11_105 ?_
          refine px_icmp_gt (tgt := 54) d_X11_post_41 (by decide) (fun c41 => ?_) (fun c41 => ?_)
          · refine px_iconst (v := (-1)) d_X11_post_54 (by decide) ?_
            exact px_ireturn d_X11_post_55 rfl rfl ⟨rfl, rfl, rfl⟩
          · refine px_aload_n d_X11_post_44 rfl rfl ?_
            refine px_getR d_X11_post_45 fl_X11_18 (by decide) (so0 hL) (sr0_1 hL) ?_
            refine px_callV (c_X2_isFull hL) d_X11_post_48 lk_X11_106 ok_X2_isFull ov_X2_isFull (so2 hL) (by decide) rfl rfl (Nat.le_of_ble_eq_true rfl) (by decide) ⟨Nat.le_refl _, Nat.le_refl _⟩ ?_
            refine px_if_eq (tgt := 56) d_X11_post_51 (by decide) (fun c51 => ?_) (fun c51 => ?_)
            · exact absurd ⟨bI_n.mp c12, bI_n.mp c20, c27, c34, c41, Classical.not_not.mp (bI_0.mp c51)⟩ hv
            · refine px_iconst (v := (-1)) d_X11_post_54 (by decide) ?_
              exact px_ireturn d_X11_post_55 rfl rfl ⟨rfl, rfl, rfl⟩
    · refine px_iconst (v := (-1)) d_X11_post_23 (by decide) ?_
      exact px_ireturn d_X11_post_24 rfl rfl ⟨rfl, rfl, rfl⟩
