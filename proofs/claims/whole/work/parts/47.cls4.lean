theorem isD {d : Nat} (hd : d < 720) : ¬ nI d < 0 ∧ ¬ 719 < nI d := ⟨nI_pos (by omega), nI_nlt (a := 719) (b := d) (by omega) (by decide)⟩
theorem x_X11_balance {h : PH} {kn : Int32} {d : Nat} (hL : px_L h) {m : Nat} (hm : hI h 0 10 = nI m) (hm2 : m ≤ 20) {n : Nat} {ro to ln : Nat → Nat} {fr kf : Nat → Int32} {ev : Nat → (Nat → Int32) → Int32 → Int32} (hT : TX h n ro to ln fr kf ev) {r r1 r2 : Nat} (hA : px_acc h r r1 r2) (h78 : 78 ≤ r) {kd op : Int32} (hkd : hI h r 1 = kd) (hop : hI h r 3 = op) {ne : Nat} (hs1 : hI h 2 4 = nI ne) (hn4 : ne ≤ 400) (hd : ∀ i, i < ne → ∃ j, j < 720 ∧ hI h 4 i = nI j) {a : Int32} (ha : hI h r 0 = a) {j : Nat} (hj : j < m) (hr : hR h 1 j = some r) (hd7 : d < 720) (hv : ¬ kn < 0 ∧ ¬ hI h 0 11 < kn) : PX M_X11_balance [.ref 0, .int (nI j), .int (nI d), .int kn] h 0 0 (sQ SC h (balC (gat (hI h 3) (hI h 4) (hI h 5) (hI h 6) a kn ne) (rtF ev fr kf n kd op kn) d)) := by
  refine PX.of (by decide +kernel) (by decide +kernel) (Nat.le_of_ble_eq_true rfl) ?_
  refine px_aload_n d_X11_balance_0 rfl rfl ?_
  refine px_iload_n d_X11_balance_1 rfl rfl ?_
  refine px_callV (c_X11_accountOf hL hm hm2 hj hr) d_X11_balance_2 lk_X11_94 ok_X11_accountOf ov_X11_accountOf (so0 hL) (by decide) rfl rfl (Nat.le_of_ble_eq_true rfl) (by decide) ⟨Nat.le_refl (hn h), Nat.le_refl (hs h)⟩ ?_
  refine px_astore d_X11_balance_5 (by decide) ?_
  refine px_aload d_X11_balance_7 rfl ?_
  refine px_ifnull d_X11_balance_9 ?_
  refine px_iload_n d_X11_balance_12 rfl rfl ?_
  refine px_callS (c_X11_isDay) d_X11_balance_13 lk_X11_84 ok_X11_isDay os_X11_isDay rfl (Nat.le_of_ble_eq_true rfl) (by decide) ⟨Nat.le_refl (hn h), Nat.le_refl (hs h)⟩ ?_
  refine px_if_eq (tgt := 27) d_X11_balance_16 (by decide) (fun c16 => absurd c16 (bI_n.mpr (isD hd7))) (fun c16 => ?_)
  refine px_aload_n d_X11_balance_19 rfl rfl ?_
  refine px_iload_n d_X11_balance_20 rfl rfl ?_
  refine px_callV (c_X11_isPassed hL) d_X11_balance_21 lk_X11_101 ok_X11_isPassed ov_X11_isPassed (so0 hL) (by decide) rfl rfl (Nat.le_of_ble_eq_true rfl) (by decide) ⟨Nat.le_refl (hn h), Nat.le_refl (hs h)⟩ ?_
  refine px_if_ne (tgt := 37) d_X11_balance_24 (by decide) (fun c24 => ?_) (fun c24 => absurd c24 (bI_n.mpr hv))
  refine px_aload_n d_X11_balance_37 rfl rfl ?_
  refine px_getR d_X11_balance_38 fl_X11_55 (by decide) (so0 hL) (sr0_6 hL) ?_
  refine px_aload d_X11_balance_41 rfl ?_
  refine px_iload_n d_X11_balance_43 rfl rfl ?_
  refine px_iload_n d_X11_balance_44 rfl rfl ?_
  refine px_callVX (y_X7_balanceAt (kn := kn) hL hT hA h78 hkd hop hs1 hn4 hd ha hd7) d_X11_balance_45 lk_X11_151 ok_X7_balanceAt ov_X7_balanceAt (so21 hL) (by decide) rfl rfl (Nat.le_of_ble_eq_true rfl) (by decide) ⟨Nat.le_refl (hn h), Nat.le_refl (hs h)⟩ (fun r9 h9 q9 n9 s9 => ?_)
  obtain ⟨rfl, hs9⟩ := q9
  exact px_ireturn d_X11_balance_48 rfl rfl ⟨rfl, ⟨rfl, hs9⟩, n9, s9⟩
theorem t_X11_balance {h : PH} {d kn : Int32} (hL : px_L h) {m : Nat} (hm : hI h 0 10 = nI m) (hm2 : m ≤ 20) {j r : Nat} (hj : j < m) (hr : hR h 1 j = some r) (hv : ¬ ((¬ d < 0 ∧ ¬ 719 < d) ∧ ¬ kn < 0 ∧ ¬ hI h 0 11 < kn)) : PT M_X11_balance [.ref 0, .int (nI j), .int d, .int kn] h  (pN h 30 0 6) := by
  refine PT.of (by decide +kernel) (by decide +kernel) (Nat.le_succ _) (Nat.le_add_right _ _) (Nat.le_of_ble_eq_true rfl) ?_
  refine px_aload_n d_X11_balance_0 rfl rfl ?_
  refine px_iload_n d_X11_balance_1 rfl rfl ?_
  refine px_callV (c_X11_accountOf hL hm hm2 hj hr) d_X11_balance_2 lk_X11_94 ok_X11_accountOf ov_X11_accountOf (so0 hL) (by decide) rfl rfl (Nat.le_of_ble_eq_true rfl) (by decide) ⟨Nat.le_succ _, Nat.le_add_right _ _⟩ ?_
  refine px_astore d_X11_balance_5 (by decide) ?_
  refine px_aload d_X11_balance_7 rfl ?_
  refine px_ifnull d_X11_balance_9 ?_
  refine px_iload_n d_X11_balance_12 rfl rfl ?_
  refine px_callS (c_X11_isDay) d_X11_balance_13 lk_X11_84 ok_X11_isDay os_X11_isDay rfl (Nat.le_of_ble_eq_true rfl) (by decide) ⟨Nat.le_succ _, Nat.le_add_right _ _⟩ ?_
  refine px_if_eq (tgt := 27) d_X11_balance_16 (by decide) (fun c16 => ?_) (fun c16 => ?_)
  · exact px_throw d_X11_balance_27 d_X11_balance_30 d_X11_balance_31 d_X11_balance_33 d_X11_balance_36 rfl (is := 146) (tx := "no such account or days") (sa := 19) (by decide) (by decide) (by decide) (Nat.le_refl _) (Nat.le_refl _) ⟨rfl, rfl⟩
  · refine px_aload_n d_X11_balance_19 rfl rfl ?_
    refine px_iload_n d_X11_balance_20 rfl rfl ?_
    refine px_callV (c_X11_isPassed hL) d_X11_balance_21 lk_X11_101 ok_X11_isPassed ov_X11_isPassed (so0 hL) (by decide) rfl rfl (Nat.le_of_ble_eq_true rfl) (by decide) ⟨Nat.le_succ _, Nat.le_add_right _ _⟩ ?_
    refine px_if_ne (tgt := 37) d_X11_balance_24 (by decide) (fun c24 => ?_) (fun c24 => ?_)
    · exact absurd ⟨bI_n.mp c16, bI_n.mp c24⟩ hv
    · exact px_throw d_X11_balance_27 d_X11_balance_30 d_X11_balance_31 d_X11_balance_33 d_X11_balance_36 rfl (is := 146) (tx := "no such account or days") (sa := 19) (by decide) (by decide) (by decide) (Nat.le_refl _) (Nat.le_refl _) ⟨rfl, rfl⟩
theorem ti_X11_balance {h : PH} {a d kn : Int32} (hL : px_L h) (hv : ¬ (¬ a < 0 ∧ ¬ hI h 0 10 ≤ a)) : PT M_X11_balance [.ref 0, .int a, .int d, .int kn] h  (pN h 30 0 6) := by
  refine PT.of (by decide +kernel) (by decide +kernel) (Nat.le_succ _) (Nat.le_add_right _ _) (Nat.le_of_ble_eq_true rfl) ?_
  refine px_aload_n d_X11_balance_0 rfl rfl ?_
  refine px_iload_n d_X11_balance_1 rfl rfl ?_
  refine px_callV (n_X11_accountOf hL hv) d_X11_balance_2 lk_X11_94 ok_X11_accountOf ov_X11_accountOf (so0 hL) (by decide) rfl rfl (Nat.le_of_ble_eq_true rfl) (by decide) ⟨Nat.le_succ _, Nat.le_add_right _ _⟩ ?_
  refine px_astoreN d_X11_balance_5 (by decide) ?_
  refine px_aloadN d_X11_balance_7 rfl ?_
  refine px_ifnullN (tgt := 27) d_X11_balance_9 (by decide) ?_
  exact px_throw d_X11_balance_27 d_X11_balance_30 d_X11_balance_31 d_X11_balance_33 d_X11_balance_36 rfl (is := 146) (tx := "no such account or days") (sa := 19) (by decide) (by decide) (by decide) (Nat.le_refl _) (Nat.le_refl _) ⟨rfl, rfl⟩
theorem x_X11_interest {h : PH} {kn : Int32} {mo : Nat} (hL : px_L h) {m : Nat} (hm : hI h 0 10 = nI m) (hm2 : m ≤ 20) {n : Nat} {ro to ln : Nat → Nat} {fr kf : Nat → Int32} {ev : Nat → (Nat → Int32) → Int32 → Int32} (hT : TX h n ro to ln fr kf ev) {r r1 r2 : Nat} (hA : px_acc h r r1 r2) (h78 : 78 ≤ r) {kd op : Int32} (hkd : hI h r 1 = kd) (hop : hI h r 3 = op) {ne : Nat} (hs1 : hI h 2 4 = nI ne) (hn4 : ne ≤ 400) (hd : ∀ i, i < ne → ∃ j, j < 720 ∧ hI h 4 i = nI j) {a : Int32} (ha : hI h r 0 = a) {j : Nat} (hj : j < m) (hr : hR h 1 j = some r) (hmo : mo < 24) (hv : ¬ kn < 0 ∧ ¬ hI h 0 11 < kn) : PX M_X11_interest [.ref 0, .int (nI j), .int (nI mo), .int kn] h 0 0 (sQ SC h (RK (gat (hI h 3) (hI h 4) (hI h 5) (hI h 6) a kn ne) (rtF ev fr kf n kd op kn) (mo + 1)).2.2) := by
  refine PX.of (by decide +kernel) (by decide +kernel) (Nat.le_of_ble_eq_true rfl) ?_
  refine px_aload_n d_X11_interest_0 rfl rfl ?_
  refine px_iload_n d_X11_interest_1 rfl rfl ?_
  refine px_callV (c_X11_accountOf hL hm hm2 hj hr) d_X11_interest_2 lk_X11_94 ok_X11_accountOf ov_X11_accountOf (so0 hL) (by decide) rfl rfl (Nat.le_of_ble_eq_true rfl) (by decide) ⟨Nat.le_refl (hn h), Nat.le_refl (hs h)⟩ ?_
  refine px_astore d_X11_interest_5 (by decide) ?_
  refine px_aload d_X11_interest_7 rfl ?_
  refine px_ifnull d_X11_interest_9 ?_
  refine px_iload_n d_X11_interest_12 rfl rfl ?_
  refine px_if_lt (tgt := 30) d_X11_interest_13 (by decide) (fun c13 => absurd c13 (nI_pos (by omega))) (fun c13 => ?_)
  refine px_iload_n d_X11_interest_16 rfl rfl ?_
  refine px_bipush (v := 24) d_X11_interest_17 (by decide) ?_
  refine px_icmp_ge (tgt := 30) d_X11_interest_19 (by decide) (fun c19 => absurd c19 (nI_ge (b := 24) (by omega) (by decide))) (fun c19 => ?_)
  refine px_aload_n d_X11_interest_22 rfl rfl ?_
  refine px_iload_n d_X11_interest_23 rfl rfl ?_
  refine px_callV (c_X11_isPassed hL) d_X11_interest_24 lk_X11_101 ok_X11_isPassed ov_X11_isPassed (so0 hL) (by decide) rfl rfl (Nat.le_of_ble_eq_true rfl) (by decide) ⟨Nat.le_refl (hn h), Nat.le_refl (hs h)⟩ ?_
  refine px_if_ne (tgt := 40) d_X11_interest_27 (by decide) (fun c27 => ?_) (fun c27 => absurd c27 (bI_n.mpr hv))
  refine px_aload_n d_X11_interest_40 rfl rfl ?_
  refine px_getR d_X11_interest_41 fl_X11_55 (by decide) (so0 hL) (sr0_6 hL) ?_
  refine px_aload d_X11_interest_44 rfl ?_
  refine px_iload_n d_X11_interest_46 rfl rfl ?_
  refine px_iload_n d_X11_interest_47 rfl rfl ?_
  refine px_callVX (y_X7_earnedIn (kn := kn) hL hT hA h78 hkd hop hs1 hn4 hd ha hmo) d_X11_interest_48 lk_X11_157 ok_X7_earnedIn ov_X7_earnedIn (so21 hL) (by decide) rfl rfl (Nat.le_of_ble_eq_true rfl) (by decide) ⟨Nat.le_refl (hn h), Nat.le_refl (hs h)⟩ (fun r9 h9 q9 n9 s9 => ?_)
  obtain ⟨rfl, hs9⟩ := q9
  exact px_ireturn d_X11_interest_51 rfl rfl ⟨rfl, ⟨rfl, hs9⟩, n9, s9⟩
theorem t_X11_interest {h : PH} {d kn : Int32} (hL : px_L h) {m : Nat} (hm : hI h 0 10 = nI m) (hm2 : m ≤ 20) {j r : Nat} (hj : j < m) (hr : hR h 1 j = some r) (hv : ¬ (¬ d < 0 ∧ ¬ 24 ≤ d ∧ ¬ kn < 0 ∧ ¬ hI h 0 11 < kn)) : PT M_X11_interest [.ref 0, .int (nI j), .int d, .int kn] h  (pN h 30 0 6) := by
  refine PT.of (by decide +kernel) (by decide +kernel) (Nat.le_succ _) (Nat.le_add_right _ _) (Nat.le_of_ble_eq_true rfl) ?_
  refine px_aload_n d_X11_interest_0 rfl rfl ?_
  refine px_iload_n d_X11_interest_1 rfl rfl ?_
  refine px_callV (c_X11_accountOf hL hm hm2 hj hr) d_X11_interest_2 lk_X11_94 ok_X11_accountOf ov_X11_accountOf (so0 hL) (by decide) rfl rfl (Nat.le_of_ble_eq_true rfl) (by decide) ⟨Nat.le_succ _, Nat.le_add_right _ _⟩ ?_
  refine px_astore d_X11_interest_5 (by decide) ?_
  refine px_aload d_X11_interest_7 rfl ?_
  refine px_ifnull d_X11_interest_9 ?_
  refine px_iload_n d_X11_interest_12 rfl rfl ?_
  refine px_if_lt (tgt := 30) d_X11_interest_13 (by decide) (fun c13 => ?_) (fun c13 => ?_)
  · exact px_throw d_X11_interest_30 d_X11_interest_33 d_X11_interest_34 d_X11_interest_36 d_X11_interest_39 rfl (is := 155) (tx := "no such account, month or day") (sa := 20) (by decide) (by decide) (by decide) (Nat.le_refl _) (Nat.le_refl _) ⟨rfl, rfl⟩
  · refine px_iload_n d_X11_interest_16 rfl rfl ?_
    refine px_bipush (v := 24) d_X11_interest_17 (by decide) ?_
    refine px_icmp_ge (tgt := 30) d_X11_interest_19 (by decide) (fun c19 => ?_) (fun c19 => ?_)
    · exact px_throw d_X11_interest_30 d_X11_interest_33 d_X11_interest_34 d_X11_interest_36 d_X11_interest_39 rfl (is := 155) (tx := "no such account, month or day") (sa := 20) (by decide) (by decide) (by decide) (Nat.le_refl _) (Nat.le_refl _) ⟨rfl, rfl⟩
    · refine px_aload_n d_X11_interest_22 rfl rfl ?_
      refine px_iload_n d_X11_interest_23 rfl rfl ?_
      refine px_callV (c_X11_isPassed hL) d_X11_interest_24 lk_X11_101 ok_X11_isPassed ov_X11_isPassed (so0 hL) (by decide) rfl rfl (Nat.le_of_ble_eq_true rfl) (by decide) ⟨Nat.le_succ _, Nat.le_add_right _ _⟩ ?_
      refine px_if_ne (tgt := 40) d_X11_interest_27 (by decide) (fun c27 => ?_) (fun c27 => ?_)
      · exact absurd ⟨c13, c19, bI_n.mp c27⟩ hv
      · exact px_throw d_X11_interest_30 d_X11_interest_33 d_X11_interest_34 d_X11_interest_36 d_X11_interest_39 rfl (is := 155) (tx := "no such account, month or day") (sa := 20) (by decide) (by decide) (by decide) (Nat.le_refl _) (Nat.le_refl _) ⟨rfl, rfl⟩
theorem ti_X11_interest {h : PH} {a d kn : Int32} (hL : px_L h) (hv : ¬ (¬ a < 0 ∧ ¬ hI h 0 10 ≤ a)) : PT M_X11_interest [.ref 0, .int a, .int d, .int kn] h  (pN h 30 0 6) := by
  refine PT.of (by decide +kernel) (by decide +kernel) (Nat.le_succ _) (Nat.le_add_right _ _) (Nat.le_of_ble_eq_true rfl) ?_
  refine px_aload_n d_X11_interest_0 rfl rfl ?_
  refine px_iload_n d_X11_interest_1 rfl rfl ?_
  refine px_callV (n_X11_accountOf hL hv) d_X11_interest_2 lk_X11_94 ok_X11_accountOf ov_X11_accountOf (so0 hL) (by decide) rfl rfl (Nat.le_of_ble_eq_true rfl) (by decide) ⟨Nat.le_succ _, Nat.le_add_right _ _⟩ ?_
  refine px_astoreN d_X11_interest_5 (by decide) ?_
  refine px_aloadN d_X11_interest_7 rfl ?_
  refine px_ifnullN (tgt := 30) d_X11_interest_9 (by decide) ?_
  exact px_throw d_X11_interest_30 d_X11_interest_33 d_X11_interest_34 d_X11_interest_36 d_X11_interest_39 rfl (is := 155) (tx := "no such account, month or day") (sa := 20) (by decide) (by decide) (by decide) (Nat.le_refl _) (Nat.le_refl _) ⟨rfl, rfl⟩
def setQ (h : PH) (r : Nat) (e : Int32) : Option Value → PH → Prop := fun r' h' => r' = some (.int (e - hI h r 7)) ∧ ∃ g, px_same SC h g ∧ h' = pI g r 7 (hI h r 7 + (e - hI h r 7))
theorem x_X11_settle {h : PH} (hL : px_L h) {m : Nat} (hm : hI h 0 10 = nI m) (hm2 : m ≤ 20) {n : Nat} {ro to ln : Nat → Nat} {fr kf : Nat → Int32} {ev : Nat → (Nat → Int32) → Int32 → Int32} (hT : TX h n ro to ln fr kf ev) {r r1 r2 : Nat} (hA : px_acc h r r1 r2) (h78 : 78 ≤ r) {kd op : Int32} (hkd : hI h r 1 = kd) (hop : hI h r 3 = op) {ne : Nat} (hs1 : hI h 2 4 = nI ne) (hn4 : ne ≤ 400) (hd : ∀ i, i < ne → ∃ j, j < 720 ∧ hI h 4 i = nI j) {a : Int32} (ha : hI h r 0 = a) {j : Nat} (hj : j < m) (hr : hR h 1 j = some r) {t : Nat} (hnw : hI h 0 11 = nI t) (ht : t < 720) : PX M_X11_settle [.ref 0, .int (nI j)] h 0 0 (setQ h r (RK (gat (hI h 3) (hI h 4) (hI h 5) (hI h 6) a (nI t) ne) (rtF ev fr kf n kd op (nI t)) (t / 30)).2.1) := by
  refine PX.of (by decide +kernel) (by decide +kernel) (Nat.le_of_ble_eq_true rfl) ?_
  refine px_aload_n d_X11_settle_0 rfl rfl ?_
  refine px_iload_n d_X11_settle_1 rfl rfl ?_
  refine px_callV (c_X11_accountOf hL hm hm2 hj hr) d_X11_settle_2 lk_X11_94 ok_X11_accountOf ov_X11_accountOf (so0 hL) (by decide) rfl rfl (Nat.le_of_ble_eq_true rfl) (by decide) ⟨Nat.le_refl (hn h), Nat.le_refl (hs h)⟩ ?_
  refine px_astore_n d_X11_settle_5 rfl (by decide) ?_
  refine px_aload_n d_X11_settle_6 rfl rfl ?_
  refine px_ifnonnull (tgt := 20) d_X11_settle_7 (by decide) ?_
  refine px_aload_n d_X11_settle_20 rfl rfl ?_
  refine px_getR d_X11_settle_21 fl_X11_55 (by decide) (so0 hL) (sr0_6 hL) ?_
  refine px_aload_n d_X11_settle_24 rfl rfl ?_
  refine px_aload_n d_X11_settle_25 rfl rfl ?_
  refine px_getI d_X11_settle_26 fl_X11_88 rfl (so0 hL) ?_
  refine px_val (y := nI t) hnw ?_
  refine px_aload_n d_X11_settle_29 rfl rfl ?_
  refine px_getI d_X11_settle_30 fl_X11_88 rfl (so0 hL) ?_
  refine px_val (y := nI t) hnw ?_
  refine px_callVX (y_X7_earnedAhead (kn := nI t) hL hT hA h78 hkd hop hs1 hn4 hd ha ht) d_X11_settle_33 lk_X11_201 ok_X7_earnedAhead ov_X7_earnedAhead (so21 hL) (by decide) rfl rfl (Nat.le_of_ble_eq_true rfl) (by decide) ⟨Nat.le_refl (hn h), Nat.le_refl (hs h)⟩ (fun r9 h9 q9 n9 s9 => ?_)
  obtain ⟨rfl, hs9⟩ := q9
  have hA9 := hA.same hs9
  have hr9 : hI h9 r = hI h r := hs9.2 r (SC_hi h78)
  refine px_aload_n d_X11_settle_36 rfl rfl ?_
  refine px_getI d_X11_settle_37 fl_X11_204 rfl hA9.1 ?_
  refine px_val (y := hI h r 7) (congrFun hr9 _) ?_
  refine px_isub d_X11_settle_40 ?_
  refine px_istore_n d_X11_settle_41 rfl (by decide) ?_
  refine px_aload_n d_X11_settle_42 rfl rfl ?_
  refine px_dup d_X11_settle_43 rfl ?_
  refine px_getI d_X11_settle_44 fl_X11_204 rfl hA9.1 ?_
  refine px_val (y := hI h r 7) (congrFun hr9 _) ?_
  refine px_iload_n d_X11_settle_47 rfl rfl ?_
  refine px_iadd d_X11_settle_48 ?_
  refine px_putI d_X11_settle_49 fl_X11_204 rfl hA9.1 ?_
  refine px_iload_n d_X11_settle_52 rfl rfl ?_
  exact px_ireturn d_X11_settle_53 rfl rfl ⟨rfl, ⟨rfl, h9, hs9, rfl⟩, n9, s9⟩
theorem t_X11_settle {h : PH} {a : Int32} (hL : px_L h) (hv : ¬ (¬ a < 0 ∧ ¬ hI h 0 10 ≤ a)) : PT M_X11_settle [.ref 0, .int a] h  (pN h 30 0 6) := by
  refine PT.of (by decide +kernel) (by decide +kernel) (Nat.le_succ _) (Nat.le_add_right _ _) (Nat.le_of_ble_eq_true rfl) ?_
  refine px_aload_n d_X11_settle_0 rfl rfl ?_
  refine px_iload_n d_X11_settle_1 rfl rfl ?_
  refine px_callV (n_X11_accountOf hL hv) d_X11_settle_2 lk_X11_94 ok_X11_accountOf ov_X11_accountOf (so0 hL) (by decide) rfl rfl (Nat.le_of_ble_eq_true rfl) (by decide) ⟨Nat.le_succ _, Nat.le_add_right _ _⟩ ?_
  refine px_astore_nN d_X11_settle_5 rfl (by decide) ?_
  refine px_aload_nN d_X11_settle_6 rfl rfl ?_
  refine px_ifnonnullN d_X11_settle_7 ?_
  exact px_throw d_X11_settle_10 d_X11_settle_13 d_X11_settle_14 d_X11_settle_16 d_X11_settle_19 rfl (is := 199) (tx := "no such account") (sa := 21) (by decide) (by decide) (by decide) (Nat.le_refl _) (Nat.le_refl _) ⟨rfl, rfl⟩
theorem n_X11_whyNot {h : PH} {s sg : Int32}  : PM M_X11_whyNot [.ref 0, .null, .int s, .int sg] h (some (.int 1)) h := by
  refine PM.of (by decide +kernel) (by decide +kernel) (Nat.le_refl _) (Nat.le_refl _) (Nat.le_of_ble_eq_true rfl) ?_
  refine px_aload_nN d_X11_whyNot_0 rfl rfl ?_
  refine px_ifnullN (tgt := 11) d_X11_whyNot_1 (by decide) ?_
  refine px_iconst (v := 1) d_X11_whyNot_11 (by decide) ?_
  exact px_ireturn d_X11_whyNot_12 rfl rfl ⟨rfl, rfl, rfl⟩
theorem x_X11_may {h : PH} {s sg : Int32} (hL : px_L h) {m : Nat} (hm : hI h 0 10 = nI m) (hm2 : m ≤ 20) {n : Nat} {ro to ln : Nat → Nat} {fr kf : Nat → Int32} {ev : Nat → (Nat → Int32) → Int32 → Int32} (hT : TX h n ro to ln fr kf ev) {r r1 r2 : Nat} (hA : px_acc h r r1 r2) (h78 : 78 ≤ r) {kd op : Int32} (hkd : hI h r 1 = kd) (hop : hI h r 3 = op) {ne : Nat} (hs1 : hI h 2 4 = nI ne) (hn4 : ne ≤ 400) (hd : ∀ i, i < ne → ∃ j, j < 720 ∧ hI h 4 i = nI j) {a : Int32} (ha : hI h r 0 = a) {j : Nat} (hj : j < m) (hr : hR h 1 j = some r) {t : Nat} (hnw : hI h 0 11 = nI t) (ht : t < 720) {wi : Int32} (hwi : hI h r 2 = wi) {nn : Nat} (hnn : hI h 23 4 = nI nn) (hnn6 : nn ≤ 60) : PX M_X11_may [.ref 0, .int (nI j), .int s, .int sg] h 0 0 (sQ SC h (whyR (bI (¬ s < 1 ∧ ¬ 100000 < s)) (balC (gat (hI h 3) (hI h 4) (hI h 5) (hI h 6) a (nI t) ne) (rtF ev fr kf n kd op (nI t)) t) s (@bI (sgnC kd wi (nI t) sg) (sgnD kd wi (nI t) sg)) kd (fst1 (ntc h a s (nI t - wi)) (ntcD h a s (nI t - wi)) 0 nn) (txC ev (fctD kd op (if 0 ≤ (prevC (gat (hI h 3) (hI h 4) (hI h 5) (hI h 6) a (nI t) ne) (rtF ev fr kf n kd op (nI t)) t) then (prevC (gat (hI h 3) (hI h 4) (hI h 5) (hI h 6) a (nI t) ne) (rtF ev fr kf n kd op (nI t)) t) / 240 else 0) (nI t)) (-4) (-1) (lastT (frcP fr kf (nI t) (nI t)) n)) (drw (hI h 3) (hI h 4) (hI h 5) a (nI t) ne))) := by
  refine PX.of (by decide +kernel) (by decide +kernel) (Nat.le_of_ble_eq_true rfl) ?_
  refine px_aload_n d_X11_may_0 rfl rfl ?_
  refine px_aload_n d_X11_may_1 rfl rfl ?_
  refine px_iload_n d_X11_may_2 rfl rfl ?_
  refine px_callV (c_X11_accountOf hL hm hm2 hj hr) d_X11_may_3 lk_X11_94 ok_X11_accountOf ov_X11_accountOf (so0 hL) (by decide) rfl rfl (Nat.le_of_ble_eq_true rfl) (by decide) ⟨Nat.le_refl (hn h), Nat.le_refl (hs h)⟩ ?_
  refine px_iload_n d_X11_may_6 rfl rfl ?_
  refine px_iload_n d_X11_may_7 rfl rfl ?_
  refine px_callVX (x_X11_whyNot (s := s) (sg := sg) hL hT hA h78 hkd hop hs1 hn4 hd ha hnw ht hwi hnn hnn6) d_X11_may_8 lk_X11_160 ok_X11_whyNot ov_X11_whyNot (so0 hL) (by decide) rfl rfl (Nat.le_of_ble_eq_true rfl) (by decide) ⟨Nat.le_refl (hn h), Nat.le_refl (hs h)⟩ (fun r9 h9 q9 n9 s9 => ?_)
  obtain ⟨rfl, hs9⟩ := q9
  exact px_ireturn d_X11_may_11 rfl rfl ⟨rfl, ⟨rfl, hs9⟩, n9, s9⟩
theorem i_X11_may {h : PH} {a s sg : Int32} (hL : px_L h) (hv : ¬ (¬ a < 0 ∧ ¬ hI h 0 10 ≤ a)) : PM M_X11_may [.ref 0, .int a, .int s, .int sg] h (some (.int 1)) h := by
  refine PM.of (by decide +kernel) (by decide +kernel) (Nat.le_refl _) (Nat.le_refl _) (Nat.le_of_ble_eq_true rfl) ?_
  refine px_aload_n d_X11_may_0 rfl rfl ?_
  refine px_aload_n d_X11_may_1 rfl rfl ?_
  refine px_iload_n d_X11_may_2 rfl rfl ?_
  refine px_callV (n_X11_accountOf hL hv) d_X11_may_3 lk_X11_94 ok_X11_accountOf ov_X11_accountOf (so0 hL) (by decide) rfl rfl (Nat.le_of_ble_eq_true rfl) (by decide) ⟨Nat.le_refl _, Nat.le_refl _⟩ ?_
  refine px_iload_n d_X11_may_6 rfl rfl ?_
  refine px_iload_n d_X11_may_7 rfl rfl ?_
  refine px_callV (n_X11_whyNot) d_X11_may_8 lk_X11_160 ok_X11_whyNot ov_X11_whyNot (so0 hL) (by decide) rfl rfl (Nat.le_of_ble_eq_true rfl) (by decide) ⟨Nat.le_refl _, Nat.le_refl _⟩ ?_
  exact px_ireturn d_X11_may_11 rfl rfl ⟨rfl, rfl, rfl⟩
theorem i_X11_draw {h : PH} {a b s sg : Int32} (hL : px_L h) (hv : ¬ (¬ a < 0 ∧ ¬ hI h 0 10 ≤ a)) : PM M_X11_draw [.ref 0, .int a, .int b, .int s, .int sg] h (some (.int 1)) h := by
  refine PM.of (by decide +kernel) (by decide +kernel) (Nat.le_refl _) (Nat.le_refl _) (Nat.le_of_ble_eq_true rfl) ?_
  refine px_aload_n d_X11_draw_0 rfl rfl ?_
  refine px_iload_n d_X11_draw_1 rfl rfl ?_
  refine px_callV (n_X11_accountOf hL hv) d_X11_draw_2 lk_X11_94 ok_X11_accountOf ov_X11_accountOf (so0 hL) (by decide) rfl rfl (Nat.le_of_ble_eq_true rfl) (by decide) ⟨Nat.le_refl _, Nat.le_refl _⟩ ?_
  refine px_astoreN d_X11_draw_5 (by decide) ?_
  refine px_aload_n d_X11_draw_7 rfl rfl ?_
  refine px_aloadN d_X11_draw_8 rfl ?_
  refine px_iload_n d_X11_draw_10 rfl rfl ?_
  refine px_iload d_X11_draw_11 rfl ?_
  refine px_callV (n_X11_whyNot) d_X11_draw_13 lk_X11_160 ok_X11_whyNot ov_X11_whyNot (so0 hL) (by decide) rfl rfl (Nat.le_of_ble_eq_true rfl) (by decide) ⟨Nat.le_refl _, Nat.le_refl _⟩ ?_
  refine px_istore d_X11_draw_16 (by decide) ?_
  refine px_iload d_X11_draw_18 rfl ?_
  refine px_if_ne (tgt := 28) d_X11_draw_20 (by decide) (fun c20 => ?_) (fun c20 => absurd c20 (by decide))
  refine px_iload d_X11_draw_28 rfl ?_
  exact px_ireturn d_X11_draw_30 rfl rfl ⟨rfl, rfl, rfl⟩
theorem x_X11_draw {h : PH} {s sg b : Int32} (hL : px_L h) {m : Nat} (hm : hI h 0 10 = nI m) (hm2 : m ≤ 20) {n : Nat} {ro to ln : Nat → Nat} {fr kf : Nat → Int32} {ev : Nat → (Nat → Int32) → Int32 → Int32} (hT : TX h n ro to ln fr kf ev) {r r1 r2 : Nat} (hA : px_acc h r r1 r2) (h78 : 78 ≤ r) {kd op : Int32} (hkd : hI h r 1 = kd) (hop : hI h r 3 = op) {ne : Nat} (hs1 : hI h 2 4 = nI ne) (hn4 : ne ≤ 400) (hd : ∀ i, i < ne → ∃ j, j < 720 ∧ hI h 4 i = nI j) {a : Int32} (ha : hI h r 0 = a) {j : Nat} (hj : j < m) (hr : hR h 1 j = some r) {t : Nat} (hnw : hI h 0 11 = nI t) (ht : t < 720) {wi : Int32} (hwi : hI h r 2 = wi) {nn : Nat} (hnn : hI h 23 4 = nI nn) (hnn6 : nn ≤ 60) (hw : ¬ (whyR (bI (¬ s < 1 ∧ ¬ 100000 < s)) (balC (gat (hI h 3) (hI h 4) (hI h 5) (hI h 6) a (nI t) ne) (rtF ev fr kf n kd op (nI t)) t) s (@bI (sgnC kd wi (nI t) sg) (sgnD kd wi (nI t) sg)) kd (fst1 (ntc h a s (nI t - wi)) (ntcD h a s (nI t - wi)) 0 nn) (txC ev (fctD kd op (if 0 ≤ (prevC (gat (hI h 3) (hI h 4) (hI h 5) (hI h 6) a (nI t) ne) (rtF ev fr kf n kd op (nI t)) t) then (prevC (gat (hI h 3) (hI h 4) (hI h 5) (hI h 6) a (nI t) ne) (rtF ev fr kf n kd op (nI t)) t) / 240 else 0) (nI t)) (-4) (-1) (lastT (frcP fr kf (nI t) (nI t)) n)) (drw (hI h 3) (hI h 4) (hI h 5) a (nI t) ne)) = 0) : PX M_X11_draw [.ref 0, .int (nI j), .int b, .int s, .int sg] h 0 0 (sQ SC h (whyR (bI (¬ s < 1 ∧ ¬ 100000 < s)) (balC (gat (hI h 3) (hI h 4) (hI h 5) (hI h 6) a (nI t) ne) (rtF ev fr kf n kd op (nI t)) t) s (@bI (sgnC kd wi (nI t) sg) (sgnD kd wi (nI t) sg)) kd (fst1 (ntc h a s (nI t - wi)) (ntcD h a s (nI t - wi)) 0 nn) (txC ev (fctD kd op (if 0 ≤ (prevC (gat (hI h 3) (hI h 4) (hI h 5) (hI h 6) a (nI t) ne) (rtF ev fr kf n kd op (nI t)) t) then (prevC (gat (hI h 3) (hI h 4) (hI h 5) (hI h 6) a (nI t) ne) (rtF ev fr kf n kd op (nI t)) t) / 240 else 0) (nI t)) (-4) (-1) (lastT (frcP fr kf (nI t) (nI t)) n)) (drw (hI h 3) (hI h 4) (hI h 5) a (nI t) ne))) := by
  refine PX.of (by decide +kernel) (by decide +kernel) (Nat.le_of_ble_eq_true rfl) ?_
  refine px_aload_n d_X11_draw_0 rfl rfl ?_
  refine px_iload_n d_X11_draw_1 rfl rfl ?_
  refine px_callV (c_X11_accountOf hL hm hm2 hj hr) d_X11_draw_2 lk_X11_94 ok_X11_accountOf ov_X11_accountOf (so0 hL) (by decide) rfl rfl (Nat.le_of_ble_eq_true rfl) (by decide) ⟨Nat.le_refl (hn h), Nat.le_refl (hs h)⟩ ?_
  refine px_astore d_X11_draw_5 (by decide) ?_
  refine px_aload_n d_X11_draw_7 rfl rfl ?_
  refine px_aload d_X11_draw_8 rfl ?_
  refine px_iload_n d_X11_draw_10 rfl rfl ?_
  refine px_iload d_X11_draw_11 rfl ?_
  refine px_callVX (x_X11_whyNot (s := s) (sg := sg) hL hT hA h78 hkd hop hs1 hn4 hd ha hnw ht hwi hnn hnn6) d_X11_draw_13 lk_X11_160 ok_X11_whyNot ov_X11_whyNot (so0 hL) (by decide) rfl rfl (Nat.le_of_ble_eq_true rfl) (by decide) ⟨Nat.le_refl (hn h), Nat.le_refl (hs h)⟩ (fun r9 h9 q9 n9 s9 => ?_)
  obtain ⟨rfl, hs9⟩ := q9
  have hL9 := hL.same hs9
  have hA9 := hA.same hs9
  have hr9 : hI h9 r = hI h r := hs9.2 r (SC_hi h78)
  have eN : hn h9 ≤ hn h := Nat.le_of_eq n9
  have eS : hs h9 ≤ hs h := Nat.le_of_eq s9
  have hnw9 : hI h9 0 11 = nI t := (congrFun (hs9.2 0 (by decide)) _).trans hnw
  refine px_istore d_X11_draw_16 (by decide) ?_
  refine px_iload d_X11_draw_18 rfl ?_
  refine px_if_ne (tgt := 28) d_X11_draw_20 (by decide) (fun c20 => ?_) (fun c20 => (hw c20).elim)
  refine px_iload d_X11_draw_28 rfl ?_
  exact px_ireturn d_X11_draw_30 rfl rfl ⟨rfl, ⟨rfl, hs9⟩, n9, s9⟩
theorem y_X11_draw {h : PH} {s sg b : Int32} (hL : px_L h) {m : Nat} (hm : hI h 0 10 = nI m) (hm2 : m ≤ 20) {n : Nat} {ro to ln : Nat → Nat} {fr kf : Nat → Int32} {ev : Nat → (Nat → Int32) → Int32 → Int32} (hT : TX h n ro to ln fr kf ev) {r r1 r2 : Nat} (hA : px_acc h r r1 r2) (h78 : 78 ≤ r) {kd op : Int32} (hkd : hI h r 1 = kd) (hop : hI h r 3 = op) {ne : Nat} (hs1 : hI h 2 4 = nI ne) (hn4 : ne ≤ 400) (hd : ∀ i, i < ne → ∃ j, j < 720 ∧ hI h 4 i = nI j) {a : Int32} (ha : hI h r 0 = a) {j : Nat} (hj : j < m) (hr : hR h 1 j = some r) {t : Nat} (hnw : hI h 0 11 = nI t) (ht : t < 720) {wi : Int32} (hwi : hI h r 2 = wi) {nn : Nat} (hnn : hI h 23 4 = nI nn) (hnn6 : nn ≤ 60) (hw : (whyR (bI (¬ s < 1 ∧ ¬ 100000 < s)) (balC (gat (hI h 3) (hI h 4) (hI h 5) (hI h 6) a (nI t) ne) (rtF ev fr kf n kd op (nI t)) t) s (@bI (sgnC kd wi (nI t) sg) (sgnD kd wi (nI t) sg)) kd (fst1 (ntc h a s (nI t - wi)) (ntcD h a s (nI t - wi)) 0 nn) (txC ev (fctD kd op (if 0 ≤ (prevC (gat (hI h 3) (hI h 4) (hI h 5) (hI h 6) a (nI t) ne) (rtF ev fr kf n kd op (nI t)) t) then (prevC (gat (hI h 3) (hI h 4) (hI h 5) (hI h 6) a (nI t) ne) (rtF ev fr kf n kd op (nI t)) t) / 240 else 0) (nI t)) (-4) (-1) (lastT (frcP fr kf (nI t) (nI t)) n)) (drw (hI h 3) (hI h 4) (hI h 5) a (nI t) ne)) = 0) (hv : ¬ ((¬ b < 0 ∧ b < 4) ∧ hI h 2 4 < 400)) : PX M_X11_draw [.ref 0, .int (nI j), .int b, .int s, .int sg] h 0 0 (sQ SC h 6) := by
  refine PX.of (by decide +kernel) (by decide +kernel) (Nat.le_of_ble_eq_true rfl) ?_
  refine px_aload_n d_X11_draw_0 rfl rfl ?_
  refine px_iload_n d_X11_draw_1 rfl rfl ?_
  refine px_callV (c_X11_accountOf hL hm hm2 hj hr) d_X11_draw_2 lk_X11_94 ok_X11_accountOf ov_X11_accountOf (so0 hL) (by decide) rfl rfl (Nat.le_of_ble_eq_true rfl) (by decide) ⟨Nat.le_refl (hn h), Nat.le_refl (hs h)⟩ ?_
  refine px_astore d_X11_draw_5 (by decide) ?_
  refine px_aload_n d_X11_draw_7 rfl rfl ?_
  refine px_aload d_X11_draw_8 rfl ?_
  refine px_iload_n d_X11_draw_10 rfl rfl ?_
  refine px_iload d_X11_draw_11 rfl ?_
  refine px_callVX (x_X11_whyNot (s := s) (sg := sg) hL hT hA h78 hkd hop hs1 hn4 hd ha hnw ht hwi hnn hnn6) d_X11_draw_13 lk_X11_160 ok_X11_whyNot ov_X11_whyNot (so0 hL) (by decide) rfl rfl (Nat.le_of_ble_eq_true rfl) (by decide) ⟨Nat.le_refl (hn h), Nat.le_refl (hs h)⟩ (fun r9 h9 q9 n9 s9 => ?_)
  obtain ⟨rfl, hs9⟩ := q9
  have hL9 := hL.same hs9
  have hA9 := hA.same hs9
  have hr9 : hI h9 r = hI h r := hs9.2 r (SC_hi h78)
  have eN : hn h9 ≤ hn h := Nat.le_of_eq n9
  have eS : hs h9 ≤ hs h := Nat.le_of_eq s9
  have hnw9 : hI h9 0 11 = nI t := (congrFun (hs9.2 0 (by decide)) _).trans hnw
  refine px_istore d_X11_draw_16 (by decide) ?_
  refine px_iload d_X11_draw_18 rfl ?_
  refine px_if_ne (tgt := 28) d_X11_draw_20 (by decide) (fun c20 => absurd hw c20) (fun c20 => ?_)
  refine px_aload d_X11_draw_23 rfl ?_
  refine px_ifnonnull (tgt := 31) d_X11_draw_25 (by decide) ?_
  refine px_iload_n d_X11_draw_31 rfl rfl ?_
  refine px_callS (c_X11_isBranch) d_X11_draw_32 lk_X11_98 ok_X11_isBranch os_X11_isBranch rfl (Nat.le_of_ble_eq_true rfl) (by decide) ⟨eN, eS⟩ ?_
  refine px_if_eq (tgt := 48) d_X11_draw_35 (by decide) (fun c35 => ?_) (fun c35 => ?_)
  · refine px_bipush (v := 6) d_X11_draw_48 (by decide) ?_
    exact px_ireturn d_X11_draw_50 rfl rfl ⟨rfl, ⟨rfl, hs9⟩, n9, s9⟩
  · refine px_aload_n d_X11_draw_38 rfl rfl ?_
    refine px_getR d_X11_draw_39 fl_X11_18 (by decide) (so0 hL9) (sr0_1 hL9) ?_
    refine px_callV (c_X2_isFull hL9) d_X11_draw_42 lk_X11_106 ok_X2_isFull ov_X2_isFull (so2 hL9) (by decide) rfl rfl (Nat.le_of_ble_eq_true rfl) (by decide) ⟨eN, eS⟩ ?_
    refine px_if_eq (tgt := 51) d_X11_draw_45 (by decide) (fun c45 => ?_) (fun c45 => ?_)
    · exact absurd ⟨bI_n.mp c35, by rw [← show hI h9 2 4 = hI h 2 4 from congrFun (hs9.2 2 (by decide)) _]; exact Classical.not_not.mp (bI_0.mp c45)⟩ hv
    · refine px_bipush (v := 6) d_X11_draw_48 (by decide) ?_
      exact px_ireturn d_X11_draw_50 rfl rfl ⟨rfl, ⟨rfl, hs9⟩, n9, s9⟩
def drwQ (h : PH) (ne : Nat) (a : Int32) (b : Nat) (t : Nat) (s : Int32) : Option Value → PH → Prop := fun r h' => r = some (.int 0) ∧ ∃ g, px_same SC h g ∧ h' = pbEnt g ne a b (nI t) (-s)
def drwQ3 (h : PH) (ne : Nat) (a : Int32) (b : Nat) (t : Nat) (s : Int32) (e0 : Nat) : Option Value → PH → Prop := fun r h' => r = some (.int 0) ∧ ∃ g, px_same SC h g ∧ h' = pbEnt (pI g 27 e0 1) ne a b (nI t) (-s)
theorem z_X11_draw {h : PH} {s sg : Int32} (hL : px_L h) {m : Nat} (hm : hI h 0 10 = nI m) (hm2 : m ≤ 20) {n : Nat} {ro to ln : Nat → Nat} {fr kf : Nat → Int32} {ev : Nat → (Nat → Int32) → Int32 → Int32} (hT : TX h n ro to ln fr kf ev) {r r1 r2 : Nat} (hA : px_acc h r r1 r2) (h78 : 78 ≤ r) {kd op : Int32} (hkd : hI h r 1 = kd) (hop : hI h r 3 = op) {ne : Nat} (hs1 : hI h 2 4 = nI ne) (hn4 : ne ≤ 400) (hd : ∀ i, i < ne → ∃ j, j < 720 ∧ hI h 4 i = nI j) {a : Int32} (ha : hI h r 0 = a) {j : Nat} (hj : j < m) (hr : hR h 1 j = some r) {t : Nat} (hnw : hI h 0 11 = nI t) (ht : t < 720) {wi : Int32} (hwi : hI h r 2 = wi) {nn : Nat} (hnn : hI h 23 4 = nI nn) (hnn6 : nn ≤ 60) {b : Nat} (hb : b < 4) (hne : ne < 400) (haj : a = nI j) (hw : (whyR (bI (¬ s < 1 ∧ ¬ 100000 < s)) (balC (gat (hI h 3) (hI h 4) (hI h 5) (hI h 6) a (nI t) ne) (rtF ev fr kf n kd op (nI t)) t) s (@bI (sgnC kd wi (nI t) sg) (sgnD kd wi (nI t) sg)) kd (fst1 (ntc h a s (nI t - wi)) (ntcD h a s (nI t - wi)) 0 nn) (txC ev (fctD kd op (if 0 ≤ (prevC (gat (hI h 3) (hI h 4) (hI h 5) (hI h 6) a (nI t) ne) (rtF ev fr kf n kd op (nI t)) t) then (prevC (gat (hI h 3) (hI h 4) (hI h 5) (hI h 6) a (nI t) ne) (rtF ev fr kf n kd op (nI t)) t) / 240 else 0) (nI t)) (-4) (-1) (lastT (frcP fr kf (nI t) (nI t)) n)) (drw (hI h 3) (hI h 4) (hI h 5) a (nI t) ne)) = 0) (hk : ¬ kd = 3) : PX M_X11_draw [.ref 0, .int (nI j), .int (nI b), .int s, .int sg] h 0 0 (drwQ h ne (nI j) b t s) := by
  refine PX.of (by decide +kernel) (by decide +kernel) (Nat.le_of_ble_eq_true rfl) ?_
  refine px_aload_n d_X11_draw_0 rfl rfl ?_
  refine px_iload_n d_X11_draw_1 rfl rfl ?_
  refine px_callV (c_X11_accountOf hL hm hm2 hj hr) d_X11_draw_2 lk_X11_94 ok_X11_accountOf ov_X11_accountOf (so0 hL) (by decide) rfl rfl (Nat.le_of_ble_eq_true rfl) (by decide) ⟨Nat.le_refl (hn h), Nat.le_refl (hs h)⟩ ?_
  refine px_astore d_X11_draw_5 (by decide) ?_
  refine px_aload_n d_X11_draw_7 rfl rfl ?_
  refine px_aload d_X11_draw_8 rfl ?_
  refine px_iload_n d_X11_draw_10 rfl rfl ?_
  refine px_iload d_X11_draw_11 rfl ?_
  refine px_callVX (x_X11_whyNot (s := s) (sg := sg) hL hT hA h78 hkd hop hs1 hn4 hd ha hnw ht hwi hnn hnn6) d_X11_draw_13 lk_X11_160 ok_X11_whyNot ov_X11_whyNot (so0 hL) (by decide) rfl rfl (Nat.le_of_ble_eq_true rfl) (by decide) ⟨Nat.le_refl (hn h), Nat.le_refl (hs h)⟩ (fun r9 h9 q9 n9 s9 => ?_)
  obtain ⟨rfl, hs9⟩ := q9
  have hL9 := hL.same hs9
  have hA9 := hA.same hs9
  have hr9 : hI h9 r = hI h r := hs9.2 r (SC_hi h78)
  have eN : hn h9 ≤ hn h := Nat.le_of_eq n9
  have eS : hs h9 ≤ hs h := Nat.le_of_eq s9
  have hnw9 : hI h9 0 11 = nI t := (congrFun (hs9.2 0 (by decide)) _).trans hnw
  refine px_istore d_X11_draw_16 (by decide) ?_
  refine px_iload d_X11_draw_18 rfl ?_
  refine px_if_ne (tgt := 28) d_X11_draw_20 (by decide) (fun c20 => absurd hw c20) (fun c20 => ?_)
  refine px_aload d_X11_draw_23 rfl ?_
  refine px_ifnonnull (tgt := 31) d_X11_draw_25 (by decide) ?_
  refine px_iload_n d_X11_draw_31 rfl rfl ?_
  refine px_callS (c_X11_isBranch) d_X11_draw_32 lk_X11_98 ok_X11_isBranch os_X11_isBranch rfl (Nat.le_of_ble_eq_true rfl) (by decide) ⟨eN, eS⟩ ?_
  refine px_if_eq (tgt := 48) d_X11_draw_35 (by decide) (fun c35 => absurd c35 (bI_n.mpr (isBr hb))) (fun c35 => ?_)
  refine px_aload_n d_X11_draw_38 rfl rfl ?_
  refine px_getR d_X11_draw_39 fl_X11_18 (by decide) (so0 hL9) (sr0_1 hL9) ?_
  refine px_callV (c_X2_isFull hL9) d_X11_draw_42 lk_X11_106 ok_X2_isFull ov_X2_isFull (so2 hL9) (by decide) rfl rfl (Nat.le_of_ble_eq_true rfl) (by decide) ⟨eN, eS⟩ ?_
  refine px_if_eq (tgt := 51) d_X11_draw_45 (by decide) (fun c45 => ?_) (fun c45 => (c45 (bI_0.mpr (Classical.not_not.mpr (by rw [show hI h9 2 4 = nI ne from (congrFun (hs9.2 2 (by decide)) _).trans hs1]; exact (nI_ltI (b := 400) (by omega) (by decide)).mpr hne)))).elim)
  refine px_aload d_X11_draw_51 rfl ?_
  refine px_getI d_X11_draw_53 fl_X11_163 rfl hA9.1 ?_
  refine px_val (y := kd) ((congrFun hr9 _).trans hkd) ?_
  refine px_iconst (v := 3) d_X11_draw_56 (by decide) ?_
  refine px_icmp_ne (tgt := 86) d_X11_draw_57 (by decide) (fun c57 => ?_) (fun c57 => absurd c57 hk)
  refine px_aload_n d_X11_draw_86 rfl rfl ?_
  refine px_iload_n d_X11_draw_87 rfl rfl ?_
  refine px_iload_n d_X11_draw_88 rfl rfl ?_
  refine px_aload_n d_X11_draw_89 rfl rfl ?_
  refine px_getI d_X11_draw_90 fl_X11_88 rfl (so0 hL9) ?_
  refine px_val (y := nI t) hnw9 ?_
  refine px_iload_n d_X11_draw_93 rfl rfl ?_
  refine px_ineg d_X11_draw_94 ?_
  refine px_callV (c_X11_enter (h := h9) hL9 ((congrFun (hs9.2 2 (by decide)) _).trans hs1) hne hb) d_X11_draw_95 lk_X11_110 ok_X11_enter ov_X11_enter (so0 hL9) (by decide) rfl rfl (Nat.le_of_ble_eq_true rfl) (by decide) ⟨eN, eS⟩ ?_
  refine px_pop d_X11_draw_98 rfl ?_
  refine px_iconst (v := 0) d_X11_draw_99 (by decide) ?_
  exact px_ireturn d_X11_draw_100 rfl rfl ⟨rfl, ⟨rfl, h9, hs9, rfl⟩, n9, s9⟩
theorem v_X11_draw {h : PH} {s sg : Int32} (hL : px_L h) {m : Nat} (hm : hI h 0 10 = nI m) (hm2 : m ≤ 20) {n : Nat} {ro to ln : Nat → Nat} {fr kf : Nat → Int32} {ev : Nat → (Nat → Int32) → Int32 → Int32} (hT : TX h n ro to ln fr kf ev) {r r1 r2 : Nat} (hA : px_acc h r r1 r2) (h78 : 78 ≤ r) {kd op : Int32} (hkd : hI h r 1 = kd) (hop : hI h r 3 = op) {ne : Nat} (hs1 : hI h 2 4 = nI ne) (hn4 : ne ≤ 400) (hd : ∀ i, i < ne → ∃ j, j < 720 ∧ hI h 4 i = nI j) {a : Int32} (ha : hI h r 0 = a) {j : Nat} (hj : j < m) (hr : hR h 1 j = some r) {t : Nat} (hnw : hI h 0 11 = nI t) (ht : t < 720) {wi : Int32} (hwi : hI h r 2 = wi) {nn : Nat} (hnn : hI h 23 4 = nI nn) (hnn6 : nn ≤ 60) {b : Nat} (hb : b < 4) (hne : ne < 400) (haj : a = nI j) (hw : (whyR (bI (¬ s < 1 ∧ ¬ 100000 < s)) (balC (gat (hI h 3) (hI h 4) (hI h 5) (hI h 6) a (nI t) ne) (rtF ev fr kf n kd op (nI t)) t) s (@bI (sgnC kd wi (nI t) sg) (sgnD kd wi (nI t) sg)) kd (fst1 (ntc h a s (nI t - wi)) (ntcD h a s (nI t - wi)) 0 nn) (txC ev (fctD kd op (if 0 ≤ (prevC (gat (hI h 3) (hI h 4) (hI h 5) (hI h 6) a (nI t) ne) (rtF ev fr kf n kd op (nI t)) t) then (prevC (gat (hI h 3) (hI h 4) (hI h 5) (hI h 6) a (nI t) ne) (rtF ev fr kf n kd op (nI t)) t) / 240 else 0) (nI t)) (-4) (-1) (lastT (frcP fr kf (nI t) (nI t)) n)) (drw (hI h 3) (hI h 4) (hI h 5) a (nI t) ne)) = 0) (hk : kd = 3) {e0 : Nat} (he : (fst1 (ntc h (nI j) s (nI t - wi)) (ntcD h (nI j) s (nI t - wi)) 0 nn) = nI e0) (he0 : e0 < nn) : PX M_X11_draw [.ref 0, .int (nI j), .int (nI b), .int s, .int sg] h 0 0 (drwQ3 h ne (nI j) b t s e0) := by
  refine PX.of (by decide +kernel) (by decide +kernel) (Nat.le_of_ble_eq_true rfl) ?_
  refine px_aload_n d_X11_draw_0 rfl rfl ?_
  refine px_iload_n d_X11_draw_1 rfl rfl ?_
  refine px_callV (c_X11_accountOf hL hm hm2 hj hr) d_X11_draw_2 lk_X11_94 ok_X11_accountOf ov_X11_accountOf (so0 hL) (by decide) rfl rfl (Nat.le_of_ble_eq_true rfl) (by decide) ⟨Nat.le_refl (hn h), Nat.le_refl (hs h)⟩ ?_
  refine px_astore d_X11_draw_5 (by decide) ?_
  refine px_aload_n d_X11_draw_7 rfl rfl ?_
  refine px_aload d_X11_draw_8 rfl ?_
  refine px_iload_n d_X11_draw_10 rfl rfl ?_
  refine px_iload d_X11_draw_11 rfl ?_
  refine px_callVX (x_X11_whyNot (s := s) (sg := sg) hL hT hA h78 hkd hop hs1 hn4 hd ha hnw ht hwi hnn hnn6) d_X11_draw_13 lk_X11_160 ok_X11_whyNot ov_X11_whyNot (so0 hL) (by decide) rfl rfl (Nat.le_of_ble_eq_true rfl) (by decide) ⟨Nat.le_refl (hn h), Nat.le_refl (hs h)⟩ (fun r9 h9 q9 n9 s9 => ?_)
  obtain ⟨rfl, hs9⟩ := q9
  have hL9 := hL.same hs9
  have hA9 := hA.same hs9
  have hr9 : hI h9 r = hI h r := hs9.2 r (SC_hi h78)
  have eN : hn h9 ≤ hn h := Nat.le_of_eq n9
  have eS : hs h9 ≤ hs h := Nat.le_of_eq s9
  have hnw9 : hI h9 0 11 = nI t := (congrFun (hs9.2 0 (by decide)) _).trans hnw
  refine px_istore d_X11_draw_16 (by decide) ?_
  refine px_iload d_X11_draw_18 rfl ?_
  refine px_if_ne (tgt := 28) d_X11_draw_20 (by decide) (fun c20 => absurd hw c20) (fun c20 => ?_)
  refine px_aload d_X11_draw_23 rfl ?_
  refine px_ifnonnull (tgt := 31) d_X11_draw_25 (by decide) ?_
  refine px_iload_n d_X11_draw_31 rfl rfl ?_
  refine px_callS (c_X11_isBranch) d_X11_draw_32 lk_X11_98 ok_X11_isBranch os_X11_isBranch rfl (Nat.le_of_ble_eq_true rfl) (by decide) ⟨eN, eS⟩ ?_
  refine px_if_eq (tgt := 48) d_X11_draw_35 (by decide) (fun c35 => absurd c35 (bI_n.mpr (isBr hb))) (fun c35 => ?_)
  refine px_aload_n d_X11_draw_38 rfl rfl ?_
  refine px_getR d_X11_draw_39 fl_X11_18 (by decide) (so0 hL9) (sr0_1 hL9) ?_
  refine px_callV (c_X2_isFull hL9) d_X11_draw_42 lk_X11_106 ok_X2_isFull ov_X2_isFull (so2 hL9) (by decide) rfl rfl (Nat.le_of_ble_eq_true rfl) (by decide) ⟨eN, eS⟩ ?_
  refine px_if_eq (tgt := 51) d_X11_draw_45 (by decide) (fun c45 => ?_) (fun c45 => (c45 (bI_0.mpr (Classical.not_not.mpr (by rw [show hI h9 2 4 = nI ne from (congrFun (hs9.2 2 (by decide)) _).trans hs1]; exact (nI_ltI (b := 400) (by omega) (by decide)).mpr hne)))).elim)
  refine px_aload d_X11_draw_51 rfl ?_
  refine px_getI d_X11_draw_53 fl_X11_163 rfl hA9.1 ?_
  refine px_val (y := kd) ((congrFun hr9 _).trans hkd) ?_
  refine px_iconst (v := 3) d_X11_draw_56 (by decide) ?_
  refine px_icmp_ne (tgt := 86) d_X11_draw_57 (by decide) (fun c57 => absurd hk c57) (fun c57 => ?_)
  refine px_aload_n d_X11_draw_60 rfl rfl ?_
  refine px_getR d_X11_draw_61 fl_X11_62 (by decide) (so0 hL9) (sr0_7 hL9) ?_
  refine px_aload_n d_X11_draw_64 rfl rfl ?_
  refine px_getR d_X11_draw_65 fl_X11_62 (by decide) (so0 hL9) (sr0_7 hL9) ?_
  refine px_iload_n d_X11_draw_68 rfl rfl ?_
  refine px_iload_n d_X11_draw_69 rfl rfl ?_
  refine px_aload_n d_X11_draw_70 rfl rfl ?_
  refine px_getI d_X11_draw_71 fl_X11_88 rfl (so0 hL9) ?_
  refine px_val (y := nI t) hnw9 ?_
  refine px_aload d_X11_draw_74 rfl ?_
  refine px_getI d_X11_draw_76 fl_X11_166 rfl hA9.1 ?_
  refine px_val (y := wi) ((congrFun hr9 _).trans hwi) ?_
  refine px_isub d_X11_draw_79 ?_
  refine px_callV (c_X6_eldest (h := h9) hL9 ((congrFun (hs9.2 23 (by decide)) _).trans hnn) hnn6) d_X11_draw_80 lk_X11_169 ok_X6_eldest ov_X6_eldest (so23 hL9) (by decide) rfl rfl (Nat.le_of_ble_eq_true rfl) (by decide) ⟨eN, eS⟩ ?_
  refine px_val (y := nI e0) ((ntc_same hs9 (by decide) (by decide) (by decide) (by decide) nn 0).trans he) ?_
  refine px_callV (c_X6_use (h := h9) hL9 ((congrFun (hs9.2 23 (by decide)) _).trans hnn) hnn6 he0) d_X11_draw_83 lk_X11_173 ok_X6_use ov_X6_use (so23 hL9) (by decide) rfl rfl (Nat.le_of_ble_eq_true rfl) (by decide) ⟨eN, eS⟩ ?_
  refine px_aload_n d_X11_draw_86 rfl rfl ?_
  refine px_iload_n d_X11_draw_87 rfl rfl ?_
  refine px_iload_n d_X11_draw_88 rfl rfl ?_
  refine px_aload_n d_X11_draw_89 rfl rfl ?_
  refine px_getI d_X11_draw_90 fl_X11_88 rfl (so0 hL9) ?_
  refine px_val (y := nI t) hnw9 ?_
  refine px_iload_n d_X11_draw_93 rfl rfl ?_
  refine px_ineg d_X11_draw_94 ?_
  refine px_callV (c_X11_enter (h := pI h9 27 e0 1) hL9 ((congrFun (hs9.2 2 (by decide)) _).trans hs1) hne hb) d_X11_draw_95 lk_X11_110 ok_X11_enter ov_X11_enter (so0 hL9) (by decide) rfl rfl (Nat.le_of_ble_eq_true rfl) (by decide) ⟨eN, eS⟩ ?_
  refine px_pop d_X11_draw_98 rfl ?_
  refine px_iconst (v := 0) d_X11_draw_99 (by decide) ?_
  exact px_ireturn d_X11_draw_100 rfl rfl ⟨rfl, ⟨rfl, h9, hs9, rfl⟩, n9, s9⟩
