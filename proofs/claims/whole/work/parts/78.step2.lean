/-! ===== simple steps ===== -/
theorem n2_X12_need {h : PH} {w s : Int32} (hL : px_L h) (hv : ¬ (¬ w < 0 ∧ ¬ 5 < w ∧ ¬ s < 0 ∧ s ≤ 60000)) : PM M_X12_need [.ref 36, .int w, .int s] h (some (.int 0)) (th0 h) := by
  refine PM.of (by decide +kernel) (by decide +kernel) (Nat.le_refl _) (Nat.le_refl _) (Nat.le_of_ble_eq_true rfl) ?_
  refine px_aload_n d_X12_need_0 rfl rfl ?_
  refine px_iconst (v := 0) d_X12_need_1 (by decide) ?_
  refine px_putI d_X12_need_2 fl_X12_150 rfl (so36 hL) ?_
  refine px_iload_n d_X12_need_5 rfl rfl ?_
  refine px_if_lt (tgt := 25) d_X12_need_6 (by decide) (fun c6 => ?_) (fun c6 => ?_)
  · refine px_iconst (v := 0) d_X12_need_25 (by decide) ?_
    exact px_ireturn d_X12_need_26 rfl rfl ⟨rfl, rfl, rfl⟩
  · refine px_iload_n d_X12_need_9 rfl rfl ?_
    refine px_iconst (v := 5) d_X12_need_10 (by decide) ?_
    refine px_icmp_gt (tgt := 25) d_X12_need_11 (by decide) (fun c11 => ?_) (fun c11 => ?_)
    · refine px_iconst (v := 0) d_X12_need_25 (by decide) ?_
      exact px_ireturn d_X12_need_26 rfl rfl ⟨rfl, rfl, rfl⟩
    · refine px_iload_n d_X12_need_14 rfl rfl ?_
      refine px_if_lt (tgt := 25) d_X12_need_15 (by decide) (fun c15 => ?_) (fun c15 => ?_)
      · refine px_iconst (v := 0) d_X12_need_25 (by decide) ?_
        exact px_ireturn d_X12_need_26 rfl rfl ⟨rfl, rfl, rfl⟩
      · refine px_iload_n d_X12_need_18 rfl rfl ?_
        refine px_ldcw d_X12_need_19 ck_X12_314 ?_
        refine px_icmp_le (tgt := 27) d_X12_need_22 (by decide) (fun c22 => ?_) (fun c22 => ?_)
        · exact absurd ⟨c6, c11, c15, c22⟩ hv
        · refine px_iconst (v := 0) d_X12_need_25 (by decide) ?_
          exact px_ireturn d_X12_need_26 rfl rfl ⟨rfl, rfl, rfl⟩
theorem n2_X4_setNeed {h : PH} {w s : Int32} (hL : px_L h) (hv : ¬ (¬ w < 0 ∧ ¬ 6 ≤ w ∧ ¬ s < 0 ∧ s ≤ 60000)) : PM M_X4_setNeed [.ref 30, .int w, .int s] h (some (.int 0)) h := by
  refine PM.of (by decide +kernel) (by decide +kernel) (Nat.le_refl _) (Nat.le_refl _) (Nat.le_of_ble_eq_true rfl) ?_
  refine px_iload_n d_X4_setNeed_0 rfl rfl ?_
  refine px_if_lt (tgt := 20) d_X4_setNeed_1 (by decide) (fun c1 => ?_) (fun c1 => ?_)
  · refine px_iconst (v := 0) d_X4_setNeed_20 (by decide) ?_
    exact px_ireturn d_X4_setNeed_21 rfl rfl ⟨rfl, rfl, rfl⟩
  · refine px_iload_n d_X4_setNeed_4 rfl rfl ?_
    refine px_bipush (v := 6) d_X4_setNeed_5 (by decide) ?_
    refine px_icmp_ge (tgt := 20) d_X4_setNeed_7 (by decide) (fun c7 => ?_) (fun c7 => ?_)
    · refine px_iconst (v := 0) d_X4_setNeed_20 (by decide) ?_
      exact px_ireturn d_X4_setNeed_21 rfl rfl ⟨rfl, rfl, rfl⟩
    · refine px_iload_n d_X4_setNeed_10 rfl rfl ?_
      refine px_if_lt (tgt := 20) d_X4_setNeed_11 (by decide) (fun c11 => ?_) (fun c11 => ?_)
      · refine px_iconst (v := 0) d_X4_setNeed_20 (by decide) ?_
        exact px_ireturn d_X4_setNeed_21 rfl rfl ⟨rfl, rfl, rfl⟩
      · refine px_iload_n d_X4_setNeed_14 rfl rfl ?_
        refine px_ldc d_X4_setNeed_15 ck_X4_40 ?_
        refine px_icmp_le (tgt := 22) d_X4_setNeed_17 (by decide) (fun c17 => ?_) (fun c17 => ?_)
        · exact absurd ⟨c1, c7, c11, c17⟩ hv
        · refine px_iconst (v := 0) d_X4_setNeed_20 (by decide) ?_
          exact px_ireturn d_X4_setNeed_21 rfl rfl ⟨rfl, rfl, rfl⟩
theorem n2_X11_need {h : PH} {w s : Int32} (hL : px_L h) (hv : ¬ (¬ w < 0 ∧ ¬ 6 ≤ w ∧ ¬ s < 0 ∧ s ≤ 60000)) : PM M_X11_need [.ref 0, .int w, .int s] h (some (.int 0)) h := by
  refine PM.of (by decide +kernel) (by decide +kernel) (Nat.le_refl _) (Nat.le_refl _) (Nat.le_of_ble_eq_true rfl) ?_
  refine px_aload_n d_X11_need_0 rfl rfl ?_
  refine px_getR d_X11_need_1 fl_X11_76 (by decide) (so0 hL) (sr0_9 hL) ?_
  refine px_iload_n d_X11_need_4 rfl rfl ?_
  refine px_iload_n d_X11_need_5 rfl rfl ?_
  refine px_callV (n2_X4_setNeed hL hv) d_X11_need_6 lk_X11_222 ok_X4_setNeed ov_X4_setNeed (so30 hL) (by decide) rfl rfl (Nat.le_of_ble_eq_true rfl) (by decide) ⟨Nat.le_refl _, Nat.le_refl _⟩ ?_
  exact px_ireturn d_X11_need_9 rfl rfl ⟨rfl, rfl, rfl⟩
theorem n2_X11_post {h : PH} {b d s : Int32} (hL : px_L h) {m : Nat} (hm : hI h 0 10 = nI m) (hm2 : m ≤ 20) {j r : Nat} (hj : j < m) (hr : hR h 1 j = some r) (hv : ¬ ((¬ b < 0 ∧ b < 4) ∧ (¬ d < 0 ∧ ¬ hI h 0 11 < d) ∧ ¬ s = 0 ∧ ¬ s < -100000 ∧ ¬ 100000 < s ∧ hI h 2 4 < 400)) : PM M_X11_post [.ref 0, .int (nI j), .int b, .int d, .int s] h (some (.int (-1))) h := by
  refine PM.of (by decide +kernel) (by decide +kernel) (Nat.le_refl _) (Nat.le_refl _) (Nat.le_of_ble_eq_true rfl) ?_
  refine px_aload_n d_X11_post_0 rfl rfl ?_
  refine px_iload_n d_X11_post_1 rfl rfl ?_
  refine px_callV (c_X11_accountOf hL hm hm2 hj hr) d_X11_post_2 lk_X11_94 ok_X11_accountOf ov_X11_accountOf (so0 hL) (by decide) rfl rfl (Nat.le_of_ble_eq_true rfl) (by decide) ⟨Nat.le_refl _, Nat.le_refl _⟩ ?_
  refine px_ifnull d_X11_post_5 ?_
  refine px_iload_n d_X11_post_8 rfl rfl ?_
  refine px_callS (c_X11_isBranch) d_X11_post_9 lk_X11_98 ok_X11_isBranch os_X11_isBranch rfl (Nat.le_of_ble_eq_true rfl) (by decide) ⟨Nat.le_refl _, Nat.le_refl _⟩ ?_
  refine px_if_eq (tgt := 23) d_X11_post_12 (by decide) (fun c12 => ?_) (fun c12 => ?_)
  · refine px_iconst (v := (-1)) d_X11_post_23 (by decide) ?_
    exact px_ireturn d_X11_post_24 rfl rfl ⟨rfl, rfl, rfl⟩
  · refine px_aload_n d_X11_post_15 rfl rfl ?_
    refine px_iload_n d_X11_post_16 rfl rfl ?_
    refine px_callV (c_X11_isPassed hL) d_X11_post_17 lk_X11_101 ok_X11_isPassed ov_X11_isPassed (so0 hL) (by decide) rfl rfl (Nat.le_of_ble_eq_true rfl) (by decide) ⟨Nat.le_refl _, Nat.le_refl _⟩ ?_
    refine px_if_ne (tgt := 25) d_X11_post_20 (by decide) (fun c20 => ?_) (fun c20 => ?_)
    · refine px_iload d_X11_post_25 rfl ?_
      refine px_if_eq (tgt := 54) d_X11_post_27 (by decide) (fun c27 => ?_) (fun c27 => ?_)
      · refine px_iconst (v := (-1)) d_X11_post_54 (by decide) ?_
        exact px_ireturn d_X11_post_55 rfl rfl ⟨rfl, rfl, rfl⟩
      · refine px_iload d_X11_post_30 rfl ?_
        refine px_ldc d_X11_post_32 ck_X11_104 ?_
        refine px_icmp_lt (tgt := 54) d_X11_post_34 (by decide) (fun c34 => ?_) (fun c34 => ?_)
        · refine px_iconst (v := (-1)) d_X11_post_54 (by decide) ?_
          exact px_ireturn d_X11_post_55 rfl rfl ⟨rfl, rfl, rfl⟩
        · refine px_iload d_X11_post_37 rfl ?_
          refine px_ldc d_X11_post_39 ck_X11_105 ?_
          refine px_icmp_gt (tgt := 54) d_X11_post_41 (by decide) (fun c41 => ?_) (fun c41 => ?_)
          · refine px_iconst (v := (-1)) d_X11_post_54 (by decide) ?_
            exact px_ireturn d_X11_post_55 rfl rfl ⟨rfl, rfl, rfl⟩
          · refine px_aload_n d_X11_post_44 rfl rfl ?_
            refine px_getR d_X11_post_45 fl_X11_18 (by decide) (so0 hL) (sr0_1 hL) ?_
            refine px_callV (c_X2_isFull hL) d_X11_post_48 lk_X11_106 ok_X2_isFull ov_X2_isFull (so2 hL) (by decide) rfl rfl (Nat.le_of_ble_eq_true rfl) (by decide) ⟨Nat.le_refl _, Nat.le_refl _⟩ ?_
            refine px_if_eq (tgt := 56) d_X11_post_51 (by decide) (fun c51 => ?_) (fun c51 => ?_)
            · exact absurd ⟨bI_n.mp c12, bI_n.mp c20, c27, c34, c41, Classical.not_not.mp (bI_0.mp c51)⟩ hv
            · refine px_iconst (v := (-1)) d_X11_post_54 (by decide) ?_
              exact px_ireturn d_X11_post_55 rfl rfl ⟨rfl, rfl, rfl⟩
    · refine px_iconst (v := (-1)) d_X11_post_23 (by decide) ?_
      exact px_ireturn d_X11_post_24 rfl rfl ⟨rfl, rfl, rfl⟩
theorem n2_X12_post {h : PH} {a d s : Int32} {b : Int32} (hL : px_L h) (hv : ¬ ((¬ a < 0 ∧ ¬ hI h 36 27 ≤ a) ∧ ¬ b < 0 ∧ ¬ 3 < b ∧ ¬ d < 0 ∧ ¬ hI h 36 26 < d ∧ ¬ s = 0 ∧ ¬ s < -100000 ∧ ¬ 100000 < s ∧ ¬ hI h 36 32 = 400)) : PM M_X12_post [.ref 36, .int a, .int b, .int d, .int s] h (some (.int (-1))) (th0 h) := by
  refine PM.of (by decide +kernel) (by decide +kernel) (Nat.le_refl _) (Nat.le_refl _) (Nat.le_of_ble_eq_true rfl) ?_
  refine px_aload_n d_X12_post_0 rfl rfl ?_
  refine px_iconst (v := 0) d_X12_post_1 (by decide) ?_
  refine px_putI d_X12_post_2 fl_X12_150 rfl (so36 hL) ?_
  refine px_aload_n d_X12_post_5 rfl rfl ?_
  refine px_iload_n d_X12_post_6 rfl rfl ?_
  refine px_callV (c_X12_isAccount (h := th0 h) hL) d_X12_post_7 lk_X12_262 ok_X12_isAccount ov_X12_isAccount (so36 hL) (by decide) rfl rfl (Nat.le_of_ble_eq_true rfl) (by decide) ⟨Nat.le_refl _, Nat.le_refl _⟩ ?_
  refine px_if_eq (tgt := 65) d_X12_post_10 (by decide) (fun c10 => ?_) (fun c10 => ?_)
  · refine px_iconst (v := (-1)) d_X12_post_65 (by decide) ?_
    exact px_ireturn d_X12_post_66 rfl rfl ⟨rfl, rfl, rfl⟩
  · refine px_iload_n d_X12_post_13 rfl rfl ?_
    refine px_if_lt (tgt := 65) d_X12_post_14 (by decide) (fun c14 => ?_) (fun c14 => ?_)
    · refine px_iconst (v := (-1)) d_X12_post_65 (by decide) ?_
      exact px_ireturn d_X12_post_66 rfl rfl ⟨rfl, rfl, rfl⟩
    · refine px_iload_n d_X12_post_17 rfl rfl ?_
      refine px_iconst (v := 3) d_X12_post_18 (by decide) ?_
      refine px_icmp_gt (tgt := 65) d_X12_post_19 (by decide) (fun c19 => ?_) (fun c19 => ?_)
      · refine px_iconst (v := (-1)) d_X12_post_65 (by decide) ?_
        exact px_ireturn d_X12_post_66 rfl rfl ⟨rfl, rfl, rfl⟩
      · refine px_iload_n d_X12_post_22 rfl rfl ?_
        refine px_if_lt (tgt := 65) d_X12_post_23 (by decide) (fun c23 => ?_) (fun c23 => ?_)
        · refine px_iconst (v := (-1)) d_X12_post_65 (by decide) ?_
          exact px_ireturn d_X12_post_66 rfl rfl ⟨rfl, rfl, rfl⟩
        · refine px_iload_n d_X12_post_26 rfl rfl ?_
          refine px_aload_n d_X12_post_27 rfl rfl ?_
          refine px_getI d_X12_post_28 fl_X12_218 rfl (so36 hL) ?_
          refine px_icmp_gt (tgt := 65) d_X12_post_31 (by decide) (fun c31 => ?_) (fun c31 => ?_)
          · refine px_iconst (v := (-1)) d_X12_post_65 (by decide) ?_
            exact px_ireturn d_X12_post_66 rfl rfl ⟨rfl, rfl, rfl⟩
          · refine px_iload d_X12_post_34 rfl ?_
            refine px_if_eq (tgt := 65) d_X12_post_36 (by decide) (fun c36 => ?_) (fun c36 => ?_)
            · refine px_iconst (v := (-1)) d_X12_post_65 (by decide) ?_
              exact px_ireturn d_X12_post_66 rfl rfl ⟨rfl, rfl, rfl⟩
            · refine px_iload d_X12_post_39 rfl ?_
              refine px_ldcw d_X12_post_41 ck_X12_265 ?_
              refine px_icmp_lt (tgt := 65) d_X12_post_44 (by decide) (fun c44 => ?_) (fun c44 => ?_)
              · refine px_iconst (v := (-1)) d_X12_post_65 (by decide) ?_
                exact px_ireturn d_X12_post_66 rfl rfl ⟨rfl, rfl, rfl⟩
              · refine px_iload d_X12_post_47 rfl ?_
                refine px_ldcw d_X12_post_49 ck_X12_266 ?_
                refine px_icmp_gt (tgt := 65) d_X12_post_52 (by decide) (fun c52 => ?_) (fun c52 => ?_)
                · refine px_iconst (v := (-1)) d_X12_post_65 (by decide) ?_
                  exact px_ireturn d_X12_post_66 rfl rfl ⟨rfl, rfl, rfl⟩
                · refine px_aload_n d_X12_post_55 rfl rfl ?_
                  refine px_getI d_X12_post_56 fl_X12_259 rfl (so36 hL) ?_
                  refine px_sipush (v := 400) d_X12_post_59 (by decide) ?_
                  refine px_icmp_ne (tgt := 67) d_X12_post_62 (by decide) (fun c62 => ?_) (fun c62 => ?_)
                  · exact absurd ⟨bI_n.mp c10, c14, c19, c23, c31, c36, c44, c52, c62⟩ hv
                  · refine px_iconst (v := (-1)) d_X12_post_65 (by decide) ?_
                    exact px_ireturn d_X12_post_66 rfl rfl ⟨rfl, rfl, rfl⟩
/-- entries of the account up to a day, known up to a day: the first n -/
theorem STW.n {Mw Mm : px_M} {as bs : List Value} {h h1 h2 : PH} {v : Int32} (a : PXW Mw bs h 0 0 (wX (fun r g => r = some (.int v) ∧ g = h1))) (hL1 : px_L h1) (m : PM Mm (.ref 36 :: as) (pJ h1 77 0 v.toInt64) (some (.int v)) h2) (e2 : hn h2 = hn h1) (e3 : hs h2 = hs h1) (t : hI h2 36 0 = 0) (o : hJ h2 77 0 = v.toInt64) (i : INV h2) : STW Mw Mm as bs h := by
  refine ⟨0, 0, _, ⟨by omega, by omega⟩, a, fun r1 g q _ _ => ?_⟩
  obtain ⟨rfl, u, g', ⟨q1, rfl⟩, rfl⟩ := q
  injection q1 with q1
  injection q1 with q1
  subst q1
  refine ⟨hL1, 0, _, rfl, PM.toX (dn := 0) (ds := 0) (h' := h2) e2 e3 m, fun r2 g2 q2 => ?_⟩
  obtain ⟨rfl, rfl⟩ := q2
  exact ⟨u, rfl, t, fun _ => o, i⟩
theorem hI_pJ (g : PH) (a i : Nat) (v : Int64) (x : Nat) : hI (pJ g a i v) x = hI g x := rfl
theorem acc_N {a : Int32} {m : Nat} (hm : m ≤ 20) (h : ¬ a < 0 ∧ ¬ nI m ≤ a) : ∃ j, j < m ∧ a = nI j := by
  obtain ⟨j, hj, rfl⟩ := nI_of h.1
  exact ⟨j, Nat.lt_of_not_le fun z => h.2 (nI_le z hj), rfl⟩
theorem bra_N {b : Int32} : (¬ b < 0 ∧ b < 4) ↔ (¬ b < 0 ∧ ¬ 3 < b) := by
  constructor
  · rintro ⟨h1, h2⟩
    obtain ⟨j, hj, rfl⟩ := brN ⟨h1, h2⟩
    exact ⟨h1, fun z => absurd ((nI_ltI (a := 3) (by omega) (by omega)).mp z) (by omega)⟩
  · rintro ⟨h1, h2⟩
    obtain ⟨j, hj, rfl⟩ := nI_of h1
    exact ⟨h1, (nI_ltI (b := 4) hj (by decide)).mpr (Nat.lt_of_not_le fun z => h2 ((nI_ltI (a := 3) (by decide) hj).mpr (by omega)))⟩
section SIMPLE2
variable {h : PH}
theorem s_sold (i : INV h) (x : Int32) : ST M_X11_sold M_X12_sold [.int x] h := by
  obtain ⟨hL, w, -, ⟨n, pm, P, N, cH⟩, -⟩ := id i
  obtain ⟨⟨h1, h2, h3, h4, h5, h6⟩, h7, h8, h9⟩ := cH
  by_cases hv : ¬ x < 0 ∧ ¬ hI h 30 5 ≤ x
  · rw [h5] at hv
    obtain ⟨j, hj, rfl⟩ := acc_N (by omega) hv
    have m2 := c_X12_sold hL h6 h2 hj
    rw [← h9 j hj] at m2
    exact ST.m0 (c_X11_sold hL h5 h2 hj) rfl rfl hL m2 rfl rfl (i.all (AG.rf.I fun _ => rfl) w)
  · exact ST.m0 (n_X11_sold hL hv) rfl rfl hL (n_X12_sold hL (fun q => hv ⟨q.1, by rw [h5, ← h6]; exact Int32.not_le.mpr q.2⟩)) rfl rfl (i.all (AG.rf.I fun _ => rfl) w)
theorem s_need (i : INV h) (x s : Int32) : ST M_X11_need M_X12_need [.int x, .int s] h := by
  obtain ⟨hL, w, -, ⟨n, pm, P, N, cH⟩, -⟩ := id i
  obtain ⟨⟨h1, h2, h3, h4, h5, h6⟩, h7, h8, h9⟩ := cH
  by_cases hv : ¬ x < 0 ∧ ¬ 6 ≤ x ∧ ¬ s < 0 ∧ s ≤ 60000
  · obtain ⟨j, hj, rfl⟩ := nI_of hv.1
    have j6 : j < 6 := Nat.lt_of_not_le fun z => hv.2.1 (nI_le (a := 6) z hj)
    obtain ⟨v, hv6, rfl⟩ := nI_of hv.2.2.1
    have v6 : v ≤ 60000 := (nI_leI (b := 60000) hv6 (by decide)).mp hv.2.2.2
    have hv' : ¬ nI j < 0 ∧ ¬ 5 < nI j ∧ ¬ nI v < 0 ∧ nI v ≤ 60000 := ⟨hv.1, fun z => absurd ((nI_ltI (a := 5) (by decide) hj).mp z) (by omega), hv.2.2⟩
    have A : ∀ D E, D 33 j = false → D 36 0 = false → D 74 j = false → AG D E h (pI (th0 (pI h 33 j (nI v))) 74 j (nI v)) := fun D E a b c => ((AG.rf.I fun _ => a).I fun _ => b).I fun _ => c
    refine ST.m0 (c_X11_need hL rfl j6 hv) rfl rfl hL (c_X12_need (h := pI h 33 j (nI v)) hL rfl j6 hv') rfl rfl (i.ihl (A _ _ rfl rfl rfl) w ⟨n, pm, P, fun x => if x = j then v else N x, ⟨h1, h2, h3, h4, h5, h6⟩, h7, fun x hx => ?_, h9⟩)
    by_cases e : x = j
    · subst e
      simp only [if_true]
      refine ⟨v6, ?_, ?_⟩
      · simp [gI]
      · simp [gI]
    · simp only [if_neg e]
      refine ⟨(h8 x hx).1, ?_, ?_⟩
      · simp [gI, e]; exact (h8 x hx).2.1
      · simp [gI, e]; exact (h8 x hx).2.2
  · have hv' : ¬ (¬ x < 0 ∧ ¬ 5 < x ∧ ¬ s < 0 ∧ s ≤ 60000) := fun q => hv ⟨q.1, fun z => by
      obtain ⟨j, hj, rfl⟩ := nI_of q.1
      exact q.2.1 ((nI_ltI (a := 5) (by decide) hj).mpr (by have := (nI_leI (a := 6) (by decide) hj).mp z; omega)), q.2.2⟩
    exact ST.m0 (n2_X11_need hL hv) rfl rfl hL (n2_X12_need hL hv') rfl rfl (i.all (AG.rf.I fun _ => rfl) w)
theorem s_coin (i : INV h) (b : Int32) : STW M_L_coin M_X12_coin [.int b] [.ref 0, .int b, .ref 77] h := by
  obtain ⟨hL, w, ⟨t, ne, nn, nt, cC, cE, cO, cN, cT⟩, hH, hA⟩ := id i
  by_cases hv : ¬ b < 0 ∧ b < 4
  · obtain ⟨j, hj, rfl⟩ := brN hv
    refine STW.n (v := hI h 29 j) (h1 := h) (x_L_coin hL (PM.toX (dn := 0) (ds := 0) rfl rfl (c_X11_coin hL hj)) (fun r g q => ⟨_, q.1⟩) (fun r g q => by rw [q.2]; exact hL)) hL ?_ (h2 := pI (pJ h 77 0 (hI h 29 j).toInt64) 36 0 0) rfl rfl rfl rfl (i.all (AG.rf.J.I fun _ => rfl) w)
    have m := c_X12_coin (h := pJ h 77 0 (hI h 29 j).toInt64) hL hj
    have e : hI (pJ h 77 0 (hI h 29 j).toInt64) 63 j = hI h 29 j := (cO.2 j hj).symm
    rw [e] at m
    exact m
  · exact STW.t i (t_L_coin hL (t_X11_coin hv)) (fun g hg _ _ => n_X12_coin hg (fun q => hv (bra_N.mpr q)))
theorem s_night (i : INV h) (b c : Int32) : STW M_L_night M_X12_night [.int b, .int c] [.ref 0, .int b, .int c, .ref 77] h := by
  obtain ⟨hL, w, ⟨t, ne, nn, nt, cC, cE, cO, cN, cT⟩, hH, hA⟩ := id i
  by_cases hv : (¬ b < 0 ∧ b < 4) ∧ ¬ c < 0 ∧ c ≤ 10000000
  · obtain ⟨j, hj, rfl⟩ := brN hv.1
    have m := c_X12_night (h := pJ (pI (pI h 29 j c) 28 1 (hI h 28 1 + (c - hI h 29 j))) 77 0 (c - hI h 29 j).toInt64) hL hj (c := c) ⟨hv.2.1, Int32.not_lt.mpr hv.2.2⟩
    have e : hI (pJ (pI (pI h 29 j c) 28 1 (hI h 28 1 + (c - hI h 29 j))) 77 0 (c - hI h 29 j).toInt64) 63 j = hI h 29 j := (cO.2 j hj).symm
    have e2 : hI (pJ (pI (pI h 29 j c) 28 1 (hI h 28 1 + (c - hI h 29 j))) 77 0 (c - hI h 29 j).toInt64) 36 48 = hI h 28 1 := cO.1.symm
    rw [e, e2] at m
    refine STW.n (x_L_night hL (PM.toX (dn := 0) (ds := 0) (h' := pI (pI h 29 j c) 28 1 (hI h 28 1 + (c - hI h 29 j))) rfl rfl (c_X11_night hL hj hv.2)) (fun r g q => ⟨_, q.1⟩) (fun r g q => by rw [q.2]; exact hL)) hL m rfl rfl rfl rfl ?_
    have A : ∀ D E, D 29 j = false → D 28 1 = false → D 36 0 = false → D 63 j = false → D 36 48 = false → AG D E h (pI (pI (pI (pJ (pI (pI h 29 j c) 28 1 (hI h 28 1 + (c - hI h 29 j))) 77 0 (c - hI h 29 j).toInt64) 36 0 0) 63 j c) 36 48 (hI h 28 1 + (c - hI h 29 j))) := fun D E a1 a2 a3 a4 a5 => ((((AG.rf.I fun _ => a1).I fun _ => a2).J.I fun _ => a3).I fun _ => a4).I fun _ => a5
    refine i.icl (A _ _ rfl rfl rfl rfl rfl) w ⟨t, ne, nn, nt, cC.ag hL (A _ _ rfl rfl rfl rfl rfl), cE.ag hL (A _ _ rfl rfl rfl rfl rfl), ⟨rfl, fun x hx => ?_⟩, cN.ag hL (A _ _ rfl rfl rfl rfl rfl), cT.ag hL (A _ _ rfl rfl rfl rfl rfl)⟩
    by_cases q : x = j
    · subst q; simp [gI, pJ, hI, pI, up2]
    · have := cO.2 x hx
      simp only [gI, hI_pJ]
      simp [q]
      exact this
  · exact STW.t i (t_L_night hL (t_X11_night hv)) (fun g hg _ _ => n_X12_night hg (fun q => hv ⟨bra_N.mpr ⟨q.1, q.2.1⟩, q.2.2.1, Int32.not_lt.mp q.2.2.2⟩))
theorem s_feed (i : INV h) (a b c : Int64) : ST M_X11_feed M_X12_feed [.long a, .long b, .long c] h := by
  obtain ⟨hL, w, ⟨t, ne, nn, nt, cC, cE, cO, cN, cT⟩, hH, hA⟩ := id i
  obtain ⟨n6, t1, t2, t3⟩ := id cT
  have m1 := c_X11_feed hL t1 n6 (a := a) (b := b) (c := c)
  have m2 := c_X12_feed (h := tapC h (lay3 (byC a) (byC b) (byC c) (hI h 8, nt))) hL (n := nt) (show hI h 36 2 = nI nt from t2) n6 (a := a) (b := b) (c := c)
  have e : lay3 (byM a) (byM b) (byM c) (hI (tapC h (lay3 (byC a) (byC b) (byC c) (hI h 8, nt))) 37, nt) = lay3 (byC a) (byC b) (byC c) (hI h 8, nt) := by
    rw [t3, lay3_E]
    rfl
  rw [e] at m2
  generalize hs : lay3 (byC a) (byC b) (byC c) (hI h 8, nt) = s at m1 m2
  have A : ∀ D E, (∀ j, D 8 j = false) → D 7 1 = false → D 36 0 = false → (∀ j, D 37 j = false) → D 36 2 = false → AG D E h (tapM (pI (tapC h s) 36 0 0) s) := fun D E a1 a2 a3 a4 a5 => (((((AG.rf).r a1).I fun _ => a2).I fun _ => a3).r a4).I fun _ => a5
  refine ST.m0 m1 rfl rfl hL m2 rfl rfl (i.icl (A _ _ (fun _ => rfl) rfl rfl (fun _ => rfl) rfl) w ⟨t, ne, nn, s.2, cC.ag hL (A _ _ (fun _ => rfl) rfl rfl (fun _ => rfl) rfl), cE.ag hL (A _ _ (fun _ => rfl) rfl rfl (fun _ => rfl) rfl), cO.ag hL (A _ _ (fun _ => rfl) rfl rfl (fun _ => rfl) rfl), cN.ag hL (A _ _ (fun _ => rfl) rfl rfl (fun _ => rfl) rfl), ⟨?_, rfl, rfl, rfl⟩⟩)
  rw [← hs]
  exact lay3_le n6
end SIMPLE2
