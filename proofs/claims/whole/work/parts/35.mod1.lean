abbrev th0 (h : PH) : PH := pI h 36 0 0
theorem px_L.t {h : PH} (hL : px_L h) : px_L (th0 h) := hL
theorem c_X12_days {h : PH} {d : Int32} (hL : px_L h) (hv : ¬ d < 0 ∧ ¬ 200 < d ∧ hI h 36 26 + d ≤ 719) : PM M_X12_days [.ref 36, .int d] h (some (.int (hI h 36 26 + d))) (pI (th0 h) 36 26 (hI h 36 26 + d)) := by
  refine PM.of (by decide +kernel) (by decide +kernel) (Nat.le_refl _) (Nat.le_refl _) (Nat.le_of_ble_eq_true rfl) ?_
  refine px_aload_n d_X12_days_0 rfl rfl ?_
  refine px_iconst (v := 0) d_X12_days_1 (by decide) ?_
  refine px_putI d_X12_days_2 fl_X12_150 rfl (so36 hL) ?_
  refine px_iload_n d_X12_days_5 rfl rfl ?_
  refine px_if_lt (tgt := 28) d_X12_days_6 (by decide) (fun c6 => (by first | exact absurd c6 hv.1 | exact (c6 hv.1).elim)) (fun c6 => ?_)
  refine px_iload_n d_X12_days_9 rfl rfl ?_
  refine px_sipush (v := 200) d_X12_days_10 (by decide) ?_
  refine px_icmp_gt (tgt := 28) d_X12_days_13 (by decide) (fun c13 => (by first | exact absurd c13 hv.2.1 | exact (c13 hv.2.1).elim)) (fun c13 => ?_)
  refine px_aload_n d_X12_days_16 rfl rfl ?_
  refine px_getI d_X12_days_17 fl_X12_218 rfl (so36 hL) ?_
  refine px_iload_n d_X12_days_20 rfl rfl ?_
  refine px_iadd d_X12_days_21 ?_
  refine px_sipush (v := 719) d_X12_days_22 (by decide) ?_
  refine px_icmp_le (tgt := 30) d_X12_days_25 (by decide) (fun c25 => ?_) (fun c25 => (by first | exact absurd c25 hv.2.2 | exact (c25 hv.2.2).elim))
  refine px_aload_n d_X12_days_30 rfl rfl ?_
  refine px_dup d_X12_days_31 rfl ?_
  refine px_getI d_X12_days_32 fl_X12_218 rfl (so36 hL) ?_
  refine px_iload_n d_X12_days_35 rfl rfl ?_
  refine px_iadd d_X12_days_36 ?_
  refine px_putI d_X12_days_37 fl_X12_218 rfl (so36 hL) ?_
  refine px_aload_n d_X12_days_40 rfl rfl ?_
  refine px_getI d_X12_days_41 fl_X12_218 rfl (so36 hL) ?_
  exact px_ireturn d_X12_days_44 rfl rfl ⟨rfl, rfl, rfl⟩
theorem n_X12_days {h : PH} {d : Int32} (hL : px_L h) (hv : ¬ (¬ d < 0 ∧ ¬ 200 < d ∧ hI h 36 26 + d ≤ 719)) : PM M_X12_days [.ref 36, .int d] h (some (.int (-1))) (th0 h) := by
  refine PM.of (by decide +kernel) (by decide +kernel) (Nat.le_refl _) (Nat.le_refl _) (Nat.le_of_ble_eq_true rfl) ?_
  refine px_aload_n d_X12_days_0 rfl rfl ?_
  refine px_iconst (v := 0) d_X12_days_1 (by decide) ?_
  refine px_putI d_X12_days_2 fl_X12_150 rfl (so36 hL) ?_
  refine px_iload_n d_X12_days_5 rfl rfl ?_
  refine px_if_lt (tgt := 28) d_X12_days_6 (by decide) (fun c6 => ?_) (fun c6 => ?_)
  · refine px_iconst (v := (-1)) d_X12_days_28 (by decide) ?_
    exact px_ireturn d_X12_days_29 rfl rfl ⟨rfl, rfl, rfl⟩
  · refine px_iload_n d_X12_days_9 rfl rfl ?_
    refine px_sipush (v := 200) d_X12_days_10 (by decide) ?_
    refine px_icmp_gt (tgt := 28) d_X12_days_13 (by decide) (fun c13 => ?_) (fun c13 => ?_)
    · refine px_iconst (v := (-1)) d_X12_days_28 (by decide) ?_
      exact px_ireturn d_X12_days_29 rfl rfl ⟨rfl, rfl, rfl⟩
    · refine px_aload_n d_X12_days_16 rfl rfl ?_
      refine px_getI d_X12_days_17 fl_X12_218 rfl (so36 hL) ?_
      refine px_iload_n d_X12_days_20 rfl rfl ?_
      refine px_iadd d_X12_days_21 ?_
      refine px_sipush (v := 719) d_X12_days_22 (by decide) ?_
      refine px_icmp_le (tgt := 30) d_X12_days_25 (by decide) (fun c25 => ?_) (fun c25 => ?_)
      · exact absurd ⟨c6, c13, c25⟩ hv
      · refine px_iconst (v := (-1)) d_X12_days_28 (by decide) ?_
        exact px_ireturn d_X12_days_29 rfl rfl ⟨rfl, rfl, rfl⟩
def moEnt (h : PH) (n : Nat) (a : Int32) (b : Nat) (d s : Int32) : PH := pI (pI (pI (pI (pI (pI h 59 n a) 60 n d) 61 n s) 62 n (hI h 36 26)) 63 b (hI h 63 b + s)) 36 32 (nI (n + 1))
theorem c_X12_posts {h : PH} (hL : px_L h) {n b : Nat} (hs1 : hI h 36 32 = nI n) (hn4 : n < 400) (hb : b < 4) {a d s : Int32} : PM M_X12_posts [.ref 36, .int a, .int (nI b), .int d, .int s] h none (moEnt h n a b d s) := by
  refine PM.of (by decide +kernel) (by decide +kernel) (Nat.le_refl _) (Nat.le_refl _) (Nat.le_of_ble_eq_true rfl) ?_
  refine px_aload_n d_X12_posts_0 rfl rfl ?_
  refine px_getR d_X12_posts_1 fl_X12_96 (by decide) (so36 hL) (sr36_33 hL) ?_
  refine px_aload_n d_X12_posts_4 rfl rfl ?_
  refine px_getI d_X12_posts_5 fl_X12_259 rfl (so36 hL) ?_
  refine px_iload_n d_X12_posts_8 rfl rfl ?_
  refine px_iast d_X12_posts_9 (sa59 hL) hs1 (by omega) ?_
  refine px_aload_n d_X12_posts_10 rfl rfl ?_
  refine px_getR d_X12_posts_11 fl_X12_99 (by decide) (so36 hL) (sr36_34 hL) ?_
  refine px_aload_n d_X12_posts_14 rfl rfl ?_
  refine px_getI d_X12_posts_15 fl_X12_259 rfl (so36 hL) ?_
  refine px_iload_n d_X12_posts_18 rfl rfl ?_
  refine px_iast d_X12_posts_19 (sa60 hL) hs1 (by omega) ?_
  refine px_aload_n d_X12_posts_20 rfl rfl ?_
  refine px_getR d_X12_posts_21 fl_X12_102 (by decide) (so36 hL) (sr36_35 hL) ?_
  refine px_aload_n d_X12_posts_24 rfl rfl ?_
  refine px_getI d_X12_posts_25 fl_X12_259 rfl (so36 hL) ?_
  refine px_iload d_X12_posts_28 rfl ?_
  refine px_iast d_X12_posts_30 (sa61 hL) hs1 (by omega) ?_
  refine px_aload_n d_X12_posts_31 rfl rfl ?_
  refine px_getR d_X12_posts_32 fl_X12_105 (by decide) (so36 hL) (sr36_36 hL) ?_
  refine px_aload_n d_X12_posts_35 rfl rfl ?_
  refine px_getI d_X12_posts_36 fl_X12_259 rfl (so36 hL) ?_
  refine px_aload_n d_X12_posts_39 rfl rfl ?_
  refine px_getI d_X12_posts_40 fl_X12_218 rfl (so36 hL) ?_
  refine px_iast d_X12_posts_43 (sa62 hL) hs1 (by omega) ?_
  refine px_aload_n d_X12_posts_44 rfl rfl ?_
  refine px_getR d_X12_posts_45 fl_X12_108 (by decide) (so36 hL) (sr36_37 hL) ?_
  refine px_iload_n d_X12_posts_48 rfl rfl ?_
  refine px_dup2 d_X12_posts_49 rfl rfl ?_
  refine px_iald d_X12_posts_50 (sa63 hL) rfl (by omega) ?_
  refine px_iload d_X12_posts_51 rfl ?_
  refine px_iadd d_X12_posts_53 ?_
  refine px_iast d_X12_posts_54 (sa63 hL) rfl (by omega) ?_
  refine px_aload_n d_X12_posts_55 rfl rfl ?_
  refine px_dup d_X12_posts_56 rfl ?_
  refine px_getI d_X12_posts_57 fl_X12_259 rfl (so36 hL) ?_
  refine px_iconst (v := 1) d_X12_posts_60 (by decide) ?_
  refine px_iadd d_X12_posts_61 ?_
  refine px_val (y := nI (n + 1)) (by rw [← nI_s1]; exact congrArg (· + 1) hs1) ?_
  refine px_putI d_X12_posts_62 fl_X12_259 rfl (so36 hL) ?_
  exact px_return d_X12_posts_65 rfl ⟨rfl, rfl, rfl⟩
theorem c_X12_post {h : PH} {a d s : Int32} {n b0 : Nat} {b : Int32} (hL : px_L h) (hs1 : hI h 36 32 = nI n) (hn4 : n ≤ 400) (hb0 : b = nI b0) (hb5 : ¬ b < 0 → ¬ 3 < b → b0 < 4) (hv : (¬ a < 0 ∧ ¬ hI h 36 27 ≤ a) ∧ ¬ b < 0 ∧ ¬ 3 < b ∧ ¬ d < 0 ∧ ¬ hI h 36 26 < d ∧ ¬ s = 0 ∧ ¬ s < -100000 ∧ ¬ 100000 < s ∧ ¬ hI h 36 32 = 400) : PM M_X12_post [.ref 36, .int a, .int b, .int d, .int s] h (some (.int (nI n))) (moEnt (th0 h) n a b0 d s) := by
  have hn5 : n < 400 := by
    have h1 : ¬ nI n = 400 := by rw [← hs1]; exact hv.2.2.2.2.2.2.2.2
    rcases Nat.lt_or_ge n 400 with q | q
    · exact q
    · exact absurd (by rw [show n = 400 by omega]; decide) h1
  have hb4 : b0 < 4 := hb5 hv.2.1 hv.2.2.1
  refine PM.of (by decide +kernel) (by decide +kernel) (Nat.le_refl _) (Nat.le_refl _) (Nat.le_of_ble_eq_true rfl) ?_
  refine px_aload_n d_X12_post_0 rfl rfl ?_
  refine px_iconst (v := 0) d_X12_post_1 (by decide) ?_
  refine px_putI d_X12_post_2 fl_X12_150 rfl (so36 hL) ?_
  refine px_aload_n d_X12_post_5 rfl rfl ?_
  refine px_iload_n d_X12_post_6 rfl rfl ?_
  refine px_callV (c_X12_isAccount (h := th0 h) hL) d_X12_post_7 lk_X12_262 ok_X12_isAccount ov_X12_isAccount (so36 hL) (by decide) rfl rfl (Nat.le_of_ble_eq_true rfl) (by decide) ⟨Nat.le_refl _, Nat.le_refl _⟩ ?_
  refine px_if_eq (tgt := 65) d_X12_post_10 (by decide) (fun c10 => (by first | exact absurd c10 (bI_n.mpr hv.1) | exact (c10 (bI_n.mpr hv.1)).elim)) (fun c10 => ?_)
  refine px_iload_n d_X12_post_13 rfl rfl ?_
  refine px_if_lt (tgt := 65) d_X12_post_14 (by decide) (fun c14 => (by first | exact absurd c14 hv.2.1 | exact (c14 hv.2.1).elim)) (fun c14 => ?_)
  refine px_iload_n d_X12_post_17 rfl rfl ?_
  refine px_iconst (v := 3) d_X12_post_18 (by decide) ?_
  refine px_icmp_gt (tgt := 65) d_X12_post_19 (by decide) (fun c19 => (by first | exact absurd c19 hv.2.2.1 | exact (c19 hv.2.2.1).elim)) (fun c19 => ?_)
  refine px_iload_n d_X12_post_22 rfl rfl ?_
  refine px_if_lt (tgt := 65) d_X12_post_23 (by decide) (fun c23 => (by first | exact absurd c23 hv.2.2.2.1 | exact (c23 hv.2.2.2.1).elim)) (fun c23 => ?_)
  refine px_iload_n d_X12_post_26 rfl rfl ?_
  refine px_aload_n d_X12_post_27 rfl rfl ?_
  refine px_getI d_X12_post_28 fl_X12_218 rfl (so36 hL) ?_
  refine px_icmp_gt (tgt := 65) d_X12_post_31 (by decide) (fun c31 => (by first | exact absurd c31 hv.2.2.2.2.1 | exact (c31 hv.2.2.2.2.1).elim)) (fun c31 => ?_)
  refine px_iload d_X12_post_34 rfl ?_
  refine px_if_eq (tgt := 65) d_X12_post_36 (by decide) (fun c36 => (by first | exact absurd c36 hv.2.2.2.2.2.1 | exact (c36 hv.2.2.2.2.2.1).elim)) (fun c36 => ?_)
  refine px_iload d_X12_post_39 rfl ?_
  refine px_ldcw d_X12_post_41 ck_X12_265 ?_
  refine px_icmp_lt (tgt := 65) d_X12_post_44 (by decide) (fun c44 => (by first | exact absurd c44 hv.2.2.2.2.2.2.1 | exact (c44 hv.2.2.2.2.2.2.1).elim)) (fun c44 => ?_)
  refine px_iload d_X12_post_47 rfl ?_
  refine px_ldcw d_X12_post_49 ck_X12_266 ?_
  refine px_icmp_gt (tgt := 65) d_X12_post_52 (by decide) (fun c52 => (by first | exact absurd c52 hv.2.2.2.2.2.2.2.1 | exact (c52 hv.2.2.2.2.2.2.2.1).elim)) (fun c52 => ?_)
  refine px_aload_n d_X12_post_55 rfl rfl ?_
  refine px_getI d_X12_post_56 fl_X12_259 rfl (so36 hL) ?_
  refine px_sipush (v := 400) d_X12_post_59 (by decide) ?_
  refine px_icmp_ne (tgt := 67) d_X12_post_62 (by decide) (fun c62 => ?_) (fun c62 => (by first | exact absurd c62 hv.2.2.2.2.2.2.2.2 | exact (c62 hv.2.2.2.2.2.2.2.2).elim))
  refine px_aload_n d_X12_post_67 rfl rfl ?_
  refine px_iload_n d_X12_post_68 rfl rfl ?_
  refine px_iload_n d_X12_post_69 rfl rfl ?_
  refine px_iload_n d_X12_post_70 rfl rfl ?_
  refine px_iload d_X12_post_71 rfl ?_
  subst hb0
  refine px_callV (c_X12_posts (h := th0 h) hL hs1 hn5 hb4) d_X12_post_73 lk_X12_267 ok_X12_posts ov_X12_posts (so36 hL) (by decide) rfl rfl (Nat.le_of_ble_eq_true rfl) (by decide) ⟨Nat.le_refl _, Nat.le_refl _⟩ ?_
  refine px_aload_n d_X12_post_76 rfl rfl ?_
  refine px_getI d_X12_post_77 fl_X12_259 rfl (so36 hL) ?_
  refine px_iconst (v := 1) d_X12_post_80 (by decide) ?_
  refine px_isub d_X12_post_81 ?_
  exact px_ireturn d_X12_post_82 rfl rfl ⟨rfl, px_si (by rw [show hI (moEnt (th0 h) n a b0 d s) 36 32 = nI (n + 1) from gI_s _ _ _ _]; exact nI_pred n), rfl⟩
theorem n_X12_post {h : PH} {a d s : Int32} {n b0 : Nat} {b : Int32} (hL : px_L h) (hs1 : hI h 36 32 = nI n) (hn4 : n ≤ 400) (hb0 : b = nI b0) (hb5 : ¬ b < 0 → ¬ 3 < b → b0 < 4) (hv : ¬ ((¬ a < 0 ∧ ¬ hI h 36 27 ≤ a) ∧ ¬ b < 0 ∧ ¬ 3 < b ∧ ¬ d < 0 ∧ ¬ hI h 36 26 < d ∧ ¬ s = 0 ∧ ¬ s < -100000 ∧ ¬ 100000 < s ∧ ¬ hI h 36 32 = 400)) : PM M_X12_post [.ref 36, .int a, .int b, .int d, .int s] h (some (.int (-1))) (th0 h) := by
  refine PM.of (by decide +kernel) (by decide +kernel) (Nat.le_refl _) (Nat.le_refl _) (Nat.le_of_ble_eq_true rfl) ?_
  refine px_aload_n d_X12_post_0 rfl rfl ?_
  refine px_iconst (v := 0) d_X12_post_1 (by decide) ?_
  refine px_putI d_X12_post_2 fl_X12_150 rfl (so36 hL) ?_
  refine px_aload_n d_X12_post_5 rfl rfl ?_
  refine px_iload_n d_X12_post_6 rfl rfl ?_
  refine px_callV (c_X12_isAccount (h := th0 h) hL) d_X12_post_7 lk_X12_262 ok_X12_isAccount ov_X12_isAccount (so36 hL) (by decide) rfl rfl (Nat.le_of_ble_eq_true rfl) (by decide) ⟨Nat.le_refl _, Nat.le_refl _⟩ ?_
  refine px_if_eq (tgt := 65) d_X12_post_10 (by decide) (fun c10 => ?_) (fun c10 => ?_)
  · refine px_iconst (v := (-1)) d_X12_post_65 (by decide) ?_
    exact px_ireturn d_X12_post_66 rfl rfl ⟨rfl, rfl, rfl⟩
  · refine px_iload_n d_X12_post_13 rfl rfl ?_
    refine px_if_lt (tgt := 65) d_X12_post_14 (by decide) (fun c14 => ?_) (fun c14 => ?_)
    · refine px_iconst (v := (-1)) d_X12_post_65 (by decide) ?_
      exact px_ireturn d_X12_post_66 rfl rfl ⟨rfl, rfl, rfl⟩
    · refine px_iload_n d_X12_post_17 rfl rfl ?_
      refine px_iconst (v := 3) d_X12_post_18 (by decide) ?_
      refine px_icmp_gt (tgt := 65) d_X12_post_19 (by decide) (fun c19 => ?_) (fun c19 => ?_)
      · refine px_iconst (v := (-1)) d_X12_post_65 (by decide) ?_
        exact px_ireturn d_X12_post_66 rfl rfl ⟨rfl, rfl, rfl⟩
      · refine px_iload_n d_X12_post_22 rfl rfl ?_
        refine px_if_lt (tgt := 65) d_X12_post_23 (by decide) (fun c23 => ?_) (fun c23 => ?_)
        · refine px_iconst (v := (-1)) d_X12_post_65 (by decide) ?_
          exact px_ireturn d_X12_post_66 rfl rfl ⟨rfl, rfl, rfl⟩
        · refine px_iload_n d_X12_post_26 rfl rfl ?_
          refine px_aload_n d_X12_post_27 rfl rfl ?_
          refine px_getI d_X12_post_28 fl_X12_218 rfl (so36 hL) ?_
          refine px_icmp_gt (tgt := 65) d_X12_post_31 (by decide) (fun c31 => ?_) (fun c31 => ?_)
          · refine px_iconst (v := (-1)) d_X12_post_65 (by decide) ?_
            exact px_ireturn d_X12_post_66 rfl rfl ⟨rfl, rfl, rfl⟩
          · refine px_iload d_X12_post_34 rfl ?_
            refine px_if_eq (tgt := 65) d_X12_post_36 (by decide) (fun c36 => ?_) (fun c36 => ?_)
            · refine px_iconst (v := (-1)) d_X12_post_65 (by decide) ?_
              exact px_ireturn d_X12_post_66 rfl rfl ⟨rfl, rfl, rfl⟩
            · refine px_iload d_X12_post_39 rfl ?_
              refine px_ldcw d_X12_post_41 ck_X12_265 ?_
              refine px_icmp_lt (tgt := 65) d_X12_post_44 (by decide) (fun c44 => ?_) (fun c44 => ?_)
              · refine px_iconst (v := (-1)) d_X12_post_65 (by decide) ?_
                exact px_ireturn d_X12_post_66 rfl rfl ⟨rfl, rfl, rfl⟩
              · refine px_iload d_X12_post_47 rfl ?_
                refine px_ldcw d_X12_post_49 ck_X12_266 ?_
                refine px_icmp_gt (tgt := 65) d_X12_post_52 (by decide) (fun c52 => ?_) (fun c52 => ?_)
                · refine px_iconst (v := (-1)) d_X12_post_65 (by decide) ?_
                  exact px_ireturn d_X12_post_66 rfl rfl ⟨rfl, rfl, rfl⟩
                · refine px_aload_n d_X12_post_55 rfl rfl ?_
                  refine px_getI d_X12_post_56 fl_X12_259 rfl (so36 hL) ?_
                  refine px_sipush (v := 400) d_X12_post_59 (by decide) ?_
                  refine px_icmp_ne (tgt := 67) d_X12_post_62 (by decide) (fun c62 => ?_) (fun c62 => ?_)
                  · exact absurd ⟨bI_n.mp c10, c14, c19, c23, c31, c36, c44, c52, c62⟩ hv
                  · refine px_iconst (v := (-1)) d_X12_post_65 (by decide) ?_
                    exact px_ireturn d_X12_post_66 rfl rfl ⟨rfl, rfl, rfl⟩
/-- entries of the account up to a day, known up to a day: the first n -/
def eTo (ac dy sm kn : Nat → Int32) (a d k : Int32) : Nat → Int32
  | 0 => 0
  | n + 1 => eTo ac dy sm kn a d k n + (if ac n = a ∧ ¬ d < dy n ∧ ¬ k < kn n then sm n else 0)
def drN (ac dy sm : Nat → Int32) (a d : Int32) : Nat → Int32
  | 0 => 0
  | n + 1 => drN ac dy sm a d n + (if ac n = a ∧ dy n = d ∧ ¬ 0 ≤ sm n then - sm n else 0)
theorem lp_X12_entriesTo {h : PH} (hL : px_L h) {n : Nat} (hs1 : hI h 36 32 = nI n) (hn4 : n ≤ 400) {a d kn : Int32} : ∀ (k : Nat) (i : Nat), i + k = n → PW M_X12_entriesTo (hn h) (hs h) (PMpost (some (.int (eTo (hI h 59) (hI h 60) (hI h 61) (hI h 62) a d kn n))) h) 6 [(0, .ref 36), (1, .int a), (2, .int d), (3, .int kn), (4, .int (eTo (hI h 59) (hI h 60) (hI h 61) (hI h 62) a d kn (i))), (5, .int (nI (i)))] [] h := by
  intro k
  induction k with
  | zero =>
    intro i hi
    have e : i = n := by omega
    subst e
    refine px_iload d_X12_entriesTo_6 rfl ?_
    refine px_aload_n d_X12_entriesTo_8 rfl rfl ?_
    refine px_getI d_X12_entriesTo_9 fl_X12_259 rfl (so36 hL) ?_
    refine px_icmp_ge (tgt := 70) d_X12_entriesTo_12 (by decide) (fun c12 => ?_) (fun c12 => (c12 (by rw [hs1]; exact nI_le (by omega) (by omega))).elim)
    refine px_iload d_X12_entriesTo_70 rfl ?_
    exact px_ireturn d_X12_entriesTo_72 rfl rfl ⟨rfl, rfl, rfl⟩
  | succ k ih =>
    intro i hi
    refine px_iload d_X12_entriesTo_6 rfl ?_
    refine px_aload_n d_X12_entriesTo_8 rfl rfl ?_
    refine px_getI d_X12_entriesTo_9 fl_X12_259 rfl (so36 hL) ?_
    refine px_icmp_ge (tgt := 70) d_X12_entriesTo_12 (by decide) (fun c12 => absurd c12 (by rw [hs1]; exact nI_ge (by omega) (by omega))) (fun c12 => ?_)
    refine px_iload d_X12_entriesTo_15 rfl ?_
    refine px_aload_n d_X12_entriesTo_17 rfl rfl ?_
    refine px_getR d_X12_entriesTo_18 fl_X12_96 (by decide) (so36 hL) (sr36_33 hL) ?_
    refine px_iload d_X12_entriesTo_21 rfl ?_
    refine px_iald d_X12_entriesTo_23 (sa59 hL) rfl (by omega) ?_
    refine px_iload_n d_X12_entriesTo_24 rfl rfl ?_
    refine px_icmp_ne (tgt := 60) d_X12_entriesTo_25 (by decide) (fun c25 => ?_) (fun c25 => ?_)
    · refine px_iconst (v := 0) d_X12_entriesTo_60 (by decide) ?_
      refine px_iadd d_X12_entriesTo_61 ?_
      refine px_istore d_X12_entriesTo_62 (by decide) ?_
      refine px_inc1 d_X12_entriesTo_64 rfl (by decide) ?_
      refine px_goto (tgt := 6) d_X12_entriesTo_67 (by decide) ?_
      refine px_drop (lv' := [(0, .ref 36), (1, .int a), (2, .int d), (3, .int kn), (4, .int (eTo (hI h 59) (hI h 60) (hI h 61) (hI h 62) a d kn (i + 1))), (5, .int (nI (i + 1)))]) ⟨rfl, rfl, rfl, rfl, px_si (by simp [eTo, c12, c25]), px_si (nI_s1 _), trivial⟩ ?_
      exact ih (i + 1) (by omega)
    · refine px_aload_n d_X12_entriesTo_28 rfl rfl ?_
      refine px_getR d_X12_entriesTo_29 fl_X12_99 (by decide) (so36 hL) (sr36_34 hL) ?_
      refine px_iload d_X12_entriesTo_32 rfl ?_
      refine px_iald d_X12_entriesTo_34 (sa60 hL) rfl (by omega) ?_
      refine px_iload_n d_X12_entriesTo_35 rfl rfl ?_
      refine px_icmp_gt (tgt := 60) d_X12_entriesTo_36 (by decide) (fun c36 => ?_) (fun c36 => ?_)
      · refine px_iconst (v := 0) d_X12_entriesTo_60 (by decide) ?_
        refine px_iadd d_X12_entriesTo_61 ?_
        refine px_istore d_X12_entriesTo_62 (by decide) ?_
        refine px_inc1 d_X12_entriesTo_64 rfl (by decide) ?_
        refine px_goto (tgt := 6) d_X12_entriesTo_67 (by decide) ?_
        refine px_drop (lv' := [(0, .ref 36), (1, .int a), (2, .int d), (3, .int kn), (4, .int (eTo (hI h 59) (hI h 60) (hI h 61) (hI h 62) a d kn (i + 1))), (5, .int (nI (i + 1)))]) ⟨rfl, rfl, rfl, rfl, px_si (by simp [eTo, c12, c25, c36]), px_si (nI_s1 _), trivial⟩ ?_
        exact ih (i + 1) (by omega)
      · refine px_aload_n d_X12_entriesTo_39 rfl rfl ?_
        refine px_getR d_X12_entriesTo_40 fl_X12_105 (by decide) (so36 hL) (sr36_36 hL) ?_
        refine px_iload d_X12_entriesTo_43 rfl ?_
        refine px_iald d_X12_entriesTo_45 (sa62 hL) rfl (by omega) ?_
        refine px_iload_n d_X12_entriesTo_46 rfl rfl ?_
        refine px_icmp_gt (tgt := 60) d_X12_entriesTo_47 (by decide) (fun c47 => ?_) (fun c47 => ?_)
        · refine px_iconst (v := 0) d_X12_entriesTo_60 (by decide) ?_
          refine px_iadd d_X12_entriesTo_61 ?_
          refine px_istore d_X12_entriesTo_62 (by decide) ?_
          refine px_inc1 d_X12_entriesTo_64 rfl (by decide) ?_
          refine px_goto (tgt := 6) d_X12_entriesTo_67 (by decide) ?_
          refine px_drop (lv' := [(0, .ref 36), (1, .int a), (2, .int d), (3, .int kn), (4, .int (eTo (hI h 59) (hI h 60) (hI h 61) (hI h 62) a d kn (i + 1))), (5, .int (nI (i + 1)))]) ⟨rfl, rfl, rfl, rfl, px_si (by simp [eTo, c12, c25, c36, c47]), px_si (nI_s1 _), trivial⟩ ?_
          exact ih (i + 1) (by omega)
        · refine px_aload_n d_X12_entriesTo_50 rfl rfl ?_
          refine px_getR d_X12_entriesTo_51 fl_X12_102 (by decide) (so36 hL) (sr36_35 hL) ?_
          refine px_iload d_X12_entriesTo_54 rfl ?_
          refine px_iald d_X12_entriesTo_56 (sa61 hL) rfl (by omega) ?_
          refine px_goto (tgt := 61) d_X12_entriesTo_57 (by decide) ?_
          refine px_iadd d_X12_entriesTo_61 ?_
          refine px_istore d_X12_entriesTo_62 (by decide) ?_
          refine px_inc1 d_X12_entriesTo_64 rfl (by decide) ?_
          refine px_goto (tgt := 6) d_X12_entriesTo_67 (by decide) ?_
          refine px_drop (lv' := [(0, .ref 36), (1, .int a), (2, .int d), (3, .int kn), (4, .int (eTo (hI h 59) (hI h 60) (hI h 61) (hI h 62) a d kn (i + 1))), (5, .int (nI (i + 1)))]) ⟨rfl, rfl, rfl, rfl, px_si (by simp [eTo, c12, c25, c36, c47]), px_si (nI_s1 _), trivial⟩ ?_
          exact ih (i + 1) (by omega)
theorem c_X12_entriesTo {h : PH} (hL : px_L h) {n : Nat} (hs1 : hI h 36 32 = nI n) (hn4 : n ≤ 400) {a d kn : Int32} : PM M_X12_entriesTo [.ref 36, .int a, .int d, .int kn] h (some (.int (eTo (hI h 59) (hI h 60) (hI h 61) (hI h 62) a d kn n))) h := by
  refine PM.of (by decide +kernel) (by decide +kernel) (Nat.le_refl _) (Nat.le_refl _) (Nat.le_of_ble_eq_true rfl) ?_
  refine px_iconst (v := 0) d_X12_entriesTo_0 (by decide) ?_
  refine px_istore d_X12_entriesTo_1 (by decide) ?_
  refine px_iconst (v := 0) d_X12_entriesTo_3 (by decide) ?_
  refine px_istore d_X12_entriesTo_4 (by decide) ?_
  exact lp_X12_entriesTo hL hs1 hn4 n 0 (by omega)
theorem lp_X12_drawnNow {h : PH} (hL : px_L h) {n : Nat} (hs1 : hI h 36 32 = nI n) (hn4 : n ≤ 400) {a : Int32} : ∀ (k : Nat) (i : Nat), i + k = n → PW M_X12_drawnNow (hn h) (hs h) (PMpost (some (.int (drN (hI h 59) (hI h 60) (hI h 61) a (hI h 36 26) n))) h) 4 [(0, .ref 36), (1, .int a), (2, .int (drN (hI h 59) (hI h 60) (hI h 61) a (hI h 36 26) (i))), (3, .int (nI (i)))] [] h := by
  intro k
  induction k with
  | zero =>
    intro i hi
    have e : i = n := by omega
    subst e
    refine px_iload_n d_X12_drawnNow_4 rfl rfl ?_
    refine px_aload_n d_X12_drawnNow_5 rfl rfl ?_
    refine px_getI d_X12_drawnNow_6 fl_X12_259 rfl (so36 hL) ?_
    refine px_icmp_ge (tgt := 64) d_X12_drawnNow_9 (by decide) (fun c9 => ?_) (fun c9 => (c9 (by rw [hs1]; exact nI_le (by omega) (by omega))).elim)
    refine px_iload_n d_X12_drawnNow_64 rfl rfl ?_
    exact px_ireturn d_X12_drawnNow_65 rfl rfl ⟨rfl, rfl, rfl⟩
  | succ k ih =>
    intro i hi
    refine px_iload_n d_X12_drawnNow_4 rfl rfl ?_
    refine px_aload_n d_X12_drawnNow_5 rfl rfl ?_
    refine px_getI d_X12_drawnNow_6 fl_X12_259 rfl (so36 hL) ?_
    refine px_icmp_ge (tgt := 64) d_X12_drawnNow_9 (by decide) (fun c9 => absurd c9 (by rw [hs1]; exact nI_ge (by omega) (by omega))) (fun c9 => ?_)
    refine px_iload_n d_X12_drawnNow_12 rfl rfl ?_
    refine px_aload_n d_X12_drawnNow_13 rfl rfl ?_
    refine px_getR d_X12_drawnNow_14 fl_X12_96 (by decide) (so36 hL) (sr36_33 hL) ?_
    refine px_iload_n d_X12_drawnNow_17 rfl rfl ?_
    refine px_iald d_X12_drawnNow_18 (sa59 hL) rfl (by omega) ?_
    refine px_iload_n d_X12_drawnNow_19 rfl rfl ?_
    refine px_icmp_ne (tgt := 55) d_X12_drawnNow_20 (by decide) (fun c20 => ?_) (fun c20 => ?_)
    · refine px_iconst (v := 0) d_X12_drawnNow_55 (by decide) ?_
      refine px_iadd d_X12_drawnNow_56 ?_
      refine px_istore_n d_X12_drawnNow_57 rfl (by decide) ?_
      refine px_inc1 d_X12_drawnNow_58 rfl (by decide) ?_
      refine px_goto (tgt := 4) d_X12_drawnNow_61 (by decide) ?_
      refine px_drop (lv' := [(0, .ref 36), (1, .int a), (2, .int (drN (hI h 59) (hI h 60) (hI h 61) a (hI h 36 26) (i + 1))), (3, .int (nI (i + 1)))]) ⟨rfl, rfl, px_si (by simp [drN, c9, c20]), px_si (nI_s1 _), trivial⟩ ?_
      exact ih (i + 1) (by omega)
    · refine px_aload_n d_X12_drawnNow_23 rfl rfl ?_
      refine px_getR d_X12_drawnNow_24 fl_X12_99 (by decide) (so36 hL) (sr36_34 hL) ?_
      refine px_iload_n d_X12_drawnNow_27 rfl rfl ?_
      refine px_iald d_X12_drawnNow_28 (sa60 hL) rfl (by omega) ?_
      refine px_aload_n d_X12_drawnNow_29 rfl rfl ?_
      refine px_getI d_X12_drawnNow_30 fl_X12_218 rfl (so36 hL) ?_
      refine px_icmp_ne (tgt := 55) d_X12_drawnNow_33 (by decide) (fun c33 => ?_) (fun c33 => ?_)
      · refine px_iconst (v := 0) d_X12_drawnNow_55 (by decide) ?_
        refine px_iadd d_X12_drawnNow_56 ?_
        refine px_istore_n d_X12_drawnNow_57 rfl (by decide) ?_
        refine px_inc1 d_X12_drawnNow_58 rfl (by decide) ?_
        refine px_goto (tgt := 4) d_X12_drawnNow_61 (by decide) ?_
        refine px_drop (lv' := [(0, .ref 36), (1, .int a), (2, .int (drN (hI h 59) (hI h 60) (hI h 61) a (hI h 36 26) (i + 1))), (3, .int (nI (i + 1)))]) ⟨rfl, rfl, px_si (by simp [drN, c9, c20, c33]), px_si (nI_s1 _), trivial⟩ ?_
        exact ih (i + 1) (by omega)
      · refine px_aload_n d_X12_drawnNow_36 rfl rfl ?_
        refine px_getR d_X12_drawnNow_37 fl_X12_102 (by decide) (so36 hL) (sr36_35 hL) ?_
        refine px_iload_n d_X12_drawnNow_40 rfl rfl ?_
        refine px_iald d_X12_drawnNow_41 (sa61 hL) rfl (by omega) ?_
        refine px_if_ge (tgt := 55) d_X12_drawnNow_42 (by decide) (fun c42 => ?_) (fun c42 => ?_)
        · refine px_iconst (v := 0) d_X12_drawnNow_55 (by decide) ?_
          refine px_iadd d_X12_drawnNow_56 ?_
          refine px_istore_n d_X12_drawnNow_57 rfl (by decide) ?_
          refine px_inc1 d_X12_drawnNow_58 rfl (by decide) ?_
          refine px_goto (tgt := 4) d_X12_drawnNow_61 (by decide) ?_
          refine px_drop (lv' := [(0, .ref 36), (1, .int a), (2, .int (drN (hI h 59) (hI h 60) (hI h 61) a (hI h 36 26) (i + 1))), (3, .int (nI (i + 1)))]) ⟨rfl, rfl, px_si (by simp [drN, c9, c20, c33, c42]), px_si (nI_s1 _), trivial⟩ ?_
          exact ih (i + 1) (by omega)
        · refine px_aload_n d_X12_drawnNow_45 rfl rfl ?_
          refine px_getR d_X12_drawnNow_46 fl_X12_102 (by decide) (so36 hL) (sr36_35 hL) ?_
          refine px_iload_n d_X12_drawnNow_49 rfl rfl ?_
          refine px_iald d_X12_drawnNow_50 (sa61 hL) rfl (by omega) ?_
          refine px_ineg d_X12_drawnNow_51 ?_
          refine px_goto (tgt := 56) d_X12_drawnNow_52 (by decide) ?_
          refine px_iadd d_X12_drawnNow_56 ?_
          refine px_istore_n d_X12_drawnNow_57 rfl (by decide) ?_
          refine px_inc1 d_X12_drawnNow_58 rfl (by decide) ?_
          refine px_goto (tgt := 4) d_X12_drawnNow_61 (by decide) ?_
          refine px_drop (lv' := [(0, .ref 36), (1, .int a), (2, .int (drN (hI h 59) (hI h 60) (hI h 61) a (hI h 36 26) (i + 1))), (3, .int (nI (i + 1)))]) ⟨rfl, rfl, px_si (by simp [drN, c9, c20, c33, c42]), px_si (nI_s1 _), trivial⟩ ?_
          exact ih (i + 1) (by omega)
theorem c_X12_drawnNow {h : PH} (hL : px_L h) {n : Nat} (hs1 : hI h 36 32 = nI n) (hn4 : n ≤ 400) {a : Int32} : PM M_X12_drawnNow [.ref 36, .int a] h (some (.int (drN (hI h 59) (hI h 60) (hI h 61) a (hI h 36 26) n))) h := by
  refine PM.of (by decide +kernel) (by decide +kernel) (Nat.le_refl _) (Nat.le_refl _) (Nat.le_of_ble_eq_true rfl) ?_
  refine px_iconst (v := 0) d_X12_drawnNow_0 (by decide) ?_
  refine px_istore_n d_X12_drawnNow_1 rfl (by decide) ?_
  refine px_iconst (v := 0) d_X12_drawnNow_2 (by decide) ?_
  refine px_istore_n d_X12_drawnNow_3 rfl (by decide) ?_
  exact lp_X12_drawnNow hL hs1 hn4 n 0 (by omega)
/-- the reference's notices -/
def mnt (h : PH) (a s : Int32) (w : Int32) (i : Nat) : Prop := hI h 65 i = a ∧ hI h 68 i = 0 ∧ ¬ hI h 67 i < s ∧ ¬ hI h 36 26 - w < hI h 66 i
def mntD (h : PH) (a s w : Int32) (i : Nat) : Decidable (mnt h a s w i) := inferInstanceAs (Decidable (_ ∧ _ ∧ _ ∧ _))
theorem lp_X12_noticeFor {h : PH} (hL : px_L h) {n a : Nat} (hs1 : hI h 36 39 = nI n) (hn4 : n ≤ 60) (ha : a < 20) {s : Int32} : ∀ (k : Nat) (i : Nat), i + k = n → PW M_X12_noticeFor (hn h) (hs h) (PMpost (some (.int (fst1 (mnt h (nI a) s (hI h 56 a)) (mntD h (nI a) s (hI h 56 a)) i k))) h) 2 [(0, .ref 36), (1, .int (nI a)), (2, .int s), (3, .int (nI (i)))] [] h := by
  intro k
  induction k with
  | zero =>
    intro i hi
    have e : i = n := by omega
    subst e
    refine px_iload_n d_X12_noticeFor_2 rfl rfl ?_
    refine px_aload_n d_X12_noticeFor_3 rfl rfl ?_
    refine px_getI d_X12_noticeFor_4 fl_X12_285 rfl (so36 hL) ?_
    refine px_icmp_ge (tgt := 67) d_X12_noticeFor_7 (by decide) (fun c7 => ?_) (fun c7 => (c7 (by rw [hs1]; exact nI_le (by omega) (by omega))).elim)
    refine px_iconst (v := (-1)) d_X12_noticeFor_67 (by decide) ?_
    exact px_ireturn d_X12_noticeFor_68 rfl rfl ⟨rfl, rfl, rfl⟩
  | succ k ih =>
    intro i hi
    refine px_iload_n d_X12_noticeFor_2 rfl rfl ?_
    refine px_aload_n d_X12_noticeFor_3 rfl rfl ?_
    refine px_getI d_X12_noticeFor_4 fl_X12_285 rfl (so36 hL) ?_
    refine px_icmp_ge (tgt := 67) d_X12_noticeFor_7 (by decide) (fun c7 => absurd c7 (by rw [hs1]; exact nI_ge (by omega) (by omega))) (fun c7 => ?_)
    refine px_aload_n d_X12_noticeFor_10 rfl rfl ?_
    refine px_getR d_X12_noticeFor_11 fl_X12_114 (by decide) (so36 hL) (sr36_40 hL) ?_
    refine px_iload_n d_X12_noticeFor_14 rfl rfl ?_
    refine px_iald d_X12_noticeFor_15 (sa65 hL) rfl (by omega) ?_
    refine px_iload_n d_X12_noticeFor_16 rfl rfl ?_
    refine px_icmp_ne (tgt := 61) d_X12_noticeFor_17 (by decide) (fun c17 => ?_) (fun c17 => ?_)
    · refine px_inc1 d_X12_noticeFor_61 rfl (by decide) ?_
      refine px_goto (tgt := 2) d_X12_noticeFor_64 (by decide) ?_
      have e9 : (fst1 (mnt h (nI a) s (hI h 56 a)) (mntD h (nI a) s (hI h 56 a)) i (k + 1)) = (fst1 (mnt h (nI a) s (hI h 56 a)) (mntD h (nI a) s (hI h 56 a)) (i + 1) k) := by
        conv => lhs; unfold fst1
        rw [if_neg]
        rintro ⟨w1, w2, w3, w4⟩
        first | exact c17 w1 | exact c26 w2 | exact w3 c36 | exact w4 c56
      rw [e9]
      refine px_drop (lv' := [(0, .ref 36), (1, .int (nI a)), (2, .int s), (3, .int (nI (i + 1)))]) ⟨rfl, rfl, rfl, px_si (nI_s1 _), trivial⟩ ?_
      exact ih (i + 1) (by omega)
    · refine px_aload_n d_X12_noticeFor_20 rfl rfl ?_
      refine px_getR d_X12_noticeFor_21 fl_X12_123 (by decide) (so36 hL) (sr36_43 hL) ?_
      refine px_iload_n d_X12_noticeFor_24 rfl rfl ?_
      refine px_zald d_X12_noticeFor_25 (sa68 hL) rfl (by omega) ?_
      refine px_if_ne (tgt := 61) d_X12_noticeFor_26 (by decide) (fun c26 => ?_) (fun c26 => ?_)
      · refine px_inc1 d_X12_noticeFor_61 rfl (by decide) ?_
        refine px_goto (tgt := 2) d_X12_noticeFor_64 (by decide) ?_
        have e9 : (fst1 (mnt h (nI a) s (hI h 56 a)) (mntD h (nI a) s (hI h 56 a)) i (k + 1)) = (fst1 (mnt h (nI a) s (hI h 56 a)) (mntD h (nI a) s (hI h 56 a)) (i + 1) k) := by
          conv => lhs; unfold fst1
          rw [if_neg]
          rintro ⟨w1, w2, w3, w4⟩
          first | exact c17 w1 | exact c26 w2 | exact w3 c36 | exact w4 c56
        rw [e9]
        refine px_drop (lv' := [(0, .ref 36), (1, .int (nI a)), (2, .int s), (3, .int (nI (i + 1)))]) ⟨rfl, rfl, rfl, px_si (nI_s1 _), trivial⟩ ?_
        exact ih (i + 1) (by omega)
      · refine px_aload_n d_X12_noticeFor_29 rfl rfl ?_
        refine px_getR d_X12_noticeFor_30 fl_X12_120 (by decide) (so36 hL) (sr36_42 hL) ?_
        refine px_iload_n d_X12_noticeFor_33 rfl rfl ?_
        refine px_iald d_X12_noticeFor_34 (sa67 hL) rfl (by omega) ?_
        refine px_iload_n d_X12_noticeFor_35 rfl rfl ?_
        refine px_icmp_lt (tgt := 61) d_X12_noticeFor_36 (by decide) (fun c36 => ?_) (fun c36 => ?_)
        · refine px_inc1 d_X12_noticeFor_61 rfl (by decide) ?_
          refine px_goto (tgt := 2) d_X12_noticeFor_64 (by decide) ?_
          have e9 : (fst1 (mnt h (nI a) s (hI h 56 a)) (mntD h (nI a) s (hI h 56 a)) i (k + 1)) = (fst1 (mnt h (nI a) s (hI h 56 a)) (mntD h (nI a) s (hI h 56 a)) (i + 1) k) := by
            conv => lhs; unfold fst1
            rw [if_neg]
            rintro ⟨w1, w2, w3, w4⟩
            first | exact c17 w1 | exact c26 w2 | exact w3 c36 | exact w4 c56
          rw [e9]
          refine px_drop (lv' := [(0, .ref 36), (1, .int (nI a)), (2, .int s), (3, .int (nI (i + 1)))]) ⟨rfl, rfl, rfl, px_si (nI_s1 _), trivial⟩ ?_
          exact ih (i + 1) (by omega)
        · refine px_aload_n d_X12_noticeFor_39 rfl rfl ?_
          refine px_getR d_X12_noticeFor_40 fl_X12_117 (by decide) (so36 hL) (sr36_41 hL) ?_
          refine px_iload_n d_X12_noticeFor_43 rfl rfl ?_
          refine px_iald d_X12_noticeFor_44 (sa66 hL) rfl (by omega) ?_
          refine px_aload_n d_X12_noticeFor_45 rfl rfl ?_
          refine px_getI d_X12_noticeFor_46 fl_X12_218 rfl (so36 hL) ?_
          refine px_aload_n d_X12_noticeFor_49 rfl rfl ?_
          refine px_getR d_X12_noticeFor_50 fl_X12_87 (by decide) (so36 hL) (sr36_29 hL) ?_
          refine px_iload_n d_X12_noticeFor_53 rfl rfl ?_
          refine px_iald d_X12_noticeFor_54 (sa56 hL) rfl (by omega) ?_
          refine px_isub d_X12_noticeFor_55 ?_
          refine px_icmp_gt (tgt := 61) d_X12_noticeFor_56 (by decide) (fun c56 => ?_) (fun c56 => ?_)
          · refine px_inc1 d_X12_noticeFor_61 rfl (by decide) ?_
            refine px_goto (tgt := 2) d_X12_noticeFor_64 (by decide) ?_
            have e9 : (fst1 (mnt h (nI a) s (hI h 56 a)) (mntD h (nI a) s (hI h 56 a)) i (k + 1)) = (fst1 (mnt h (nI a) s (hI h 56 a)) (mntD h (nI a) s (hI h 56 a)) (i + 1) k) := by
              conv => lhs; unfold fst1
              rw [if_neg]
              rintro ⟨w1, w2, w3, w4⟩
              first | exact c17 w1 | exact c26 w2 | exact w3 c36 | exact w4 c56
            rw [e9]
            refine px_drop (lv' := [(0, .ref 36), (1, .int (nI a)), (2, .int s), (3, .int (nI (i + 1)))]) ⟨rfl, rfl, rfl, px_si (nI_s1 _), trivial⟩ ?_
            exact ih (i + 1) (by omega)
          · refine px_iload_n d_X12_noticeFor_59 rfl rfl ?_
            exact px_ireturn d_X12_noticeFor_60 rfl rfl ⟨rfl, px_si (by unfold fst1; rw [if_pos]; exact ⟨c17, c26, c36, c56⟩), rfl⟩
theorem c_X12_noticeFor {h : PH} (hL : px_L h) {n a : Nat} (hs1 : hI h 36 39 = nI n) (hn4 : n ≤ 60) (ha : a < 20) {s : Int32} : PM M_X12_noticeFor [.ref 36, .int (nI a), .int s] h (some (.int (fst1 (mnt h (nI a) s (hI h 56 a)) (mntD h (nI a) s (hI h 56 a)) 0 n))) h := by
  refine PM.of (by decide +kernel) (by decide +kernel) (Nat.le_refl _) (Nat.le_refl _) (Nat.le_of_ble_eq_true rfl) ?_
  refine px_iconst (v := 0) d_X12_noticeFor_0 (by decide) ?_
  refine px_istore_n d_X12_noticeFor_1 rfl (by decide) ?_
  exact lp_X12_noticeFor hL hs1 hn4 ha n 0 (by omega)
def sgnM (kd wi td s : Int32) : Prop := if kd = 1 ∧ ¬ wi ≤ td then s &&& 8 = 8 else if kd = 2 then ¬ (s &&& 1) + (s >>> ((1 : Int32) &&& 31) &&& 1) + (s >>> ((2 : Int32) &&& 31) &&& 1) < 2 else s &&& 1 = 1
def sgnMD (kd wi td s : Int32) : Decidable (sgnM kd wi td s) := by unfold sgnM; infer_instance
theorem c_X12_isSigned {h : PH} (hL : px_L h) {a : Nat} (ha : a < 20) {s : Int32} : PM M_X12_isSigned [.ref 36, .int (nI a), .int s] h (some (.int (@bI (sgnM (hI h 55 a) (hI h 56 a) (hI h 36 26) s) (sgnMD _ _ _ _)))) h := by
  refine PM.of (by decide +kernel) (by decide +kernel) (Nat.le_refl _) (Nat.le_refl _) (Nat.le_of_ble_eq_true rfl) ?_
  refine px_aload_n d_X12_isSigned_0 rfl rfl ?_
  refine px_getR d_X12_isSigned_1 fl_X12_84 (by decide) (so36 hL) (sr36_28 hL) ?_
  refine px_iload_n d_X12_isSigned_4 rfl rfl ?_
  refine px_iald d_X12_isSigned_5 (sa55 hL) rfl (by omega) ?_
  refine px_iconst (v := 1) d_X12_isSigned_6 (by decide) ?_
  refine px_icmp_ne (tgt := 38) d_X12_isSigned_7 (by decide) (fun c7 => ?_) (fun c7 => ?_)
  · refine px_aload_n d_X12_isSigned_38 rfl rfl ?_
    refine px_getR d_X12_isSigned_39 fl_X12_84 (by decide) (so36 hL) (sr36_28 hL) ?_
    refine px_iload_n d_X12_isSigned_42 rfl rfl ?_
    refine px_iald d_X12_isSigned_43 (sa55 hL) rfl (by omega) ?_
    refine px_iconst (v := 2) d_X12_isSigned_44 (by decide) ?_
    refine px_icmp_ne (tgt := 73) d_X12_isSigned_45 (by decide) (fun c45 => ?_) (fun c45 => ?_)
    · refine px_iload_n d_X12_isSigned_73 rfl rfl ?_
      refine px_iconst (v := 1) d_X12_isSigned_74 (by decide) ?_
      refine px_iand d_X12_isSigned_75 ?_
      refine px_iconst (v := 1) d_X12_isSigned_76 (by decide) ?_
      refine px_icmp_ne (tgt := 84) d_X12_isSigned_77 (by decide) (fun c77 => ?_) (fun c77 => ?_)
      · refine px_iconst (v := 0) d_X12_isSigned_84 (by decide) ?_
        exact px_ireturn d_X12_isSigned_85 rfl rfl ⟨rfl, px_si (by simp [bI, sgnM, c7, c45, c77]), rfl⟩
      · refine px_iconst (v := 1) d_X12_isSigned_80 (by decide) ?_
        refine px_goto (tgt := 85) d_X12_isSigned_81 (by decide) ?_
        exact px_ireturn d_X12_isSigned_85 rfl rfl ⟨rfl, px_si (by simp [bI, sgnM, c7, c45, c77]), rfl⟩
    · refine px_iload_n d_X12_isSigned_48 rfl rfl ?_
      refine px_iconst (v := 1) d_X12_isSigned_49 (by decide) ?_
      refine px_iand d_X12_isSigned_50 ?_
      refine px_iload_n d_X12_isSigned_51 rfl rfl ?_
      refine px_iconst (v := 1) d_X12_isSigned_52 (by decide) ?_
      refine px_ishr d_X12_isSigned_53 ?_
      refine px_iconst (v := 1) d_X12_isSigned_54 (by decide) ?_
      refine px_iand d_X12_isSigned_55 ?_
      refine px_iadd d_X12_isSigned_56 ?_
      refine px_iload_n d_X12_isSigned_57 rfl rfl ?_
      refine px_iconst (v := 2) d_X12_isSigned_58 (by decide) ?_
      refine px_ishr d_X12_isSigned_59 ?_
      refine px_iconst (v := 1) d_X12_isSigned_60 (by decide) ?_
      refine px_iand d_X12_isSigned_61 ?_
      refine px_iadd d_X12_isSigned_62 ?_
      refine px_iconst (v := 2) d_X12_isSigned_63 (by decide) ?_
      refine px_icmp_lt (tgt := 71) d_X12_isSigned_64 (by decide) (fun c64 => ?_) (fun c64 => ?_)
      · refine px_iconst (v := 0) d_X12_isSigned_71 (by decide) ?_
        exact px_ireturn d_X12_isSigned_72 rfl rfl ⟨rfl, px_si (by first | (simp [bI, sgnM, c7, c20, c45, c64]; done) | (simp [bI, sgnM, c7, c45, c64]; done) | exact absurd (c7.symm.trans c45) (by decide)), rfl⟩
      · refine px_iconst (v := 1) d_X12_isSigned_67 (by decide) ?_
        refine px_goto (tgt := 72) d_X12_isSigned_68 (by decide) ?_
        exact px_ireturn d_X12_isSigned_72 rfl rfl ⟨rfl, px_si (by first | (simp [bI, sgnM, c7, c20, c45, c64]; done) | (simp [bI, sgnM, c7, c45, c64]; done) | exact absurd (c7.symm.trans c45) (by decide)), rfl⟩
  · refine px_aload_n d_X12_isSigned_10 rfl rfl ?_
    refine px_getI d_X12_isSigned_11 fl_X12_218 rfl (so36 hL) ?_
    refine px_aload_n d_X12_isSigned_14 rfl rfl ?_
    refine px_getR d_X12_isSigned_15 fl_X12_87 (by decide) (so36 hL) (sr36_29 hL) ?_
    refine px_iload_n d_X12_isSigned_18 rfl rfl ?_
    refine px_iald d_X12_isSigned_19 (sa56 hL) rfl (by omega) ?_
    refine px_icmp_ge (tgt := 38) d_X12_isSigned_20 (by decide) (fun c20 => ?_) (fun c20 => ?_)
    · refine px_aload_n d_X12_isSigned_38 rfl rfl ?_
      refine px_getR d_X12_isSigned_39 fl_X12_84 (by decide) (so36 hL) (sr36_28 hL) ?_
      refine px_iload_n d_X12_isSigned_42 rfl rfl ?_
      refine px_iald d_X12_isSigned_43 (sa55 hL) rfl (by omega) ?_
      refine px_iconst (v := 2) d_X12_isSigned_44 (by decide) ?_
      refine px_icmp_ne (tgt := 73) d_X12_isSigned_45 (by decide) (fun c45 => ?_) (fun c45 => ?_)
      · refine px_iload_n d_X12_isSigned_73 rfl rfl ?_
        refine px_iconst (v := 1) d_X12_isSigned_74 (by decide) ?_
        refine px_iand d_X12_isSigned_75 ?_
        refine px_iconst (v := 1) d_X12_isSigned_76 (by decide) ?_
        refine px_icmp_ne (tgt := 84) d_X12_isSigned_77 (by decide) (fun c77 => ?_) (fun c77 => ?_)
        · refine px_iconst (v := 0) d_X12_isSigned_84 (by decide) ?_
          exact px_ireturn d_X12_isSigned_85 rfl rfl ⟨rfl, px_si (by simp [bI, sgnM, c7, c20, c45, c77]), rfl⟩
        · refine px_iconst (v := 1) d_X12_isSigned_80 (by decide) ?_
          refine px_goto (tgt := 85) d_X12_isSigned_81 (by decide) ?_
          exact px_ireturn d_X12_isSigned_85 rfl rfl ⟨rfl, px_si (by simp [bI, sgnM, c7, c20, c45, c77]), rfl⟩
      · refine px_iload_n d_X12_isSigned_48 rfl rfl ?_
        refine px_iconst (v := 1) d_X12_isSigned_49 (by decide) ?_
        refine px_iand d_X12_isSigned_50 ?_
        refine px_iload_n d_X12_isSigned_51 rfl rfl ?_
        refine px_iconst (v := 1) d_X12_isSigned_52 (by decide) ?_
        refine px_ishr d_X12_isSigned_53 ?_
        refine px_iconst (v := 1) d_X12_isSigned_54 (by decide) ?_
        refine px_iand d_X12_isSigned_55 ?_
        refine px_iadd d_X12_isSigned_56 ?_
        refine px_iload_n d_X12_isSigned_57 rfl rfl ?_
        refine px_iconst (v := 2) d_X12_isSigned_58 (by decide) ?_
        refine px_ishr d_X12_isSigned_59 ?_
        refine px_iconst (v := 1) d_X12_isSigned_60 (by decide) ?_
        refine px_iand d_X12_isSigned_61 ?_
        refine px_iadd d_X12_isSigned_62 ?_
        refine px_iconst (v := 2) d_X12_isSigned_63 (by decide) ?_
        refine px_icmp_lt (tgt := 71) d_X12_isSigned_64 (by decide) (fun c64 => ?_) (fun c64 => ?_)
        · refine px_iconst (v := 0) d_X12_isSigned_71 (by decide) ?_
          exact px_ireturn d_X12_isSigned_72 rfl rfl ⟨rfl, px_si (by first | (simp [bI, sgnM, c7, c20, c45, c64]; done) | (simp [bI, sgnM, c7, c45, c64]; done) | exact absurd (c7.symm.trans c45) (by decide)), rfl⟩
        · refine px_iconst (v := 1) d_X12_isSigned_67 (by decide) ?_
          refine px_goto (tgt := 72) d_X12_isSigned_68 (by decide) ?_
          exact px_ireturn d_X12_isSigned_72 rfl rfl ⟨rfl, px_si (by first | (simp [bI, sgnM, c7, c20, c45, c64]; done) | (simp [bI, sgnM, c7, c45, c64]; done) | exact absurd (c7.symm.trans c45) (by decide)), rfl⟩
    · refine px_iload_n d_X12_isSigned_23 rfl rfl ?_
      refine px_bipush (v := 8) d_X12_isSigned_24 (by decide) ?_
      refine px_iand d_X12_isSigned_26 ?_
      refine px_bipush (v := 8) d_X12_isSigned_27 (by decide) ?_
      refine px_icmp_ne (tgt := 36) d_X12_isSigned_29 (by decide) (fun c29 => ?_) (fun c29 => ?_)
      · refine px_iconst (v := 0) d_X12_isSigned_36 (by decide) ?_
        exact px_ireturn d_X12_isSigned_37 rfl rfl ⟨rfl, px_si (by simp [bI, sgnM, c7, c20, c29]), rfl⟩
      · refine px_iconst (v := 1) d_X12_isSigned_32 (by decide) ?_
        refine px_goto (tgt := 37) d_X12_isSigned_33 (by decide) ?_
        exact px_ireturn d_X12_isSigned_37 rfl rfl ⟨rfl, px_si (by simp [bI, sgnM, c7, c20, c29]), rfl⟩
theorem c_X12_coin {h : PH} (hL : px_L h) {b : Nat} (hb : b < 4) : PM M_X12_coin [.ref 36, .int (nI b)] h (some (.int (hI h 63 b))) (pI h 36 0 0) := by
  refine PM.of (by decide +kernel) (by decide +kernel) (Nat.le_refl _) (Nat.le_refl _) (Nat.le_of_ble_eq_true rfl) ?_
  refine px_aload_n d_X12_coin_0 rfl rfl ?_
  refine px_iload_n d_X12_coin_1 rfl rfl ?_
  refine px_if_lt (tgt := 14) d_X12_coin_2 (by decide) (fun c2 => absurd c2 (nI_pos (by omega))) (fun c2 => ?_)
  refine px_iload_n d_X12_coin_5 rfl rfl ?_
  refine px_iconst (v := 3) d_X12_coin_6 (by decide) ?_
  refine px_icmp_gt (tgt := 14) d_X12_coin_7 (by decide) (fun c7 => absurd c7 (nI_nlt (a := 3) (by omega) (by decide))) (fun c7 => ?_)
  refine px_iconst (v := 0) d_X12_coin_10 (by decide) ?_
  refine px_goto (tgt := 15) d_X12_coin_11 (by decide) ?_
  refine px_putI d_X12_coin_15 fl_X12_150 rfl (so36 hL) ?_
  refine px_aload_n d_X12_coin_18 rfl rfl ?_
  refine px_getI d_X12_coin_19 fl_X12_150 rfl (so36 hL) ?_
  refine px_if_le (tgt := 29) d_X12_coin_22 (by decide) (fun c22 => ?_) (fun c22 => (c22 (by rw [show hI (pI h 36 0 0) 36 0 = 0 from gI_s _ _ _ _]; decide)).elim)
  refine px_aload_n d_X12_coin_29 rfl rfl ?_
  refine px_getR d_X12_coin_30 fl_X12_108 (by decide) (so36 hL) (sr36_37 hL) ?_
  refine px_iload_n d_X12_coin_33 rfl rfl ?_
  refine px_iald d_X12_coin_34 (sa63 hL) rfl (by omega) ?_
  exact px_ireturn d_X12_coin_35 rfl rfl ⟨rfl, rfl, rfl⟩
theorem n_X12_coin {h : PH} (hL : px_L h) {b : Int32} (hv : ¬ (¬ b < 0 ∧ ¬ 3 < b)) : PM M_X12_coin [.ref 36, .int b] h (some (.int 0)) (pI h 36 0 1) := by
  refine PM.of (by decide +kernel) (by decide +kernel) (Nat.le_refl _) (Nat.le_refl _) (Nat.le_of_ble_eq_true rfl) ?_
  refine px_aload_n d_X12_coin_0 rfl rfl ?_
  refine px_iload_n d_X12_coin_1 rfl rfl ?_
  refine px_if_lt (tgt := 14) d_X12_coin_2 (by decide) (fun c2 => ?_) (fun c2 => ?_)
  · refine px_iconst (v := 1) d_X12_coin_14 (by decide) ?_
    refine px_putI d_X12_coin_15 fl_X12_150 rfl (so36 hL) ?_
    refine px_aload_n d_X12_coin_18 rfl rfl ?_
    refine px_getI d_X12_coin_19 fl_X12_150 rfl (so36 hL) ?_
    refine px_if_le (tgt := 29) d_X12_coin_22 (by decide) (fun c22 => absurd c22 (by rw [show hI (pI h 36 0 1) 36 0 = 1 from gI_s _ _ _ _]; decide)) (fun c22 => ?_)
    refine px_iconst (v := 0) d_X12_coin_25 (by decide) ?_
    refine px_goto (tgt := 35) d_X12_coin_26 (by decide) ?_
    exact px_ireturn d_X12_coin_35 rfl rfl ⟨rfl, rfl, rfl⟩
  · refine px_iload_n d_X12_coin_5 rfl rfl ?_
    refine px_iconst (v := 3) d_X12_coin_6 (by decide) ?_
    refine px_icmp_gt (tgt := 14) d_X12_coin_7 (by decide) (fun c7 => ?_) (fun c7 => ?_)
    · refine px_iconst (v := 1) d_X12_coin_14 (by decide) ?_
      refine px_putI d_X12_coin_15 fl_X12_150 rfl (so36 hL) ?_
      refine px_aload_n d_X12_coin_18 rfl rfl ?_
      refine px_getI d_X12_coin_19 fl_X12_150 rfl (so36 hL) ?_
      refine px_if_le (tgt := 29) d_X12_coin_22 (by decide) (fun c22 => absurd c22 (by rw [show hI (pI h 36 0 1) 36 0 = 1 from gI_s _ _ _ _]; decide)) (fun c22 => ?_)
      refine px_iconst (v := 0) d_X12_coin_25 (by decide) ?_
      refine px_goto (tgt := 35) d_X12_coin_26 (by decide) ?_
      exact px_ireturn d_X12_coin_35 rfl rfl ⟨rfl, rfl, rfl⟩
    · exact absurd ⟨c2, c7⟩ hv
theorem c_X12_night {h : PH} (hL : px_L h) {b : Nat} (hb : b < 4) {c : Int32} (hc : ¬ c < 0 ∧ ¬ 10000000 < c) : PM M_X12_night [.ref 36, .int (nI b), .int c] h (some (.int (c - hI h 63 b))) (pI (pI (pI h 36 0 0) 63 b c) 36 48 (hI h 36 48 + (c - hI h 63 b))) := by
  refine PM.of (by decide +kernel) (by decide +kernel) (Nat.le_refl _) (Nat.le_refl _) (Nat.le_of_ble_eq_true rfl) ?_
  refine px_aload_n d_X12_night_0 rfl rfl ?_
  refine px_iload_n d_X12_night_1 rfl rfl ?_
  refine px_if_lt (tgt := 25) d_X12_night_2 (by decide) (fun c2 => absurd c2 (nI_pos (by omega))) (fun c2 => ?_)
  refine px_iload_n d_X12_night_5 rfl rfl ?_
  refine px_iconst (v := 3) d_X12_night_6 (by decide) ?_
  refine px_icmp_gt (tgt := 25) d_X12_night_7 (by decide) (fun c7 => absurd c7 (nI_nlt (a := 3) (by omega) (by decide))) (fun c7 => ?_)
  refine px_iload_n d_X12_night_10 rfl rfl ?_
  refine px_if_lt (tgt := 25) d_X12_night_11 (by decide) (fun c11 => absurd c11 hc.1) (fun c11 => ?_)
  refine px_iload_n d_X12_night_14 rfl rfl ?_
  refine px_ldcw d_X12_night_15 ck_X12_305 ?_
  refine px_icmp_gt (tgt := 25) d_X12_night_18 (by decide) (fun c18 => absurd c18 hc.2) (fun c18 => ?_)
  refine px_iconst (v := 0) d_X12_night_21 (by decide) ?_
  refine px_goto (tgt := 26) d_X12_night_22 (by decide) ?_
  refine px_putI d_X12_night_26 fl_X12_150 rfl (so36 hL) ?_
  refine px_aload_n d_X12_night_29 rfl rfl ?_
  refine px_getI d_X12_night_30 fl_X12_150 rfl (so36 hL) ?_
  refine px_if_le (tgt := 38) d_X12_night_33 (by decide) (fun c33 => ?_) (fun c33 => (c33 (by rw [show hI (pI h 36 0 0) 36 0 = 0 from gI_s _ _ _ _]; decide)).elim)
  refine px_iload_n d_X12_night_38 rfl rfl ?_
  refine px_aload_n d_X12_night_39 rfl rfl ?_
  refine px_getR d_X12_night_40 fl_X12_108 (by decide) (so36 hL) (sr36_37 hL) ?_
  refine px_iload_n d_X12_night_43 rfl rfl ?_
  refine px_iald d_X12_night_44 (sa63 hL) rfl (by omega) ?_
  refine px_isub d_X12_night_45 ?_
  refine px_istore_n d_X12_night_46 rfl (by decide) ?_
  refine px_aload_n d_X12_night_47 rfl rfl ?_
  refine px_getR d_X12_night_48 fl_X12_108 (by decide) (so36 hL) (sr36_37 hL) ?_
  refine px_iload_n d_X12_night_51 rfl rfl ?_
  refine px_iload_n d_X12_night_52 rfl rfl ?_
  refine px_iast d_X12_night_53 (sa63 hL) rfl (by omega) ?_
  refine px_aload_n d_X12_night_54 rfl rfl ?_
  refine px_dup d_X12_night_55 rfl ?_
  refine px_getI d_X12_night_56 fl_X12_306 rfl (so36 hL) ?_
  refine px_iload_n d_X12_night_59 rfl rfl ?_
  refine px_iadd d_X12_night_60 ?_
  refine px_putI d_X12_night_61 fl_X12_306 rfl (so36 hL) ?_
  refine px_iload_n d_X12_night_64 rfl rfl ?_
  exact px_ireturn d_X12_night_65 rfl rfl ⟨rfl, rfl, rfl⟩
theorem n_X12_night {h : PH} (hL : px_L h) {b c : Int32} (hv : ¬ (¬ b < 0 ∧ ¬ 3 < b ∧ ¬ c < 0 ∧ ¬ 10000000 < c)) : PM M_X12_night [.ref 36, .int b, .int c] h (some (.int 0)) (pI h 36 0 1) := by
  refine PM.of (by decide +kernel) (by decide +kernel) (Nat.le_refl _) (Nat.le_refl _) (Nat.le_of_ble_eq_true rfl) ?_
  refine px_aload_n d_X12_night_0 rfl rfl ?_
  refine px_iload_n d_X12_night_1 rfl rfl ?_
  refine px_if_lt (tgt := 25) d_X12_night_2 (by decide) (fun c2 => ?_) (fun c2 => ?_)
  · refine px_iconst (v := 1) d_X12_night_25 (by decide) ?_
    refine px_putI d_X12_night_26 fl_X12_150 rfl (so36 hL) ?_
    refine px_aload_n d_X12_night_29 rfl rfl ?_
    refine px_getI d_X12_night_30 fl_X12_150 rfl (so36 hL) ?_
    refine px_if_le (tgt := 38) d_X12_night_33 (by decide) (fun c33 => absurd c33 (by rw [show hI (pI h 36 0 1) 36 0 = 1 from gI_s _ _ _ _]; decide)) (fun c33 => ?_)
    refine px_iconst (v := 0) d_X12_night_36 (by decide) ?_
    exact px_ireturn d_X12_night_37 rfl rfl ⟨rfl, rfl, rfl⟩
  · refine px_iload_n d_X12_night_5 rfl rfl ?_
    refine px_iconst (v := 3) d_X12_night_6 (by decide) ?_
    refine px_icmp_gt (tgt := 25) d_X12_night_7 (by decide) (fun c7 => ?_) (fun c7 => ?_)
    · refine px_iconst (v := 1) d_X12_night_25 (by decide) ?_
      refine px_putI d_X12_night_26 fl_X12_150 rfl (so36 hL) ?_
      refine px_aload_n d_X12_night_29 rfl rfl ?_
      refine px_getI d_X12_night_30 fl_X12_150 rfl (so36 hL) ?_
      refine px_if_le (tgt := 38) d_X12_night_33 (by decide) (fun c33 => absurd c33 (by rw [show hI (pI h 36 0 1) 36 0 = 1 from gI_s _ _ _ _]; decide)) (fun c33 => ?_)
      refine px_iconst (v := 0) d_X12_night_36 (by decide) ?_
      exact px_ireturn d_X12_night_37 rfl rfl ⟨rfl, rfl, rfl⟩
    · refine px_iload_n d_X12_night_10 rfl rfl ?_
      refine px_if_lt (tgt := 25) d_X12_night_11 (by decide) (fun c11 => ?_) (fun c11 => ?_)
      · refine px_iconst (v := 1) d_X12_night_25 (by decide) ?_
        refine px_putI d_X12_night_26 fl_X12_150 rfl (so36 hL) ?_
        refine px_aload_n d_X12_night_29 rfl rfl ?_
        refine px_getI d_X12_night_30 fl_X12_150 rfl (so36 hL) ?_
        refine px_if_le (tgt := 38) d_X12_night_33 (by decide) (fun c33 => absurd c33 (by rw [show hI (pI h 36 0 1) 36 0 = 1 from gI_s _ _ _ _]; decide)) (fun c33 => ?_)
        refine px_iconst (v := 0) d_X12_night_36 (by decide) ?_
        exact px_ireturn d_X12_night_37 rfl rfl ⟨rfl, rfl, rfl⟩
      · refine px_iload_n d_X12_night_14 rfl rfl ?_
        refine px_ldcw d_X12_night_15 ck_X12_305 ?_
        refine px_icmp_gt (tgt := 25) d_X12_night_18 (by decide) (fun c18 => ?_) (fun c18 => ?_)
        · refine px_iconst (v := 1) d_X12_night_25 (by decide) ?_
          refine px_putI d_X12_night_26 fl_X12_150 rfl (so36 hL) ?_
          refine px_aload_n d_X12_night_29 rfl rfl ?_
          refine px_getI d_X12_night_30 fl_X12_150 rfl (so36 hL) ?_
          refine px_if_le (tgt := 38) d_X12_night_33 (by decide) (fun c33 => absurd c33 (by rw [show hI (pI h 36 0 1) 36 0 = 1 from gI_s _ _ _ _]; decide)) (fun c33 => ?_)
          refine px_iconst (v := 0) d_X12_night_36 (by decide) ?_
          exact px_ireturn d_X12_night_37 rfl rfl ⟨rfl, rfl, rfl⟩
        · exact absurd ⟨c2, c7, c11, c18⟩ hv
theorem c_X12_need {h : PH} {w s : Int32} {w0 : Nat} (hL : px_L h) (hw0 : w = nI w0) (hw6 : w0 < 6) (hv : ¬ w < 0 ∧ ¬ 5 < w ∧ ¬ s < 0 ∧ s ≤ 60000) : PM M_X12_need [.ref 36, .int w, .int s] h (some (.int 1)) (pI (th0 h) 74 w0 s) := by
  refine PM.of (by decide +kernel) (by decide +kernel) (Nat.le_refl _) (Nat.le_refl _) (Nat.le_of_ble_eq_true rfl) ?_
  refine px_aload_n d_X12_need_0 rfl rfl ?_
  refine px_iconst (v := 0) d_X12_need_1 (by decide) ?_
  refine px_putI d_X12_need_2 fl_X12_150 rfl (so36 hL) ?_
  refine px_iload_n d_X12_need_5 rfl rfl ?_
  refine px_if_lt (tgt := 25) d_X12_need_6 (by decide) (fun c6 => (by first | exact absurd c6 hv.1 | exact (c6 hv.1).elim)) (fun c6 => ?_)
  refine px_iload_n d_X12_need_9 rfl rfl ?_
  refine px_iconst (v := 5) d_X12_need_10 (by decide) ?_
  refine px_icmp_gt (tgt := 25) d_X12_need_11 (by decide) (fun c11 => (by first | exact absurd c11 hv.2.1 | exact (c11 hv.2.1).elim)) (fun c11 => ?_)
  refine px_iload_n d_X12_need_14 rfl rfl ?_
  refine px_if_lt (tgt := 25) d_X12_need_15 (by decide) (fun c15 => (by first | exact absurd c15 hv.2.2.1 | exact (c15 hv.2.2.1).elim)) (fun c15 => ?_)
  refine px_iload_n d_X12_need_18 rfl rfl ?_
  refine px_ldcw d_X12_need_19 ck_X12_314 ?_
  refine px_icmp_le (tgt := 27) d_X12_need_22 (by decide) (fun c22 => ?_) (fun c22 => (by first | exact absurd c22 hv.2.2.2 | exact (c22 hv.2.2.2).elim))
  refine px_aload_n d_X12_need_27 rfl rfl ?_
  refine px_getR d_X12_need_28 fl_X12_141 (by decide) (so36 hL) (sr36_51 hL) ?_
  refine px_iload_n d_X12_need_31 rfl rfl ?_
  refine px_iload_n d_X12_need_32 rfl rfl ?_
  refine px_iast d_X12_need_33 (sa74 hL) hw0 (by omega) ?_
  refine px_iconst (v := 1) d_X12_need_34 (by decide) ?_
  exact px_ireturn d_X12_need_35 rfl rfl ⟨rfl, rfl, rfl⟩
theorem n_X12_need {h : PH} {w s : Int32} {w0 : Nat} (hL : px_L h) (hw0 : w = nI w0) (hw6 : w0 < 6) (hv : ¬ (¬ w < 0 ∧ ¬ 5 < w ∧ ¬ s < 0 ∧ s ≤ 60000)) : PM M_X12_need [.ref 36, .int w, .int s] h (some (.int 0)) (th0 h) := by
  refine PM.of (by decide +kernel) (by decide +kernel) (Nat.le_refl _) (Nat.le_refl _) (Nat.le_of_ble_eq_true rfl) ?_
  refine px_aload_n d_X12_need_0 rfl rfl ?_
  refine px_iconst (v := 0) d_X12_need_1 (by decide) ?_
  refine px_putI d_X12_need_2 fl_X12_150 rfl (so36 hL) ?_
  refine px_iload_n d_X12_need_5 rfl rfl ?_
  refine px_if_lt (tgt := 25) d_X12_need_6 (by decide) (fun c6 => ?_) (fun c6 => ?_)
  · refine px_iconst (v := 0) d_X12_need_25 (by decide) ?_
    exact px_ireturn d_X12_need_26 rfl rfl ⟨rfl, rfl, rfl⟩
  · refine px_iload_n d_X12_need_9 rfl rfl ?_
    refine px_iconst (v := 5) d_X12_need_10 (by decide) ?_
    refine px_icmp_gt (tgt := 25) d_X12_need_11 (by decide) (fun c11 => ?_) (fun c11 => ?_)
    · refine px_iconst (v := 0) d_X12_need_25 (by decide) ?_
      exact px_ireturn d_X12_need_26 rfl rfl ⟨rfl, rfl, rfl⟩
    · refine px_iload_n d_X12_need_14 rfl rfl ?_
      refine px_if_lt (tgt := 25) d_X12_need_15 (by decide) (fun c15 => ?_) (fun c15 => ?_)
      · refine px_iconst (v := 0) d_X12_need_25 (by decide) ?_
        exact px_ireturn d_X12_need_26 rfl rfl ⟨rfl, rfl, rfl⟩
      · refine px_iload_n d_X12_need_18 rfl rfl ?_
        refine px_ldcw d_X12_need_19 ck_X12_314 ?_
        refine px_icmp_le (tgt := 27) d_X12_need_22 (by decide) (fun c22 => ?_) (fun c22 => ?_)
        · exact absurd ⟨c6, c11, c15, c22⟩ hv
        · refine px_iconst (v := 0) d_X12_need_25 (by decide) ?_
          exact px_ireturn d_X12_need_26 rfl rfl ⟨rfl, rfl, rfl⟩
theorem c_X12_sold {h : PH} (hL : px_L h) {w0 m : Nat} (hm : hI h 36 54 = nI m) (hm6 : m ≤ 6) (hw : w0 < m) : PM M_X12_sold [.ref 36, .int (nI w0)] h (some (.int (hI h 76 w0))) (th0 h) := by
  refine PM.of (by decide +kernel) (by decide +kernel) (Nat.le_refl _) (Nat.le_refl _) (Nat.le_of_ble_eq_true rfl) ?_
  refine px_aload_n d_X12_sold_0 rfl rfl ?_
  refine px_iconst (v := 0) d_X12_sold_1 (by decide) ?_
  refine px_putI d_X12_sold_2 fl_X12_150 rfl (so36 hL) ?_
  refine px_iload_n d_X12_sold_5 rfl rfl ?_
  refine px_if_lt (tgt := 17) d_X12_sold_6 (by decide) (fun c6 => absurd c6 (nI_pos (by omega))) (fun c6 => ?_)
  refine px_iload_n d_X12_sold_9 rfl rfl ?_
  refine px_aload_n d_X12_sold_10 rfl rfl ?_
  refine px_getI d_X12_sold_11 fl_X12_318 rfl (so36 hL) ?_
  refine px_icmp_lt (tgt := 21) d_X12_sold_14 (by decide) (fun c14 => ?_) (fun c14 => (c14 (by rw [show hI (th0 h) 36 54 = nI m from hm]; exact nI_lt hw (by omega))).elim)
  refine px_aload_n d_X12_sold_21 rfl rfl ?_
  refine px_getR d_X12_sold_22 fl_X12_147 (by decide) (so36 hL) (sr36_53 hL) ?_
  refine px_iload_n d_X12_sold_25 rfl rfl ?_
  refine px_iald d_X12_sold_26 (sa76 hL) rfl (by omega) ?_
  exact px_ireturn d_X12_sold_27 rfl rfl ⟨rfl, rfl, rfl⟩
theorem n_X12_sold {h : PH} (hL : px_L h) {w : Int32} (hv : ¬ (¬ w < 0 ∧ w < hI h 36 54)) : PM M_X12_sold [.ref 36, .int w] h (some (.int (-1))) (th0 h) := by
  refine PM.of (by decide +kernel) (by decide +kernel) (Nat.le_refl _) (Nat.le_refl _) (Nat.le_of_ble_eq_true rfl) ?_
  refine px_aload_n d_X12_sold_0 rfl rfl ?_
  refine px_iconst (v := 0) d_X12_sold_1 (by decide) ?_
  refine px_putI d_X12_sold_2 fl_X12_150 rfl (so36 hL) ?_
  refine px_iload_n d_X12_sold_5 rfl rfl ?_
  refine px_if_lt (tgt := 17) d_X12_sold_6 (by decide) (fun c6 => ?_) (fun c6 => ?_)
  · refine px_iconst (v := (-1)) d_X12_sold_17 (by decide) ?_
    refine px_goto (tgt := 27) d_X12_sold_18 (by decide) ?_
    exact px_ireturn d_X12_sold_27 rfl rfl ⟨rfl, rfl, rfl⟩
  · refine px_iload_n d_X12_sold_9 rfl rfl ?_
    refine px_aload_n d_X12_sold_10 rfl rfl ?_
    refine px_getI d_X12_sold_11 fl_X12_318 rfl (so36 hL) ?_
    refine px_icmp_lt (tgt := 21) d_X12_sold_14 (by decide) (fun c14 => ?_) (fun c14 => ?_)
    · exact absurd ⟨c6, c14⟩ hv
    · refine px_iconst (v := (-1)) d_X12_sold_17 (by decide) ?_
      refine px_goto (tgt := 27) d_X12_sold_18 (by decide) ?_
      exact px_ireturn d_X12_sold_27 rfl rfl ⟨rfl, rfl, rfl⟩
