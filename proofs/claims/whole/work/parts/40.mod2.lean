def moAcc (h : PH) (m : Nat) (k w : Int32) : PH := pI (pI (pI (pI h 55 m k) 56 m w) 57 m (hI h 36 26)) 36 27 (nI (m + 1))
def moLn (h : PH) (a c : Nat) (d s : Int32) : PH := pI (pI (pI h 70 (40 * a + c) d) 71 (40 * a + c) s) 69 a (nI (c + 1))
def moNtc (h : PH) (n : Nat) (a s : Int32) : PH := pI (pI (pI (pI h 65 n a) 66 n (hI h 36 26)) 67 n s) 36 39 (nI (n + 1))
theorem px_dec (h : PH) (a i m : Nat) : hI (pI h a i (nI (m + 1))) a i - 1 = nI m := by rw [gI_s]; exact nI_pred m
theorem nI_ne {m k : Nat} (hm : m ≤ k) (hk : k < 1000000) {c : Int32} (hc : c = nI k) {x : Int32} (hx : x = nI m) (hne : ¬ x = c) : m < k := by
  rcases Nat.lt_or_ge m k with q | q
  · exact q
  · exact absurd (by rw [hx, hc, show m = k by omega]) hne
theorem c_X12_account {h : PH} {k w : Int32} (hL : px_L h) {m : Nat} (hm : hI h 36 27 = nI m) (hm2 : m ≤ 20) (hv : ¬ k < 0 ∧ ¬ 3 < k ∧ ((k = 1 ∨ k = 3) → (¬ w < 0 ∧ ¬ 719 < w)) ∧ ¬ hI h 36 27 = 20) : PM M_X12_account [.ref 36, .int k, .int w] h (some (.int (nI m))) (moAcc (th0 h) m k (if k = 1 ∨ k = 3 then w else 0)) := by
  have hm3 : m < 20 := nI_ne hm2 (by decide) rfl hm hv.2.2.2
  refine PM.of (by decide +kernel) (by decide +kernel) (Nat.le_refl _) (Nat.le_refl _) (Nat.le_of_ble_eq_true rfl) ?_
  refine px_aload_n d_X12_account_0 rfl rfl ?_
  refine px_iconst (v := 0) d_X12_account_1 (by decide) ?_
  refine px_putI d_X12_account_2 fl_X12_150 rfl (so36 hL) ?_
  refine px_iload_n d_X12_account_5 rfl rfl ?_
  refine px_iconst (v := 1) d_X12_account_6 (by decide) ?_
  refine px_icmp_eq (tgt := 15) d_X12_account_7 (by decide) (fun c7 => ?_) (fun c7 => ?_)
  · refine px_iconst (v := 1) d_X12_account_15 (by decide) ?_
    refine px_goto (tgt := 20) d_X12_account_16 (by decide) ?_
    refine px_istore_n d_X12_account_20 rfl (by decide) ?_
    refine px_iload_n d_X12_account_21 rfl rfl ?_
    refine px_if_lt (tgt := 54) d_X12_account_22 (by decide) (fun c22 => absurd c22 hv.1) (fun c22 => ?_)
    refine px_iload_n d_X12_account_25 rfl rfl ?_
    refine px_iconst (v := 3) d_X12_account_26 (by decide) ?_
    refine px_icmp_gt (tgt := 54) d_X12_account_27 (by decide) (fun c27 => absurd c27 hv.2.1) (fun c27 => ?_)
    refine px_iload_n d_X12_account_30 rfl rfl ?_
    refine px_if_eq (tgt := 45) d_X12_account_31 (by decide) (fun c31 => (by first | exact absurd c31 (by decide) | exact (c31 (by decide)).elim)) (fun c31 => ?_)
    refine px_iload_n d_X12_account_34 rfl rfl ?_
    refine px_if_lt (tgt := 54) d_X12_account_35 (by decide) (fun c35 => absurd c35 (by first | exact (hv.2.2.1 (Or.inl c7)).1 | exact (hv.2.2.1 (Or.inr c12)).1)) (fun c35 => ?_)
    refine px_iload_n d_X12_account_38 rfl rfl ?_
    refine px_sipush (v := 719) d_X12_account_39 (by decide) ?_
    refine px_icmp_gt (tgt := 54) d_X12_account_42 (by decide) (fun c42 => absurd c42 (by first | exact (hv.2.2.1 (Or.inl c7)).2 | exact (hv.2.2.1 (Or.inr c12)).2)) (fun c42 => ?_)
    refine px_aload_n d_X12_account_45 rfl rfl ?_
    refine px_getI d_X12_account_46 fl_X12_256 rfl (so36 hL) ?_
    refine px_bipush (v := 20) d_X12_account_49 (by decide) ?_
    refine px_icmp_ne (tgt := 56) d_X12_account_51 (by decide) (fun c51 => ?_) (fun c51 => absurd c51 hv.2.2.2)
    refine px_aload_n d_X12_account_56 rfl rfl ?_
    refine px_getR d_X12_account_57 fl_X12_84 (by decide) (so36 hL) (sr36_28 hL) ?_
    refine px_aload_n d_X12_account_60 rfl rfl ?_
    refine px_getI d_X12_account_61 fl_X12_256 rfl (so36 hL) ?_
    refine px_iload_n d_X12_account_64 rfl rfl ?_
    refine px_iast d_X12_account_65 (sa55 hL) hm (by omega) ?_
    refine px_aload_n d_X12_account_66 rfl rfl ?_
    refine px_getR d_X12_account_67 fl_X12_87 (by decide) (so36 hL) (sr36_29 hL) ?_
    refine px_aload_n d_X12_account_70 rfl rfl ?_
    refine px_getI d_X12_account_71 fl_X12_256 rfl (so36 hL) ?_
    refine px_iload_n d_X12_account_74 rfl rfl ?_
    refine px_if_eq (tgt := 82) d_X12_account_75 (by decide) (fun c75 => (by first | exact absurd c75 (by decide) | exact (c75 (by decide)).elim)) (fun c75 => ?_)
    refine px_iload_n d_X12_account_78 rfl rfl ?_
    refine px_goto (tgt := 83) d_X12_account_79 (by decide) ?_
    refine px_val (y := (if k = 1 ∨ k = 3 then w else 0)) (by first | exact (if_pos (Or.inl c7)).symm | exact (if_pos (Or.inr c12)).symm | exact (if_neg (fun q => q.elim c7 c12)).symm) ?_
    refine px_iast d_X12_account_83 (sa56 hL) hm (by omega) ?_
    refine px_aload_n d_X12_account_84 rfl rfl ?_
    refine px_getR d_X12_account_85 fl_X12_90 (by decide) (so36 hL) (sr36_30 hL) ?_
    refine px_aload_n d_X12_account_88 rfl rfl ?_
    refine px_getI d_X12_account_89 fl_X12_256 rfl (so36 hL) ?_
    refine px_aload_n d_X12_account_92 rfl rfl ?_
    refine px_getI d_X12_account_93 fl_X12_218 rfl (so36 hL) ?_
    refine px_iast d_X12_account_96 (sa57 hL) hm (by omega) ?_
    refine px_aload_n d_X12_account_97 rfl rfl ?_
    refine px_dup d_X12_account_98 rfl ?_
    refine px_getI d_X12_account_99 fl_X12_256 rfl (so36 hL) ?_
    refine px_iconst (v := 1) d_X12_account_102 (by decide) ?_
    refine px_iadd d_X12_account_103 ?_
    refine px_val (y := nI (m + 1)) (by rw [← nI_s1]; exact congrArg (· + 1) hm) ?_
    refine px_putI d_X12_account_104 fl_X12_256 rfl (so36 hL) ?_
    refine px_aload_n d_X12_account_107 rfl rfl ?_
    refine px_getI d_X12_account_108 fl_X12_256 rfl (so36 hL) ?_
    refine px_iconst (v := 1) d_X12_account_111 (by decide) ?_
    refine px_isub d_X12_account_112 ?_
    exact px_ireturn d_X12_account_113 rfl rfl ⟨rfl, px_si (px_dec _ _ _ _), rfl⟩
  · refine px_iload_n d_X12_account_10 rfl rfl ?_
    refine px_iconst (v := 3) d_X12_account_11 (by decide) ?_
    refine px_icmp_ne (tgt := 19) d_X12_account_12 (by decide) (fun c12 => ?_) (fun c12 => ?_)
    · refine px_iconst (v := 0) d_X12_account_19 (by decide) ?_
      refine px_istore_n d_X12_account_20 rfl (by decide) ?_
      refine px_iload_n d_X12_account_21 rfl rfl ?_
      refine px_if_lt (tgt := 54) d_X12_account_22 (by decide) (fun c22 => absurd c22 hv.1) (fun c22 => ?_)
      refine px_iload_n d_X12_account_25 rfl rfl ?_
      refine px_iconst (v := 3) d_X12_account_26 (by decide) ?_
      refine px_icmp_gt (tgt := 54) d_X12_account_27 (by decide) (fun c27 => absurd c27 hv.2.1) (fun c27 => ?_)
      refine px_iload_n d_X12_account_30 rfl rfl ?_
      refine px_if_eq (tgt := 45) d_X12_account_31 (by decide) (fun c31 => ?_) (fun c31 => (by first | exact absurd c31 (by decide) | exact (c31 (by decide)).elim))
      refine px_aload_n d_X12_account_45 rfl rfl ?_
      refine px_getI d_X12_account_46 fl_X12_256 rfl (so36 hL) ?_
      refine px_bipush (v := 20) d_X12_account_49 (by decide) ?_
      refine px_icmp_ne (tgt := 56) d_X12_account_51 (by decide) (fun c51 => ?_) (fun c51 => absurd c51 hv.2.2.2)
      refine px_aload_n d_X12_account_56 rfl rfl ?_
      refine px_getR d_X12_account_57 fl_X12_84 (by decide) (so36 hL) (sr36_28 hL) ?_
      refine px_aload_n d_X12_account_60 rfl rfl ?_
      refine px_getI d_X12_account_61 fl_X12_256 rfl (so36 hL) ?_
      refine px_iload_n d_X12_account_64 rfl rfl ?_
      refine px_iast d_X12_account_65 (sa55 hL) hm (by omega) ?_
      refine px_aload_n d_X12_account_66 rfl rfl ?_
      refine px_getR d_X12_account_67 fl_X12_87 (by decide) (so36 hL) (sr36_29 hL) ?_
      refine px_aload_n d_X12_account_70 rfl rfl ?_
      refine px_getI d_X12_account_71 fl_X12_256 rfl (so36 hL) ?_
      refine px_iload_n d_X12_account_74 rfl rfl ?_
      refine px_if_eq (tgt := 82) d_X12_account_75 (by decide) (fun c75 => ?_) (fun c75 => (by first | exact absurd c75 (by decide) | exact (c75 (by decide)).elim))
      refine px_iconst (v := 0) d_X12_account_82 (by decide) ?_
      refine px_val (y := (if k = 1 ∨ k = 3 then w else 0)) (by first | exact (if_pos (Or.inl c7)).symm | exact (if_pos (Or.inr c12)).symm | exact (if_neg (fun q => q.elim c7 c12)).symm) ?_
      refine px_iast d_X12_account_83 (sa56 hL) hm (by omega) ?_
      refine px_aload_n d_X12_account_84 rfl rfl ?_
      refine px_getR d_X12_account_85 fl_X12_90 (by decide) (so36 hL) (sr36_30 hL) ?_
      refine px_aload_n d_X12_account_88 rfl rfl ?_
      refine px_getI d_X12_account_89 fl_X12_256 rfl (so36 hL) ?_
      refine px_aload_n d_X12_account_92 rfl rfl ?_
      refine px_getI d_X12_account_93 fl_X12_218 rfl (so36 hL) ?_
      refine px_iast d_X12_account_96 (sa57 hL) hm (by omega) ?_
      refine px_aload_n d_X12_account_97 rfl rfl ?_
      refine px_dup d_X12_account_98 rfl ?_
      refine px_getI d_X12_account_99 fl_X12_256 rfl (so36 hL) ?_
      refine px_iconst (v := 1) d_X12_account_102 (by decide) ?_
      refine px_iadd d_X12_account_103 ?_
      refine px_val (y := nI (m + 1)) (by rw [← nI_s1]; exact congrArg (· + 1) hm) ?_
      refine px_putI d_X12_account_104 fl_X12_256 rfl (so36 hL) ?_
      refine px_aload_n d_X12_account_107 rfl rfl ?_
      refine px_getI d_X12_account_108 fl_X12_256 rfl (so36 hL) ?_
      refine px_iconst (v := 1) d_X12_account_111 (by decide) ?_
      refine px_isub d_X12_account_112 ?_
      exact px_ireturn d_X12_account_113 rfl rfl ⟨rfl, px_si (px_dec _ _ _ _), rfl⟩
    · refine px_iconst (v := 1) d_X12_account_15 (by decide) ?_
      refine px_goto (tgt := 20) d_X12_account_16 (by decide) ?_
      refine px_istore_n d_X12_account_20 rfl (by decide) ?_
      refine px_iload_n d_X12_account_21 rfl rfl ?_
      refine px_if_lt (tgt := 54) d_X12_account_22 (by decide) (fun c22 => absurd c22 hv.1) (fun c22 => ?_)
      refine px_iload_n d_X12_account_25 rfl rfl ?_
      refine px_iconst (v := 3) d_X12_account_26 (by decide) ?_
      refine px_icmp_gt (tgt := 54) d_X12_account_27 (by decide) (fun c27 => absurd c27 hv.2.1) (fun c27 => ?_)
      refine px_iload_n d_X12_account_30 rfl rfl ?_
      refine px_if_eq (tgt := 45) d_X12_account_31 (by decide) (fun c31 => (by first | exact absurd c31 (by decide) | exact (c31 (by decide)).elim)) (fun c31 => ?_)
      refine px_iload_n d_X12_account_34 rfl rfl ?_
      refine px_if_lt (tgt := 54) d_X12_account_35 (by decide) (fun c35 => absurd c35 (by first | exact (hv.2.2.1 (Or.inl c7)).1 | exact (hv.2.2.1 (Or.inr c12)).1)) (fun c35 => ?_)
      refine px_iload_n d_X12_account_38 rfl rfl ?_
      refine px_sipush (v := 719) d_X12_account_39 (by decide) ?_
      refine px_icmp_gt (tgt := 54) d_X12_account_42 (by decide) (fun c42 => absurd c42 (by first | exact (hv.2.2.1 (Or.inl c7)).2 | exact (hv.2.2.1 (Or.inr c12)).2)) (fun c42 => ?_)
      refine px_aload_n d_X12_account_45 rfl rfl ?_
      refine px_getI d_X12_account_46 fl_X12_256 rfl (so36 hL) ?_
      refine px_bipush (v := 20) d_X12_account_49 (by decide) ?_
      refine px_icmp_ne (tgt := 56) d_X12_account_51 (by decide) (fun c51 => ?_) (fun c51 => absurd c51 hv.2.2.2)
      refine px_aload_n d_X12_account_56 rfl rfl ?_
      refine px_getR d_X12_account_57 fl_X12_84 (by decide) (so36 hL) (sr36_28 hL) ?_
      refine px_aload_n d_X12_account_60 rfl rfl ?_
      refine px_getI d_X12_account_61 fl_X12_256 rfl (so36 hL) ?_
      refine px_iload_n d_X12_account_64 rfl rfl ?_
      refine px_iast d_X12_account_65 (sa55 hL) hm (by omega) ?_
      refine px_aload_n d_X12_account_66 rfl rfl ?_
      refine px_getR d_X12_account_67 fl_X12_87 (by decide) (so36 hL) (sr36_29 hL) ?_
      refine px_aload_n d_X12_account_70 rfl rfl ?_
      refine px_getI d_X12_account_71 fl_X12_256 rfl (so36 hL) ?_
      refine px_iload_n d_X12_account_74 rfl rfl ?_
      refine px_if_eq (tgt := 82) d_X12_account_75 (by decide) (fun c75 => (by first | exact absurd c75 (by decide) | exact (c75 (by decide)).elim)) (fun c75 => ?_)
      refine px_iload_n d_X12_account_78 rfl rfl ?_
      refine px_goto (tgt := 83) d_X12_account_79 (by decide) ?_
      refine px_val (y := (if k = 1 ∨ k = 3 then w else 0)) (by first | exact (if_pos (Or.inl c7)).symm | exact (if_pos (Or.inr c12)).symm | exact (if_neg (fun q => q.elim c7 c12)).symm) ?_
      refine px_iast d_X12_account_83 (sa56 hL) hm (by omega) ?_
      refine px_aload_n d_X12_account_84 rfl rfl ?_
      refine px_getR d_X12_account_85 fl_X12_90 (by decide) (so36 hL) (sr36_30 hL) ?_
      refine px_aload_n d_X12_account_88 rfl rfl ?_
      refine px_getI d_X12_account_89 fl_X12_256 rfl (so36 hL) ?_
      refine px_aload_n d_X12_account_92 rfl rfl ?_
      refine px_getI d_X12_account_93 fl_X12_218 rfl (so36 hL) ?_
      refine px_iast d_X12_account_96 (sa57 hL) hm (by omega) ?_
      refine px_aload_n d_X12_account_97 rfl rfl ?_
      refine px_dup d_X12_account_98 rfl ?_
      refine px_getI d_X12_account_99 fl_X12_256 rfl (so36 hL) ?_
      refine px_iconst (v := 1) d_X12_account_102 (by decide) ?_
      refine px_iadd d_X12_account_103 ?_
      refine px_val (y := nI (m + 1)) (by rw [← nI_s1]; exact congrArg (· + 1) hm) ?_
      refine px_putI d_X12_account_104 fl_X12_256 rfl (so36 hL) ?_
      refine px_aload_n d_X12_account_107 rfl rfl ?_
      refine px_getI d_X12_account_108 fl_X12_256 rfl (so36 hL) ?_
      refine px_iconst (v := 1) d_X12_account_111 (by decide) ?_
      refine px_isub d_X12_account_112 ?_
      exact px_ireturn d_X12_account_113 rfl rfl ⟨rfl, px_si (px_dec _ _ _ _), rfl⟩
theorem n_X12_account {h : PH} {k w : Int32} (hL : px_L h) (hv : ¬ (¬ k < 0 ∧ ¬ 3 < k ∧ ((k = 1 ∨ k = 3) → (¬ w < 0 ∧ ¬ 719 < w)) ∧ ¬ hI h 36 27 = 20)) : PM M_X12_account [.ref 36, .int k, .int w] h (some (.int (-1))) (th0 h) := by
  refine PM.of (by decide +kernel) (by decide +kernel) (Nat.le_refl _) (Nat.le_refl _) (Nat.le_of_ble_eq_true rfl) ?_
  refine px_aload_n d_X12_account_0 rfl rfl ?_
  refine px_iconst (v := 0) d_X12_account_1 (by decide) ?_
  refine px_putI d_X12_account_2 fl_X12_150 rfl (so36 hL) ?_
  refine px_iload_n d_X12_account_5 rfl rfl ?_
  refine px_iconst (v := 1) d_X12_account_6 (by decide) ?_
  refine px_icmp_eq (tgt := 15) d_X12_account_7 (by decide) (fun c7 => ?_) (fun c7 => ?_)
  · refine px_iconst (v := 1) d_X12_account_15 (by decide) ?_
    refine px_goto (tgt := 20) d_X12_account_16 (by decide) ?_
    refine px_istore_n d_X12_account_20 rfl (by decide) ?_
    refine px_iload_n d_X12_account_21 rfl rfl ?_
    refine px_if_lt (tgt := 54) d_X12_account_22 (by decide) (fun c22 => ?_) (fun c22 => ?_)
    · refine px_iconst (v := (-1)) d_X12_account_54 (by decide) ?_
      exact px_ireturn d_X12_account_55 rfl rfl ⟨rfl, rfl, rfl⟩
    · refine px_iload_n d_X12_account_25 rfl rfl ?_
      refine px_iconst (v := 3) d_X12_account_26 (by decide) ?_
      refine px_icmp_gt (tgt := 54) d_X12_account_27 (by decide) (fun c27 => ?_) (fun c27 => ?_)
      · refine px_iconst (v := (-1)) d_X12_account_54 (by decide) ?_
        exact px_ireturn d_X12_account_55 rfl rfl ⟨rfl, rfl, rfl⟩
      · refine px_iload_n d_X12_account_30 rfl rfl ?_
        refine px_if_eq (tgt := 45) d_X12_account_31 (by decide) (fun c31 => (by first | exact absurd c31 (by decide) | exact (c31 (by decide)).elim)) (fun c31 => ?_)
        refine px_iload_n d_X12_account_34 rfl rfl ?_
        refine px_if_lt (tgt := 54) d_X12_account_35 (by decide) (fun c35 => ?_) (fun c35 => ?_)
        · refine px_iconst (v := (-1)) d_X12_account_54 (by decide) ?_
          exact px_ireturn d_X12_account_55 rfl rfl ⟨rfl, rfl, rfl⟩
        · refine px_iload_n d_X12_account_38 rfl rfl ?_
          refine px_sipush (v := 719) d_X12_account_39 (by decide) ?_
          refine px_icmp_gt (tgt := 54) d_X12_account_42 (by decide) (fun c42 => ?_) (fun c42 => ?_)
          · refine px_iconst (v := (-1)) d_X12_account_54 (by decide) ?_
            exact px_ireturn d_X12_account_55 rfl rfl ⟨rfl, rfl, rfl⟩
          · refine px_aload_n d_X12_account_45 rfl rfl ?_
            refine px_getI d_X12_account_46 fl_X12_256 rfl (so36 hL) ?_
            refine px_bipush (v := 20) d_X12_account_49 (by decide) ?_
            refine px_icmp_ne (tgt := 56) d_X12_account_51 (by decide) (fun c51 => ?_) (fun c51 => ?_)
            · refine absurd ⟨c22, c27, ?_, c51⟩ hv
              intro q
              first | exact ⟨c35, c42⟩ | (rcases q with q | q <;> contradiction)
            · refine px_iconst (v := (-1)) d_X12_account_54 (by decide) ?_
              exact px_ireturn d_X12_account_55 rfl rfl ⟨rfl, rfl, rfl⟩
  · refine px_iload_n d_X12_account_10 rfl rfl ?_
    refine px_iconst (v := 3) d_X12_account_11 (by decide) ?_
    refine px_icmp_ne (tgt := 19) d_X12_account_12 (by decide) (fun c12 => ?_) (fun c12 => ?_)
    · refine px_iconst (v := 0) d_X12_account_19 (by decide) ?_
      refine px_istore_n d_X12_account_20 rfl (by decide) ?_
      refine px_iload_n d_X12_account_21 rfl rfl ?_
      refine px_if_lt (tgt := 54) d_X12_account_22 (by decide) (fun c22 => ?_) (fun c22 => ?_)
      · refine px_iconst (v := (-1)) d_X12_account_54 (by decide) ?_
        exact px_ireturn d_X12_account_55 rfl rfl ⟨rfl, rfl, rfl⟩
      · refine px_iload_n d_X12_account_25 rfl rfl ?_
        refine px_iconst (v := 3) d_X12_account_26 (by decide) ?_
        refine px_icmp_gt (tgt := 54) d_X12_account_27 (by decide) (fun c27 => ?_) (fun c27 => ?_)
        · refine px_iconst (v := (-1)) d_X12_account_54 (by decide) ?_
          exact px_ireturn d_X12_account_55 rfl rfl ⟨rfl, rfl, rfl⟩
        · refine px_iload_n d_X12_account_30 rfl rfl ?_
          refine px_if_eq (tgt := 45) d_X12_account_31 (by decide) (fun c31 => ?_) (fun c31 => (by first | exact absurd c31 (by decide) | exact (c31 (by decide)).elim))
          refine px_aload_n d_X12_account_45 rfl rfl ?_
          refine px_getI d_X12_account_46 fl_X12_256 rfl (so36 hL) ?_
          refine px_bipush (v := 20) d_X12_account_49 (by decide) ?_
          refine px_icmp_ne (tgt := 56) d_X12_account_51 (by decide) (fun c51 => ?_) (fun c51 => ?_)
          · refine absurd ⟨c22, c27, ?_, c51⟩ hv
            intro q
            first | exact ⟨c35, c42⟩ | (rcases q with q | q <;> contradiction)
          · refine px_iconst (v := (-1)) d_X12_account_54 (by decide) ?_
            exact px_ireturn d_X12_account_55 rfl rfl ⟨rfl, rfl, rfl⟩
    · refine px_iconst (v := 1) d_X12_account_15 (by decide) ?_
      refine px_goto (tgt := 20) d_X12_account_16 (by decide) ?_
      refine px_istore_n d_X12_account_20 rfl (by decide) ?_
      refine px_iload_n d_X12_account_21 rfl rfl ?_
      refine px_if_lt (tgt := 54) d_X12_account_22 (by decide) (fun c22 => ?_) (fun c22 => ?_)
      · refine px_iconst (v := (-1)) d_X12_account_54 (by decide) ?_
        exact px_ireturn d_X12_account_55 rfl rfl ⟨rfl, rfl, rfl⟩
      · refine px_iload_n d_X12_account_25 rfl rfl ?_
        refine px_iconst (v := 3) d_X12_account_26 (by decide) ?_
        refine px_icmp_gt (tgt := 54) d_X12_account_27 (by decide) (fun c27 => ?_) (fun c27 => ?_)
        · refine px_iconst (v := (-1)) d_X12_account_54 (by decide) ?_
          exact px_ireturn d_X12_account_55 rfl rfl ⟨rfl, rfl, rfl⟩
        · refine px_iload_n d_X12_account_30 rfl rfl ?_
          refine px_if_eq (tgt := 45) d_X12_account_31 (by decide) (fun c31 => (by first | exact absurd c31 (by decide) | exact (c31 (by decide)).elim)) (fun c31 => ?_)
          refine px_iload_n d_X12_account_34 rfl rfl ?_
          refine px_if_lt (tgt := 54) d_X12_account_35 (by decide) (fun c35 => ?_) (fun c35 => ?_)
          · refine px_iconst (v := (-1)) d_X12_account_54 (by decide) ?_
            exact px_ireturn d_X12_account_55 rfl rfl ⟨rfl, rfl, rfl⟩
          · refine px_iload_n d_X12_account_38 rfl rfl ?_
            refine px_sipush (v := 719) d_X12_account_39 (by decide) ?_
            refine px_icmp_gt (tgt := 54) d_X12_account_42 (by decide) (fun c42 => ?_) (fun c42 => ?_)
            · refine px_iconst (v := (-1)) d_X12_account_54 (by decide) ?_
              exact px_ireturn d_X12_account_55 rfl rfl ⟨rfl, rfl, rfl⟩
            · refine px_aload_n d_X12_account_45 rfl rfl ?_
              refine px_getI d_X12_account_46 fl_X12_256 rfl (so36 hL) ?_
              refine px_bipush (v := 20) d_X12_account_49 (by decide) ?_
              refine px_icmp_ne (tgt := 56) d_X12_account_51 (by decide) (fun c51 => ?_) (fun c51 => ?_)
              · refine absurd ⟨c22, c27, ?_, c51⟩ hv
                intro q
                first | exact ⟨c35, c42⟩ | (rcases q with q | q <;> contradiction)
              · refine px_iconst (v := (-1)) d_X12_account_54 (by decide) ?_
                exact px_ireturn d_X12_account_55 rfl rfl ⟨rfl, rfl, rfl⟩
theorem isAc {m j : Nat} {x : Int32} (hm : x = nI m) (hm2 : m ≤ 20) (hj : j < m) : ¬ nI j < 0 ∧ ¬ x ≤ nI j := ⟨nI_pos (by omega), by rw [hm]; exact nI_ge (by omega) (by omega)⟩
theorem c_X12_write {h : PH} (hL : px_L h) {m : Nat} (hm : hI h 36 27 = nI m) (hm2 : m ≤ 20) {j : Nat} (hj : j < m) {d s : Int32} {c : Nat} (hc : hI h 69 j = nI c) (hc4 : c < 40) (hv : ¬ d < 0 ∧ ¬ 719 < d) : PM M_X12_write [.ref 36, .int (nI j), .int d, .int s] h (some (.int (nI (c + 1)))) (moLn (th0 h) j c d s) := by
  refine PM.of (by decide +kernel) (by decide +kernel) (Nat.le_refl _) (Nat.le_refl _) (Nat.le_of_ble_eq_true rfl) ?_
  refine px_aload_n d_X12_write_0 rfl rfl ?_
  refine px_iconst (v := 0) d_X12_write_1 (by decide) ?_
  refine px_putI d_X12_write_2 fl_X12_150 rfl (so36 hL) ?_
  refine px_aload_n d_X12_write_5 rfl rfl ?_
  refine px_iload_n d_X12_write_6 rfl rfl ?_
  refine px_callV (c_X12_isAccount (h := th0 h) hL) d_X12_write_7 lk_X12_262 ok_X12_isAccount ov_X12_isAccount (so36 hL) (by decide) rfl rfl (Nat.le_of_ble_eq_true rfl) (by decide) ⟨Nat.le_refl _, Nat.le_refl _⟩ ?_
  refine px_if_eq (tgt := 35) d_X12_write_10 (by decide) (fun c10 => absurd c10 (bI_n.mpr (isAc hm hm2 hj))) (fun c10 => ?_)
  refine px_iload_n d_X12_write_13 rfl rfl ?_
  refine px_if_lt (tgt := 35) d_X12_write_14 (by decide) (fun c14 => absurd c14 hv.1) (fun c14 => ?_)
  refine px_iload_n d_X12_write_17 rfl rfl ?_
  refine px_sipush (v := 719) d_X12_write_18 (by decide) ?_
  refine px_icmp_gt (tgt := 35) d_X12_write_21 (by decide) (fun c21 => absurd c21 hv.2) (fun c21 => ?_)
  refine px_aload_n d_X12_write_24 rfl rfl ?_
  refine px_getR d_X12_write_25 fl_X12_126 (by decide) (so36 hL) (sr36_44 hL) ?_
  refine px_iload_n d_X12_write_28 rfl rfl ?_
  refine px_iald d_X12_write_29 (sa69 hL) rfl (by omega) ?_
  refine px_bipush (v := 40) d_X12_write_30 (by decide) ?_
  refine px_icmp_ne (tgt := 37) d_X12_write_32 (by decide) (fun c32 => ?_) (fun c32 => absurd c32 (by rw [show hI (th0 h) 69 j = nI c from hc]; exact fun q => absurd ((nI_eq (b := 40) (by omega) (by decide)).mp q) (by omega)))
  refine px_aload_n d_X12_write_37 rfl rfl ?_
  refine px_getR d_X12_write_38 fl_X12_129 (by decide) (so36 hL) (sr36_45 hL) ?_
  refine px_bipush (v := 40) d_X12_write_41 (by decide) ?_
  refine px_iload_n d_X12_write_43 rfl rfl ?_
  refine px_imul d_X12_write_44 ?_
  refine px_aload_n d_X12_write_45 rfl rfl ?_
  refine px_getR d_X12_write_46 fl_X12_126 (by decide) (so36 hL) (sr36_44 hL) ?_
  refine px_iload_n d_X12_write_49 rfl rfl ?_
  refine px_iald d_X12_write_50 (sa69 hL) rfl (by omega) ?_
  refine px_iadd d_X12_write_51 ?_
  refine px_iload_n d_X12_write_52 rfl rfl ?_
  refine px_iast d_X12_write_53 (sa70 hL) (nI_40 j c hc) (by omega) ?_
  refine px_aload_n d_X12_write_54 rfl rfl ?_
  refine px_getR d_X12_write_55 fl_X12_132 (by decide) (so36 hL) (sr36_46 hL) ?_
  refine px_bipush (v := 40) d_X12_write_58 (by decide) ?_
  refine px_iload_n d_X12_write_60 rfl rfl ?_
  refine px_imul d_X12_write_61 ?_
  refine px_aload_n d_X12_write_62 rfl rfl ?_
  refine px_getR d_X12_write_63 fl_X12_126 (by decide) (so36 hL) (sr36_44 hL) ?_
  refine px_iload_n d_X12_write_66 rfl rfl ?_
  refine px_iald d_X12_write_67 (sa69 hL) rfl (by omega) ?_
  refine px_iadd d_X12_write_68 ?_
  refine px_iload_n d_X12_write_69 rfl rfl ?_
  refine px_iast d_X12_write_70 (sa71 hL) (nI_40 j c hc) (by omega) ?_
  refine px_aload_n d_X12_write_71 rfl rfl ?_
  refine px_getR d_X12_write_72 fl_X12_126 (by decide) (so36 hL) (sr36_44 hL) ?_
  refine px_iload_n d_X12_write_75 rfl rfl ?_
  refine px_dup2 d_X12_write_76 rfl rfl ?_
  refine px_iald d_X12_write_77 (sa69 hL) rfl (by omega) ?_
  refine px_iconst (v := 1) d_X12_write_78 (by decide) ?_
  refine px_iadd d_X12_write_79 ?_
  refine px_val (y := nI (c + 1)) (by rw [← nI_s1]; exact congrArg (· + 1) hc) ?_
  refine px_iast d_X12_write_80 (sa69 hL) rfl (by omega) ?_
  refine px_aload_n d_X12_write_81 rfl rfl ?_
  refine px_getR d_X12_write_82 fl_X12_126 (by decide) (so36 hL) (sr36_44 hL) ?_
  refine px_iload_n d_X12_write_85 rfl rfl ?_
  refine px_iald d_X12_write_86 (sa69 hL) rfl (by omega) ?_
  exact px_ireturn d_X12_write_87 rfl rfl ⟨rfl, px_si (gI_s _ _ _ _), rfl⟩
theorem n_X12_write {h : PH} (hL : px_L h) {m : Nat} (hm : hI h 36 27 = nI m) (hm2 : m ≤ 20) {j : Nat} (hj : j < m) {d s : Int32} (hv : ¬ (¬ d < 0 ∧ ¬ 719 < d ∧ ¬ hI h 69 j = 40)) : PM M_X12_write [.ref 36, .int (nI j), .int d, .int s] h (some (.int (-1))) (th0 h) := by
  refine PM.of (by decide +kernel) (by decide +kernel) (Nat.le_refl _) (Nat.le_refl _) (Nat.le_of_ble_eq_true rfl) ?_
  refine px_aload_n d_X12_write_0 rfl rfl ?_
  refine px_iconst (v := 0) d_X12_write_1 (by decide) ?_
  refine px_putI d_X12_write_2 fl_X12_150 rfl (so36 hL) ?_
  refine px_aload_n d_X12_write_5 rfl rfl ?_
  refine px_iload_n d_X12_write_6 rfl rfl ?_
  refine px_callV (c_X12_isAccount (h := th0 h) hL) d_X12_write_7 lk_X12_262 ok_X12_isAccount ov_X12_isAccount (so36 hL) (by decide) rfl rfl (Nat.le_of_ble_eq_true rfl) (by decide) ⟨Nat.le_refl _, Nat.le_refl _⟩ ?_
  refine px_if_eq (tgt := 35) d_X12_write_10 (by decide) (fun c10 => absurd c10 (bI_n.mpr (isAc hm hm2 hj))) (fun c10 => ?_)
  refine px_iload_n d_X12_write_13 rfl rfl ?_
  refine px_if_lt (tgt := 35) d_X12_write_14 (by decide) (fun c14 => ?_) (fun c14 => ?_)
  · refine px_iconst (v := (-1)) d_X12_write_35 (by decide) ?_
    exact px_ireturn d_X12_write_36 rfl rfl ⟨rfl, rfl, rfl⟩
  · refine px_iload_n d_X12_write_17 rfl rfl ?_
    refine px_sipush (v := 719) d_X12_write_18 (by decide) ?_
    refine px_icmp_gt (tgt := 35) d_X12_write_21 (by decide) (fun c21 => ?_) (fun c21 => ?_)
    · refine px_iconst (v := (-1)) d_X12_write_35 (by decide) ?_
      exact px_ireturn d_X12_write_36 rfl rfl ⟨rfl, rfl, rfl⟩
    · refine px_aload_n d_X12_write_24 rfl rfl ?_
      refine px_getR d_X12_write_25 fl_X12_126 (by decide) (so36 hL) (sr36_44 hL) ?_
      refine px_iload_n d_X12_write_28 rfl rfl ?_
      refine px_iald d_X12_write_29 (sa69 hL) rfl (by omega) ?_
      refine px_bipush (v := 40) d_X12_write_30 (by decide) ?_
      refine px_icmp_ne (tgt := 37) d_X12_write_32 (by decide) (fun c32 => ?_) (fun c32 => ?_)
      · exact absurd ⟨c14, c21, c32⟩ hv
      · refine px_iconst (v := (-1)) d_X12_write_35 (by decide) ?_
        exact px_ireturn d_X12_write_36 rfl rfl ⟨rfl, rfl, rfl⟩
theorem i_X12_write {h : PH} {a : Int32} {d s : Int32} (hL : px_L h) (hv : ¬ (¬ a < 0 ∧ ¬ hI h 36 27 ≤ a)) : PM M_X12_write [.ref 36, .int a, .int d, .int s] h (some (.int (-1))) (th0 h) := by
  refine PM.of (by decide +kernel) (by decide +kernel) (Nat.le_refl _) (Nat.le_refl _) (Nat.le_of_ble_eq_true rfl) ?_
  refine px_aload_n d_X12_write_0 rfl rfl ?_
  refine px_iconst (v := 0) d_X12_write_1 (by decide) ?_
  refine px_putI d_X12_write_2 fl_X12_150 rfl (so36 hL) ?_
  refine px_aload_n d_X12_write_5 rfl rfl ?_
  refine px_iload_n d_X12_write_6 rfl rfl ?_
  refine px_callV (c_X12_isAccount (h := th0 h) hL) d_X12_write_7 lk_X12_262 ok_X12_isAccount ov_X12_isAccount (so36 hL) (by decide) rfl rfl (Nat.le_of_ble_eq_true rfl) (by decide) ⟨Nat.le_refl _, Nat.le_refl _⟩ ?_
  refine px_if_eq (tgt := 35) d_X12_write_10 (by decide) (fun c10 => ?_) (fun c10 => absurd (bI_n.mp c10) hv)
  refine px_iconst (v := (-1)) d_X12_write_35 (by decide) ?_
  exact px_ireturn d_X12_write_36 rfl rfl ⟨rfl, rfl, rfl⟩
theorem i_X12_notice {h : PH} {a : Int32} {s : Int32} (hL : px_L h) (hv : ¬ (¬ a < 0 ∧ ¬ hI h 36 27 ≤ a)) : PM M_X12_notice [.ref 36, .int a, .int s] h (some (.int 0)) (th0 h) := by
  refine PM.of (by decide +kernel) (by decide +kernel) (Nat.le_refl _) (Nat.le_refl _) (Nat.le_of_ble_eq_true rfl) ?_
  refine px_aload_n d_X12_notice_0 rfl rfl ?_
  refine px_iconst (v := 0) d_X12_notice_1 (by decide) ?_
  refine px_putI d_X12_notice_2 fl_X12_150 rfl (so36 hL) ?_
  refine px_aload_n d_X12_notice_5 rfl rfl ?_
  refine px_iload_n d_X12_notice_6 rfl rfl ?_
  refine px_callV (c_X12_isAccount (h := th0 h) hL) d_X12_notice_7 lk_X12_262 ok_X12_isAccount ov_X12_isAccount (so36 hL) (by decide) rfl rfl (Nat.le_of_ble_eq_true rfl) (by decide) ⟨Nat.le_refl _, Nat.le_refl _⟩ ?_
  refine px_if_eq (tgt := 44) d_X12_notice_10 (by decide) (fun c10 => ?_) (fun c10 => absurd (bI_n.mp c10) hv)
  refine px_iconst (v := 0) d_X12_notice_44 (by decide) ?_
  exact px_ireturn d_X12_notice_45 rfl rfl ⟨rfl, rfl, rfl⟩
theorem i_X12_compare {h : PH} {a : Int32} {s : Int32} (hL : px_L h) (hv : ¬ (¬ a < 0 ∧ ¬ hI h 36 27 ≤ a)) : PM M_X12_compare [.ref 36, .int a, .int s] h (some (.int (-1))) (th0 h) := by
  refine PM.of (by decide +kernel) (by decide +kernel) (Nat.le_refl _) (Nat.le_refl _) (Nat.le_of_ble_eq_true rfl) ?_
  refine px_aload_n d_X12_compare_0 rfl rfl ?_
  refine px_iconst (v := 0) d_X12_compare_1 (by decide) ?_
  refine px_putI d_X12_compare_2 fl_X12_150 rfl (so36 hL) ?_
  refine px_aload_n d_X12_compare_5 rfl rfl ?_
  refine px_iload_n d_X12_compare_6 rfl rfl ?_
  refine px_callV (c_X12_isAccount (h := th0 h) hL) d_X12_compare_7 lk_X12_262 ok_X12_isAccount ov_X12_isAccount (so36 hL) (by decide) rfl rfl (Nat.le_of_ble_eq_true rfl) (by decide) ⟨Nat.le_refl _, Nat.le_refl _⟩ ?_
  refine px_if_eq (tgt := 22) d_X12_compare_10 (by decide) (fun c10 => ?_) (fun c10 => absurd (bI_n.mp c10) hv)
  refine px_iconst (v := (-1)) d_X12_compare_22 (by decide) ?_
  exact px_ireturn d_X12_compare_23 rfl rfl ⟨rfl, rfl, rfl⟩
theorem c_X12_notice {h : PH} (hL : px_L h) {m : Nat} (hm : hI h 36 27 = nI m) (hm2 : m ≤ 20) {j : Nat} (hj : j < m) {s : Int32} {n : Nat} (hs1 : hI h 36 39 = nI n) (hn6 : n ≤ 60) (hv : hI h 55 j = 3 ∧ ¬ s < 1 ∧ ¬ 100000 < s ∧ ¬ hI h 36 39 = 60) : PM M_X12_notice [.ref 36, .int (nI j), .int s] h (some (.int 1)) (moNtc (th0 h) n (nI j) s) := by
  have hn5 : n < 60 := nI_ne hn6 (by decide) rfl hs1 hv.2.2.2
  refine PM.of (by decide +kernel) (by decide +kernel) (Nat.le_refl _) (Nat.le_refl _) (Nat.le_of_ble_eq_true rfl) ?_
  refine px_aload_n d_X12_notice_0 rfl rfl ?_
  refine px_iconst (v := 0) d_X12_notice_1 (by decide) ?_
  refine px_putI d_X12_notice_2 fl_X12_150 rfl (so36 hL) ?_
  refine px_aload_n d_X12_notice_5 rfl rfl ?_
  refine px_iload_n d_X12_notice_6 rfl rfl ?_
  refine px_callV (c_X12_isAccount (h := th0 h) hL) d_X12_notice_7 lk_X12_262 ok_X12_isAccount ov_X12_isAccount (so36 hL) (by decide) rfl rfl (Nat.le_of_ble_eq_true rfl) (by decide) ⟨Nat.le_refl _, Nat.le_refl _⟩ ?_
  refine px_if_eq (tgt := 44) d_X12_notice_10 (by decide) (fun c10 => absurd c10 (bI_n.mpr (isAc hm hm2 hj))) (fun c10 => ?_)
  refine px_aload_n d_X12_notice_13 rfl rfl ?_
  refine px_getR d_X12_notice_14 fl_X12_84 (by decide) (so36 hL) (sr36_28 hL) ?_
  refine px_iload_n d_X12_notice_17 rfl rfl ?_
  refine px_iald d_X12_notice_18 (sa55 hL) rfl (by omega) ?_
  refine px_iconst (v := 3) d_X12_notice_19 (by decide) ?_
  refine px_icmp_ne (tgt := 44) d_X12_notice_20 (by decide) (fun c20 => absurd hv.1 c20) (fun c20 => ?_)
  refine px_iload_n d_X12_notice_23 rfl rfl ?_
  refine px_iconst (v := 1) d_X12_notice_24 (by decide) ?_
  refine px_icmp_lt (tgt := 44) d_X12_notice_25 (by decide) (fun c25 => absurd c25 hv.2.1) (fun c25 => ?_)
  refine px_iload_n d_X12_notice_28 rfl rfl ?_
  refine px_ldcw d_X12_notice_29 ck_X12_266 ?_
  refine px_icmp_gt (tgt := 44) d_X12_notice_32 (by decide) (fun c32 => absurd c32 hv.2.2.1) (fun c32 => ?_)
  refine px_aload_n d_X12_notice_35 rfl rfl ?_
  refine px_getI d_X12_notice_36 fl_X12_285 rfl (so36 hL) ?_
  refine px_bipush (v := 60) d_X12_notice_39 (by decide) ?_
  refine px_icmp_ne (tgt := 46) d_X12_notice_41 (by decide) (fun c41 => ?_) (fun c41 => absurd c41 hv.2.2.2)
  refine px_aload_n d_X12_notice_46 rfl rfl ?_
  refine px_getR d_X12_notice_47 fl_X12_114 (by decide) (so36 hL) (sr36_40 hL) ?_
  refine px_aload_n d_X12_notice_50 rfl rfl ?_
  refine px_getI d_X12_notice_51 fl_X12_285 rfl (so36 hL) ?_
  refine px_iload_n d_X12_notice_54 rfl rfl ?_
  refine px_iast d_X12_notice_55 (sa65 hL) hs1 (by omega) ?_
  refine px_aload_n d_X12_notice_56 rfl rfl ?_
  refine px_getR d_X12_notice_57 fl_X12_117 (by decide) (so36 hL) (sr36_41 hL) ?_
  refine px_aload_n d_X12_notice_60 rfl rfl ?_
  refine px_getI d_X12_notice_61 fl_X12_285 rfl (so36 hL) ?_
  refine px_aload_n d_X12_notice_64 rfl rfl ?_
  refine px_getI d_X12_notice_65 fl_X12_218 rfl (so36 hL) ?_
  refine px_iast d_X12_notice_68 (sa66 hL) hs1 (by omega) ?_
  refine px_aload_n d_X12_notice_69 rfl rfl ?_
  refine px_getR d_X12_notice_70 fl_X12_120 (by decide) (so36 hL) (sr36_42 hL) ?_
  refine px_aload_n d_X12_notice_73 rfl rfl ?_
  refine px_getI d_X12_notice_74 fl_X12_285 rfl (so36 hL) ?_
  refine px_iload_n d_X12_notice_77 rfl rfl ?_
  refine px_iast d_X12_notice_78 (sa67 hL) hs1 (by omega) ?_
  refine px_aload_n d_X12_notice_79 rfl rfl ?_
  refine px_dup d_X12_notice_80 rfl ?_
  refine px_getI d_X12_notice_81 fl_X12_285 rfl (so36 hL) ?_
  refine px_iconst (v := 1) d_X12_notice_84 (by decide) ?_
  refine px_iadd d_X12_notice_85 ?_
  refine px_val (y := nI (n + 1)) (by rw [← nI_s1]; exact congrArg (· + 1) hs1) ?_
  refine px_putI d_X12_notice_86 fl_X12_285 rfl (so36 hL) ?_
  refine px_iconst (v := 1) d_X12_notice_89 (by decide) ?_
  exact px_ireturn d_X12_notice_90 rfl rfl ⟨rfl, rfl, rfl⟩
theorem n_X12_notice {h : PH} (hL : px_L h) {m : Nat} (hm : hI h 36 27 = nI m) (hm2 : m ≤ 20) {j : Nat} (hj : j < m) {s : Int32} (hv : ¬ (hI h 55 j = 3 ∧ ¬ s < 1 ∧ ¬ 100000 < s ∧ ¬ hI h 36 39 = 60)) : PM M_X12_notice [.ref 36, .int (nI j), .int s] h (some (.int 0)) (th0 h) := by
  refine PM.of (by decide +kernel) (by decide +kernel) (Nat.le_refl _) (Nat.le_refl _) (Nat.le_of_ble_eq_true rfl) ?_
  refine px_aload_n d_X12_notice_0 rfl rfl ?_
  refine px_iconst (v := 0) d_X12_notice_1 (by decide) ?_
  refine px_putI d_X12_notice_2 fl_X12_150 rfl (so36 hL) ?_
  refine px_aload_n d_X12_notice_5 rfl rfl ?_
  refine px_iload_n d_X12_notice_6 rfl rfl ?_
  refine px_callV (c_X12_isAccount (h := th0 h) hL) d_X12_notice_7 lk_X12_262 ok_X12_isAccount ov_X12_isAccount (so36 hL) (by decide) rfl rfl (Nat.le_of_ble_eq_true rfl) (by decide) ⟨Nat.le_refl _, Nat.le_refl _⟩ ?_
  refine px_if_eq (tgt := 44) d_X12_notice_10 (by decide) (fun c10 => absurd c10 (bI_n.mpr (isAc hm hm2 hj))) (fun c10 => ?_)
  refine px_aload_n d_X12_notice_13 rfl rfl ?_
  refine px_getR d_X12_notice_14 fl_X12_84 (by decide) (so36 hL) (sr36_28 hL) ?_
  refine px_iload_n d_X12_notice_17 rfl rfl ?_
  refine px_iald d_X12_notice_18 (sa55 hL) rfl (by omega) ?_
  refine px_iconst (v := 3) d_X12_notice_19 (by decide) ?_
  refine px_icmp_ne (tgt := 44) d_X12_notice_20 (by decide) (fun c20 => ?_) (fun c20 => ?_)
  · refine px_iconst (v := 0) d_X12_notice_44 (by decide) ?_
    exact px_ireturn d_X12_notice_45 rfl rfl ⟨rfl, rfl, rfl⟩
  · refine px_iload_n d_X12_notice_23 rfl rfl ?_
    refine px_iconst (v := 1) d_X12_notice_24 (by decide) ?_
    refine px_icmp_lt (tgt := 44) d_X12_notice_25 (by decide) (fun c25 => ?_) (fun c25 => ?_)
    · refine px_iconst (v := 0) d_X12_notice_44 (by decide) ?_
      exact px_ireturn d_X12_notice_45 rfl rfl ⟨rfl, rfl, rfl⟩
    · refine px_iload_n d_X12_notice_28 rfl rfl ?_
      refine px_ldcw d_X12_notice_29 ck_X12_266 ?_
      refine px_icmp_gt (tgt := 44) d_X12_notice_32 (by decide) (fun c32 => ?_) (fun c32 => ?_)
      · refine px_iconst (v := 0) d_X12_notice_44 (by decide) ?_
        exact px_ireturn d_X12_notice_45 rfl rfl ⟨rfl, rfl, rfl⟩
      · refine px_aload_n d_X12_notice_35 rfl rfl ?_
        refine px_getI d_X12_notice_36 fl_X12_285 rfl (so36 hL) ?_
        refine px_bipush (v := 60) d_X12_notice_39 (by decide) ?_
        refine px_icmp_ne (tgt := 46) d_X12_notice_41 (by decide) (fun c41 => ?_) (fun c41 => ?_)
        · refine absurd ⟨?_, c25, c32, c41⟩ hv
          first | exact c20 | exact Classical.not_not.mp c20
        · refine px_iconst (v := 0) d_X12_notice_44 (by decide) ?_
          exact px_ireturn d_X12_notice_45 rfl rfl ⟨rfl, rfl, rfl⟩
def qM (p c : Int32) (w : Nat) : Int64 := p.toInt64 + c.toInt64 * (nI w).toInt64
def gdM (h : PH) (p c : Int32) : Nat → Bool
  | 0 => !decide (6 ≤ hI h 36 49)
  | k + 1 => gdM h p c k && (!decide (lg_cmp (qM p c k) 1 < 0) && !decide (0 < lg_cmp (qM p c k) 10000))
def prcM (h : PH) (n : Nat) (p c : Int32) : Nat → PH
  | 0 => h
  | k + 1 => pI (prcM h n p c k) 73 (6 * n + k) (p + c * nI k)
theorem prcM_2 (h : PH) (n : Nat) (p c : Int32) : ∀ k, (prcM h n p c k).2 = h.2
  | 0 => rfl
  | k + 1 => prcM_2 h n p c k
theorem prcM_L {h : PH} (hL : px_L h) (n : Nat) (p c : Int32) (k : Nat) : px_L (prcM h n p c k) := by
  have e := prcM_2 h n p c k
  unfold px_L hn hK hR at *
  rw [e]; exact hL
theorem prcM_I {h : PH} {n : Nat} {p c : Int32} {x : Nat} (hx : x ≠ 73) : ∀ k, hI (prcM h n p c k) x = hI h x
  | 0 => rfl
  | k + 1 => (hI_pI hx).trans (prcM_I hx k)
theorem prcM_n {h : PH} {n : Nat} {p c : Int32} (k : Nat) : hn (prcM h n p c k) = hn h ∧ hs (prcM h n p c k) = hs h := by
  have e := prcM_2 h n p c k
  unfold hn hs
  rw [e]; exact ⟨rfl, rfl⟩
theorem idx6 (n k : Nat) {x : Int32} (hx : x = nI n) : 6 * x + nI k = nI (6 * n + k) := by
  rw [hx]
  show Int32.ofNat 6 * Int32.ofNat n + Int32.ofNat k = Int32.ofNat (6 * n + k)
  rw [← Int32.ofNat_mul, ← Int32.ofNat_add]
def hldM (h : PH) (n : Nat) (p c : Int32) : PH := pI (prcM (th0 h) n p c 6) 36 49 (nI (n + 1))
theorem lp1_X12_holding {h : PH} {p c : Int32} {N S : Nat} {Post : Nat → Option Value → PH → Prop} (hL : px_L h) (kk : PW M_X12_holding N S Post 73 [(0, .ref 36), (1, .int p), (2, .int c), (3, .int (bI (gdM (th0 h) p c 6 = true)))] [] (th0 h)) : ∀ (k i : Nat), i + k = 6 → PW M_X12_holding N S Post 23 [(0, .ref 36), (1, .int p), (2, .int c), (3, .int (bI (gdM (th0 h) p c (i) = true))), (4, .int (nI (i)))] [] (th0 h) := by
  intro k
  induction k with
  | zero =>
    intro i hi
    have e : i = 6 := by omega
    subst e
    refine px_iload d_X12_holding_23 rfl ?_
    refine px_bipush (v := 6) d_X12_holding_25 (by decide) ?_
    refine px_icmp_ge (tgt := 73) d_X12_holding_27 (by decide) (fun c27 => ?_) (fun c27 => (c27 (by decide)).elim)
    refine px_drop (lv' := [(0, .ref 36), (1, .int p), (2, .int c), (3, .int (bI (gdM (th0 h) p c 6 = true)))]) ⟨rfl, rfl, rfl, rfl, trivial⟩ ?_
    exact kk
  | succ k ih =>
    intro i hi
    refine px_iload d_X12_holding_23 rfl ?_
    refine px_bipush (v := 6) d_X12_holding_25 (by decide) ?_
    refine px_icmp_ge (tgt := 73) d_X12_holding_27 (by decide) (fun c27 => absurd c27 (nI_ge (b := 6) (by omega) (by decide))) (fun c27 => ?_)
    refine px_iload_n d_X12_holding_30 rfl rfl ?_
    refine px_i2l d_X12_holding_31 ?_
    refine px_iload_n d_X12_holding_32 rfl rfl ?_
    refine px_i2l d_X12_holding_33 ?_
    refine px_iload d_X12_holding_34 rfl ?_
    refine px_i2l d_X12_holding_36 ?_
    refine px_lmul d_X12_holding_37 ?_
    refine px_ladd d_X12_holding_38 ?_
    refine px_lstore d_X12_holding_39 (by decide) ?_
    refine px_iload_n d_X12_holding_41 rfl rfl ?_
    refine px_if_eq (tgt := 65) d_X12_holding_42 (by decide) (fun c42 => ?_) (fun c42 => ?_)
    · refine px_iconst (v := 0) d_X12_holding_65 (by decide) ?_
      refine px_istore_n d_X12_holding_66 rfl (by decide) ?_
      refine px_inc1 d_X12_holding_67 rfl (by decide) ?_
      refine px_goto (tgt := 23) d_X12_holding_70 (by decide) ?_
      refine px_drop (lv' := [(0, .ref 36), (1, .int p), (2, .int c), (3, .int (bI (gdM (th0 h) p c (i + 1) = true))), (4, .int (nI (i + 1)))]) ⟨rfl, rfl, rfl, px_si (by have q9 := c42; simp only [bI_0, Classical.not_not] at q9; simp [bI, gdM, qM, q9, c27, c42]), px_si (nI_s1 _), trivial⟩ ?_
      exact ih (i + 1) (by omega)
    · refine px_lload d_X12_holding_45 rfl ?_
      refine px_lconst (v := 1) d_X12_holding_47 (by decide) ?_
      refine px_lcmp d_X12_holding_48 ?_
      refine px_if_lt (tgt := 65) d_X12_holding_49 (by decide) (fun c49 => ?_) (fun c49 => ?_)
      · refine px_iconst (v := 0) d_X12_holding_65 (by decide) ?_
        refine px_istore_n d_X12_holding_66 rfl (by decide) ?_
        refine px_inc1 d_X12_holding_67 rfl (by decide) ?_
        refine px_goto (tgt := 23) d_X12_holding_70 (by decide) ?_
        refine px_drop (lv' := [(0, .ref 36), (1, .int p), (2, .int c), (3, .int (bI (gdM (th0 h) p c (i + 1) = true))), (4, .int (nI (i + 1)))]) ⟨rfl, rfl, rfl, px_si (by have q9 := c42; simp only [bI_0, Classical.not_not] at q9; simp [bI, gdM, qM, q9, c27, c42, c49]), px_si (nI_s1 _), trivial⟩ ?_
        exact ih (i + 1) (by omega)
      · refine px_lload d_X12_holding_52 rfl ?_
        refine px_ldc2 d_X12_holding_54 cl_X12_312 ?_
        refine px_lcmp d_X12_holding_57 ?_
        refine px_if_gt (tgt := 65) d_X12_holding_58 (by decide) (fun c58 => ?_) (fun c58 => ?_)
        · refine px_iconst (v := 0) d_X12_holding_65 (by decide) ?_
          refine px_istore_n d_X12_holding_66 rfl (by decide) ?_
          refine px_inc1 d_X12_holding_67 rfl (by decide) ?_
          refine px_goto (tgt := 23) d_X12_holding_70 (by decide) ?_
          refine px_drop (lv' := [(0, .ref 36), (1, .int p), (2, .int c), (3, .int (bI (gdM (th0 h) p c (i + 1) = true))), (4, .int (nI (i + 1)))]) ⟨rfl, rfl, rfl, px_si (by have q9 := c42; simp only [bI_0, Classical.not_not] at q9; simp [bI, gdM, qM, q9, c27, c42, c49, c58]), px_si (nI_s1 _), trivial⟩ ?_
          exact ih (i + 1) (by omega)
        · refine px_iconst (v := 1) d_X12_holding_61 (by decide) ?_
          refine px_goto (tgt := 66) d_X12_holding_62 (by decide) ?_
          refine px_istore_n d_X12_holding_66 rfl (by decide) ?_
          refine px_inc1 d_X12_holding_67 rfl (by decide) ?_
          refine px_goto (tgt := 23) d_X12_holding_70 (by decide) ?_
          refine px_drop (lv' := [(0, .ref 36), (1, .int p), (2, .int c), (3, .int (bI (gdM (th0 h) p c (i + 1) = true))), (4, .int (nI (i + 1)))]) ⟨rfl, rfl, rfl, px_si (by have q9 := c42; simp only [bI_0, Classical.not_not] at q9; simp [bI, gdM, qM, q9, c27, c42, c49, c58]), px_si (nI_s1 _), trivial⟩ ?_
          exact ih (i + 1) (by omega)
theorem lp2_X12_holding {h : PH} {p c : Int32} {n N S : Nat} {Post : Nat → Option Value → PH → Prop} (hL : px_L h) (hs1 : hI h 36 49 = nI n) (hn6 : n < 6) (kk : PW M_X12_holding N S Post 116 [(0, .ref 36)] [] (prcM h n p c 6)) : ∀ (k i : Nat), i + k = 6 → PW M_X12_holding N S Post 82 [(0, .ref 36), (1, .int p), (2, .int c), (4, .int (nI (i)))] [] (prcM h n p c i) := by
  intro k
  induction k with
  | zero =>
    intro i hi
    have e : i = 6 := by omega
    subst e
    refine px_iload d_X12_holding_82 rfl ?_
    refine px_bipush (v := 6) d_X12_holding_84 (by decide) ?_
    refine px_icmp_ge (tgt := 116) d_X12_holding_86 (by decide) (fun c86 => ?_) (fun c86 => (c86 (by decide)).elim)
    refine px_drop (lv' := [(0, .ref 36)]) ⟨rfl, trivial⟩ ?_
    exact kk
  | succ k ih =>
    intro i hi
    have hL2 := prcM_L hL n p c i
    refine px_iload d_X12_holding_82 rfl ?_
    refine px_bipush (v := 6) d_X12_holding_84 (by decide) ?_
    refine px_icmp_ge (tgt := 116) d_X12_holding_86 (by decide) (fun c86 => absurd c86 (nI_ge (b := 6) (by omega) (by decide))) (fun c86 => ?_)
    refine px_aload_n d_X12_holding_89 rfl rfl ?_
    refine px_getR d_X12_holding_90 fl_X12_138 (by decide) (so36 hL2) (sr36_50 hL2) ?_
    refine px_bipush (v := 6) d_X12_holding_93 (by decide) ?_
    refine px_aload_n d_X12_holding_95 rfl rfl ?_
    refine px_getI d_X12_holding_96 fl_X12_309 rfl (so36 hL2) ?_
    refine px_imul d_X12_holding_99 ?_
    refine px_iload d_X12_holding_100 rfl ?_
    refine px_iadd d_X12_holding_102 ?_
    refine px_iload_n d_X12_holding_103 rfl rfl ?_
    refine px_iload_n d_X12_holding_104 rfl rfl ?_
    refine px_iload d_X12_holding_105 rfl ?_
    refine px_imul d_X12_holding_107 ?_
    refine px_iadd d_X12_holding_108 ?_
    refine px_iast d_X12_holding_109 (sa73 hL2) (idx6 n i ((congrFun (prcM_I (by decide) i) _).trans hs1)) (by omega) ?_
    refine px_inc1 d_X12_holding_110 rfl (by decide) ?_
    refine px_goto (tgt := 82) d_X12_holding_113 (by decide) ?_
    refine px_heap (h2 := prcM h n p c (i + 1)) rfl ?_
    refine px_drop (lv' := [(0, .ref 36), (1, .int p), (2, .int c), (4, .int (nI (i + 1)))]) ⟨rfl, rfl, rfl, px_si (nI_s1 _), trivial⟩ ?_
    exact ih (i + 1) (by omega)
theorem tn_X12_holding {h : PH} {p c : Int32} (hL : px_L h) (hv : ¬ gdM (th0 h) p c 6 = true) : PW M_X12_holding (hn h) (hs h) (PMpost (some (.int (-1))) (th0 h)) 73 [(0, .ref 36), (1, .int p), (2, .int c), (3, .int (bI (gdM (th0 h) p c 6 = true)))] [] (th0 h) := by
  refine px_iload_n d_X12_holding_73 rfl rfl ?_
  refine px_if_ne (tgt := 79) d_X12_holding_74 (by decide) (fun c74 => absurd (bI_n.mp c74) hv) (fun c74 => ?_)
  refine px_iconst (v := (-1)) d_X12_holding_77 (by decide) ?_
  exact px_ireturn d_X12_holding_78 rfl rfl ⟨rfl, rfl, rfl⟩
theorem n_X12_holding {h : PH} {p c : Int32} (hL : px_L h) (hv : ¬ gdM (th0 h) p c 6 = true) : PM M_X12_holding [.ref 36, .int p, .int c] h (some (.int (-1))) (th0 h) := by
  refine PM.of (by decide +kernel) (by decide +kernel) (Nat.le_refl _) (Nat.le_refl _) (Nat.le_of_ble_eq_true rfl) ?_
  refine px_aload_n d_X12_holding_0 rfl rfl ?_
  refine px_iconst (v := 0) d_X12_holding_1 (by decide) ?_
  refine px_putI d_X12_holding_2 fl_X12_150 rfl (so36 hL) ?_
  refine px_aload_n d_X12_holding_5 rfl rfl ?_
  refine px_getI d_X12_holding_6 fl_X12_309 rfl (so36 hL) ?_
  refine px_bipush (v := 6) d_X12_holding_9 (by decide) ?_
  refine px_icmp_ge (tgt := 18) d_X12_holding_11 (by decide) (fun c11 => ?_) (fun c11 => ?_)
  · refine px_iconst (v := 0) d_X12_holding_18 (by decide) ?_
    refine px_istore_n d_X12_holding_19 rfl (by decide) ?_
    refine px_iconst (v := 0) d_X12_holding_20 (by decide) ?_
    refine px_istore d_X12_holding_21 (by decide) ?_
    refine px_drop (lv' := [(0, .ref 36), (1, .int p), (2, .int c), (3, .int (bI (gdM (th0 h) p c (0) = true))), (4, .int (nI (0)))]) ⟨rfl, rfl, rfl, px_si (by simp [bI, gdM, c11]), rfl, trivial⟩ ?_
    refine lp1_X12_holding hL ?_ 6 0 (by omega)
    exact tn_X12_holding hL hv
  · refine px_iconst (v := 1) d_X12_holding_14 (by decide) ?_
    refine px_goto (tgt := 19) d_X12_holding_15 (by decide) ?_
    refine px_istore_n d_X12_holding_19 rfl (by decide) ?_
    refine px_iconst (v := 0) d_X12_holding_20 (by decide) ?_
    refine px_istore d_X12_holding_21 (by decide) ?_
    refine px_drop (lv' := [(0, .ref 36), (1, .int p), (2, .int c), (3, .int (bI (gdM (th0 h) p c (0) = true))), (4, .int (nI (0)))]) ⟨rfl, rfl, rfl, px_si (by simp [bI, gdM, c11]), rfl, trivial⟩ ?_
    refine lp1_X12_holding hL ?_ 6 0 (by omega)
    exact tn_X12_holding hL hv
theorem ty_X12_holding {h : PH} {p c : Int32} (hL : px_L h) {n : Nat} (hs1 : hI h 36 49 = nI n) (hn6 : n < 6) : PW M_X12_holding (hn (hldM h n p c)) (hs (hldM h n p c)) (PMpost (some (.int (nI n))) (hldM h n p c)) 116 [(0, .ref 36)] [] (prcM (th0 h) n p c 6) := by
  have hL2 : px_L (prcM (th0 h) n p c 6) := prcM_L (h := th0 h) hL n p c 6
  have e1 : hI (prcM (th0 h) n p c 6) 36 49 = nI n := (congrFun (prcM_I (by decide) 6) _).trans hs1
  refine px_aload_n d_X12_holding_116 rfl rfl ?_
  refine px_dup d_X12_holding_117 rfl ?_
  refine px_getI d_X12_holding_118 fl_X12_309 rfl (so36 hL2) ?_
  refine px_iconst (v := 1) d_X12_holding_121 (by decide) ?_
  refine px_iadd d_X12_holding_122 ?_
  refine px_val (y := nI (n + 1)) (by rw [← nI_s1]; exact congrArg (· + 1) e1) ?_
  refine px_putI d_X12_holding_123 fl_X12_309 rfl (so36 hL2) ?_
  refine px_aload_n d_X12_holding_126 rfl rfl ?_
  refine px_getI d_X12_holding_127 fl_X12_309 rfl (so36 hL2) ?_
  refine px_iconst (v := 1) d_X12_holding_130 (by decide) ?_
  refine px_isub d_X12_holding_131 ?_
  exact px_ireturn d_X12_holding_132 rfl rfl ⟨rfl, px_si (px_dec _ _ _ _), rfl⟩
theorem tz_X12_holding {h : PH} {p c : Int32} (hL : px_L h) {n : Nat} (hs1 : hI h 36 49 = nI n) (hn6 : n < 6) (hv : gdM (th0 h) p c 6 = true) : PW M_X12_holding (hn (hldM h n p c)) (hs (hldM h n p c)) (PMpost (some (.int (nI n))) (hldM h n p c)) 73 [(0, .ref 36), (1, .int p), (2, .int c), (3, .int (bI (gdM (th0 h) p c 6 = true)))] [] (th0 h) := by
  refine px_iload_n d_X12_holding_73 rfl rfl ?_
  refine px_if_ne (tgt := 79) d_X12_holding_74 (by decide) (fun c74 => ?_) (fun c74 => absurd c74 (bI_n.mpr hv))
  refine px_iconst (v := 0) d_X12_holding_79 (by decide) ?_
  refine px_istore d_X12_holding_80 (by decide) ?_
  refine px_drop (lv' := [(0, .ref 36), (1, .int p), (2, .int c), (4, .int (nI (0)))]) ⟨rfl, rfl, rfl, rfl, trivial⟩ ?_
  exact lp2_X12_holding (h := th0 h) hL hs1 hn6 (ty_X12_holding hL hs1 hn6) 6 0 (by omega)
theorem c_X12_holding {h : PH} {p c : Int32} (hL : px_L h) {n : Nat} (hs1 : hI h 36 49 = nI n) (hn6 : n < 6) (hv : gdM (th0 h) p c 6 = true) : PM M_X12_holding [.ref 36, .int p, .int c] h (some (.int (nI n))) (hldM h n p c) := by
  refine PM.of (by decide +kernel) (by decide +kernel) (Nat.le_of_eq (by unfold hldM; rw [hn_I, (prcM_n 6).1]; rfl)) (Nat.le_of_eq (by unfold hldM; rw [hs_I, (prcM_n 6).2]; rfl)) (Nat.le_of_ble_eq_true rfl) ?_
  refine px_aload_n d_X12_holding_0 rfl rfl ?_
  refine px_iconst (v := 0) d_X12_holding_1 (by decide) ?_
  refine px_putI d_X12_holding_2 fl_X12_150 rfl (so36 hL) ?_
  refine px_aload_n d_X12_holding_5 rfl rfl ?_
  refine px_getI d_X12_holding_6 fl_X12_309 rfl (so36 hL) ?_
  refine px_bipush (v := 6) d_X12_holding_9 (by decide) ?_
  refine px_icmp_ge (tgt := 18) d_X12_holding_11 (by decide) (fun c11 => ?_) (fun c11 => ?_)
  · refine px_iconst (v := 0) d_X12_holding_18 (by decide) ?_
    refine px_istore_n d_X12_holding_19 rfl (by decide) ?_
    refine px_iconst (v := 0) d_X12_holding_20 (by decide) ?_
    refine px_istore d_X12_holding_21 (by decide) ?_
    refine px_drop (lv' := [(0, .ref 36), (1, .int p), (2, .int c), (3, .int (bI (gdM (th0 h) p c (0) = true))), (4, .int (nI (0)))]) ⟨rfl, rfl, rfl, px_si (by simp [bI, gdM, c11]), rfl, trivial⟩ ?_
    refine lp1_X12_holding hL ?_ 6 0 (by omega)
    exact tz_X12_holding hL hs1 hn6 hv
  · refine px_iconst (v := 1) d_X12_holding_14 (by decide) ?_
    refine px_goto (tgt := 19) d_X12_holding_15 (by decide) ?_
    refine px_istore_n d_X12_holding_19 rfl (by decide) ?_
    refine px_iconst (v := 0) d_X12_holding_20 (by decide) ?_
    refine px_istore d_X12_holding_21 (by decide) ?_
    refine px_drop (lv' := [(0, .ref 36), (1, .int p), (2, .int c), (3, .int (bI (gdM (th0 h) p c (0) = true))), (4, .int (nI (0)))]) ⟨rfl, rfl, rfl, px_si (by simp [bI, gdM, c11]), rfl, trivial⟩ ?_
    refine lp1_X12_holding hL ?_ 6 0 (by omega)
    exact tz_X12_holding hL hs1 hn6 hv
