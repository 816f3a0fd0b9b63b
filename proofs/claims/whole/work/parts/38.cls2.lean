def accOpen (h : PH) (m : Nat) (k w : Int32) : PH := pI (pR (accNew (pN h 0 0 8) (hn h) (hI h 0 10) k w (hI h 0 11)) 1 m (some (hn h))) 0 10 (nI (m + 1))
theorem c_X11_count {h : PH} (hL : px_L h) {x : Int32} : PM M_X11_count [.ref 0, .int x] h (some (.int (if x = 0 then hI h 0 10 else if x = 1 then hI h 2 4 else if x = 2 then hI h 0 11 else if x = 3 then hI h 12 1 else if x = 4 then hI h 23 4 else if x = 5 then hI h 30 3 else if x = 6 then hI h 7 1 else if x = 7 then hI h 28 1 else -1))) h := by
  refine PM.of (by decide +kernel) (by decide +kernel) (Nat.le_refl _) (Nat.le_refl _) (Nat.le_of_ble_eq_true rfl) ?_
  refine px_iload_n d_X11_count_0 rfl rfl ?_
  by_cases w1_0 : x = 0
  · refine px_tabI (off := 47) (tgt := 48) d_X11_count_1 (by rw [w1_0]; decide) (by rw [w1_0]; decide) (by rw [w1_0]; decide) (by decide) ?_
    refine px_aload_n d_X11_count_48 rfl rfl ?_
    refine px_getI d_X11_count_49 fl_X11_80 rfl (so0 hL) ?_
    exact px_ireturn d_X11_count_52 rfl rfl ⟨rfl, px_si (by simp [if_true, if_false, w1_0]), rfl⟩
  by_cases w1_1 : x = 1
  · refine px_tabI (off := 52) (tgt := 53) d_X11_count_1 (by rw [w1_1]; decide) (by rw [w1_1]; decide) (by rw [w1_1]; decide) (by decide) ?_
    refine px_aload_n d_X11_count_53 rfl rfl ?_
    refine px_getR d_X11_count_54 fl_X11_18 (by decide) (so0 hL) (sr0_1 hL) ?_
    refine px_getI d_X11_count_57 fl_X11_233 rfl (so2 hL) ?_
    exact px_ireturn d_X11_count_60 rfl rfl ⟨rfl, px_si (by simp [if_true, if_false, w1_0, w1_1]), rfl⟩
  by_cases w1_2 : x = 2
  · refine px_tabI (off := 60) (tgt := 61) d_X11_count_1 (by rw [w1_2]; decide) (by rw [w1_2]; decide) (by rw [w1_2]; decide) (by decide) ?_
    refine px_aload_n d_X11_count_61 rfl rfl ?_
    refine px_getI d_X11_count_62 fl_X11_88 rfl (so0 hL) ?_
    exact px_ireturn d_X11_count_65 rfl rfl ⟨rfl, px_si (by simp [if_true, if_false, w1_0, w1_1, w1_2]), rfl⟩
  by_cases w1_3 : x = 3
  · refine px_tabI (off := 65) (tgt := 66) d_X11_count_1 (by rw [w1_3]; decide) (by rw [w1_3]; decide) (by rw [w1_3]; decide) (by decide) ?_
    refine px_aload_n d_X11_count_66 rfl rfl ?_
    refine px_getR d_X11_count_67 fl_X11_39 (by decide) (so0 hL) (sr0_4 hL) ?_
    refine px_getI d_X11_count_70 fl_X11_234 rfl (so12 hL) ?_
    exact px_ireturn d_X11_count_73 rfl rfl ⟨rfl, px_si (by simp [if_true, if_false, w1_0, w1_1, w1_2, w1_3]), rfl⟩
  by_cases w1_4 : x = 4
  · refine px_tabI (off := 73) (tgt := 74) d_X11_count_1 (by rw [w1_4]; decide) (by rw [w1_4]; decide) (by rw [w1_4]; decide) (by decide) ?_
    refine px_aload_n d_X11_count_74 rfl rfl ?_
    refine px_getR d_X11_count_75 fl_X11_62 (by decide) (so0 hL) (sr0_7 hL) ?_
    refine px_getI d_X11_count_78 fl_X11_235 rfl (so23 hL) ?_
    exact px_ireturn d_X11_count_81 rfl rfl ⟨rfl, px_si (by simp [if_true, if_false, w1_0, w1_1, w1_2, w1_3, w1_4]), rfl⟩
  by_cases w1_5 : x = 5
  · refine px_tabI (off := 81) (tgt := 82) d_X11_count_1 (by rw [w1_5]; decide) (by rw [w1_5]; decide) (by rw [w1_5]; decide) (by decide) ?_
    refine px_aload_n d_X11_count_82 rfl rfl ?_
    refine px_getR d_X11_count_83 fl_X11_76 (by decide) (so0 hL) (sr0_9 hL) ?_
    refine px_getI d_X11_count_86 fl_X11_236 rfl (so30 hL) ?_
    exact px_ireturn d_X11_count_89 rfl rfl ⟨rfl, px_si (by simp [if_true, if_false, w1_0, w1_1, w1_2, w1_3, w1_4, w1_5]), rfl⟩
  by_cases w1_6 : x = 6
  · refine px_tabI (off := 89) (tgt := 90) d_X11_count_1 (by rw [w1_6]; decide) (by rw [w1_6]; decide) (by rw [w1_6]; decide) (by decide) ?_
    refine px_aload_n d_X11_count_90 rfl rfl ?_
    refine px_getR d_X11_count_91 fl_X11_25 (by decide) (so0 hL) (sr0_2 hL) ?_
    refine px_getI d_X11_count_94 fl_X11_118 rfl (so7 hL) ?_
    exact px_ireturn d_X11_count_97 rfl rfl ⟨rfl, px_si (by simp [if_true, if_false, w1_0, w1_1, w1_2, w1_3, w1_4, w1_5, w1_6]), rfl⟩
  by_cases w1_7 : x = 7
  · refine px_tabI (off := 97) (tgt := 98) d_X11_count_1 (by rw [w1_7]; decide) (by rw [w1_7]; decide) (by rw [w1_7]; decide) (by decide) ?_
    refine px_aload_n d_X11_count_98 rfl rfl ?_
    refine px_getR d_X11_count_99 fl_X11_69 (by decide) (so0 hL) (sr0_8 hL) ?_
    refine px_getI d_X11_count_102 fl_X11_237 rfl (so28 hL) ?_
    exact px_ireturn d_X11_count_105 rfl rfl ⟨rfl, px_si (by simp [if_true, if_false, w1_0, w1_1, w1_2, w1_3, w1_4, w1_5, w1_6, w1_7]), rfl⟩
  have zw1_0 := px_neT (a := 0) 0 (by decide) w1_0
  have zw1_1 := px_neT (a := 1) 1 (by decide) w1_1
  have zw1_2 := px_neT (a := 2) 2 (by decide) w1_2
  have zw1_3 := px_neT (a := 3) 3 (by decide) w1_3
  have zw1_4 := px_neT (a := 4) 4 (by decide) w1_4
  have zw1_5 := px_neT (a := 5) 5 (by decide) w1_5
  have zw1_6 := px_neT (a := 6) 6 (by decide) w1_6
  have zw1_7 := px_neT (a := 7) 7 (by decide) w1_7
  refine px_tabD (tgt := 106) [0, 1, 2, 3, 4, 5, 6, 7] d_X11_count_1 (by decide) (by decide) (by simp only [List.mem_cons, List.not_mem_nil, or_false]; omega) (by decide) ?_
  refine px_iconst (v := (-1)) d_X11_count_106 (by decide) ?_
  exact px_ireturn d_X11_count_107 rfl rfl ⟨rfl, px_si (by simp [if_true, if_false, w1_0, w1_1, w1_2, w1_3, w1_4, w1_5, w1_6, w1_7]), rfl⟩
theorem c_X12_count {h : PH} (hL : px_L h) {x : Int32} : PM M_X12_count [.ref 36, .int x] h (some (.int (if x = 0 then hI h 36 27 else if x = 1 then hI h 36 32 else if x = 2 then hI h 36 26 else if x = 3 then hI h 36 10 else if x = 4 then hI h 36 39 else if x = 5 then hI h 36 49 else if x = 6 then hI h 36 2 else if x = 7 then hI h 36 48 else -1))) (pI h 36 0 0) := by
  refine PM.of (by decide +kernel) (by decide +kernel) (Nat.le_refl _) (Nat.le_refl _) (Nat.le_of_ble_eq_true rfl) ?_
  refine px_aload_n d_X12_count_0 rfl rfl ?_
  refine px_iconst (v := 0) d_X12_count_1 (by decide) ?_
  refine px_putI d_X12_count_2 fl_X12_150 rfl (so36 hL) ?_
  refine px_iload_n d_X12_count_5 rfl rfl ?_
  by_cases w6_0 : x = 0
  · refine px_tabI (off := 46) (tgt := 52) d_X12_count_6 (by rw [w6_0]; decide) (by rw [w6_0]; decide) (by rw [w6_0]; decide) (by decide) ?_
    refine px_aload_n d_X12_count_52 rfl rfl ?_
    refine px_getI d_X12_count_53 fl_X12_256 rfl (so36 hL) ?_
    exact px_ireturn d_X12_count_56 rfl rfl ⟨rfl, px_si (by simp [gI, w6_0]), rfl⟩
  by_cases w6_1 : x = 1
  · refine px_tabI (off := 51) (tgt := 57) d_X12_count_6 (by rw [w6_1]; decide) (by rw [w6_1]; decide) (by rw [w6_1]; decide) (by decide) ?_
    refine px_aload_n d_X12_count_57 rfl rfl ?_
    refine px_getI d_X12_count_58 fl_X12_259 rfl (so36 hL) ?_
    exact px_ireturn d_X12_count_61 rfl rfl ⟨rfl, px_si (by simp [gI, w6_0, w6_1]), rfl⟩
  by_cases w6_2 : x = 2
  · refine px_tabI (off := 56) (tgt := 62) d_X12_count_6 (by rw [w6_2]; decide) (by rw [w6_2]; decide) (by rw [w6_2]; decide) (by decide) ?_
    refine px_aload_n d_X12_count_62 rfl rfl ?_
    refine px_getI d_X12_count_63 fl_X12_218 rfl (so36 hL) ?_
    exact px_ireturn d_X12_count_66 rfl rfl ⟨rfl, px_si (by simp [gI, w6_0, w6_1, w6_2]), rfl⟩
  by_cases w6_3 : x = 3
  · refine px_tabI (off := 61) (tgt := 67) d_X12_count_6 (by rw [w6_3]; decide) (by rw [w6_3]; decide) (by rw [w6_3]; decide) (by decide) ?_
    refine px_aload_n d_X12_count_67 rfl rfl ?_
    refine px_getI d_X12_count_68 fl_X12_206 rfl (so36 hL) ?_
    exact px_ireturn d_X12_count_71 rfl rfl ⟨rfl, px_si (by simp [gI, w6_0, w6_1, w6_2, w6_3]), rfl⟩
  by_cases w6_4 : x = 4
  · refine px_tabI (off := 66) (tgt := 72) d_X12_count_6 (by rw [w6_4]; decide) (by rw [w6_4]; decide) (by rw [w6_4]; decide) (by decide) ?_
    refine px_aload_n d_X12_count_72 rfl rfl ?_
    refine px_getI d_X12_count_73 fl_X12_285 rfl (so36 hL) ?_
    exact px_ireturn d_X12_count_76 rfl rfl ⟨rfl, px_si (by simp [gI, w6_0, w6_1, w6_2, w6_3, w6_4]), rfl⟩
  by_cases w6_5 : x = 5
  · refine px_tabI (off := 71) (tgt := 77) d_X12_count_6 (by rw [w6_5]; decide) (by rw [w6_5]; decide) (by rw [w6_5]; decide) (by decide) ?_
    refine px_aload_n d_X12_count_77 rfl rfl ?_
    refine px_getI d_X12_count_78 fl_X12_309 rfl (so36 hL) ?_
    exact px_ireturn d_X12_count_81 rfl rfl ⟨rfl, px_si (by simp [gI, w6_0, w6_1, w6_2, w6_3, w6_4, w6_5]), rfl⟩
  by_cases w6_6 : x = 6
  · refine px_tabI (off := 76) (tgt := 82) d_X12_count_6 (by rw [w6_6]; decide) (by rw [w6_6]; decide) (by rw [w6_6]; decide) (by decide) ?_
    refine px_aload_n d_X12_count_82 rfl rfl ?_
    refine px_getI d_X12_count_83 fl_X12_158 rfl (so36 hL) ?_
    exact px_ireturn d_X12_count_86 rfl rfl ⟨rfl, px_si (by simp [gI, w6_0, w6_1, w6_2, w6_3, w6_4, w6_5, w6_6]), rfl⟩
  by_cases w6_7 : x = 7
  · refine px_tabI (off := 81) (tgt := 87) d_X12_count_6 (by rw [w6_7]; decide) (by rw [w6_7]; decide) (by rw [w6_7]; decide) (by decide) ?_
    refine px_aload_n d_X12_count_87 rfl rfl ?_
    refine px_getI d_X12_count_88 fl_X12_306 rfl (so36 hL) ?_
    exact px_ireturn d_X12_count_91 rfl rfl ⟨rfl, px_si (by simp [gI, w6_0, w6_1, w6_2, w6_3, w6_4, w6_5, w6_6, w6_7]), rfl⟩
  have zw6_0 := px_neT (a := 0) 0 (by decide) w6_0
  have zw6_1 := px_neT (a := 1) 1 (by decide) w6_1
  have zw6_2 := px_neT (a := 2) 2 (by decide) w6_2
  have zw6_3 := px_neT (a := 3) 3 (by decide) w6_3
  have zw6_4 := px_neT (a := 4) 4 (by decide) w6_4
  have zw6_5 := px_neT (a := 5) 5 (by decide) w6_5
  have zw6_6 := px_neT (a := 6) 6 (by decide) w6_6
  have zw6_7 := px_neT (a := 7) 7 (by decide) w6_7
  refine px_tabD (tgt := 92) [0, 1, 2, 3, 4, 5, 6, 7] d_X12_count_6 (by decide) (by decide) (by simp only [List.mem_cons, List.not_mem_nil, or_false]; omega) (by decide) ?_
  refine px_iconst (v := (-1)) d_X12_count_92 (by decide) ?_
  exact px_ireturn d_X12_count_93 rfl rfl ⟨rfl, px_si (by simp [gI, w6_0, w6_1, w6_2, w6_3, w6_4, w6_5, w6_6, w6_7]), rfl⟩
theorem pN_I {h : PH} {kd len sl x : Nat} (hx : x ≠ hn h) : hI (pN h kd len sl) x = hI h x := up1_ne hx
theorem pN_R {h : PH} {kd len sl x : Nat} (hx : x ≠ hn h) : hR (pN h kd len sl) x = hR h x := up1_ne hx
theorem pN_J {h : PH} {kd len sl x : Nat} (hx : x ≠ hn h) : hJ (pN h kd len sl) x = hJ h x := up1_ne hx
theorem pN_K {h : PH} {kd len sl x : Nat} (hx : x ≠ hn h) : hK (pN h kd len sl) x = hK h x := up1_ne hx
theorem hI_pI {h : PH} {a i x : Nat} {v : Int32} (hx : x ≠ a) : hI (pI h a i v) x = hI h x := up2_ne hx
theorem hR_pR {h : PH} {a i x : Nat} {v : Option Nat} (hx : x ≠ a) : hR (pR h a i v) x = hR h x := up2_ne hx
theorem accNew_I {h : PH} {r x : Nat} {a b c d : Int32} (hx : x ≠ r) (hl : x < hn h) : hI (accNew h r a b c d) x = hI h x := by
  unfold accNew
  show hI (pN (pN (pI (pI (pI (pI h r 0 a) r 1 b) r 2 c) r 3 d) 20 40 40) 20 40 40) x = _
  rw [pN_I (by simp only [hn_I, hn_N]; omega), pN_I (by simp only [hn_I]; omega), hI_pI hx, hI_pI hx, hI_pI hx, hI_pI hx]
theorem accNew_R {h : PH} {r x : Nat} {a b c d : Int32} (hx : x ≠ r) (hl : x < hn h) : hR (accNew h r a b c d) x = hR h x := by
  unfold accNew
  rw [hR_pR hx, pN_R (by simp only [hn_I, hn_N, hn_R]; omega), hR_pR hx, pN_R (by simp only [hn_I]; omega)]
  rfl
theorem accNew_K {h : PH} {r x : Nat} {a b c d : Int32} (hl : x < hn h) : hK (accNew h r a b c d) x = hK h x := by
  unfold accNew
  show hK (pN (pN (pI (pI (pI (pI h r 0 a) r 1 b) r 2 c) r 3 d) 20 40 40) 20 40 40) x = _
  rw [pN_K (by simp only [hn_I, hn_N]; omega), pN_K (by simp only [hn_I]; omega)]
  rfl
theorem accNew_n (h : PH) (r : Nat) (a b c d : Int32) : hn (accNew h r a b c d) = hn h + 2 ∧ hs (accNew h r a b c d) = hs h + 80 := ⟨rfl, rfl⟩
theorem px_L.grow {h g : PH} (hL : px_L h) (hn1 : hn h ≤ hn g) (hk : ∀ x, x < hn h → hK g x = hK h x) (hr : ∀ x, x < px_NS → (px_KT x).1 < 20 → hR g x = hR h x) : px_L g :=
  ⟨Nat.le_trans hL.1 hn1, fun k hk1 => (hk k (Nat.lt_of_lt_of_le hk1 hL.1)).trans (hL.2.1 k hk1), fun k j hk1 ho => by rw [hr k hk1 ho]; exact hL.2.2 k j hk1 ho⟩
theorem accNew_L {h : PH} (hL : px_L h) {r : Nat} (hr : px_NS ≤ r) {a b c d : Int32} : px_L (accNew h r a b c d) :=
  hL.grow (by rw [(accNew_n h r a b c d).1]; omega) (fun x hx => accNew_K hx) (fun x hx _ => accNew_R (by omega) (Nat.lt_of_lt_of_le hx hL.1))
theorem pN_L {h : PH} (hL : px_L h) {kd len sl : Nat} : px_L (pN h kd len sl) :=
  hL.grow (Nat.le_succ _) (fun x hx => pN_K (Nat.ne_of_lt hx)) (fun x hx _ => pN_R (Nat.ne_of_lt (Nat.lt_of_lt_of_le hx hL.1)))
theorem px_L.R1 {h : PH} (hL : px_L h) {a i : Nat} {v : Option Nat} (ha : px_NS ≤ a ∨ ¬ (px_KT a).1 < 20) : px_L (pR h a i v) :=
  hL.grow (Nat.le_refl _) (fun x hx => rfl) (fun x hx ho => hR_pR (by rintro rfl; rcases ha with q | q; omega; exact q ho))
theorem c_X11_account {h : PH} {k w : Int32} (hL : px_L h) {m : Nat} (hm : hI h 0 10 = nI m) (hm2 : m ≤ 20) (hv : ¬ k < 0 ∧ ¬ 3 < k ∧ hI h 0 10 < 20 ∧ ((k = 1 ∨ k = 3) → (¬ w < 0 ∧ ¬ 719 < w))) : PM M_X11_account [.ref 0, .int k, .int w] h (some (.int (nI m))) (accOpen h m k w) := by
  have hm3 : m < 20 := by
    have h1 := hv.2.2.1
    rw [hm] at h1
    exact (nI_ltI (b := 20) (by omega) (by decide)).mp h1
  refine PM.of (by decide +kernel) (by decide +kernel) (by unfold accOpen accNew; simp only [hn_I, hn_R, hn_J, hn_N]; omega) (by unfold accOpen accNew; simp only [hs_I, hs_R, hs_J, hs_N]; omega) (Nat.le_of_ble_eq_true rfl) ?_
  have h78 : px_NS ≤ hn h := hL.1
  have hz : 0 < hn h := Nat.lt_of_lt_of_le (by decide) h78
  have ho : px_ob (pN h 0 0 8) (hn h) 0 := ⟨Nat.lt_succ_self _, by rw [show hK (pN h 0 0 8) (hn h) = (0, 0) from up1_s]⟩
  have hL2 : px_L (accNew (pN h 0 0 8) (hn h) (hI h 0 10) k w (hI h 0 11)) := accNew_L (pN_L hL) h78
  have e10 : hI (accNew (pN h 0 0 8) (hn h) (hI h 0 10) k w (hI h 0 11)) 0 = hI h 0 := by
    rw [accNew_I (by omega) (by rw [hn_N]; omega), pN_I (by omega)]
  have hv0 : px_ob (accNew (pN h 0 0 8) (hn h) (hI h 0 10) k w (hI h 0 11)) (hn h) 0 := ⟨by rw [(accNew_n _ _ _ _ _ _).1, hn_N]; omega, by rw [accNew_K (by rw [hn_N]; omega)]; exact ho.2⟩
  have e11 : hI (accOpen h m k w) 0 10 = nI (m + 1) := gI_s _ _ _ _
  refine px_iload_n d_X11_account_0 rfl rfl ?_
  refine px_if_lt (tgt := 18) d_X11_account_1 (by decide) (fun c1 => absurd c1 hv.1) (fun c1 => ?_)
  refine px_iload_n d_X11_account_4 rfl rfl ?_
  refine px_iconst (v := 3) d_X11_account_5 (by decide) ?_
  refine px_icmp_gt (tgt := 18) d_X11_account_6 (by decide) (fun c6 => absurd c6 hv.2.1) (fun c6 => ?_)
  refine px_aload_n d_X11_account_9 rfl rfl ?_
  refine px_getI d_X11_account_10 fl_X11_80 rfl (so0 hL) ?_
  refine px_bipush (v := 20) d_X11_account_13 (by decide) ?_
  refine px_icmp_lt (tgt := 20) d_X11_account_15 (by decide) (fun c15 => ?_) (fun c15 => (c15 hv.2.2.1).elim)
  refine px_iload_n d_X11_account_20 rfl rfl ?_
  refine px_iconst (v := 1) d_X11_account_21 (by decide) ?_
  refine px_icmp_eq (tgt := 30) d_X11_account_22 (by decide) (fun c22 => ?_) (fun c22 => ?_)
  · refine px_iload_n d_X11_account_30 rfl rfl ?_
    refine px_callS (c_X11_isDay) d_X11_account_31 lk_X11_84 ok_X11_isDay os_X11_isDay rfl (Nat.le_of_ble_eq_true rfl) (by decide) ⟨by unfold accOpen accNew; simp only [hn_I, hn_R, hn_N]; omega, by unfold accOpen accNew; simp only [hs_I, hs_R, hs_N]; omega⟩ ?_
    refine px_if_ne (tgt := 39) d_X11_account_34 (by decide) (fun c34 => ?_) (fun c34 => (by first | exact absurd c34 (bI_n.mpr (hv.2.2.2 (Or.inl c22))) | exact absurd c34 (bI_n.mpr (hv.2.2.2 (Or.inr (Classical.not_not.mp c27)))) | exact absurd c34 (bI_n.mpr (hv.2.2.2 (Or.inr c27)))))
    refine px_aload_n d_X11_account_39 rfl rfl ?_
    refine px_getR d_X11_account_40 fl_X11_11 (by decide) (so0 hL) (sr0_0 hL) ?_
    refine px_aload_n d_X11_account_43 rfl rfl ?_
    refine px_getI d_X11_account_44 fl_X11_80 rfl (so0 hL) ?_
    refine px_new (ci := 0) d_X11_account_47 (by decide) cc_X11_9 in_X0 ii_X0 (by unfold accOpen accNew; simp only [hn_I, hn_R, hn_N]; omega) (by unfold accOpen accNew; simp only [hs_I, hs_R, hs_N]; first | omega | (show hs h + 8 ≤ _; omega)) ?_
    refine px_dup d_X11_account_50 rfl ?_
    refine px_aload_n d_X11_account_51 rfl rfl ?_
    refine px_getI d_X11_account_52 fl_X11_80 rfl (so0 (pN_L hL)) ?_
    refine px_val (y := hI h 0 10) (congrFun (pN_I (by omega)) _) ?_
    refine px_iload_n d_X11_account_55 rfl rfl ?_
    refine px_iload_n d_X11_account_56 rfl rfl ?_
    refine px_aload_n d_X11_account_57 rfl rfl ?_
    refine px_getI d_X11_account_58 fl_X11_88 rfl (so0 (pN_L hL)) ?_
    refine px_val (y := hI h 0 11) (congrFun (pN_I (by omega)) _) ?_
    refine px_callI (c_X0_init ho) d_X11_account_61 lk_X11_91 ok_X0_init oi_X0_init rfl rfl (Nat.le_of_ble_eq_true rfl) (by decide) ⟨by unfold accOpen; simp only [hn_I, hn_R]; exact Nat.le_refl _, by unfold accOpen; simp only [hs_I, hs_R]; exact Nat.le_refl _⟩ ?_
    refine px_aastA d_X11_account_64 (sa1 hL2) hm (by omega) hv0 (by decide) rfl ?_
    refine px_aload_n d_X11_account_65 rfl rfl ?_
    refine px_dup d_X11_account_66 rfl ?_
    refine px_getI d_X11_account_67 fl_X11_80 rfl (so0 (hL2.R1 (Or.inr (by decide)))) ?_
    refine px_iconst (v := 1) d_X11_account_70 (by decide) ?_
    refine px_iadd d_X11_account_71 ?_
    refine px_val (y := nI (m + 1)) (by rw [← nI_s1]; exact congrArg (· + 1) ((congrFun e10 10).trans hm)) ?_
    refine px_putI d_X11_account_72 fl_X11_80 rfl (so0 (hL2.R1 (Or.inr (by decide)))) ?_
    refine px_aload_n d_X11_account_75 rfl rfl ?_
    refine px_getI d_X11_account_76 fl_X11_80 rfl (so0 (hL2.R1 (Or.inr (by decide)))) ?_
    refine px_iconst (v := 1) d_X11_account_79 (by decide) ?_
    refine px_isub d_X11_account_80 ?_
    exact px_ireturn d_X11_account_81 rfl rfl ⟨rfl, px_si (by rw [show hI (pI (pR (accNew (pN h 0 0 8) (hn h) (hI h 0 10) k w (hI h 0 11)) 1 m (some (hn h))) 0 10 (nI (m + 1))) 0 10 = nI (m + 1) from gI_s _ _ _ _]; exact nI_pred m), rfl⟩
  · refine px_iload_n d_X11_account_25 rfl rfl ?_
    refine px_iconst (v := 3) d_X11_account_26 (by decide) ?_
    refine px_icmp_ne (tgt := 39) d_X11_account_27 (by decide) (fun c27 => ?_) (fun c27 => ?_)
    · refine px_aload_n d_X11_account_39 rfl rfl ?_
      refine px_getR d_X11_account_40 fl_X11_11 (by decide) (so0 hL) (sr0_0 hL) ?_
      refine px_aload_n d_X11_account_43 rfl rfl ?_
      refine px_getI d_X11_account_44 fl_X11_80 rfl (so0 hL) ?_
      refine px_new (ci := 0) d_X11_account_47 (by decide) cc_X11_9 in_X0 ii_X0 (by unfold accOpen accNew; simp only [hn_I, hn_R, hn_N]; omega) (by unfold accOpen accNew; simp only [hs_I, hs_R, hs_N]; first | omega | (show hs h + 8 ≤ _; omega)) ?_
      refine px_dup d_X11_account_50 rfl ?_
      refine px_aload_n d_X11_account_51 rfl rfl ?_
      refine px_getI d_X11_account_52 fl_X11_80 rfl (so0 (pN_L hL)) ?_
      refine px_val (y := hI h 0 10) (congrFun (pN_I (by omega)) _) ?_
      refine px_iload_n d_X11_account_55 rfl rfl ?_
      refine px_iload_n d_X11_account_56 rfl rfl ?_
      refine px_aload_n d_X11_account_57 rfl rfl ?_
      refine px_getI d_X11_account_58 fl_X11_88 rfl (so0 (pN_L hL)) ?_
      refine px_val (y := hI h 0 11) (congrFun (pN_I (by omega)) _) ?_
      refine px_callI (c_X0_init ho) d_X11_account_61 lk_X11_91 ok_X0_init oi_X0_init rfl rfl (Nat.le_of_ble_eq_true rfl) (by decide) ⟨by unfold accOpen; simp only [hn_I, hn_R]; exact Nat.le_refl _, by unfold accOpen; simp only [hs_I, hs_R]; exact Nat.le_refl _⟩ ?_
      refine px_aastA d_X11_account_64 (sa1 hL2) hm (by omega) hv0 (by decide) rfl ?_
      refine px_aload_n d_X11_account_65 rfl rfl ?_
      refine px_dup d_X11_account_66 rfl ?_
      refine px_getI d_X11_account_67 fl_X11_80 rfl (so0 (hL2.R1 (Or.inr (by decide)))) ?_
      refine px_iconst (v := 1) d_X11_account_70 (by decide) ?_
      refine px_iadd d_X11_account_71 ?_
      refine px_val (y := nI (m + 1)) (by rw [← nI_s1]; exact congrArg (· + 1) ((congrFun e10 10).trans hm)) ?_
      refine px_putI d_X11_account_72 fl_X11_80 rfl (so0 (hL2.R1 (Or.inr (by decide)))) ?_
      refine px_aload_n d_X11_account_75 rfl rfl ?_
      refine px_getI d_X11_account_76 fl_X11_80 rfl (so0 (hL2.R1 (Or.inr (by decide)))) ?_
      refine px_iconst (v := 1) d_X11_account_79 (by decide) ?_
      refine px_isub d_X11_account_80 ?_
      exact px_ireturn d_X11_account_81 rfl rfl ⟨rfl, px_si (by rw [show hI (pI (pR (accNew (pN h 0 0 8) (hn h) (hI h 0 10) k w (hI h 0 11)) 1 m (some (hn h))) 0 10 (nI (m + 1))) 0 10 = nI (m + 1) from gI_s _ _ _ _]; exact nI_pred m), rfl⟩
    · refine px_iload_n d_X11_account_30 rfl rfl ?_
      refine px_callS (c_X11_isDay) d_X11_account_31 lk_X11_84 ok_X11_isDay os_X11_isDay rfl (Nat.le_of_ble_eq_true rfl) (by decide) ⟨by unfold accOpen accNew; simp only [hn_I, hn_R, hn_N]; omega, by unfold accOpen accNew; simp only [hs_I, hs_R, hs_N]; omega⟩ ?_
      refine px_if_ne (tgt := 39) d_X11_account_34 (by decide) (fun c34 => ?_) (fun c34 => (by first | exact absurd c34 (bI_n.mpr (hv.2.2.2 (Or.inl c22))) | exact absurd c34 (bI_n.mpr (hv.2.2.2 (Or.inr (Classical.not_not.mp c27)))) | exact absurd c34 (bI_n.mpr (hv.2.2.2 (Or.inr c27)))))
      refine px_aload_n d_X11_account_39 rfl rfl ?_
      refine px_getR d_X11_account_40 fl_X11_11 (by decide) (so0 hL) (sr0_0 hL) ?_
      refine px_aload_n d_X11_account_43 rfl rfl ?_
      refine px_getI d_X11_account_44 fl_X11_80 rfl (so0 hL) ?_
      refine px_new (ci := 0) d_X11_account_47 (by decide) cc_X11_9 in_X0 ii_X0 (by unfold accOpen accNew; simp only [hn_I, hn_R, hn_N]; omega) (by unfold accOpen accNew; simp only [hs_I, hs_R, hs_N]; first | omega | (show hs h + 8 ≤ _; omega)) ?_
      refine px_dup d_X11_account_50 rfl ?_
      refine px_aload_n d_X11_account_51 rfl rfl ?_
      refine px_getI d_X11_account_52 fl_X11_80 rfl (so0 (pN_L hL)) ?_
      refine px_val (y := hI h 0 10) (congrFun (pN_I (by omega)) _) ?_
      refine px_iload_n d_X11_account_55 rfl rfl ?_
      refine px_iload_n d_X11_account_56 rfl rfl ?_
      refine px_aload_n d_X11_account_57 rfl rfl ?_
      refine px_getI d_X11_account_58 fl_X11_88 rfl (so0 (pN_L hL)) ?_
      refine px_val (y := hI h 0 11) (congrFun (pN_I (by omega)) _) ?_
      refine px_callI (c_X0_init ho) d_X11_account_61 lk_X11_91 ok_X0_init oi_X0_init rfl rfl (Nat.le_of_ble_eq_true rfl) (by decide) ⟨by unfold accOpen; simp only [hn_I, hn_R]; exact Nat.le_refl _, by unfold accOpen; simp only [hs_I, hs_R]; exact Nat.le_refl _⟩ ?_
      refine px_aastA d_X11_account_64 (sa1 hL2) hm (by omega) hv0 (by decide) rfl ?_
      refine px_aload_n d_X11_account_65 rfl rfl ?_
      refine px_dup d_X11_account_66 rfl ?_
      refine px_getI d_X11_account_67 fl_X11_80 rfl (so0 (hL2.R1 (Or.inr (by decide)))) ?_
      refine px_iconst (v := 1) d_X11_account_70 (by decide) ?_
      refine px_iadd d_X11_account_71 ?_
      refine px_val (y := nI (m + 1)) (by rw [← nI_s1]; exact congrArg (· + 1) ((congrFun e10 10).trans hm)) ?_
      refine px_putI d_X11_account_72 fl_X11_80 rfl (so0 (hL2.R1 (Or.inr (by decide)))) ?_
      refine px_aload_n d_X11_account_75 rfl rfl ?_
      refine px_getI d_X11_account_76 fl_X11_80 rfl (so0 (hL2.R1 (Or.inr (by decide)))) ?_
      refine px_iconst (v := 1) d_X11_account_79 (by decide) ?_
      refine px_isub d_X11_account_80 ?_
      exact px_ireturn d_X11_account_81 rfl rfl ⟨rfl, px_si (by rw [show hI (pI (pR (accNew (pN h 0 0 8) (hn h) (hI h 0 10) k w (hI h 0 11)) 1 m (some (hn h))) 0 10 (nI (m + 1))) 0 10 = nI (m + 1) from gI_s _ _ _ _]; exact nI_pred m), rfl⟩
theorem n_X11_account {h : PH} {k w : Int32} (hL : px_L h) (hv : ¬ (¬ k < 0 ∧ ¬ 3 < k ∧ hI h 0 10 < 20 ∧ ((k = 1 ∨ k = 3) → (¬ w < 0 ∧ ¬ 719 < w)))) : PM M_X11_account [.ref 0, .int k, .int w] h (some (.int (-1))) h := by
  refine PM.of (by decide +kernel) (by decide +kernel) (Nat.le_refl _) (Nat.le_refl _) (Nat.le_of_ble_eq_true rfl) ?_
  refine px_iload_n d_X11_account_0 rfl rfl ?_
  refine px_if_lt (tgt := 18) d_X11_account_1 (by decide) (fun c1 => ?_) (fun c1 => ?_)
  · refine px_iconst (v := (-1)) d_X11_account_18 (by decide) ?_
    exact px_ireturn d_X11_account_19 rfl rfl ⟨rfl, rfl, rfl⟩
  · refine px_iload_n d_X11_account_4 rfl rfl ?_
    refine px_iconst (v := 3) d_X11_account_5 (by decide) ?_
    refine px_icmp_gt (tgt := 18) d_X11_account_6 (by decide) (fun c6 => ?_) (fun c6 => ?_)
    · refine px_iconst (v := (-1)) d_X11_account_18 (by decide) ?_
      exact px_ireturn d_X11_account_19 rfl rfl ⟨rfl, rfl, rfl⟩
    · refine px_aload_n d_X11_account_9 rfl rfl ?_
      refine px_getI d_X11_account_10 fl_X11_80 rfl (so0 hL) ?_
      refine px_bipush (v := 20) d_X11_account_13 (by decide) ?_
      refine px_icmp_lt (tgt := 20) d_X11_account_15 (by decide) (fun c15 => ?_) (fun c15 => ?_)
      · refine px_iload_n d_X11_account_20 rfl rfl ?_
        refine px_iconst (v := 1) d_X11_account_21 (by decide) ?_
        refine px_icmp_eq (tgt := 30) d_X11_account_22 (by decide) (fun c22 => ?_) (fun c22 => ?_)
        · refine px_iload_n d_X11_account_30 rfl rfl ?_
          refine px_callS (c_X11_isDay) d_X11_account_31 lk_X11_84 ok_X11_isDay os_X11_isDay rfl (Nat.le_of_ble_eq_true rfl) (by decide) ⟨Nat.le_refl _, Nat.le_refl _⟩ ?_
          refine px_if_ne (tgt := 39) d_X11_account_34 (by decide) (fun c34 => ?_) (fun c34 => ?_)
          · refine absurd ⟨c1, c6, c15, ?_⟩ hv
            intro q
            first | exact bI_n.mp c34 | (rcases q with q | q <;> contradiction)
          · refine px_iconst (v := (-1)) d_X11_account_37 (by decide) ?_
            exact px_ireturn d_X11_account_38 rfl rfl ⟨rfl, rfl, rfl⟩
        · refine px_iload_n d_X11_account_25 rfl rfl ?_
          refine px_iconst (v := 3) d_X11_account_26 (by decide) ?_
          refine px_icmp_ne (tgt := 39) d_X11_account_27 (by decide) (fun c27 => ?_) (fun c27 => ?_)
          · refine absurd ⟨c1, c6, c15, ?_⟩ hv
            intro q
            first | exact bI_n.mp c34 | (rcases q with q | q <;> contradiction)
          · refine px_iload_n d_X11_account_30 rfl rfl ?_
            refine px_callS (c_X11_isDay) d_X11_account_31 lk_X11_84 ok_X11_isDay os_X11_isDay rfl (Nat.le_of_ble_eq_true rfl) (by decide) ⟨Nat.le_refl _, Nat.le_refl _⟩ ?_
            refine px_if_ne (tgt := 39) d_X11_account_34 (by decide) (fun c34 => ?_) (fun c34 => ?_)
            · refine absurd ⟨c1, c6, c15, ?_⟩ hv
              intro q
              first | exact bI_n.mp c34 | (rcases q with q | q <;> contradiction)
            · refine px_iconst (v := (-1)) d_X11_account_37 (by decide) ?_
              exact px_ireturn d_X11_account_38 rfl rfl ⟨rfl, rfl, rfl⟩
      · refine px_iconst (v := (-1)) d_X11_account_18 (by decide) ?_
        exact px_ireturn d_X11_account_19 rfl rfl ⟨rfl, rfl, rfl⟩
theorem i_X11_post {h : PH} {a : Int32} {b d s : Int32} (hL : px_L h) (hv : ¬ (¬ a < 0 ∧ ¬ hI h 0 10 ≤ a)) : PM M_X11_post [.ref 0, .int a, .int b, .int d, .int s] h (some (.int (-1))) h := by
  refine PM.of (by decide +kernel) (by decide +kernel) (Nat.le_refl _) (Nat.le_refl _) (Nat.le_of_ble_eq_true rfl) ?_
  refine px_aload_n d_X11_post_0 rfl rfl ?_
  refine px_iload_n d_X11_post_1 rfl rfl ?_
  refine px_callV (n_X11_accountOf hL hv) d_X11_post_2 lk_X11_94 ok_X11_accountOf ov_X11_accountOf (so0 hL) (by decide) rfl rfl (Nat.le_of_ble_eq_true rfl) (by decide) ⟨Nat.le_refl _, Nat.le_refl _⟩ ?_
  refine px_ifnullN (tgt := 23) d_X11_post_5 (by decide) ?_
  refine px_iconst (v := (-1)) d_X11_post_23 (by decide) ?_
  exact px_ireturn d_X11_post_24 rfl rfl ⟨rfl, rfl, rfl⟩
theorem i_X11_write {h : PH} {a : Int32} {d s : Int32} (hL : px_L h) (hv : ¬ (¬ a < 0 ∧ ¬ hI h 0 10 ≤ a)) : PM M_X11_write [.ref 0, .int a, .int d, .int s] h (some (.int (-1))) h := by
  refine PM.of (by decide +kernel) (by decide +kernel) (Nat.le_refl _) (Nat.le_refl _) (Nat.le_of_ble_eq_true rfl) ?_
  refine px_aload_n d_X11_write_0 rfl rfl ?_
  refine px_iload_n d_X11_write_1 rfl rfl ?_
  refine px_callV (n_X11_accountOf hL hv) d_X11_write_2 lk_X11_94 ok_X11_accountOf ov_X11_accountOf (so0 hL) (by decide) rfl rfl (Nat.le_of_ble_eq_true rfl) (by decide) ⟨Nat.le_refl _, Nat.le_refl _⟩ ?_
  refine px_astoreN d_X11_write_5 (by decide) ?_
  refine px_aloadN d_X11_write_7 rfl ?_
  refine px_ifnullN (tgt := 19) d_X11_write_9 (by decide) ?_
  refine px_iconst (v := (-1)) d_X11_write_19 (by decide) ?_
  exact px_ireturn d_X11_write_20 rfl rfl ⟨rfl, rfl, rfl⟩
theorem i_X11_notice {h : PH} {a : Int32} {s : Int32} (hL : px_L h) (hv : ¬ (¬ a < 0 ∧ ¬ hI h 0 10 ≤ a)) : PM M_X11_notice [.ref 0, .int a, .int s] h (some (.int 0)) h := by
  refine PM.of (by decide +kernel) (by decide +kernel) (Nat.le_refl _) (Nat.le_refl _) (Nat.le_of_ble_eq_true rfl) ?_
  refine px_aload_n d_X11_notice_0 rfl rfl ?_
  refine px_iload_n d_X11_notice_1 rfl rfl ?_
  refine px_callV (n_X11_accountOf hL hv) d_X11_notice_2 lk_X11_94 ok_X11_accountOf ov_X11_accountOf (so0 hL) (by decide) rfl rfl (Nat.le_of_ble_eq_true rfl) (by decide) ⟨Nat.le_refl _, Nat.le_refl _⟩ ?_
  refine px_astore_nN d_X11_notice_5 rfl (by decide) ?_
  refine px_aload_nN d_X11_notice_6 rfl rfl ?_
  refine px_ifnullN (tgt := 25) d_X11_notice_7 (by decide) ?_
  refine px_iconst (v := 0) d_X11_notice_25 (by decide) ?_
  exact px_ireturn d_X11_notice_26 rfl rfl ⟨rfl, rfl, rfl⟩
theorem i_X11_compare {h : PH} {a : Int32} {s : Int32} (hL : px_L h) (hv : ¬ (¬ a < 0 ∧ ¬ hI h 0 10 ≤ a)) : PM M_X11_compare [.ref 0, .int a, .int s] h (some (.int (-1))) h := by
  refine PM.of (by decide +kernel) (by decide +kernel) (Nat.le_refl _) (Nat.le_refl _) (Nat.le_of_ble_eq_true rfl) ?_
  refine px_aload_n d_X11_compare_0 rfl rfl ?_
  refine px_iload_n d_X11_compare_1 rfl rfl ?_
  refine px_callV (n_X11_accountOf hL hv) d_X11_compare_2 lk_X11_94 ok_X11_accountOf ov_X11_accountOf (so0 hL) (by decide) rfl rfl (Nat.le_of_ble_eq_true rfl) (by decide) ⟨Nat.le_refl _, Nat.le_refl _⟩ ?_
  refine px_astore_nN d_X11_compare_5 rfl (by decide) ?_
  refine px_aload_nN d_X11_compare_6 rfl rfl ?_
  refine px_ifnullN (tgt := 19) d_X11_compare_7 (by decide) ?_
  refine px_iconst (v := (-1)) d_X11_compare_19 (by decide) ?_
  exact px_ireturn d_X11_compare_20 rfl rfl ⟨rfl, rfl, rfl⟩
theorem c_X11_write {h : PH} (hL : px_L h) {m : Nat} (hm : hI h 0 10 = nI m) (hm2 : m ≤ 20) {j r r1 r2 : Nat} (hj : j < m) (hr : hR h 1 j = some r) (hA : px_acc h r r1 r2) {d s : Int32} {c : Nat} (hc : hI h r 6 = nI c) (hc4 : c < 40) (hv : ¬ d < 0 ∧ ¬ 719 < d) : PM M_X11_write [.ref 0, .int (nI j), .int d, .int s] h (some (.int (nI (c + 1)))) (accLn h r r1 r2 c d s) := by
  refine PM.of (by decide +kernel) (by decide +kernel) (Nat.le_refl _) (Nat.le_refl _) (Nat.le_of_ble_eq_true rfl) ?_
  refine px_aload_n d_X11_write_0 rfl rfl ?_
  refine px_iload_n d_X11_write_1 rfl rfl ?_
  refine px_callV (c_X11_accountOf hL hm hm2 hj hr) d_X11_write_2 lk_X11_94 ok_X11_accountOf ov_X11_accountOf (so0 hL) (by decide) rfl rfl (Nat.le_of_ble_eq_true rfl) (by decide) ⟨Nat.le_refl _, Nat.le_refl _⟩ ?_
  refine px_astore d_X11_write_5 (by decide) ?_
  refine px_aload d_X11_write_7 rfl ?_
  refine px_ifnull d_X11_write_9 ?_
  refine px_iload_n d_X11_write_12 rfl rfl ?_
  refine px_callS (c_X11_isDay) d_X11_write_13 lk_X11_84 ok_X11_isDay os_X11_isDay rfl (Nat.le_of_ble_eq_true rfl) (by decide) ⟨Nat.le_refl _, Nat.le_refl _⟩ ?_
  refine px_if_ne (tgt := 21) d_X11_write_16 (by decide) (fun c16 => ?_) (fun c16 => absurd c16 (bI_n.mpr hv))
  refine px_aload d_X11_write_21 rfl ?_
  refine px_iload_n d_X11_write_23 rfl rfl ?_
  refine px_iload_n d_X11_write_24 rfl rfl ?_
  refine px_callV (c_X0_addLine hA hc hc4) d_X11_write_25 lk_X11_184 ok_X0_addLine ov_X0_addLine hA.1 (by decide) rfl rfl (Nat.le_of_ble_eq_true rfl) (by decide) ⟨Nat.le_refl _, Nat.le_refl _⟩ ?_
  exact px_ireturn d_X11_write_28 rfl rfl ⟨rfl, rfl, rfl⟩
theorem f_X11_write {h : PH} (hL : px_L h) {m : Nat} (hm : hI h 0 10 = nI m) (hm2 : m ≤ 20) {j r r1 r2 : Nat} (hj : j < m) (hr : hR h 1 j = some r) (hA : px_acc h r r1 r2) {d s : Int32} (hc : hI h r 6 = nI 40) (hv : ¬ d < 0 ∧ ¬ 719 < d) : PM M_X11_write [.ref 0, .int (nI j), .int d, .int s] h (some (.int (-1))) h := by
  refine PM.of (by decide +kernel) (by decide +kernel) (Nat.le_refl _) (Nat.le_refl _) (Nat.le_of_ble_eq_true rfl) ?_
  refine px_aload_n d_X11_write_0 rfl rfl ?_
  refine px_iload_n d_X11_write_1 rfl rfl ?_
  refine px_callV (c_X11_accountOf hL hm hm2 hj hr) d_X11_write_2 lk_X11_94 ok_X11_accountOf ov_X11_accountOf (so0 hL) (by decide) rfl rfl (Nat.le_of_ble_eq_true rfl) (by decide) ⟨Nat.le_refl _, Nat.le_refl _⟩ ?_
  refine px_astore d_X11_write_5 (by decide) ?_
  refine px_aload d_X11_write_7 rfl ?_
  refine px_ifnull d_X11_write_9 ?_
  refine px_iload_n d_X11_write_12 rfl rfl ?_
  refine px_callS (c_X11_isDay) d_X11_write_13 lk_X11_84 ok_X11_isDay os_X11_isDay rfl (Nat.le_of_ble_eq_true rfl) (by decide) ⟨Nat.le_refl _, Nat.le_refl _⟩ ?_
  refine px_if_ne (tgt := 21) d_X11_write_16 (by decide) (fun c16 => ?_) (fun c16 => absurd c16 (bI_n.mpr hv))
  refine px_aload d_X11_write_21 rfl ?_
  refine px_iload_n d_X11_write_23 rfl rfl ?_
  refine px_iload_n d_X11_write_24 rfl rfl ?_
  refine px_callV (c_X0_addLine0 hA hc) d_X11_write_25 lk_X11_184 ok_X0_addLine ov_X0_addLine hA.1 (by decide) rfl rfl (Nat.le_of_ble_eq_true rfl) (by decide) ⟨Nat.le_refl _, Nat.le_refl _⟩ ?_
  exact px_ireturn d_X11_write_28 rfl rfl ⟨rfl, rfl, rfl⟩
theorem n_X11_write {h : PH} (hL : px_L h) {m : Nat} (hm : hI h 0 10 = nI m) (hm2 : m ≤ 20) {j r r1 r2 : Nat} (hj : j < m) (hr : hR h 1 j = some r) (hA : px_acc h r r1 r2) {d s : Int32} (hv : ¬ (¬ d < 0 ∧ ¬ 719 < d)) : PM M_X11_write [.ref 0, .int (nI j), .int d, .int s] h (some (.int (-1))) h := by
  refine PM.of (by decide +kernel) (by decide +kernel) (Nat.le_refl _) (Nat.le_refl _) (Nat.le_of_ble_eq_true rfl) ?_
  refine px_aload_n d_X11_write_0 rfl rfl ?_
  refine px_iload_n d_X11_write_1 rfl rfl ?_
  refine px_callV (c_X11_accountOf hL hm hm2 hj hr) d_X11_write_2 lk_X11_94 ok_X11_accountOf ov_X11_accountOf (so0 hL) (by decide) rfl rfl (Nat.le_of_ble_eq_true rfl) (by decide) ⟨Nat.le_refl _, Nat.le_refl _⟩ ?_
  refine px_astore d_X11_write_5 (by decide) ?_
  refine px_aload d_X11_write_7 rfl ?_
  refine px_ifnull d_X11_write_9 ?_
  refine px_iload_n d_X11_write_12 rfl rfl ?_
  refine px_callS (c_X11_isDay) d_X11_write_13 lk_X11_84 ok_X11_isDay os_X11_isDay rfl (Nat.le_of_ble_eq_true rfl) (by decide) ⟨Nat.le_refl _, Nat.le_refl _⟩ ?_
  refine px_if_ne (tgt := 21) d_X11_write_16 (by decide) (fun c16 => ?_) (fun c16 => ?_)
  · exact absurd (bI_n.mp c16) hv
  · refine px_iconst (v := (-1)) d_X11_write_19 (by decide) ?_
    exact px_ireturn d_X11_write_20 rfl rfl ⟨rfl, rfl, rfl⟩
theorem c_X11_notice {h : PH} (hL : px_L h) {m : Nat} (hm : hI h 0 10 = nI m) (hm2 : m ≤ 20) {j r r1 r2 : Nat} (hj : j < m) (hr : hR h 1 j = some r) (hA : px_acc h r r1 r2) {s : Int32} {n : Nat} (hs1 : hI h 23 4 = nI n) (hn4 : n < 60) (hv : hI h r 1 = 3 ∧ ¬ s < 1 ∧ ¬ 100000 < s) : PM M_X11_notice [.ref 0, .int (nI j), .int s] h (some (.int 1)) (ntcAdd h n (nI j) s (hI h 0 11)) := by
  refine PM.of (by decide +kernel) (by decide +kernel) (Nat.le_refl _) (Nat.le_refl _) (Nat.le_of_ble_eq_true rfl) ?_
  refine px_aload_n d_X11_notice_0 rfl rfl ?_
  refine px_iload_n d_X11_notice_1 rfl rfl ?_
  refine px_callV (c_X11_accountOf hL hm hm2 hj hr) d_X11_notice_2 lk_X11_94 ok_X11_accountOf ov_X11_accountOf (so0 hL) (by decide) rfl rfl (Nat.le_of_ble_eq_true rfl) (by decide) ⟨Nat.le_refl _, Nat.le_refl _⟩ ?_
  refine px_astore_n d_X11_notice_5 rfl (by decide) ?_
  refine px_aload_n d_X11_notice_6 rfl rfl ?_
  refine px_ifnull d_X11_notice_7 ?_
  refine px_aload_n d_X11_notice_10 rfl rfl ?_
  refine px_getI d_X11_notice_11 fl_X11_163 rfl hA.1 ?_
  refine px_iconst (v := 3) d_X11_notice_14 (by decide) ?_
  refine px_icmp_ne (tgt := 25) d_X11_notice_15 (by decide) (fun c15 => absurd hv.1 c15) (fun c15 => ?_)
  refine px_iload_n d_X11_notice_18 rfl rfl ?_
  refine px_callS (c_X11_isDrawable) d_X11_notice_19 lk_X11_177 ok_X11_isDrawable os_X11_isDrawable rfl (Nat.le_of_ble_eq_true rfl) (by decide) ⟨Nat.le_refl _, Nat.le_refl _⟩ ?_
  refine px_if_ne (tgt := 27) d_X11_notice_22 (by decide) (fun c22 => ?_) (fun c22 => absurd c22 (bI_n.mpr hv.2))
  refine px_aload_n d_X11_notice_27 rfl rfl ?_
  refine px_getR d_X11_notice_28 fl_X11_62 (by decide) (so0 hL) (sr0_7 hL) ?_
  refine px_iload_n d_X11_notice_31 rfl rfl ?_
  refine px_iload_n d_X11_notice_32 rfl rfl ?_
  refine px_aload_n d_X11_notice_33 rfl rfl ?_
  refine px_getI d_X11_notice_34 fl_X11_88 rfl (so0 hL) ?_
  refine px_callV (c_X6_give hL hs1 hn4) d_X11_notice_37 lk_X11_180 ok_X6_give ov_X6_give (so23 hL) (by decide) rfl rfl (Nat.le_of_ble_eq_true rfl) (by decide) ⟨Nat.le_refl _, Nat.le_refl _⟩ ?_
  exact px_ireturn d_X11_notice_40 rfl rfl ⟨rfl, rfl, rfl⟩
theorem f_X11_notice {h : PH} (hL : px_L h) {m : Nat} (hm : hI h 0 10 = nI m) (hm2 : m ≤ 20) {j r r1 r2 : Nat} (hj : j < m) (hr : hR h 1 j = some r) (hA : px_acc h r r1 r2) {s : Int32} (hs1 : hI h 23 4 = nI 60) (hv : hI h r 1 = 3 ∧ ¬ s < 1 ∧ ¬ 100000 < s) : PM M_X11_notice [.ref 0, .int (nI j), .int s] h (some (.int 0)) h := by
  refine PM.of (by decide +kernel) (by decide +kernel) (Nat.le_refl _) (Nat.le_refl _) (Nat.le_of_ble_eq_true rfl) ?_
  refine px_aload_n d_X11_notice_0 rfl rfl ?_
  refine px_iload_n d_X11_notice_1 rfl rfl ?_
  refine px_callV (c_X11_accountOf hL hm hm2 hj hr) d_X11_notice_2 lk_X11_94 ok_X11_accountOf ov_X11_accountOf (so0 hL) (by decide) rfl rfl (Nat.le_of_ble_eq_true rfl) (by decide) ⟨Nat.le_refl _, Nat.le_refl _⟩ ?_
  refine px_astore_n d_X11_notice_5 rfl (by decide) ?_
  refine px_aload_n d_X11_notice_6 rfl rfl ?_
  refine px_ifnull d_X11_notice_7 ?_
  refine px_aload_n d_X11_notice_10 rfl rfl ?_
  refine px_getI d_X11_notice_11 fl_X11_163 rfl hA.1 ?_
  refine px_iconst (v := 3) d_X11_notice_14 (by decide) ?_
  refine px_icmp_ne (tgt := 25) d_X11_notice_15 (by decide) (fun c15 => absurd hv.1 c15) (fun c15 => ?_)
  refine px_iload_n d_X11_notice_18 rfl rfl ?_
  refine px_callS (c_X11_isDrawable) d_X11_notice_19 lk_X11_177 ok_X11_isDrawable os_X11_isDrawable rfl (Nat.le_of_ble_eq_true rfl) (by decide) ⟨Nat.le_refl _, Nat.le_refl _⟩ ?_
  refine px_if_ne (tgt := 27) d_X11_notice_22 (by decide) (fun c22 => ?_) (fun c22 => absurd c22 (bI_n.mpr hv.2))
  refine px_aload_n d_X11_notice_27 rfl rfl ?_
  refine px_getR d_X11_notice_28 fl_X11_62 (by decide) (so0 hL) (sr0_7 hL) ?_
  refine px_iload_n d_X11_notice_31 rfl rfl ?_
  refine px_iload_n d_X11_notice_32 rfl rfl ?_
  refine px_aload_n d_X11_notice_33 rfl rfl ?_
  refine px_getI d_X11_notice_34 fl_X11_88 rfl (so0 hL) ?_
  refine px_callV (c_X6_give0 hL hs1) d_X11_notice_37 lk_X11_180 ok_X6_give ov_X6_give (so23 hL) (by decide) rfl rfl (Nat.le_of_ble_eq_true rfl) (by decide) ⟨Nat.le_refl _, Nat.le_refl _⟩ ?_
  exact px_ireturn d_X11_notice_40 rfl rfl ⟨rfl, rfl, rfl⟩
theorem n_X11_notice {h : PH} (hL : px_L h) {m : Nat} (hm : hI h 0 10 = nI m) (hm2 : m ≤ 20) {j r r1 r2 : Nat} (hj : j < m) (hr : hR h 1 j = some r) (hA : px_acc h r r1 r2) {s : Int32} (hv : ¬ (hI h r 1 = 3 ∧ ¬ s < 1 ∧ ¬ 100000 < s)) : PM M_X11_notice [.ref 0, .int (nI j), .int s] h (some (.int 0)) h := by
  refine PM.of (by decide +kernel) (by decide +kernel) (Nat.le_refl _) (Nat.le_refl _) (Nat.le_of_ble_eq_true rfl) ?_
  refine px_aload_n d_X11_notice_0 rfl rfl ?_
  refine px_iload_n d_X11_notice_1 rfl rfl ?_
  refine px_callV (c_X11_accountOf hL hm hm2 hj hr) d_X11_notice_2 lk_X11_94 ok_X11_accountOf ov_X11_accountOf (so0 hL) (by decide) rfl rfl (Nat.le_of_ble_eq_true rfl) (by decide) ⟨Nat.le_refl _, Nat.le_refl _⟩ ?_
  refine px_astore_n d_X11_notice_5 rfl (by decide) ?_
  refine px_aload_n d_X11_notice_6 rfl rfl ?_
  refine px_ifnull d_X11_notice_7 ?_
  refine px_aload_n d_X11_notice_10 rfl rfl ?_
  refine px_getI d_X11_notice_11 fl_X11_163 rfl hA.1 ?_
  refine px_iconst (v := 3) d_X11_notice_14 (by decide) ?_
  refine px_icmp_ne (tgt := 25) d_X11_notice_15 (by decide) (fun c15 => ?_) (fun c15 => ?_)
  · refine px_iconst (v := 0) d_X11_notice_25 (by decide) ?_
    exact px_ireturn d_X11_notice_26 rfl rfl ⟨rfl, rfl, rfl⟩
  · refine px_iload_n d_X11_notice_18 rfl rfl ?_
    refine px_callS (c_X11_isDrawable) d_X11_notice_19 lk_X11_177 ok_X11_isDrawable os_X11_isDrawable rfl (Nat.le_of_ble_eq_true rfl) (by decide) ⟨Nat.le_refl _, Nat.le_refl _⟩ ?_
    refine px_if_ne (tgt := 27) d_X11_notice_22 (by decide) (fun c22 => ?_) (fun c22 => ?_)
    · exact absurd ⟨by first | exact c15 | exact Classical.not_not.mp c15, bI_n.mp c22⟩ hv
    · refine px_iconst (v := 0) d_X11_notice_25 (by decide) ?_
      exact px_ireturn d_X11_notice_26 rfl rfl ⟨rfl, rfl, rfl⟩
theorem c_X11_compare {h : PH} (hL : px_L h) {m : Nat} (hm : hI h 0 10 = nI m) (hm2 : m ≤ 20) {j r r1 r2 : Nat} (hj : j < m) (hr : hR h 1 j = some r) (hA : px_acc h r r1 r2) {x : Int32} {c n : Nat} (hc : hI h r 6 = nI c) (hc4 : c ≤ 40) (hs1 : hI h 2 4 = nI n) (hn4 : n ≤ 400) (hv : ¬ x < 0 ∧ x ≤ 2) : PM M_X11_compare [.ref 0, .int (nI j), .int x] h (some (.int (if x = 0 then (prs (hI h r1) (hI h r2) (hI h 3) (hI h 4) (hI h 5) (hI h r 0) n c) else if x = 1 then hI h r 6 - (prs (hI h r1) (hI h r2) (hI h 3) (hI h 4) (hI h 5) (hI h r 0) n c) else cnt1 (hI h 3) (nI j) n - (prs (hI h r1) (hI h r2) (hI h 3) (hI h 4) (hI h 5) (hI h r 0) n c)))) h := by
  refine PM.of (by decide +kernel) (by decide +kernel) (Nat.le_refl _) (Nat.le_refl _) (Nat.le_of_ble_eq_true rfl) ?_
  refine px_aload_n d_X11_compare_0 rfl rfl ?_
  refine px_iload_n d_X11_compare_1 rfl rfl ?_
  refine px_callV (c_X11_accountOf hL hm hm2 hj hr) d_X11_compare_2 lk_X11_94 ok_X11_accountOf ov_X11_accountOf (so0 hL) (by decide) rfl rfl (Nat.le_of_ble_eq_true rfl) (by decide) ⟨Nat.le_refl _, Nat.le_refl _⟩ ?_
  refine px_astore_n d_X11_compare_5 rfl (by decide) ?_
  refine px_aload_n d_X11_compare_6 rfl rfl ?_
  refine px_ifnull d_X11_compare_7 ?_
  refine px_iload_n d_X11_compare_10 rfl rfl ?_
  refine px_if_lt (tgt := 19) d_X11_compare_11 (by decide) (fun c11 => absurd c11 hv.1) (fun c11 => ?_)
  refine px_iload_n d_X11_compare_14 rfl rfl ?_
  refine px_iconst (v := 2) d_X11_compare_15 (by decide) ?_
  refine px_icmp_le (tgt := 21) d_X11_compare_16 (by decide) (fun c16 => ?_) (fun c16 => (c16 hv.2).elim)
  refine px_aload_n d_X11_compare_21 rfl rfl ?_
  refine px_aload_n d_X11_compare_22 rfl rfl ?_
  refine px_getR d_X11_compare_23 fl_X11_18 (by decide) (so0 hL) (sr0_1 hL) ?_
  refine px_callV (c_X0_pairsWith hL hA hc hc4 hs1 hn4) d_X11_compare_26 lk_X11_188 ok_X0_pairsWith ov_X0_pairsWith hA.1 (by decide) rfl rfl (Nat.le_of_ble_eq_true rfl) (by decide) ⟨Nat.le_refl _, Nat.le_refl _⟩ ?_
  refine px_istore d_X11_compare_29 (by decide) ?_
  refine px_iload_n d_X11_compare_31 rfl rfl ?_
  by_cases w32_0 : x = 0
  · refine px_look (off := 28) (tgt := 60) d_X11_compare_32 (by decide) (by rw [w32_0]; decide) (by decide) ?_
    refine px_iload d_X11_compare_60 rfl ?_
    exact px_ireturn d_X11_compare_62 rfl rfl ⟨rfl, px_si (by simp [if_true, if_false, c11, c16, w32_0]), rfl⟩
  by_cases w32_1 : x = 1
  · refine px_look (off := 31) (tgt := 63) d_X11_compare_32 (by decide) (by rw [w32_1]; decide) (by decide) ?_
    refine px_aload_n d_X11_compare_63 rfl rfl ?_
    refine px_getI d_X11_compare_64 fl_X11_192 rfl hA.1 ?_
    refine px_iload d_X11_compare_67 rfl ?_
    refine px_isub d_X11_compare_69 ?_
    exact px_ireturn d_X11_compare_70 rfl rfl ⟨rfl, px_si (by simp [if_true, if_false, c11, c16, w32_0, w32_1]), rfl⟩
  have zw32_0 := px_neT (a := 0) 0 (by decide) w32_0
  have zw32_1 := px_neT (a := 1) 1 (by decide) w32_1
  refine px_look (off := 39) (tgt := 71) d_X11_compare_32 (by decide) (by simp [Op.lookupswitch.offset, zw32_0, zw32_0.symm, zw32_1, zw32_1.symm]) (by decide) ?_
  refine px_aload_n d_X11_compare_71 rfl rfl ?_
  refine px_getR d_X11_compare_72 fl_X11_18 (by decide) (so0 hL) (sr0_1 hL) ?_
  refine px_iload_n d_X11_compare_75 rfl rfl ?_
  refine px_callV (c_X2_countOf hL hs1 hn4) d_X11_compare_76 lk_X11_195 ok_X2_countOf ov_X2_countOf (so2 hL) (by decide) rfl rfl (Nat.le_of_ble_eq_true rfl) (by decide) ⟨Nat.le_refl _, Nat.le_refl _⟩ ?_
  refine px_iload d_X11_compare_79 rfl ?_
  refine px_isub d_X11_compare_81 ?_
  exact px_ireturn d_X11_compare_82 rfl rfl ⟨rfl, px_si (by simp [if_true, if_false, c11, c16, w32_0, w32_1]), rfl⟩
theorem n_X11_compare {h : PH} (hL : px_L h) {m : Nat} (hm : hI h 0 10 = nI m) (hm2 : m ≤ 20) {j r r1 r2 : Nat} (hj : j < m) (hr : hR h 1 j = some r) (hA : px_acc h r r1 r2) {x : Int32} (hv : ¬ (¬ x < 0 ∧ x ≤ 2)) : PM M_X11_compare [.ref 0, .int (nI j), .int x] h (some (.int (-1))) h := by
  refine PM.of (by decide +kernel) (by decide +kernel) (Nat.le_refl _) (Nat.le_refl _) (Nat.le_of_ble_eq_true rfl) ?_
  refine px_aload_n d_X11_compare_0 rfl rfl ?_
  refine px_iload_n d_X11_compare_1 rfl rfl ?_
  refine px_callV (c_X11_accountOf hL hm hm2 hj hr) d_X11_compare_2 lk_X11_94 ok_X11_accountOf ov_X11_accountOf (so0 hL) (by decide) rfl rfl (Nat.le_of_ble_eq_true rfl) (by decide) ⟨Nat.le_refl _, Nat.le_refl _⟩ ?_
  refine px_astore_n d_X11_compare_5 rfl (by decide) ?_
  refine px_aload_n d_X11_compare_6 rfl rfl ?_
  refine px_ifnull d_X11_compare_7 ?_
  refine px_iload_n d_X11_compare_10 rfl rfl ?_
  refine px_if_lt (tgt := 19) d_X11_compare_11 (by decide) (fun c11 => ?_) (fun c11 => ?_)
  · refine px_iconst (v := (-1)) d_X11_compare_19 (by decide) ?_
    exact px_ireturn d_X11_compare_20 rfl rfl ⟨rfl, rfl, rfl⟩
  · refine px_iload_n d_X11_compare_14 rfl rfl ?_
    refine px_iconst (v := 2) d_X11_compare_15 (by decide) ?_
    refine px_icmp_le (tgt := 21) d_X11_compare_16 (by decide) (fun c16 => ?_) (fun c16 => ?_)
    · exact absurd ⟨c11, c16⟩ hv
    · refine px_iconst (v := (-1)) d_X11_compare_19 (by decide) ?_
      exact px_ireturn d_X11_compare_20 rfl rfl ⟨rfl, rfl, rfl⟩
def hldAdd (h : PH) (n : Nat) (p c : Int32) : PH := pI (pI (pI h 31 n p) 32 n c) 30 3 (nI (n + 1))
abbrev hldP (x : Int64) : Prop := ¬ lg_cmp x 1 < 0 ∧ ¬ 0 < lg_cmp x 10000
theorem c_X4_add {h : PH} (hL : px_L h) {n : Nat} {p c : Int32} (hs1 : hI h 30 3 = nI n) (hn6 : n ≤ 6) (hv : ¬ 6 ≤ hI h 30 3 ∧ hldP p.toInt64 ∧ hldP (p.toInt64 + 5 * c.toInt64)) : PM M_X4_add [.ref 30, .int p, .int c] h (some (.int (nI n))) (hldAdd h n p c) := by
  have hn5 : n < 6 := by
    have h1 := hv.1
    rw [hs1] at h1
    rcases Nat.lt_or_ge n 6 with q | q
    · exact q
    · exact absurd (by rw [show n = 6 by omega]; decide) h1
  refine PM.of (by decide +kernel) (by decide +kernel) (Nat.le_refl _) (Nat.le_refl _) (Nat.le_of_ble_eq_true rfl) ?_
  refine px_aload_n d_X4_add_0 rfl rfl ?_
  refine px_getI d_X4_add_1 fl_X4_28 rfl (so30 hL) ?_
  refine px_bipush (v := 6) d_X4_add_4 (by decide) ?_
  refine px_icmp_ge (tgt := 32) d_X4_add_6 (by decide) (fun c6 => absurd c6 hv.1) (fun c6 => ?_)
  refine px_iload_n d_X4_add_9 rfl rfl ?_
  refine px_i2l d_X4_add_10 ?_
  refine px_callS (c_X4_isPrice) d_X4_add_11 lk_X4_32 ok_X4_isPrice os_X4_isPrice rfl (Nat.le_of_ble_eq_true rfl) (by decide) ⟨Nat.le_refl _, Nat.le_refl _⟩ ?_
  refine px_if_eq (tgt := 32) d_X4_add_14 (by decide) (fun c14 => absurd c14 (bI_n.mpr hv.2.1)) (fun c14 => ?_)
  refine px_iload_n d_X4_add_17 rfl rfl ?_
  refine px_i2l d_X4_add_18 ?_
  refine px_ldc2 d_X4_add_19 cl_X4_36 ?_
  refine px_iload_n d_X4_add_22 rfl rfl ?_
  refine px_i2l d_X4_add_23 ?_
  refine px_lmul d_X4_add_24 ?_
  refine px_ladd d_X4_add_25 ?_
  refine px_callS (c_X4_isPrice) d_X4_add_26 lk_X4_32 ok_X4_isPrice os_X4_isPrice rfl (Nat.le_of_ble_eq_true rfl) (by decide) ⟨Nat.le_refl _, Nat.le_refl _⟩ ?_
  refine px_if_ne (tgt := 34) d_X4_add_29 (by decide) (fun c29 => ?_) (fun c29 => absurd c29 (bI_n.mpr hv.2.2))
  refine px_aload_n d_X4_add_34 rfl rfl ?_
  refine px_getR d_X4_add_35 fl_X4_11 (by decide) (so30 hL) (sr30_0 hL) ?_
  refine px_aload_n d_X4_add_38 rfl rfl ?_
  refine px_getI d_X4_add_39 fl_X4_28 rfl (so30 hL) ?_
  refine px_iload_n d_X4_add_42 rfl rfl ?_
  refine px_iast d_X4_add_43 (sa31 hL) hs1 (by omega) ?_
  refine px_aload_n d_X4_add_44 rfl rfl ?_
  refine px_getR d_X4_add_45 fl_X4_15 (by decide) (so30 hL) (sr30_1 hL) ?_
  refine px_aload_n d_X4_add_48 rfl rfl ?_
  refine px_getI d_X4_add_49 fl_X4_28 rfl (so30 hL) ?_
  refine px_iload_n d_X4_add_52 rfl rfl ?_
  refine px_iast d_X4_add_53 (sa32 hL) hs1 (by omega) ?_
  refine px_aload_n d_X4_add_54 rfl rfl ?_
  refine px_dup d_X4_add_55 rfl ?_
  refine px_getI d_X4_add_56 fl_X4_28 rfl (so30 hL) ?_
  refine px_iconst (v := 1) d_X4_add_59 (by decide) ?_
  refine px_iadd d_X4_add_60 ?_
  refine px_val (y := nI (n + 1)) (by rw [← nI_s1]; exact congrArg (· + 1) hs1) ?_
  refine px_putI d_X4_add_61 fl_X4_28 rfl (so30 hL) ?_
  refine px_aload_n d_X4_add_64 rfl rfl ?_
  refine px_getI d_X4_add_65 fl_X4_28 rfl (so30 hL) ?_
  refine px_iconst (v := 1) d_X4_add_68 (by decide) ?_
  refine px_isub d_X4_add_69 ?_
  exact px_ireturn d_X4_add_70 rfl rfl ⟨rfl, px_si (by rw [show hI (pI (pI (pI h 31 n p) 32 n c) 30 3 (nI (n + 1))) 30 3 = nI (n + 1) from gI_s _ _ _ _]; exact nI_pred n), rfl⟩
theorem n_X4_add {h : PH} (hL : px_L h) {p c : Int32} (hv : ¬ (¬ 6 ≤ hI h 30 3 ∧ hldP p.toInt64 ∧ hldP (p.toInt64 + 5 * c.toInt64))) : PM M_X4_add [.ref 30, .int p, .int c] h (some (.int (-1))) h := by
  refine PM.of (by decide +kernel) (by decide +kernel) (Nat.le_refl _) (Nat.le_refl _) (Nat.le_of_ble_eq_true rfl) ?_
  refine px_aload_n d_X4_add_0 rfl rfl ?_
  refine px_getI d_X4_add_1 fl_X4_28 rfl (so30 hL) ?_
  refine px_bipush (v := 6) d_X4_add_4 (by decide) ?_
  refine px_icmp_ge (tgt := 32) d_X4_add_6 (by decide) (fun c6 => ?_) (fun c6 => ?_)
  · refine px_iconst (v := (-1)) d_X4_add_32 (by decide) ?_
    exact px_ireturn d_X4_add_33 rfl rfl ⟨rfl, rfl, rfl⟩
  · refine px_iload_n d_X4_add_9 rfl rfl ?_
    refine px_i2l d_X4_add_10 ?_
    refine px_callS (c_X4_isPrice) d_X4_add_11 lk_X4_32 ok_X4_isPrice os_X4_isPrice rfl (Nat.le_of_ble_eq_true rfl) (by decide) ⟨Nat.le_refl _, Nat.le_refl _⟩ ?_
    refine px_if_eq (tgt := 32) d_X4_add_14 (by decide) (fun c14 => ?_) (fun c14 => ?_)
    · refine px_iconst (v := (-1)) d_X4_add_32 (by decide) ?_
      exact px_ireturn d_X4_add_33 rfl rfl ⟨rfl, rfl, rfl⟩
    · refine px_iload_n d_X4_add_17 rfl rfl ?_
      refine px_i2l d_X4_add_18 ?_
      refine px_ldc2 d_X4_add_19 cl_X4_36 ?_
      refine px_iload_n d_X4_add_22 rfl rfl ?_
      refine px_i2l d_X4_add_23 ?_
      refine px_lmul d_X4_add_24 ?_
      refine px_ladd d_X4_add_25 ?_
      refine px_callS (c_X4_isPrice) d_X4_add_26 lk_X4_32 ok_X4_isPrice os_X4_isPrice rfl (Nat.le_of_ble_eq_true rfl) (by decide) ⟨Nat.le_refl _, Nat.le_refl _⟩ ?_
      refine px_if_ne (tgt := 34) d_X4_add_29 (by decide) (fun c29 => ?_) (fun c29 => ?_)
      · exact absurd ⟨c6, bI_n.mp c14, bI_n.mp c29⟩ hv
      · refine px_iconst (v := (-1)) d_X4_add_32 (by decide) ?_
        exact px_ireturn d_X4_add_33 rfl rfl ⟨rfl, rfl, rfl⟩
theorem c_X11_holding {h : PH} (hL : px_L h) {n : Nat} {p c : Int32} (hs1 : hI h 30 3 = nI n) (hn6 : n ≤ 6) (hv : ¬ 6 ≤ hI h 30 3 ∧ hldP p.toInt64 ∧ hldP (p.toInt64 + 5 * c.toInt64)) : PM M_X11_holding [.ref 0, .int p, .int c] h (some (.int (nI n))) (hldAdd h n p c) := by
  refine PM.of (by decide +kernel) (by decide +kernel) (Nat.le_refl _) (Nat.le_refl _) (Nat.le_of_ble_eq_true rfl) ?_
  refine px_aload_n d_X11_holding_0 rfl rfl ?_
  refine px_getR d_X11_holding_1 fl_X11_76 (by decide) (so0 hL) (sr0_9 hL) ?_
  refine px_iload_n d_X11_holding_4 rfl rfl ?_
  refine px_iload_n d_X11_holding_5 rfl rfl ?_
  refine px_callV (c_X4_add hL hs1 hn6 hv) d_X11_holding_6 lk_X11_219 ok_X4_add ov_X4_add (so30 hL) (by decide) rfl rfl (Nat.le_of_ble_eq_true rfl) (by decide) ⟨Nat.le_refl _, Nat.le_refl _⟩ ?_
  exact px_ireturn d_X11_holding_9 rfl rfl ⟨rfl, rfl, rfl⟩
theorem n_X11_holding {h : PH} (hL : px_L h) {p c : Int32} (hv : ¬ (¬ 6 ≤ hI h 30 3 ∧ hldP p.toInt64 ∧ hldP (p.toInt64 + 5 * c.toInt64))) : PM M_X11_holding [.ref 0, .int p, .int c] h (some (.int (-1))) h := by
  refine PM.of (by decide +kernel) (by decide +kernel) (Nat.le_refl _) (Nat.le_refl _) (Nat.le_of_ble_eq_true rfl) ?_
  refine px_aload_n d_X11_holding_0 rfl rfl ?_
  refine px_getR d_X11_holding_1 fl_X11_76 (by decide) (so0 hL) (sr0_9 hL) ?_
  refine px_iload_n d_X11_holding_4 rfl rfl ?_
  refine px_iload_n d_X11_holding_5 rfl rfl ?_
  refine px_callV (n_X4_add hL hv) d_X11_holding_6 lk_X11_219 ok_X4_add ov_X4_add (so30 hL) (by decide) rfl rfl (Nat.le_of_ble_eq_true rfl) (by decide) ⟨Nat.le_refl _, Nat.le_refl _⟩ ?_
  exact px_ireturn d_X11_holding_9 rfl rfl ⟨rfl, rfl, rfl⟩
theorem c_X4_setNeed {h : PH} {w s : Int32} {w0 : Nat} (hL : px_L h) (hw0 : w = nI w0) (hw6 : w0 < 6) (hv : ¬ w < 0 ∧ ¬ 6 ≤ w ∧ ¬ s < 0 ∧ s ≤ 60000) : PM M_X4_setNeed [.ref 30, .int w, .int s] h (some (.int 1)) (pI h 33 w0 s) := by
  refine PM.of (by decide +kernel) (by decide +kernel) (Nat.le_refl _) (Nat.le_refl _) (Nat.le_of_ble_eq_true rfl) ?_
  refine px_iload_n d_X4_setNeed_0 rfl rfl ?_
  refine px_if_lt (tgt := 20) d_X4_setNeed_1 (by decide) (fun c1 => (by first | exact absurd c1 hv.1 | exact (c1 hv.1).elim)) (fun c1 => ?_)
  refine px_iload_n d_X4_setNeed_4 rfl rfl ?_
  refine px_bipush (v := 6) d_X4_setNeed_5 (by decide) ?_
  refine px_icmp_ge (tgt := 20) d_X4_setNeed_7 (by decide) (fun c7 => (by first | exact absurd c7 hv.2.1 | exact (c7 hv.2.1).elim)) (fun c7 => ?_)
  refine px_iload_n d_X4_setNeed_10 rfl rfl ?_
  refine px_if_lt (tgt := 20) d_X4_setNeed_11 (by decide) (fun c11 => (by first | exact absurd c11 hv.2.2.1 | exact (c11 hv.2.2.1).elim)) (fun c11 => ?_)
  refine px_iload_n d_X4_setNeed_14 rfl rfl ?_
  refine px_ldc d_X4_setNeed_15 ck_X4_40 ?_
  refine px_icmp_le (tgt := 22) d_X4_setNeed_17 (by decide) (fun c17 => ?_) (fun c17 => (by first | exact absurd c17 hv.2.2.2 | exact (c17 hv.2.2.2).elim))
  refine px_aload_n d_X4_setNeed_22 rfl rfl ?_
  refine px_getR d_X4_setNeed_23 fl_X4_18 (by decide) (so30 hL) (sr30_2 hL) ?_
  refine px_iload_n d_X4_setNeed_26 rfl rfl ?_
  refine px_iload_n d_X4_setNeed_27 rfl rfl ?_
  refine px_iast d_X4_setNeed_28 (sa33 hL) hw0 (by omega) ?_
  refine px_iconst (v := 1) d_X4_setNeed_29 (by decide) ?_
  exact px_ireturn d_X4_setNeed_30 rfl rfl ⟨rfl, rfl, rfl⟩
theorem n_X4_setNeed {h : PH} {w s : Int32} {w0 : Nat} (hL : px_L h) (hw0 : w = nI w0) (hw6 : w0 < 6) (hv : ¬ (¬ w < 0 ∧ ¬ 6 ≤ w ∧ ¬ s < 0 ∧ s ≤ 60000)) : PM M_X4_setNeed [.ref 30, .int w, .int s] h (some (.int 0)) h := by
  refine PM.of (by decide +kernel) (by decide +kernel) (Nat.le_refl _) (Nat.le_refl _) (Nat.le_of_ble_eq_true rfl) ?_
  refine px_iload_n d_X4_setNeed_0 rfl rfl ?_
  refine px_if_lt (tgt := 20) d_X4_setNeed_1 (by decide) (fun c1 => ?_) (fun c1 => ?_)
  · refine px_iconst (v := 0) d_X4_setNeed_20 (by decide) ?_
    exact px_ireturn d_X4_setNeed_21 rfl rfl ⟨rfl, rfl, rfl⟩
  · refine px_iload_n d_X4_setNeed_4 rfl rfl ?_
    refine px_bipush (v := 6) d_X4_setNeed_5 (by decide) ?_
    refine px_icmp_ge (tgt := 20) d_X4_setNeed_7 (by decide) (fun c7 => ?_) (fun c7 => ?_)
    · refine px_iconst (v := 0) d_X4_setNeed_20 (by decide) ?_
      exact px_ireturn d_X4_setNeed_21 rfl rfl ⟨rfl, rfl, rfl⟩
    · refine px_iload_n d_X4_setNeed_10 rfl rfl ?_
      refine px_if_lt (tgt := 20) d_X4_setNeed_11 (by decide) (fun c11 => ?_) (fun c11 => ?_)
      · refine px_iconst (v := 0) d_X4_setNeed_20 (by decide) ?_
        exact px_ireturn d_X4_setNeed_21 rfl rfl ⟨rfl, rfl, rfl⟩
      · refine px_iload_n d_X4_setNeed_14 rfl rfl ?_
        refine px_ldc d_X4_setNeed_15 ck_X4_40 ?_
        refine px_icmp_le (tgt := 22) d_X4_setNeed_17 (by decide) (fun c17 => ?_) (fun c17 => ?_)
        · exact absurd ⟨c1, c7, c11, c17⟩ hv
        · refine px_iconst (v := 0) d_X4_setNeed_20 (by decide) ?_
          exact px_ireturn d_X4_setNeed_21 rfl rfl ⟨rfl, rfl, rfl⟩
theorem c_X11_need {h : PH} {w s : Int32} {w0 : Nat} (hL : px_L h) (hw0 : w = nI w0) (hw6 : w0 < 6) (hv : ¬ w < 0 ∧ ¬ 6 ≤ w ∧ ¬ s < 0 ∧ s ≤ 60000) : PM M_X11_need [.ref 0, .int w, .int s] h (some (.int 1)) (pI h 33 w0 s) := by
  refine PM.of (by decide +kernel) (by decide +kernel) (Nat.le_refl _) (Nat.le_refl _) (Nat.le_of_ble_eq_true rfl) ?_
  refine px_aload_n d_X11_need_0 rfl rfl ?_
  refine px_getR d_X11_need_1 fl_X11_76 (by decide) (so0 hL) (sr0_9 hL) ?_
  refine px_iload_n d_X11_need_4 rfl rfl ?_
  refine px_iload_n d_X11_need_5 rfl rfl ?_
  refine px_callV (c_X4_setNeed hL hw0 hw6 hv) d_X11_need_6 lk_X11_222 ok_X4_setNeed ov_X4_setNeed (so30 hL) (by decide) rfl rfl (Nat.le_of_ble_eq_true rfl) (by decide) ⟨Nat.le_refl _, Nat.le_refl _⟩ ?_
  exact px_ireturn d_X11_need_9 rfl rfl ⟨rfl, rfl, rfl⟩
theorem n_X11_need {h : PH} {w s : Int32} {w0 : Nat} (hL : px_L h) (hw0 : w = nI w0) (hw6 : w0 < 6) (hv : ¬ (¬ w < 0 ∧ ¬ 6 ≤ w ∧ ¬ s < 0 ∧ s ≤ 60000)) : PM M_X11_need [.ref 0, .int w, .int s] h (some (.int 0)) h := by
  refine PM.of (by decide +kernel) (by decide +kernel) (Nat.le_refl _) (Nat.le_refl _) (Nat.le_of_ble_eq_true rfl) ?_
  refine px_aload_n d_X11_need_0 rfl rfl ?_
  refine px_getR d_X11_need_1 fl_X11_76 (by decide) (so0 hL) (sr0_9 hL) ?_
  refine px_iload_n d_X11_need_4 rfl rfl ?_
  refine px_iload_n d_X11_need_5 rfl rfl ?_
  refine px_callV (n_X4_setNeed hL hw0 hw6 hv) d_X11_need_6 lk_X11_222 ok_X4_setNeed ov_X4_setNeed (so30 hL) (by decide) rfl rfl (Nat.le_of_ble_eq_true rfl) (by decide) ⟨Nat.le_refl _, Nat.le_refl _⟩ ?_
  exact px_ireturn d_X11_need_9 rfl rfl ⟨rfl, rfl, rfl⟩
theorem c_X4_weekOf {h : PH} (hL : px_L h) {w0 m : Nat} (hm : hI h 30 5 = nI m) (hm6 : m ≤ 6) (hw : w0 < m) : PM M_X4_weekOf [.ref 30, .int (nI w0)] h (some (.int (hI h 34 w0))) h := by
  refine PM.of (by decide +kernel) (by decide +kernel) (Nat.le_refl _) (Nat.le_refl _) (Nat.le_of_ble_eq_true rfl) ?_
  refine px_iload_n d_X4_weekOf_0 rfl rfl ?_
  refine px_if_lt (tgt := 18) d_X4_weekOf_1 (by decide) (fun c1 => absurd c1 (nI_pos (by omega))) (fun c1 => ?_)
  refine px_iload_n d_X4_weekOf_4 rfl rfl ?_
  refine px_aload_n d_X4_weekOf_5 rfl rfl ?_
  refine px_getI d_X4_weekOf_6 fl_X4_41 rfl (so30 hL) ?_
  refine px_icmp_ge (tgt := 18) d_X4_weekOf_9 (by decide) (fun c9 => absurd c9 (by rw [hm]; exact nI_ge (by omega) (by omega))) (fun c9 => ?_)
  refine px_iload_n d_X4_weekOf_12 rfl rfl ?_
  refine px_bipush (v := 6) d_X4_weekOf_13 (by decide) ?_
  refine px_icmp_lt (tgt := 22) d_X4_weekOf_15 (by decide) (fun c15 => ?_) (fun c15 => (c15 ((nI_ltI (b := 6) (by omega) (by decide)).mpr (by omega))).elim)
  refine px_aload_n d_X4_weekOf_22 rfl rfl ?_
  refine px_getR d_X4_weekOf_23 fl_X4_21 (by decide) (so30 hL) (sr30_4 hL) ?_
  refine px_iload_n d_X4_weekOf_26 rfl rfl ?_
  refine px_iald d_X4_weekOf_27 (sa34 hL) rfl (by omega) ?_
  exact px_ireturn d_X4_weekOf_28 rfl rfl ⟨rfl, rfl, rfl⟩
theorem n_X4_weekOf {h : PH} (hL : px_L h) {w : Int32} (hv : ¬ (¬ w < 0 ∧ ¬ hI h 30 5 ≤ w)) : PM M_X4_weekOf [.ref 30, .int w] h (some (.int (-1))) h := by
  refine PM.of (by decide +kernel) (by decide +kernel) (Nat.le_refl _) (Nat.le_refl _) (Nat.le_of_ble_eq_true rfl) ?_
  refine px_iload_n d_X4_weekOf_0 rfl rfl ?_
  refine px_if_lt (tgt := 18) d_X4_weekOf_1 (by decide) (fun c1 => ?_) (fun c1 => ?_)
  · refine px_iconst (v := (-1)) d_X4_weekOf_18 (by decide) ?_
    refine px_goto (tgt := 28) d_X4_weekOf_19 (by decide) ?_
    exact px_ireturn d_X4_weekOf_28 rfl rfl ⟨rfl, rfl, rfl⟩
  · refine px_iload_n d_X4_weekOf_4 rfl rfl ?_
    refine px_aload_n d_X4_weekOf_5 rfl rfl ?_
    refine px_getI d_X4_weekOf_6 fl_X4_41 rfl (so30 hL) ?_
    refine px_icmp_ge (tgt := 18) d_X4_weekOf_9 (by decide) (fun c9 => ?_) (fun c9 => ?_)
    · refine px_iconst (v := (-1)) d_X4_weekOf_18 (by decide) ?_
      refine px_goto (tgt := 28) d_X4_weekOf_19 (by decide) ?_
      exact px_ireturn d_X4_weekOf_28 rfl rfl ⟨rfl, rfl, rfl⟩
    · exact absurd ⟨c1, c9⟩ hv
theorem c_X11_sold {h : PH} (hL : px_L h) {w0 m : Nat} (hm : hI h 30 5 = nI m) (hm6 : m ≤ 6) (hw : w0 < m) : PM M_X11_sold [.ref 0, .int (nI w0)] h (some (.int (hI h 34 w0))) h := by
  refine PM.of (by decide +kernel) (by decide +kernel) (Nat.le_refl _) (Nat.le_refl _) (Nat.le_of_ble_eq_true rfl) ?_
  refine px_aload_n d_X11_sold_0 rfl rfl ?_
  refine px_getR d_X11_sold_1 fl_X11_76 (by decide) (so0 hL) (sr0_9 hL) ?_
  refine px_iload_n d_X11_sold_4 rfl rfl ?_
  refine px_callV (c_X4_weekOf hL hm hm6 hw) d_X11_sold_5 lk_X11_230 ok_X4_weekOf ov_X4_weekOf (so30 hL) (by decide) rfl rfl (Nat.le_of_ble_eq_true rfl) (by decide) ⟨Nat.le_refl _, Nat.le_refl _⟩ ?_
  exact px_ireturn d_X11_sold_8 rfl rfl ⟨rfl, rfl, rfl⟩
theorem n_X11_sold {h : PH} (hL : px_L h) {w : Int32} (hv : ¬ (¬ w < 0 ∧ ¬ hI h 30 5 ≤ w)) : PM M_X11_sold [.ref 0, .int w] h (some (.int (-1))) h := by
  refine PM.of (by decide +kernel) (by decide +kernel) (Nat.le_refl _) (Nat.le_refl _) (Nat.le_of_ble_eq_true rfl) ?_
  refine px_aload_n d_X11_sold_0 rfl rfl ?_
  refine px_getR d_X11_sold_1 fl_X11_76 (by decide) (so0 hL) (sr0_9 hL) ?_
  refine px_iload_n d_X11_sold_4 rfl rfl ?_
  refine px_callV (n_X4_weekOf hL hv) d_X11_sold_5 lk_X11_230 ok_X4_weekOf ov_X4_weekOf (so30 hL) (by decide) rfl rfl (Nat.le_of_ble_eq_true rfl) (by decide) ⟨Nat.le_refl _, Nat.le_refl _⟩ ?_
  exact px_ireturn d_X11_sold_8 rfl rfl ⟨rfl, rfl, rfl⟩
theorem c_X11_coin {h : PH} (hL : px_L h) {b : Nat} (hb : b < 4) : PM M_X11_coin [.ref 0, .int (nI b)] h (some (.int (hI h 29 b))) h := by
  refine PM.of (by decide +kernel) (by decide +kernel) (Nat.le_refl _) (Nat.le_refl _) (Nat.le_of_ble_eq_true rfl) ?_
  refine px_iload_n d_X11_coin_0 rfl rfl ?_
  refine px_callS (c_X11_isBranch) d_X11_coin_1 lk_X11_98 ok_X11_isBranch os_X11_isBranch rfl (Nat.le_of_ble_eq_true rfl) (by decide) ⟨Nat.le_refl _, Nat.le_refl _⟩ ?_
  refine px_if_ne (tgt := 17) d_X11_coin_4 (by decide) (fun c4 => ?_) (fun c4 => absurd c4 (bI_n.mpr (isBr hb)))
  refine px_aload_n d_X11_coin_17 rfl rfl ?_
  refine px_getR d_X11_coin_18 fl_X11_69 (by decide) (so0 hL) (sr0_8 hL) ?_
  refine px_getR d_X11_coin_21 fl_X11_215 (by decide) (so28 hL) (sr28_0 hL) ?_
  refine px_iload_n d_X11_coin_24 rfl rfl ?_
  refine px_iald d_X11_coin_25 (sa29 hL) rfl (by omega) ?_
  exact px_ireturn d_X11_coin_26 rfl rfl ⟨rfl, rfl, rfl⟩
theorem t_X11_coin {h : PH} {b : Int32} (hv : ¬ (¬ b < 0 ∧ b < 4)) : PT M_X11_coin [.ref 0, .int b] h  (pN h 30 0 6) := by
  refine PT.of (by decide +kernel) (by decide +kernel) (Nat.le_succ _) (Nat.le_add_right _ _) (Nat.le_of_ble_eq_true rfl) ?_
  refine px_iload_n d_X11_coin_0 rfl rfl ?_
  refine px_callS (c_X11_isBranch) d_X11_coin_1 lk_X11_98 ok_X11_isBranch os_X11_isBranch rfl (Nat.le_of_ble_eq_true rfl) (by decide) ⟨Nat.le_succ _, Nat.le_add_right _ _⟩ ?_
  refine px_if_ne (tgt := 17) d_X11_coin_4 (by decide) (fun c4 => absurd (bI_n.mp c4) hv) (fun c4 => ?_)
  exact px_throw d_X11_coin_7 d_X11_coin_10 d_X11_coin_11 d_X11_coin_13 d_X11_coin_16 rfl (is := 213) (tx := "no such branch") (sa := 23) (by decide) (by decide) (by decide) (Nat.le_refl _) (Nat.le_refl _) ⟨rfl, rfl⟩
theorem c_X11_night {h : PH} (hL : px_L h) {b : Nat} (hb : b < 4) {c : Int32} (hc : ¬ c < 0 ∧ c ≤ 10000000) : PM M_X11_night [.ref 0, .int (nI b), .int c] h (some (.int (c - hI h 29 b))) (pI (pI h 29 b c) 28 1 (hI h 28 1 + (c - hI h 29 b))) := by
  refine PM.of (by decide +kernel) (by decide +kernel) (Nat.le_refl _) (Nat.le_refl _) (Nat.le_of_ble_eq_true rfl) ?_
  refine px_iload_n d_X11_night_0 rfl rfl ?_
  refine px_callS (c_X11_isBranch) d_X11_night_1 lk_X11_98 ok_X11_isBranch os_X11_isBranch rfl (Nat.le_of_ble_eq_true rfl) (by decide) ⟨Nat.le_refl _, Nat.le_refl _⟩ ?_
  refine px_if_eq (tgt := 17) d_X11_night_4 (by decide) (fun c4 => absurd c4 (bI_n.mpr (isBr hb))) (fun c4 => ?_)
  refine px_iload_n d_X11_night_7 rfl rfl ?_
  refine px_if_lt (tgt := 17) d_X11_night_8 (by decide) (fun c8 => absurd c8 hc.1) (fun c8 => ?_)
  refine px_iload_n d_X11_night_11 rfl rfl ?_
  refine px_ldc d_X11_night_12 ck_X11_207 ?_
  refine px_icmp_le (tgt := 27) d_X11_night_14 (by decide) (fun c14 => ?_) (fun c14 => (c14 hc.2).elim)
  refine px_aload_n d_X11_night_27 rfl rfl ?_
  refine px_getR d_X11_night_28 fl_X11_69 (by decide) (so0 hL) (sr0_8 hL) ?_
  refine px_iload_n d_X11_night_31 rfl rfl ?_
  refine px_iload_n d_X11_night_32 rfl rfl ?_
  refine px_callV (c_X1_countedAs hL hb) d_X11_night_33 lk_X11_210 ok_X1_countedAs ov_X1_countedAs (so28 hL) (by decide) rfl rfl (Nat.le_of_ble_eq_true rfl) (by decide) ⟨Nat.le_refl _, Nat.le_refl _⟩ ?_
  exact px_ireturn d_X11_night_36 rfl rfl ⟨rfl, rfl, rfl⟩
theorem t_X11_night {h : PH} {b c : Int32} (hv : ¬ ((¬ b < 0 ∧ b < 4) ∧ ¬ c < 0 ∧ c ≤ 10000000)) : PT M_X11_night [.ref 0, .int b, .int c] h  (pN h 30 0 6) := by
  refine PT.of (by decide +kernel) (by decide +kernel) (Nat.le_succ _) (Nat.le_add_right _ _) (Nat.le_of_ble_eq_true rfl) ?_
  refine px_iload_n d_X11_night_0 rfl rfl ?_
  refine px_callS (c_X11_isBranch) d_X11_night_1 lk_X11_98 ok_X11_isBranch os_X11_isBranch rfl (Nat.le_of_ble_eq_true rfl) (by decide) ⟨Nat.le_succ _, Nat.le_add_right _ _⟩ ?_
  refine px_if_eq (tgt := 17) d_X11_night_4 (by decide) (fun c4 => ?_) (fun c4 => ?_)
  · exact px_throw d_X11_night_17 d_X11_night_20 d_X11_night_21 d_X11_night_23 d_X11_night_26 rfl (is := 208) (tx := "no such branch or number") (sa := 22) (by decide) (by decide) (by decide) (Nat.le_refl _) (Nat.le_refl _) ⟨rfl, rfl⟩
  · refine px_iload_n d_X11_night_7 rfl rfl ?_
    refine px_if_lt (tgt := 17) d_X11_night_8 (by decide) (fun c8 => ?_) (fun c8 => ?_)
    · exact px_throw d_X11_night_17 d_X11_night_20 d_X11_night_21 d_X11_night_23 d_X11_night_26 rfl (is := 208) (tx := "no such branch or number") (sa := 22) (by decide) (by decide) (by decide) (Nat.le_refl _) (Nat.le_refl _) ⟨rfl, rfl⟩
    · refine px_iload_n d_X11_night_11 rfl rfl ?_
      refine px_ldc d_X11_night_12 ck_X11_207 ?_
      refine px_icmp_le (tgt := 27) d_X11_night_14 (by decide) (fun c14 => ?_) (fun c14 => ?_)
      · exact absurd ⟨bI_n.mp c4, c8, c14⟩ hv
      · exact px_throw d_X11_night_17 d_X11_night_20 d_X11_night_21 d_X11_night_23 d_X11_night_26 rfl (is := 208) (tx := "no such branch or number") (sa := 22) (by decide) (by decide) (by decide) (Nat.le_refl _) (Nat.le_refl _) ⟨rfl, rfl⟩
