theorem so77 {h : PH} (hL : px_L h) : px_ar h 77 23 1 := sa77 hL
def wQ (S : Nat → Bool) (h : PH) (v : Int32) : Option Value → PH → Prop := fun r h' => r = some (.int 0) ∧ ∃ g, px_same S h g ∧ h' = pJ g 77 0 v.toInt64
def wX (Q : Option Value → PH → Prop) : Option Value → PH → Prop := fun r h' => r = some (.int 0) ∧ ∃ (v : Int32) (g : PH), Q (some (.int v)) g ∧ h' = pJ g 77 0 v.toInt64
theorem x_L_balance {h : PH} {x0 x1 x2 : Int32} (hL : px_L h) {Q : Option Value → PH → Prop} (hX : PX M_X11_balance [.ref 0, .int x0, .int x1, .int x2] h 0 0 Q) (hQ : ∀ r h', Q r h' → ∃ v : Int32, r = some (.int v)) (hQL : ∀ r h', Q r h' → px_L h') : PXW M_L_balance [.ref 0, .int x0, .int x1, .int x2, .ref 77] h 0 0 (wX Q) := by
  refine PXW.of (by decide +kernel) (Nat.le_of_ble_eq_true rfl) ?_
  refine px_aload d_L_balance_0 rfl ?_
  refine px_iconst (v := 0) d_L_balance_2 (by decide) ?_
  refine px_aload_n d_L_balance_3 rfl rfl ?_
  refine px_iload_n d_L_balance_4 rfl rfl ?_
  refine px_iload_n d_L_balance_5 rfl rfl ?_
  refine px_iload_n d_L_balance_6 rfl rfl ?_
  refine px_callVX (hX) d_L_balance_7 lk_L_7 ok_X11_balance ov_X11_balance (so0 hL) (by decide) rfl rfl (Nat.le_of_ble_eq_true rfl) (by decide) ⟨Nat.le_refl _, Nat.le_refl _⟩ (fun r9 h9 q9 n9 s9 => ?_)
  obtain ⟨v, rfl⟩ := hQ _ _ q9
  refine px_i2l d_L_balance_10 ?_
  refine px_last (j := 0) d_L_balance_11 (sa77 (hQL _ _ q9)) rfl (by decide) ?_
  refine px_goto (tgt := 19) d_L_balance_12 (by decide) ?_
  refine px_iconst (v := 0) d_L_balance_19 (by decide) ?_
  exact px_ireturn d_L_balance_20 rfl rfl ⟨rfl, ⟨rfl, v, h9, q9, rfl⟩, n9, s9⟩
theorem t_L_balance {h : PH} {x0 x1 x2 : Int32} (hL : px_L h) (hT : PT M_X11_balance [.ref 0, .int x0, .int x1, .int x2] h (pN h 30 0 6)) : PMW M_L_balance [.ref 0, .int x0, .int x1, .int x2, .ref 77] h (some (.int 1)) (pN h 30 0 6) := by
  refine PMW.of (by decide +kernel) (Nat.le_succ _) (Nat.le_add_right _ _) (Nat.le_of_ble_eq_true rfl) ?_
  refine px_aload d_L_balance_0 rfl ?_
  refine px_iconst (v := 0) d_L_balance_2 (by decide) ?_
  refine px_aload_n d_L_balance_3 rfl rfl ?_
  refine px_iload_n d_L_balance_4 rfl rfl ?_
  refine px_iload_n d_L_balance_5 rfl rfl ?_
  refine px_iload_n d_L_balance_6 rfl rfl ?_
  refine px_tryV (i := 5) (len := 2) hT d_L_balance_7 lk_L_7 ok_X11_balance ov_X11_balance (so0 hL) (by decide) rfl rfl (Nat.le_of_ble_eq_true rfl) (by decide) ⟨Nat.le_refl _, Nat.le_refl _⟩ (by decide +kernel : px_hh M_L_balance = [(0, 12, 15, 13)]) (by decide) (by decide) (by decide +kernel) (by decide) (Or.inl ⟨d_L_balance_15, rfl⟩) ?_
  refine px_iconst (v := 1) d_L_balance_17 (by decide) ?_
  exact px_ireturn d_L_balance_18 rfl rfl ⟨rfl, rfl, rfl⟩
theorem x_L_interest {h : PH} {x0 x1 x2 : Int32} (hL : px_L h) {Q : Option Value → PH → Prop} (hX : PX M_X11_interest [.ref 0, .int x0, .int x1, .int x2] h 0 0 Q) (hQ : ∀ r h', Q r h' → ∃ v : Int32, r = some (.int v)) (hQL : ∀ r h', Q r h' → px_L h') : PXW M_L_interest [.ref 0, .int x0, .int x1, .int x2, .ref 77] h 0 0 (wX Q) := by
  refine PXW.of (by decide +kernel) (Nat.le_of_ble_eq_true rfl) ?_
  refine px_aload d_L_interest_0 rfl ?_
  refine px_iconst (v := 0) d_L_interest_2 (by decide) ?_
  refine px_aload_n d_L_interest_3 rfl rfl ?_
  refine px_iload_n d_L_interest_4 rfl rfl ?_
  refine px_iload_n d_L_interest_5 rfl rfl ?_
  refine px_iload_n d_L_interest_6 rfl rfl ?_
  refine px_callVX (hX) d_L_interest_7 lk_L_15 ok_X11_interest ov_X11_interest (so0 hL) (by decide) rfl rfl (Nat.le_of_ble_eq_true rfl) (by decide) ⟨Nat.le_refl _, Nat.le_refl _⟩ (fun r9 h9 q9 n9 s9 => ?_)
  obtain ⟨v, rfl⟩ := hQ _ _ q9
  refine px_i2l d_L_interest_10 ?_
  refine px_last (j := 0) d_L_interest_11 (sa77 (hQL _ _ q9)) rfl (by decide) ?_
  refine px_goto (tgt := 19) d_L_interest_12 (by decide) ?_
  refine px_iconst (v := 0) d_L_interest_19 (by decide) ?_
  exact px_ireturn d_L_interest_20 rfl rfl ⟨rfl, ⟨rfl, v, h9, q9, rfl⟩, n9, s9⟩
theorem t_L_interest {h : PH} {x0 x1 x2 : Int32} (hL : px_L h) (hT : PT M_X11_interest [.ref 0, .int x0, .int x1, .int x2] h (pN h 30 0 6)) : PMW M_L_interest [.ref 0, .int x0, .int x1, .int x2, .ref 77] h (some (.int 1)) (pN h 30 0 6) := by
  refine PMW.of (by decide +kernel) (Nat.le_succ _) (Nat.le_add_right _ _) (Nat.le_of_ble_eq_true rfl) ?_
  refine px_aload d_L_interest_0 rfl ?_
  refine px_iconst (v := 0) d_L_interest_2 (by decide) ?_
  refine px_aload_n d_L_interest_3 rfl rfl ?_
  refine px_iload_n d_L_interest_4 rfl rfl ?_
  refine px_iload_n d_L_interest_5 rfl rfl ?_
  refine px_iload_n d_L_interest_6 rfl rfl ?_
  refine px_tryV (i := 5) (len := 2) hT d_L_interest_7 lk_L_15 ok_X11_interest ov_X11_interest (so0 hL) (by decide) rfl rfl (Nat.le_of_ble_eq_true rfl) (by decide) ⟨Nat.le_refl _, Nat.le_refl _⟩ (by decide +kernel : px_hh M_L_interest = [(0, 12, 15, 13)]) (by decide) (by decide) (by decide +kernel) (by decide) (Or.inl ⟨d_L_interest_15, rfl⟩) ?_
  refine px_iconst (v := 1) d_L_interest_17 (by decide) ?_
  exact px_ireturn d_L_interest_18 rfl rfl ⟨rfl, rfl, rfl⟩
theorem x_L_settle {h : PH} {x0 : Int32} (hL : px_L h) {Q : Option Value → PH → Prop} (hX : PX M_X11_settle [.ref 0, .int x0] h 0 0 Q) (hQ : ∀ r h', Q r h' → ∃ v : Int32, r = some (.int v)) (hQL : ∀ r h', Q r h' → px_L h') : PXW M_L_settle [.ref 0, .int x0, .ref 77] h 0 0 (wX Q) := by
  refine PXW.of (by decide +kernel) (Nat.le_of_ble_eq_true rfl) ?_
  refine px_aload_n d_L_settle_0 rfl rfl ?_
  refine px_iconst (v := 0) d_L_settle_1 (by decide) ?_
  refine px_aload_n d_L_settle_2 rfl rfl ?_
  refine px_iload_n d_L_settle_3 rfl rfl ?_
  refine px_callVX (hX) d_L_settle_4 lk_L_18 ok_X11_settle ov_X11_settle (so0 hL) (by decide) rfl rfl (Nat.le_of_ble_eq_true rfl) (by decide) ⟨Nat.le_refl _, Nat.le_refl _⟩ (fun r9 h9 q9 n9 s9 => ?_)
  obtain ⟨v, rfl⟩ := hQ _ _ q9
  refine px_i2l d_L_settle_7 ?_
  refine px_last (j := 0) d_L_settle_8 (sa77 (hQL _ _ q9)) rfl (by decide) ?_
  refine px_goto (tgt := 15) d_L_settle_9 (by decide) ?_
  refine px_iconst (v := 0) d_L_settle_15 (by decide) ?_
  exact px_ireturn d_L_settle_16 rfl rfl ⟨rfl, ⟨rfl, v, h9, q9, rfl⟩, n9, s9⟩
theorem t_L_settle {h : PH} {x0 : Int32} (hL : px_L h) (hT : PT M_X11_settle [.ref 0, .int x0] h (pN h 30 0 6)) : PMW M_L_settle [.ref 0, .int x0, .ref 77] h (some (.int 1)) (pN h 30 0 6) := by
  refine PMW.of (by decide +kernel) (Nat.le_succ _) (Nat.le_add_right _ _) (Nat.le_of_ble_eq_true rfl) ?_
  refine px_aload_n d_L_settle_0 rfl rfl ?_
  refine px_iconst (v := 0) d_L_settle_1 (by decide) ?_
  refine px_aload_n d_L_settle_2 rfl rfl ?_
  refine px_iload_n d_L_settle_3 rfl rfl ?_
  refine px_tryV (i := 3) (len := 1) hT d_L_settle_4 lk_L_18 ok_X11_settle ov_X11_settle (so0 hL) (by decide) rfl rfl (Nat.le_of_ble_eq_true rfl) (by decide) ⟨Nat.le_refl _, Nat.le_refl _⟩ (by decide +kernel : px_hh M_L_settle = [(0, 9, 12, 13)]) (by decide) (by decide) (by decide +kernel) (by decide) (Or.inr ⟨3, rfl, d_L_settle_12, rfl⟩) ?_
  refine px_iconst (v := 1) d_L_settle_13 (by decide) ?_
  exact px_ireturn d_L_settle_14 rfl rfl ⟨rfl, rfl, rfl⟩
theorem x_L_night {h : PH} {x0 x1 : Int32} (hL : px_L h) {Q : Option Value → PH → Prop} (hX : PX M_X11_night [.ref 0, .int x0, .int x1] h 0 0 Q) (hQ : ∀ r h', Q r h' → ∃ v : Int32, r = some (.int v)) (hQL : ∀ r h', Q r h' → px_L h') : PXW M_L_night [.ref 0, .int x0, .int x1, .ref 77] h 0 0 (wX Q) := by
  refine PXW.of (by decide +kernel) (Nat.le_of_ble_eq_true rfl) ?_
  refine px_aload_n d_L_night_0 rfl rfl ?_
  refine px_iconst (v := 0) d_L_night_1 (by decide) ?_
  refine px_aload_n d_L_night_2 rfl rfl ?_
  refine px_iload_n d_L_night_3 rfl rfl ?_
  refine px_iload_n d_L_night_4 rfl rfl ?_
  refine px_callVX (hX) d_L_night_5 lk_L_22 ok_X11_night ov_X11_night (so0 hL) (by decide) rfl rfl (Nat.le_of_ble_eq_true rfl) (by decide) ⟨Nat.le_refl _, Nat.le_refl _⟩ (fun r9 h9 q9 n9 s9 => ?_)
  obtain ⟨v, rfl⟩ := hQ _ _ q9
  refine px_i2l d_L_night_8 ?_
  refine px_last (j := 0) d_L_night_9 (sa77 (hQL _ _ q9)) rfl (by decide) ?_
  refine px_goto (tgt := 17) d_L_night_10 (by decide) ?_
  refine px_iconst (v := 0) d_L_night_17 (by decide) ?_
  exact px_ireturn d_L_night_18 rfl rfl ⟨rfl, ⟨rfl, v, h9, q9, rfl⟩, n9, s9⟩
theorem t_L_night {h : PH} {x0 x1 : Int32} (hL : px_L h) (hT : PT M_X11_night [.ref 0, .int x0, .int x1] h (pN h 30 0 6)) : PMW M_L_night [.ref 0, .int x0, .int x1, .ref 77] h (some (.int 1)) (pN h 30 0 6) := by
  refine PMW.of (by decide +kernel) (Nat.le_succ _) (Nat.le_add_right _ _) (Nat.le_of_ble_eq_true rfl) ?_
  refine px_aload_n d_L_night_0 rfl rfl ?_
  refine px_iconst (v := 0) d_L_night_1 (by decide) ?_
  refine px_aload_n d_L_night_2 rfl rfl ?_
  refine px_iload_n d_L_night_3 rfl rfl ?_
  refine px_iload_n d_L_night_4 rfl rfl ?_
  refine px_tryV (i := 4) (len := 2) hT d_L_night_5 lk_L_22 ok_X11_night ov_X11_night (so0 hL) (by decide) rfl rfl (Nat.le_of_ble_eq_true rfl) (by decide) ⟨Nat.le_refl _, Nat.le_refl _⟩ (by decide +kernel : px_hh M_L_night = [(0, 10, 13, 13)]) (by decide) (by decide) (by decide +kernel) (by decide) (Or.inl ⟨d_L_night_13, rfl⟩) ?_
  refine px_iconst (v := 1) d_L_night_15 (by decide) ?_
  exact px_ireturn d_L_night_16 rfl rfl ⟨rfl, rfl, rfl⟩
theorem x_L_coin {h : PH} {x0 : Int32} (hL : px_L h) {Q : Option Value → PH → Prop} (hX : PX M_X11_coin [.ref 0, .int x0] h 0 0 Q) (hQ : ∀ r h', Q r h' → ∃ v : Int32, r = some (.int v)) (hQL : ∀ r h', Q r h' → px_L h') : PXW M_L_coin [.ref 0, .int x0, .ref 77] h 0 0 (wX Q) := by
  refine PXW.of (by decide +kernel) (Nat.le_of_ble_eq_true rfl) ?_
  refine px_aload_n d_L_coin_0 rfl rfl ?_
  refine px_iconst (v := 0) d_L_coin_1 (by decide) ?_
  refine px_aload_n d_L_coin_2 rfl rfl ?_
  refine px_iload_n d_L_coin_3 rfl rfl ?_
  refine px_callVX (hX) d_L_coin_4 lk_L_26 ok_X11_coin ov_X11_coin (so0 hL) (by decide) rfl rfl (Nat.le_of_ble_eq_true rfl) (by decide) ⟨Nat.le_refl _, Nat.le_refl _⟩ (fun r9 h9 q9 n9 s9 => ?_)
  obtain ⟨v, rfl⟩ := hQ _ _ q9
  refine px_i2l d_L_coin_7 ?_
  refine px_last (j := 0) d_L_coin_8 (sa77 (hQL _ _ q9)) rfl (by decide) ?_
  refine px_goto (tgt := 15) d_L_coin_9 (by decide) ?_
  refine px_iconst (v := 0) d_L_coin_15 (by decide) ?_
  exact px_ireturn d_L_coin_16 rfl rfl ⟨rfl, ⟨rfl, v, h9, q9, rfl⟩, n9, s9⟩
theorem t_L_coin {h : PH} {x0 : Int32} (hL : px_L h) (hT : PT M_X11_coin [.ref 0, .int x0] h (pN h 30 0 6)) : PMW M_L_coin [.ref 0, .int x0, .ref 77] h (some (.int 1)) (pN h 30 0 6) := by
  refine PMW.of (by decide +kernel) (Nat.le_succ _) (Nat.le_add_right _ _) (Nat.le_of_ble_eq_true rfl) ?_
  refine px_aload_n d_L_coin_0 rfl rfl ?_
  refine px_iconst (v := 0) d_L_coin_1 (by decide) ?_
  refine px_aload_n d_L_coin_2 rfl rfl ?_
  refine px_iload_n d_L_coin_3 rfl rfl ?_
  refine px_tryV (i := 3) (len := 1) hT d_L_coin_4 lk_L_26 ok_X11_coin ov_X11_coin (so0 hL) (by decide) rfl rfl (Nat.le_of_ble_eq_true rfl) (by decide) ⟨Nat.le_refl _, Nat.le_refl _⟩ (by decide +kernel : px_hh M_L_coin = [(0, 9, 12, 13)]) (by decide) (by decide) (by decide +kernel) (by decide) (Or.inr ⟨3, rfl, d_L_coin_12, rfl⟩) ?_
  refine px_iconst (v := 1) d_L_coin_13 (by decide) ?_
  exact px_ireturn d_L_coin_14 rfl rfl ⟨rfl, rfl, rfl⟩
