/-- rows that a constructor makes, one behind the other, into its object's fields -/
def mkF (r : Nat) : List (Nat × Nat × Nat) → PH → PH
  | [], h => h
  | (kd, len, j) :: t, h => mkF r t (pR (pN h kd len len) r j (some (hn h)))
def mkL : List (Nat × Nat × Nat) → Nat
  | [] => 0
  | (_, len, _) :: t => len + mkL t
theorem mkF_n (r : Nat) : ∀ (l : List (Nat × Nat × Nat)) (h : PH), hn (mkF r l h) = hn h + l.length
  | [], _ => rfl
  | (kd, len, j) :: t, h => by
    show hn (mkF r t _) = _
    rw [mkF_n r t]
    show hn h + 1 + t.length = hn h + (t.length + 1)
    omega
theorem mkF_s (r : Nat) : ∀ (l : List (Nat × Nat × Nat)) (h : PH), hs (mkF r l h) = hs h + mkL l
  | [], _ => rfl
  | (kd, len, j) :: t, h => by
    show hs (mkF r t _) = hs h + (len + mkL t)
    rw [mkF_s r t]
    show hs h + len + mkL t = _
    omega
theorem mkF_ob {r x ci : Nat} : ∀ (l : List (Nat × Nat × Nat)) {h : PH}, px_ob h x ci → px_ob (mkF r l h) x ci
  | [], _, ho => ho
  | (kd, len, j) :: t, h, ho => mkF_ob t (h := pR (pN h kd len len) r j (some (hn h))) (px_ob.N ho)
theorem c_X1_init {h : PH} {r : Nat} (ho : px_ob h r 1) : PM M_X1_init [.ref r] h none (mkF r [(20, 4, 0)] h) := by
  refine PM.of (by decide +kernel) (by decide +kernel) (by rw [mkF_n]; exact Nat.le_add_right _ _) (by rw [mkF_s]; exact Nat.le_add_right _ _) (Nat.le_of_ble_eq_true rfl) ?_
  have e1 : hn (mkF r [(20, 4, 0)] h) = hn h + 1 := mkF_n r _ h
  have e2 : hs (mkF r [(20, 4, 0)] h) = hs h + 4 := mkF_s r _ h
  rw [e1, e2]
  refine px_aload_n d_X1_init_0 rfl rfl ?_
  refine px_obji d_X1_init_1 lk_X1_3 (by decide) (Nat.le_of_ble_eq_true rfl) ?_
  refine px_heap (h2 := mkF r [] h) rfl ?_
  refine px_aload_n d_X1_init_4 rfl rfl ?_
  refine px_iconst (v := 4) d_X1_init_5 (by decide) ?_
  refine px_newI (len := 4) d_X1_init_6 ac_int (by decide) (by decide) (by rw [mkF_n]; show hn h + 0 + 1 ≤ hn h + 1; omega) (by rw [mkF_s]; show hs h + 0 + 4 ≤ hs h + 4; omega) ?_
  refine px_putRF d_X1_init_8 fl_X1_9 (by decide) rfl rfl rfl (px_ob.N (mkF_ob [] ho)) ?_
  refine px_heap (h2 := (mkF r [(20, 4, 0)] h)) rfl ?_
  exact px_return d_X1_init_11 rfl ⟨rfl, rfl, rfl⟩
theorem c_X2_init {h : PH} {r : Nat} (ho : px_ob h r 2) : PM M_X2_init [.ref r] h none (mkF r [(20, 400, 0), (20, 400, 1), (20, 400, 2), (20, 400, 3)] h) := by
  refine PM.of (by decide +kernel) (by decide +kernel) (by rw [mkF_n]; exact Nat.le_add_right _ _) (by rw [mkF_s]; exact Nat.le_add_right _ _) (Nat.le_of_ble_eq_true rfl) ?_
  have e1 : hn (mkF r [(20, 400, 0), (20, 400, 1), (20, 400, 2), (20, 400, 3)] h) = hn h + 4 := mkF_n r _ h
  have e2 : hs (mkF r [(20, 400, 0), (20, 400, 1), (20, 400, 2), (20, 400, 3)] h) = hs h + 1600 := mkF_s r _ h
  rw [e1, e2]
  refine px_aload_n d_X2_init_0 rfl rfl ?_
  refine px_obji d_X2_init_1 lk_X2_3 (by decide) (Nat.le_of_ble_eq_true rfl) ?_
  refine px_heap (h2 := mkF r [] h) rfl ?_
  refine px_aload_n d_X2_init_4 rfl rfl ?_
  refine px_sipush (v := 400) d_X2_init_5 (by decide) ?_
  refine px_newI (len := 400) d_X2_init_8 ac_int (by decide) (by decide) (by rw [mkF_n]; show hn h + 0 + 1 ≤ hn h + 4; omega) (by rw [mkF_s]; show hs h + 0 + 400 ≤ hs h + 1600; omega) ?_
  refine px_putRF d_X2_init_10 fl_X2_9 (by decide) rfl rfl rfl (px_ob.N (mkF_ob [] ho)) ?_
  refine px_heap (h2 := (mkF r [(20, 400, 0)] h)) rfl ?_
  refine px_aload_n d_X2_init_13 rfl rfl ?_
  refine px_sipush (v := 400) d_X2_init_14 (by decide) ?_
  refine px_newI (len := 400) d_X2_init_17 ac_int (by decide) (by decide) (by rw [mkF_n]; show hn h + 1 + 1 ≤ hn h + 4; omega) (by rw [mkF_s]; show hs h + 400 + 400 ≤ hs h + 1600; omega) ?_
  refine px_putRF d_X2_init_19 fl_X2_15 (by decide) rfl rfl rfl (px_ob.N (mkF_ob [(20, 400, 0)] ho)) ?_
  refine px_heap (h2 := (mkF r [(20, 400, 0), (20, 400, 1)] h)) rfl ?_
  refine px_aload_n d_X2_init_22 rfl rfl ?_
  refine px_sipush (v := 400) d_X2_init_23 (by decide) ?_
  refine px_newI (len := 400) d_X2_init_26 ac_int (by decide) (by decide) (by rw [mkF_n]; show hn h + 2 + 1 ≤ hn h + 4; omega) (by rw [mkF_s]; show hs h + 800 + 400 ≤ hs h + 1600; omega) ?_
  refine px_putRF d_X2_init_28 fl_X2_18 (by decide) rfl rfl rfl (px_ob.N (mkF_ob [(20, 400, 0), (20, 400, 1)] ho)) ?_
  refine px_heap (h2 := (mkF r [(20, 400, 0), (20, 400, 1), (20, 400, 2)] h)) rfl ?_
  refine px_aload_n d_X2_init_31 rfl rfl ?_
  refine px_sipush (v := 400) d_X2_init_32 (by decide) ?_
  refine px_newI (len := 400) d_X2_init_35 ac_int (by decide) (by decide) (by rw [mkF_n]; show hn h + 3 + 1 ≤ hn h + 4; omega) (by rw [mkF_s]; show hs h + 1200 + 400 ≤ hs h + 1600; omega) ?_
  refine px_putRF d_X2_init_37 fl_X2_21 (by decide) rfl rfl rfl (px_ob.N (mkF_ob [(20, 400, 0), (20, 400, 1), (20, 400, 2)] ho)) ?_
  refine px_heap (h2 := (mkF r [(20, 400, 0), (20, 400, 1), (20, 400, 2), (20, 400, 3)] h)) rfl ?_
  exact px_return d_X2_init_40 rfl ⟨rfl, rfl, rfl⟩
theorem c_X3_init {h : PH} {r : Nat} (ho : px_ob h r 3) : PM M_X3_init [.ref r] h none (mkF r [(20, 600, 0), (21, 6, 6)] h) := by
  refine PM.of (by decide +kernel) (by decide +kernel) (by rw [mkF_n]; exact Nat.le_add_right _ _) (by rw [mkF_s]; exact Nat.le_add_right _ _) (Nat.le_of_ble_eq_true rfl) ?_
  have e1 : hn (mkF r [(20, 600, 0), (21, 6, 6)] h) = hn h + 2 := mkF_n r _ h
  have e2 : hs (mkF r [(20, 600, 0), (21, 6, 6)] h) = hs h + 606 := mkF_s r _ h
  rw [e1, e2]
  refine px_aload_n d_X3_init_0 rfl rfl ?_
  refine px_obji d_X3_init_1 lk_X3_3 (by decide) (Nat.le_of_ble_eq_true rfl) ?_
  refine px_heap (h2 := mkF r [] h) rfl ?_
  refine px_aload_n d_X3_init_4 rfl rfl ?_
  refine px_sipush (v := 600) d_X3_init_5 (by decide) ?_
  refine px_newI (len := 600) d_X3_init_8 ac_int (by decide) (by decide) (by rw [mkF_n]; show hn h + 0 + 1 ≤ hn h + 2; omega) (by rw [mkF_s]; show hs h + 0 + 600 ≤ hs h + 606; omega) ?_
  refine px_putRF d_X3_init_10 fl_X3_9 (by decide) rfl rfl rfl (px_ob.N (mkF_ob [] ho)) ?_
  refine px_heap (h2 := (mkF r [(20, 600, 0)] h)) rfl ?_
  refine px_aload_n d_X3_init_13 rfl rfl ?_
  refine px_bipush (v := 6) d_X3_init_14 (by decide) ?_
  refine px_newZ (len := 6) d_X3_init_16 ac_boolean (by decide) (by decide) (by rw [mkF_n]; show hn h + 1 + 1 ≤ hn h + 2; omega) (by rw [mkF_s]; show hs h + 600 + 6 ≤ hs h + 606; omega) ?_
  refine px_putRF d_X3_init_18 fl_X3_15 (by decide) rfl rfl rfl (px_ob.N (mkF_ob [(20, 600, 0)] ho)) ?_
  refine px_heap (h2 := (mkF r [(20, 600, 0), (21, 6, 6)] h)) rfl ?_
  exact px_return d_X3_init_21 rfl ⟨rfl, rfl, rfl⟩
theorem c_X4_init {h : PH} {r : Nat} (ho : px_ob h r 4) : PM M_X4_init [.ref r] h none (mkF r [(20, 6, 0), (20, 6, 1), (20, 6, 2), (20, 6, 4), (23, 64, 6)] h) := by
  refine PM.of (by decide +kernel) (by decide +kernel) (by rw [mkF_n]; exact Nat.le_add_right _ _) (by rw [mkF_s]; exact Nat.le_add_right _ _) (Nat.le_of_ble_eq_true rfl) ?_
  have e1 : hn (mkF r [(20, 6, 0), (20, 6, 1), (20, 6, 2), (20, 6, 4), (23, 64, 6)] h) = hn h + 5 := mkF_n r _ h
  have e2 : hs (mkF r [(20, 6, 0), (20, 6, 1), (20, 6, 2), (20, 6, 4), (23, 64, 6)] h) = hs h + 88 := mkF_s r _ h
  rw [e1, e2]
  refine px_aload_n d_X4_init_0 rfl rfl ?_
  refine px_obji d_X4_init_1 lk_X4_5 (by decide) (Nat.le_of_ble_eq_true rfl) ?_
  refine px_heap (h2 := mkF r [] h) rfl ?_
  refine px_aload_n d_X4_init_4 rfl rfl ?_
  refine px_bipush (v := 6) d_X4_init_5 (by decide) ?_
  refine px_newI (len := 6) d_X4_init_7 ac_int (by decide) (by decide) (by rw [mkF_n]; show hn h + 0 + 1 ≤ hn h + 5; omega) (by rw [mkF_s]; show hs h + 0 + 6 ≤ hs h + 88; omega) ?_
  refine px_putRF d_X4_init_9 fl_X4_11 (by decide) rfl rfl rfl (px_ob.N (mkF_ob [] ho)) ?_
  refine px_heap (h2 := (mkF r [(20, 6, 0)] h)) rfl ?_
  refine px_aload_n d_X4_init_12 rfl rfl ?_
  refine px_bipush (v := 6) d_X4_init_13 (by decide) ?_
  refine px_newI (len := 6) d_X4_init_15 ac_int (by decide) (by decide) (by rw [mkF_n]; show hn h + 1 + 1 ≤ hn h + 5; omega) (by rw [mkF_s]; show hs h + 6 + 6 ≤ hs h + 88; omega) ?_
  refine px_putRF d_X4_init_17 fl_X4_15 (by decide) rfl rfl rfl (px_ob.N (mkF_ob [(20, 6, 0)] ho)) ?_
  refine px_heap (h2 := (mkF r [(20, 6, 0), (20, 6, 1)] h)) rfl ?_
  refine px_aload_n d_X4_init_20 rfl rfl ?_
  refine px_bipush (v := 6) d_X4_init_21 (by decide) ?_
  refine px_newI (len := 6) d_X4_init_23 ac_int (by decide) (by decide) (by rw [mkF_n]; show hn h + 2 + 1 ≤ hn h + 5; omega) (by rw [mkF_s]; show hs h + 12 + 6 ≤ hs h + 88; omega) ?_
  refine px_putRF d_X4_init_25 fl_X4_18 (by decide) rfl rfl rfl (px_ob.N (mkF_ob [(20, 6, 0), (20, 6, 1)] ho)) ?_
  refine px_heap (h2 := (mkF r [(20, 6, 0), (20, 6, 1), (20, 6, 2)] h)) rfl ?_
  refine px_aload_n d_X4_init_28 rfl rfl ?_
  refine px_bipush (v := 6) d_X4_init_29 (by decide) ?_
  refine px_newI (len := 6) d_X4_init_31 ac_int (by decide) (by decide) (by rw [mkF_n]; show hn h + 3 + 1 ≤ hn h + 5; omega) (by rw [mkF_s]; show hs h + 18 + 6 ≤ hs h + 88; omega) ?_
  refine px_putRF d_X4_init_33 fl_X4_21 (by decide) rfl rfl rfl (px_ob.N (mkF_ob [(20, 6, 0), (20, 6, 1), (20, 6, 2)] ho)) ?_
  refine px_heap (h2 := (mkF r [(20, 6, 0), (20, 6, 1), (20, 6, 2), (20, 6, 4)] h)) rfl ?_
  refine px_aload_n d_X4_init_36 rfl rfl ?_
  refine px_bipush (v := 64) d_X4_init_37 (by decide) ?_
  refine px_newJ (len := 64) d_X4_init_39 ac_long (by decide) (by decide) (by rw [mkF_n]; show hn h + 4 + 1 ≤ hn h + 5; omega) (by rw [mkF_s]; show hs h + 24 + 64 ≤ hs h + 88; omega) ?_
  refine px_putRF d_X4_init_41 fl_X4_24 (by decide) rfl rfl rfl (px_ob.N (mkF_ob [(20, 6, 0), (20, 6, 1), (20, 6, 2), (20, 6, 4)] ho)) ?_
  refine px_heap (h2 := (mkF r [(20, 6, 0), (20, 6, 1), (20, 6, 2), (20, 6, 4), (23, 64, 6)] h)) rfl ?_
  exact px_return d_X4_init_44 rfl ⟨rfl, rfl, rfl⟩
theorem c_X5_init {h : PH} {r : Nat} (ho : px_ob h r 5) : PM M_X5_init [.ref r] h none (mkF r [(20, 6, 6), (20, 6, 7), (20, 6, 8), (20, 6, 9), (20, 6, 10), (20, 6, 11)] h) := by
  refine PM.of (by decide +kernel) (by decide +kernel) (by rw [mkF_n]; exact Nat.le_add_right _ _) (by rw [mkF_s]; exact Nat.le_add_right _ _) (Nat.le_of_ble_eq_true rfl) ?_
  have e1 : hn (mkF r [(20, 6, 6), (20, 6, 7), (20, 6, 8), (20, 6, 9), (20, 6, 10), (20, 6, 11)] h) = hn h + 6 := mkF_n r _ h
  have e2 : hs (mkF r [(20, 6, 6), (20, 6, 7), (20, 6, 8), (20, 6, 9), (20, 6, 10), (20, 6, 11)] h) = hs h + 36 := mkF_s r _ h
  rw [e1, e2]
  refine px_aload_n d_X5_init_0 rfl rfl ?_
  refine px_obji d_X5_init_1 lk_X5_3 (by decide) (Nat.le_of_ble_eq_true rfl) ?_
  refine px_heap (h2 := mkF r [] h) rfl ?_
  refine px_aload_n d_X5_init_4 rfl rfl ?_
  refine px_bipush (v := 6) d_X5_init_5 (by decide) ?_
  refine px_newI (len := 6) d_X5_init_7 ac_int (by decide) (by decide) (by rw [mkF_n]; show hn h + 0 + 1 ≤ hn h + 6; omega) (by rw [mkF_s]; show hs h + 0 + 6 ≤ hs h + 36; omega) ?_
  refine px_putRF d_X5_init_9 fl_X5_9 (by decide) rfl rfl rfl (px_ob.N (mkF_ob [] ho)) ?_
  refine px_heap (h2 := (mkF r [(20, 6, 6)] h)) rfl ?_
  refine px_aload_n d_X5_init_12 rfl rfl ?_
  refine px_bipush (v := 6) d_X5_init_13 (by decide) ?_
  refine px_newI (len := 6) d_X5_init_15 ac_int (by decide) (by decide) (by rw [mkF_n]; show hn h + 1 + 1 ≤ hn h + 6; omega) (by rw [mkF_s]; show hs h + 6 + 6 ≤ hs h + 36; omega) ?_
  refine px_putRF d_X5_init_17 fl_X5_15 (by decide) rfl rfl rfl (px_ob.N (mkF_ob [(20, 6, 6)] ho)) ?_
  refine px_heap (h2 := (mkF r [(20, 6, 6), (20, 6, 7)] h)) rfl ?_
  refine px_aload_n d_X5_init_20 rfl rfl ?_
  refine px_bipush (v := 6) d_X5_init_21 (by decide) ?_
  refine px_newI (len := 6) d_X5_init_23 ac_int (by decide) (by decide) (by rw [mkF_n]; show hn h + 2 + 1 ≤ hn h + 6; omega) (by rw [mkF_s]; show hs h + 12 + 6 ≤ hs h + 36; omega) ?_
  refine px_putRF d_X5_init_25 fl_X5_18 (by decide) rfl rfl rfl (px_ob.N (mkF_ob [(20, 6, 6), (20, 6, 7)] ho)) ?_
  refine px_heap (h2 := (mkF r [(20, 6, 6), (20, 6, 7), (20, 6, 8)] h)) rfl ?_
  refine px_aload_n d_X5_init_28 rfl rfl ?_
  refine px_bipush (v := 6) d_X5_init_29 (by decide) ?_
  refine px_newI (len := 6) d_X5_init_31 ac_int (by decide) (by decide) (by rw [mkF_n]; show hn h + 3 + 1 ≤ hn h + 6; omega) (by rw [mkF_s]; show hs h + 18 + 6 ≤ hs h + 36; omega) ?_
  refine px_putRF d_X5_init_33 fl_X5_21 (by decide) rfl rfl rfl (px_ob.N (mkF_ob [(20, 6, 6), (20, 6, 7), (20, 6, 8)] ho)) ?_
  refine px_heap (h2 := (mkF r [(20, 6, 6), (20, 6, 7), (20, 6, 8), (20, 6, 9)] h)) rfl ?_
  refine px_aload_n d_X5_init_36 rfl rfl ?_
  refine px_bipush (v := 6) d_X5_init_37 (by decide) ?_
  refine px_newI (len := 6) d_X5_init_39 ac_int (by decide) (by decide) (by rw [mkF_n]; show hn h + 4 + 1 ≤ hn h + 6; omega) (by rw [mkF_s]; show hs h + 24 + 6 ≤ hs h + 36; omega) ?_
  refine px_putRF d_X5_init_41 fl_X5_24 (by decide) rfl rfl rfl (px_ob.N (mkF_ob [(20, 6, 6), (20, 6, 7), (20, 6, 8), (20, 6, 9)] ho)) ?_
  refine px_heap (h2 := (mkF r [(20, 6, 6), (20, 6, 7), (20, 6, 8), (20, 6, 9), (20, 6, 10)] h)) rfl ?_
  refine px_aload_n d_X5_init_44 rfl rfl ?_
  refine px_bipush (v := 6) d_X5_init_45 (by decide) ?_
  refine px_newI (len := 6) d_X5_init_47 ac_int (by decide) (by decide) (by rw [mkF_n]; show hn h + 5 + 1 ≤ hn h + 6; omega) (by rw [mkF_s]; show hs h + 30 + 6 ≤ hs h + 36; omega) ?_
  refine px_putRF d_X5_init_49 fl_X5_27 (by decide) rfl rfl rfl (px_ob.N (mkF_ob [(20, 6, 6), (20, 6, 7), (20, 6, 8), (20, 6, 9), (20, 6, 10)] ho)) ?_
  refine px_heap (h2 := (mkF r [(20, 6, 6), (20, 6, 7), (20, 6, 8), (20, 6, 9), (20, 6, 10), (20, 6, 11)] h)) rfl ?_
  exact px_return d_X5_init_52 rfl ⟨rfl, rfl, rfl⟩
theorem c_X6_init {h : PH} {r : Nat} (ho : px_ob h r 6) : PM M_X6_init [.ref r] h none (mkF r [(20, 60, 0), (20, 60, 1), (20, 60, 2), (21, 60, 3)] h) := by
  refine PM.of (by decide +kernel) (by decide +kernel) (by rw [mkF_n]; exact Nat.le_add_right _ _) (by rw [mkF_s]; exact Nat.le_add_right _ _) (Nat.le_of_ble_eq_true rfl) ?_
  have e1 : hn (mkF r [(20, 60, 0), (20, 60, 1), (20, 60, 2), (21, 60, 3)] h) = hn h + 4 := mkF_n r _ h
  have e2 : hs (mkF r [(20, 60, 0), (20, 60, 1), (20, 60, 2), (21, 60, 3)] h) = hs h + 240 := mkF_s r _ h
  rw [e1, e2]
  refine px_aload_n d_X6_init_0 rfl rfl ?_
  refine px_obji d_X6_init_1 lk_X6_3 (by decide) (Nat.le_of_ble_eq_true rfl) ?_
  refine px_heap (h2 := mkF r [] h) rfl ?_
  refine px_aload_n d_X6_init_4 rfl rfl ?_
  refine px_bipush (v := 60) d_X6_init_5 (by decide) ?_
  refine px_newI (len := 60) d_X6_init_7 ac_int (by decide) (by decide) (by rw [mkF_n]; show hn h + 0 + 1 ≤ hn h + 4; omega) (by rw [mkF_s]; show hs h + 0 + 60 ≤ hs h + 240; omega) ?_
  refine px_putRF d_X6_init_9 fl_X6_9 (by decide) rfl rfl rfl (px_ob.N (mkF_ob [] ho)) ?_
  refine px_heap (h2 := (mkF r [(20, 60, 0)] h)) rfl ?_
  refine px_aload_n d_X6_init_12 rfl rfl ?_
  refine px_bipush (v := 60) d_X6_init_13 (by decide) ?_
  refine px_newI (len := 60) d_X6_init_15 ac_int (by decide) (by decide) (by rw [mkF_n]; show hn h + 1 + 1 ≤ hn h + 4; omega) (by rw [mkF_s]; show hs h + 60 + 60 ≤ hs h + 240; omega) ?_
  refine px_putRF d_X6_init_17 fl_X6_15 (by decide) rfl rfl rfl (px_ob.N (mkF_ob [(20, 60, 0)] ho)) ?_
  refine px_heap (h2 := (mkF r [(20, 60, 0), (20, 60, 1)] h)) rfl ?_
  refine px_aload_n d_X6_init_20 rfl rfl ?_
  refine px_bipush (v := 60) d_X6_init_21 (by decide) ?_
  refine px_newI (len := 60) d_X6_init_23 ac_int (by decide) (by decide) (by rw [mkF_n]; show hn h + 2 + 1 ≤ hn h + 4; omega) (by rw [mkF_s]; show hs h + 120 + 60 ≤ hs h + 240; omega) ?_
  refine px_putRF d_X6_init_25 fl_X6_18 (by decide) rfl rfl rfl (px_ob.N (mkF_ob [(20, 60, 0), (20, 60, 1)] ho)) ?_
  refine px_heap (h2 := (mkF r [(20, 60, 0), (20, 60, 1), (20, 60, 2)] h)) rfl ?_
  refine px_aload_n d_X6_init_28 rfl rfl ?_
  refine px_bipush (v := 60) d_X6_init_29 (by decide) ?_
  refine px_newZ (len := 60) d_X6_init_31 ac_boolean (by decide) (by decide) (by rw [mkF_n]; show hn h + 3 + 1 ≤ hn h + 4; omega) (by rw [mkF_s]; show hs h + 180 + 60 ≤ hs h + 240; omega) ?_
  refine px_putRF d_X6_init_33 fl_X6_21 (by decide) rfl rfl rfl (px_ob.N (mkF_ob [(20, 60, 0), (20, 60, 1), (20, 60, 2)] ho)) ?_
  refine px_heap (h2 := (mkF r [(20, 60, 0), (20, 60, 1), (20, 60, 2), (21, 60, 3)] h)) rfl ?_
  exact px_return d_X6_init_36 rfl ⟨rfl, rfl, rfl⟩
theorem c_X9_init {h : PH} {r : Nat} (ho : px_ob h r 9) : PM M_X9_init [.ref r] h none (mkF r [(22, 600, 0)] h) := by
  refine PM.of (by decide +kernel) (by decide +kernel) (by rw [mkF_n]; exact Nat.le_add_right _ _) (by rw [mkF_s]; exact Nat.le_add_right _ _) (Nat.le_of_ble_eq_true rfl) ?_
  have e1 : hn (mkF r [(22, 600, 0)] h) = hn h + 1 := mkF_n r _ h
  have e2 : hs (mkF r [(22, 600, 0)] h) = hs h + 600 := mkF_s r _ h
  rw [e1, e2]
  refine px_aload_n d_X9_init_0 rfl rfl ?_
  refine px_obji d_X9_init_1 lk_X9_3 (by decide) (Nat.le_of_ble_eq_true rfl) ?_
  refine px_heap (h2 := mkF r [] h) rfl ?_
  refine px_aload_n d_X9_init_4 rfl rfl ?_
  refine px_sipush (v := 600) d_X9_init_5 (by decide) ?_
  refine px_newC (len := 600) d_X9_init_8 ac_char (by decide) (by decide) (by rw [mkF_n]; show hn h + 0 + 1 ≤ hn h + 1; omega) (by rw [mkF_s]; show hs h + 0 + 600 ≤ hs h + 600; omega) ?_
  refine px_putRF d_X9_init_10 fl_X9_9 (by decide) rfl rfl rfl (px_ob.N (mkF_ob [] ho)) ?_
  refine px_heap (h2 := (mkF r [(22, 600, 0)] h)) rfl ?_
  exact px_return d_X9_init_13 rfl ⟨rfl, rfl, rfl⟩
theorem c_X10_init {h : PH} {r : Nat} (ho : px_ob h r 10) : PM M_X10_init [.ref r] h none (mkF r [(25, 8, 0)] h) := by
  refine PM.of (by decide +kernel) (by decide +kernel) (by rw [mkF_n]; exact Nat.le_add_right _ _) (by rw [mkF_s]; exact Nat.le_add_right _ _) (Nat.le_of_ble_eq_true rfl) ?_
  have e1 : hn (mkF r [(25, 8, 0)] h) = hn h + 1 := mkF_n r _ h
  have e2 : hs (mkF r [(25, 8, 0)] h) = hs h + 8 := mkF_s r _ h
  rw [e1, e2]
  refine px_aload_n d_X10_init_0 rfl rfl ?_
  refine px_obji d_X10_init_1 lk_X10_3 (by decide) (Nat.le_of_ble_eq_true rfl) ?_
  refine px_heap (h2 := mkF r [] h) rfl ?_
  refine px_aload_n d_X10_init_4 rfl rfl ?_
  refine px_bipush (v := 8) d_X10_init_5 (by decide) ?_
  refine px_newB (len := 8) d_X10_init_7 cc_X10_9 (by decide) (by decide) (by decide) (by rw [mkF_n]; show hn h + 0 + 1 ≤ hn h + 1; omega) (by rw [mkF_s]; show hs h + 0 + 8 ≤ hs h + 8; omega) ?_
  refine px_putRF d_X10_init_10 fl_X10_11 (by decide) rfl rfl rfl (px_ob.N (mkF_ob [] ho)) ?_
  refine px_heap (h2 := (mkF r [(25, 8, 0)] h)) rfl ?_
  exact px_return d_X10_init_13 rfl ⟨rfl, rfl, rfl⟩
theorem c_X7_init {h : PH} {r a b c : Nat} (ho : px_ob h r 7) : PM M_X7_init [.ref r, .ref a, .ref b, .ref c] h none (pR (pR (pR (mkF r [(20, 720, 3)] h) r 0 (some a)) r 1 (some b)) r 2 (some c)) := by
  refine PM.of (by decide +kernel) (by decide +kernel) (Nat.le_succ _) (Nat.le_add_right _ _) (Nat.le_of_ble_eq_true rfl) ?_
  refine px_aload_n d_X7_init_0 rfl rfl ?_
  refine px_obji d_X7_init_1 lk_X7_3 (by decide) (Nat.le_of_ble_eq_true rfl) ?_
  refine px_aload_n d_X7_init_4 rfl rfl ?_
  refine px_sipush (v := 720) d_X7_init_5 (by decide) ?_
  refine px_newI (len := 720) d_X7_init_8 ac_int (by decide) (by decide) (Nat.le_refl _) (Nat.le_refl _) ?_
  refine px_putRF d_X7_init_10 fl_X7_9 (by decide) rfl rfl rfl (px_ob.N (kd := 20) (len := 720) (sl := 720) ho) ?_
  refine px_aload_n d_X7_init_13 rfl rfl ?_
  refine px_aload_n d_X7_init_14 rfl rfl ?_
  refine px_putRF d_X7_init_15 fl_X7_15 (by decide) rfl rfl rfl (px_ob.N (kd := 20) (len := 720) (sl := 720) ho) ?_
  refine px_aload_n d_X7_init_18 rfl rfl ?_
  refine px_aload_n d_X7_init_19 rfl rfl ?_
  refine px_putRF d_X7_init_20 fl_X7_19 (by decide) rfl rfl rfl (px_ob.N (kd := 20) (len := 720) (sl := 720) ho) ?_
  refine px_aload_n d_X7_init_23 rfl rfl ?_
  refine px_aload_n d_X7_init_24 rfl rfl ?_
  refine px_putRF d_X7_init_25 fl_X7_23 (by decide) rfl rfl rfl (px_ob.N (kd := 20) (len := 720) (sl := 720) ho) ?_
  exact px_return d_X7_init_28 rfl ⟨rfl, rfl, rfl⟩
def wdJ (h : PH) (a : Nat) : PH := (pJ (pJ (pJ (pJ (pJ (pJ (pJ (pJ (pJ h a 0 (891704233190)) a 1 (22963959)) a 2 (1176170)) a 3 (1891)) a 4 (570026)) a 5 (103383)) a 6 (1633)) a 7 (25143802)) a 8 (5538))
def moH (r : Nat) (h : PH) : PH := (pR (wdJ (pN (mkF r [(20, 600, 1), (20, 602, 4), (20, 602, 5), (23, 602, 6)] h) 23 9 9) (hn (mkF r [(20, 600, 1), (20, 602, 4), (20, 602, 5), (23, 602, 6)] h))) r 9 (some (hn (mkF r [(20, 600, 1), (20, 602, 4), (20, 602, 5), (23, 602, 6)] h))))
theorem tl_X12_init {h : PH} {r : Nat} (ho : px_ob h r 12) {Post : Nat → Option Value → PH → Prop} (hP : Post 0 none (mkF r [(20, 8, 11), (20, 8, 12), (20, 9, 13), (21, 144, 14), (20, 144, 15), (20, 144, 16), (20, 5940, 17), (20, 5940, 18), (20, 7, 21), (20, 7, 22), (20, 7, 23), (20, 5, 24), (20, 660, 25), (20, 20, 28), (20, 20, 29), (20, 20, 30), (20, 20, 31), (20, 400, 33), (20, 400, 34), (20, 400, 35), (20, 400, 36), (20, 4, 37), (20, 24, 38), (20, 60, 40), (20, 60, 41), (20, 60, 42), (21, 60, 43), (20, 20, 44), (20, 800, 45), (20, 800, 46), (21, 400, 47), (20, 36, 50), (20, 6, 51), (20, 6, 52), (20, 6, 53)] (moH r h))) : PW M_X12_init (hn h + 40) (hs h + 19460) Post 105 [(0, .ref r)] [] (mkF r [] (moH r h)) := by
  have e3 : hn (moH r h) = hn h + 5 := by show hn (mkF r [(20, 600, 1), (20, 602, 4), (20, 602, 5), (23, 602, 6)] h) + 1 = _; rw [mkF_n]; rfl
  have e4 : hs (moH r h) = hs h + 2415 := by show hs (mkF r [(20, 600, 1), (20, 602, 4), (20, 602, 5), (23, 602, 6)] h) + 9 = _; rw [mkF_s]; rfl
  have ho2 : px_ob (moH r h) r 12 := px_ob.N (mkF_ob [(20, 600, 1), (20, 602, 4), (20, 602, 5), (23, 602, 6)] ho)
  refine px_aload_n d_X12_init_105 rfl rfl ?_
  refine px_bipush (v := 8) d_X12_init_106 (by decide) ?_
  refine px_newI (len := 8) d_X12_init_108 ac_int (by decide) (by decide) (by rw [mkF_n]; rw [e3]; show hn h + 5 + 0 + 1 ≤ hn h + 40; omega) (by rw [mkF_s]; rw [e4]; show hs h + 2415 + 0 + 8 ≤ hs h + 19460; omega) ?_
  refine px_putRF d_X12_init_110 fl_X12_44 (by decide) rfl rfl rfl (px_ob.N (mkF_ob [] ho2)) ?_
  refine px_heap (h2 := (mkF r [(20, 8, 11)] (moH r h))) rfl ?_
  refine px_aload_n d_X12_init_113 rfl rfl ?_
  refine px_bipush (v := 8) d_X12_init_114 (by decide) ?_
  refine px_newI (len := 8) d_X12_init_116 ac_int (by decide) (by decide) (by rw [mkF_n]; rw [e3]; show hn h + 5 + 1 + 1 ≤ hn h + 40; omega) (by rw [mkF_s]; rw [e4]; show hs h + 2415 + 8 + 8 ≤ hs h + 19460; omega) ?_
  refine px_putRF d_X12_init_118 fl_X12_47 (by decide) rfl rfl rfl (px_ob.N (mkF_ob [(20, 8, 11)] ho2)) ?_
  refine px_heap (h2 := (mkF r [(20, 8, 11), (20, 8, 12)] (moH r h))) rfl ?_
  refine px_aload_n d_X12_init_121 rfl rfl ?_
  refine px_bipush (v := 9) d_X12_init_122 (by decide) ?_
  refine px_newI (len := 9) d_X12_init_124 ac_int (by decide) (by decide) (by rw [mkF_n]; rw [e3]; show hn h + 5 + 2 + 1 ≤ hn h + 40; omega) (by rw [mkF_s]; rw [e4]; show hs h + 2415 + 16 + 9 ≤ hs h + 19460; omega) ?_
  refine px_putRF d_X12_init_126 fl_X12_50 (by decide) rfl rfl rfl (px_ob.N (mkF_ob [(20, 8, 11), (20, 8, 12)] ho2)) ?_
  refine px_heap (h2 := (mkF r [(20, 8, 11), (20, 8, 12), (20, 9, 13)] (moH r h))) rfl ?_
  refine px_aload_n d_X12_init_129 rfl rfl ?_
  refine px_sipush (v := 144) d_X12_init_130 (by decide) ?_
  refine px_newZ (len := 144) d_X12_init_133 ac_boolean (by decide) (by decide) (by rw [mkF_n]; rw [e3]; show hn h + 5 + 3 + 1 ≤ hn h + 40; omega) (by rw [mkF_s]; rw [e4]; show hs h + 2415 + 25 + 144 ≤ hs h + 19460; omega) ?_
  refine px_putRF d_X12_init_135 fl_X12_53 (by decide) rfl rfl rfl (px_ob.N (mkF_ob [(20, 8, 11), (20, 8, 12), (20, 9, 13)] ho2)) ?_
  refine px_heap (h2 := (mkF r [(20, 8, 11), (20, 8, 12), (20, 9, 13), (21, 144, 14)] (moH r h))) rfl ?_
  refine px_aload_n d_X12_init_138 rfl rfl ?_
  refine px_sipush (v := 144) d_X12_init_139 (by decide) ?_
  refine px_newI (len := 144) d_X12_init_142 ac_int (by decide) (by decide) (by rw [mkF_n]; rw [e3]; show hn h + 5 + 4 + 1 ≤ hn h + 40; omega) (by rw [mkF_s]; rw [e4]; show hs h + 2415 + 169 + 144 ≤ hs h + 19460; omega) ?_
  refine px_putRF d_X12_init_144 fl_X12_57 (by decide) rfl rfl rfl (px_ob.N (mkF_ob [(20, 8, 11), (20, 8, 12), (20, 9, 13), (21, 144, 14)] ho2)) ?_
  refine px_heap (h2 := (mkF r [(20, 8, 11), (20, 8, 12), (20, 9, 13), (21, 144, 14), (20, 144, 15)] (moH r h))) rfl ?_
  refine px_aload_n d_X12_init_147 rfl rfl ?_
  refine px_sipush (v := 144) d_X12_init_148 (by decide) ?_
  refine px_newI (len := 144) d_X12_init_151 ac_int (by decide) (by decide) (by rw [mkF_n]; rw [e3]; show hn h + 5 + 5 + 1 ≤ hn h + 40; omega) (by rw [mkF_s]; rw [e4]; show hs h + 2415 + 313 + 144 ≤ hs h + 19460; omega) ?_
  refine px_putRF d_X12_init_153 fl_X12_60 (by decide) rfl rfl rfl (px_ob.N (mkF_ob [(20, 8, 11), (20, 8, 12), (20, 9, 13), (21, 144, 14), (20, 144, 15)] ho2)) ?_
  refine px_heap (h2 := (mkF r [(20, 8, 11), (20, 8, 12), (20, 9, 13), (21, 144, 14), (20, 144, 15), (20, 144, 16)] (moH r h))) rfl ?_
  refine px_aload_n d_X12_init_156 rfl rfl ?_
  refine px_sipush (v := 5940) d_X12_init_157 (by decide) ?_
  refine px_newI (len := 5940) d_X12_init_160 ac_int (by decide) (by decide) (by rw [mkF_n]; rw [e3]; show hn h + 5 + 6 + 1 ≤ hn h + 40; omega) (by rw [mkF_s]; rw [e4]; show hs h + 2415 + 457 + 5940 ≤ hs h + 19460; omega) ?_
  refine px_putRF d_X12_init_162 fl_X12_63 (by decide) rfl rfl rfl (px_ob.N (mkF_ob [(20, 8, 11), (20, 8, 12), (20, 9, 13), (21, 144, 14), (20, 144, 15), (20, 144, 16)] ho2)) ?_
  refine px_heap (h2 := (mkF r [(20, 8, 11), (20, 8, 12), (20, 9, 13), (21, 144, 14), (20, 144, 15), (20, 144, 16), (20, 5940, 17)] (moH r h))) rfl ?_
  refine px_aload_n d_X12_init_165 rfl rfl ?_
  refine px_sipush (v := 5940) d_X12_init_166 (by decide) ?_
  refine px_newI (len := 5940) d_X12_init_169 ac_int (by decide) (by decide) (by rw [mkF_n]; rw [e3]; show hn h + 5 + 7 + 1 ≤ hn h + 40; omega) (by rw [mkF_s]; rw [e4]; show hs h + 2415 + 6397 + 5940 ≤ hs h + 19460; omega) ?_
  refine px_putRF d_X12_init_171 fl_X12_66 (by decide) rfl rfl rfl (px_ob.N (mkF_ob [(20, 8, 11), (20, 8, 12), (20, 9, 13), (21, 144, 14), (20, 144, 15), (20, 144, 16), (20, 5940, 17)] ho2)) ?_
  refine px_heap (h2 := (mkF r [(20, 8, 11), (20, 8, 12), (20, 9, 13), (21, 144, 14), (20, 144, 15), (20, 144, 16), (20, 5940, 17), (20, 5940, 18)] (moH r h))) rfl ?_
  refine px_aload_n d_X12_init_174 rfl rfl ?_
  refine px_bipush (v := 7) d_X12_init_175 (by decide) ?_
  refine px_newI (len := 7) d_X12_init_177 ac_int (by decide) (by decide) (by rw [mkF_n]; rw [e3]; show hn h + 5 + 8 + 1 ≤ hn h + 40; omega) (by rw [mkF_s]; rw [e4]; show hs h + 2415 + 12337 + 7 ≤ hs h + 19460; omega) ?_
  refine px_putRF d_X12_init_179 fl_X12_69 (by decide) rfl rfl rfl (px_ob.N (mkF_ob [(20, 8, 11), (20, 8, 12), (20, 9, 13), (21, 144, 14), (20, 144, 15), (20, 144, 16), (20, 5940, 17), (20, 5940, 18)] ho2)) ?_
  refine px_heap (h2 := (mkF r [(20, 8, 11), (20, 8, 12), (20, 9, 13), (21, 144, 14), (20, 144, 15), (20, 144, 16), (20, 5940, 17), (20, 5940, 18), (20, 7, 21)] (moH r h))) rfl ?_
  refine px_aload_n d_X12_init_182 rfl rfl ?_
  refine px_bipush (v := 7) d_X12_init_183 (by decide) ?_
  refine px_newI (len := 7) d_X12_init_185 ac_int (by decide) (by decide) (by rw [mkF_n]; rw [e3]; show hn h + 5 + 9 + 1 ≤ hn h + 40; omega) (by rw [mkF_s]; rw [e4]; show hs h + 2415 + 12344 + 7 ≤ hs h + 19460; omega) ?_
  refine px_putRF d_X12_init_187 fl_X12_72 (by decide) rfl rfl rfl (px_ob.N (mkF_ob [(20, 8, 11), (20, 8, 12), (20, 9, 13), (21, 144, 14), (20, 144, 15), (20, 144, 16), (20, 5940, 17), (20, 5940, 18), (20, 7, 21)] ho2)) ?_
  refine px_heap (h2 := (mkF r [(20, 8, 11), (20, 8, 12), (20, 9, 13), (21, 144, 14), (20, 144, 15), (20, 144, 16), (20, 5940, 17), (20, 5940, 18), (20, 7, 21), (20, 7, 22)] (moH r h))) rfl ?_
  refine px_aload_n d_X12_init_190 rfl rfl ?_
  refine px_bipush (v := 7) d_X12_init_191 (by decide) ?_
  refine px_newI (len := 7) d_X12_init_193 ac_int (by decide) (by decide) (by rw [mkF_n]; rw [e3]; show hn h + 5 + 10 + 1 ≤ hn h + 40; omega) (by rw [mkF_s]; rw [e4]; show hs h + 2415 + 12351 + 7 ≤ hs h + 19460; omega) ?_
  refine px_putRF d_X12_init_195 fl_X12_75 (by decide) rfl rfl rfl (px_ob.N (mkF_ob [(20, 8, 11), (20, 8, 12), (20, 9, 13), (21, 144, 14), (20, 144, 15), (20, 144, 16), (20, 5940, 17), (20, 5940, 18), (20, 7, 21), (20, 7, 22)] ho2)) ?_
  refine px_heap (h2 := (mkF r [(20, 8, 11), (20, 8, 12), (20, 9, 13), (21, 144, 14), (20, 144, 15), (20, 144, 16), (20, 5940, 17), (20, 5940, 18), (20, 7, 21), (20, 7, 22), (20, 7, 23)] (moH r h))) rfl ?_
  refine px_aload_n d_X12_init_198 rfl rfl ?_
  refine px_iconst (v := 5) d_X12_init_199 (by decide) ?_
  refine px_newI (len := 5) d_X12_init_200 ac_int (by decide) (by decide) (by rw [mkF_n]; rw [e3]; show hn h + 5 + 11 + 1 ≤ hn h + 40; omega) (by rw [mkF_s]; rw [e4]; show hs h + 2415 + 12358 + 5 ≤ hs h + 19460; omega) ?_
  refine px_putRF d_X12_init_202 fl_X12_78 (by decide) rfl rfl rfl (px_ob.N (mkF_ob [(20, 8, 11), (20, 8, 12), (20, 9, 13), (21, 144, 14), (20, 144, 15), (20, 144, 16), (20, 5940, 17), (20, 5940, 18), (20, 7, 21), (20, 7, 22), (20, 7, 23)] ho2)) ?_
  refine px_heap (h2 := (mkF r [(20, 8, 11), (20, 8, 12), (20, 9, 13), (21, 144, 14), (20, 144, 15), (20, 144, 16), (20, 5940, 17), (20, 5940, 18), (20, 7, 21), (20, 7, 22), (20, 7, 23), (20, 5, 24)] (moH r h))) rfl ?_
  refine px_aload_n d_X12_init_205 rfl rfl ?_
  refine px_sipush (v := 660) d_X12_init_206 (by decide) ?_
  refine px_newI (len := 660) d_X12_init_209 ac_int (by decide) (by decide) (by rw [mkF_n]; rw [e3]; show hn h + 5 + 12 + 1 ≤ hn h + 40; omega) (by rw [mkF_s]; rw [e4]; show hs h + 2415 + 12363 + 660 ≤ hs h + 19460; omega) ?_
  refine px_putRF d_X12_init_211 fl_X12_81 (by decide) rfl rfl rfl (px_ob.N (mkF_ob [(20, 8, 11), (20, 8, 12), (20, 9, 13), (21, 144, 14), (20, 144, 15), (20, 144, 16), (20, 5940, 17), (20, 5940, 18), (20, 7, 21), (20, 7, 22), (20, 7, 23), (20, 5, 24)] ho2)) ?_
  refine px_heap (h2 := (mkF r [(20, 8, 11), (20, 8, 12), (20, 9, 13), (21, 144, 14), (20, 144, 15), (20, 144, 16), (20, 5940, 17), (20, 5940, 18), (20, 7, 21), (20, 7, 22), (20, 7, 23), (20, 5, 24), (20, 660, 25)] (moH r h))) rfl ?_
  refine px_aload_n d_X12_init_214 rfl rfl ?_
  refine px_bipush (v := 20) d_X12_init_215 (by decide) ?_
  refine px_newI (len := 20) d_X12_init_217 ac_int (by decide) (by decide) (by rw [mkF_n]; rw [e3]; show hn h + 5 + 13 + 1 ≤ hn h + 40; omega) (by rw [mkF_s]; rw [e4]; show hs h + 2415 + 13023 + 20 ≤ hs h + 19460; omega) ?_
  refine px_putRF d_X12_init_219 fl_X12_84 (by decide) rfl rfl rfl (px_ob.N (mkF_ob [(20, 8, 11), (20, 8, 12), (20, 9, 13), (21, 144, 14), (20, 144, 15), (20, 144, 16), (20, 5940, 17), (20, 5940, 18), (20, 7, 21), (20, 7, 22), (20, 7, 23), (20, 5, 24), (20, 660, 25)] ho2)) ?_
  refine px_heap (h2 := (mkF r [(20, 8, 11), (20, 8, 12), (20, 9, 13), (21, 144, 14), (20, 144, 15), (20, 144, 16), (20, 5940, 17), (20, 5940, 18), (20, 7, 21), (20, 7, 22), (20, 7, 23), (20, 5, 24), (20, 660, 25), (20, 20, 28)] (moH r h))) rfl ?_
  refine px_aload_n d_X12_init_222 rfl rfl ?_
  refine px_bipush (v := 20) d_X12_init_223 (by decide) ?_
  refine px_newI (len := 20) d_X12_init_225 ac_int (by decide) (by decide) (by rw [mkF_n]; rw [e3]; show hn h + 5 + 14 + 1 ≤ hn h + 40; omega) (by rw [mkF_s]; rw [e4]; show hs h + 2415 + 13043 + 20 ≤ hs h + 19460; omega) ?_
  refine px_putRF d_X12_init_227 fl_X12_87 (by decide) rfl rfl rfl (px_ob.N (mkF_ob [(20, 8, 11), (20, 8, 12), (20, 9, 13), (21, 144, 14), (20, 144, 15), (20, 144, 16), (20, 5940, 17), (20, 5940, 18), (20, 7, 21), (20, 7, 22), (20, 7, 23), (20, 5, 24), (20, 660, 25), (20, 20, 28)] ho2)) ?_
  refine px_heap (h2 := (mkF r [(20, 8, 11), (20, 8, 12), (20, 9, 13), (21, 144, 14), (20, 144, 15), (20, 144, 16), (20, 5940, 17), (20, 5940, 18), (20, 7, 21), (20, 7, 22), (20, 7, 23), (20, 5, 24), (20, 660, 25), (20, 20, 28), (20, 20, 29)] (moH r h))) rfl ?_
  refine px_aload_n d_X12_init_230 rfl rfl ?_
  refine px_bipush (v := 20) d_X12_init_231 (by decide) ?_
  refine px_newI (len := 20) d_X12_init_233 ac_int (by decide) (by decide) (by rw [mkF_n]; rw [e3]; show hn h + 5 + 15 + 1 ≤ hn h + 40; omega) (by rw [mkF_s]; rw [e4]; show hs h + 2415 + 13063 + 20 ≤ hs h + 19460; omega) ?_
  refine px_putRF d_X12_init_235 fl_X12_90 (by decide) rfl rfl rfl (px_ob.N (mkF_ob [(20, 8, 11), (20, 8, 12), (20, 9, 13), (21, 144, 14), (20, 144, 15), (20, 144, 16), (20, 5940, 17), (20, 5940, 18), (20, 7, 21), (20, 7, 22), (20, 7, 23), (20, 5, 24), (20, 660, 25), (20, 20, 28), (20, 20, 29)] ho2)) ?_
  refine px_heap (h2 := (mkF r [(20, 8, 11), (20, 8, 12), (20, 9, 13), (21, 144, 14), (20, 144, 15), (20, 144, 16), (20, 5940, 17), (20, 5940, 18), (20, 7, 21), (20, 7, 22), (20, 7, 23), (20, 5, 24), (20, 660, 25), (20, 20, 28), (20, 20, 29), (20, 20, 30)] (moH r h))) rfl ?_
  refine px_aload_n d_X12_init_238 rfl rfl ?_
  refine px_bipush (v := 20) d_X12_init_239 (by decide) ?_
  refine px_newI (len := 20) d_X12_init_241 ac_int (by decide) (by decide) (by rw [mkF_n]; rw [e3]; show hn h + 5 + 16 + 1 ≤ hn h + 40; omega) (by rw [mkF_s]; rw [e4]; show hs h + 2415 + 13083 + 20 ≤ hs h + 19460; omega) ?_
  refine px_putRF d_X12_init_243 fl_X12_93 (by decide) rfl rfl rfl (px_ob.N (mkF_ob [(20, 8, 11), (20, 8, 12), (20, 9, 13), (21, 144, 14), (20, 144, 15), (20, 144, 16), (20, 5940, 17), (20, 5940, 18), (20, 7, 21), (20, 7, 22), (20, 7, 23), (20, 5, 24), (20, 660, 25), (20, 20, 28), (20, 20, 29), (20, 20, 30)] ho2)) ?_
  refine px_heap (h2 := (mkF r [(20, 8, 11), (20, 8, 12), (20, 9, 13), (21, 144, 14), (20, 144, 15), (20, 144, 16), (20, 5940, 17), (20, 5940, 18), (20, 7, 21), (20, 7, 22), (20, 7, 23), (20, 5, 24), (20, 660, 25), (20, 20, 28), (20, 20, 29), (20, 20, 30), (20, 20, 31)] (moH r h))) rfl ?_
  refine px_aload_n d_X12_init_246 rfl rfl ?_
  refine px_sipush (v := 400) d_X12_init_247 (by decide) ?_
  refine px_newI (len := 400) d_X12_init_250 ac_int (by decide) (by decide) (by rw [mkF_n]; rw [e3]; show hn h + 5 + 17 + 1 ≤ hn h + 40; omega) (by rw [mkF_s]; rw [e4]; show hs h + 2415 + 13103 + 400 ≤ hs h + 19460; omega) ?_
  refine px_putRF d_X12_init_252 fl_X12_96 (by decide) rfl rfl rfl (px_ob.N (mkF_ob [(20, 8, 11), (20, 8, 12), (20, 9, 13), (21, 144, 14), (20, 144, 15), (20, 144, 16), (20, 5940, 17), (20, 5940, 18), (20, 7, 21), (20, 7, 22), (20, 7, 23), (20, 5, 24), (20, 660, 25), (20, 20, 28), (20, 20, 29), (20, 20, 30), (20, 20, 31)] ho2)) ?_
  refine px_heap (h2 := (mkF r [(20, 8, 11), (20, 8, 12), (20, 9, 13), (21, 144, 14), (20, 144, 15), (20, 144, 16), (20, 5940, 17), (20, 5940, 18), (20, 7, 21), (20, 7, 22), (20, 7, 23), (20, 5, 24), (20, 660, 25), (20, 20, 28), (20, 20, 29), (20, 20, 30), (20, 20, 31), (20, 400, 33)] (moH r h))) rfl ?_
  refine px_aload_n d_X12_init_255 rfl rfl ?_
  refine px_sipush (v := 400) d_X12_init_256 (by decide) ?_
  refine px_newI (len := 400) d_X12_init_259 ac_int (by decide) (by decide) (by rw [mkF_n]; rw [e3]; show hn h + 5 + 18 + 1 ≤ hn h + 40; omega) (by rw [mkF_s]; rw [e4]; show hs h + 2415 + 13503 + 400 ≤ hs h + 19460; omega) ?_
  refine px_putRF d_X12_init_261 fl_X12_99 (by decide) rfl rfl rfl (px_ob.N (mkF_ob [(20, 8, 11), (20, 8, 12), (20, 9, 13), (21, 144, 14), (20, 144, 15), (20, 144, 16), (20, 5940, 17), (20, 5940, 18), (20, 7, 21), (20, 7, 22), (20, 7, 23), (20, 5, 24), (20, 660, 25), (20, 20, 28), (20, 20, 29), (20, 20, 30), (20, 20, 31), (20, 400, 33)] ho2)) ?_
  refine px_heap (h2 := (mkF r [(20, 8, 11), (20, 8, 12), (20, 9, 13), (21, 144, 14), (20, 144, 15), (20, 144, 16), (20, 5940, 17), (20, 5940, 18), (20, 7, 21), (20, 7, 22), (20, 7, 23), (20, 5, 24), (20, 660, 25), (20, 20, 28), (20, 20, 29), (20, 20, 30), (20, 20, 31), (20, 400, 33), (20, 400, 34)] (moH r h))) rfl ?_
  refine px_aload_n d_X12_init_264 rfl rfl ?_
  refine px_sipush (v := 400) d_X12_init_265 (by decide) ?_
  refine px_newI (len := 400) d_X12_init_268 ac_int (by decide) (by decide) (by rw [mkF_n]; rw [e3]; show hn h + 5 + 19 + 1 ≤ hn h + 40; omega) (by rw [mkF_s]; rw [e4]; show hs h + 2415 + 13903 + 400 ≤ hs h + 19460; omega) ?_
  refine px_putRF d_X12_init_270 fl_X12_102 (by decide) rfl rfl rfl (px_ob.N (mkF_ob [(20, 8, 11), (20, 8, 12), (20, 9, 13), (21, 144, 14), (20, 144, 15), (20, 144, 16), (20, 5940, 17), (20, 5940, 18), (20, 7, 21), (20, 7, 22), (20, 7, 23), (20, 5, 24), (20, 660, 25), (20, 20, 28), (20, 20, 29), (20, 20, 30), (20, 20, 31), (20, 400, 33), (20, 400, 34)] ho2)) ?_
  refine px_heap (h2 := (mkF r [(20, 8, 11), (20, 8, 12), (20, 9, 13), (21, 144, 14), (20, 144, 15), (20, 144, 16), (20, 5940, 17), (20, 5940, 18), (20, 7, 21), (20, 7, 22), (20, 7, 23), (20, 5, 24), (20, 660, 25), (20, 20, 28), (20, 20, 29), (20, 20, 30), (20, 20, 31), (20, 400, 33), (20, 400, 34), (20, 400, 35)] (moH r h))) rfl ?_
  refine px_aload_n d_X12_init_273 rfl rfl ?_
  refine px_sipush (v := 400) d_X12_init_274 (by decide) ?_
  refine px_newI (len := 400) d_X12_init_277 ac_int (by decide) (by decide) (by rw [mkF_n]; rw [e3]; show hn h + 5 + 20 + 1 ≤ hn h + 40; omega) (by rw [mkF_s]; rw [e4]; show hs h + 2415 + 14303 + 400 ≤ hs h + 19460; omega) ?_
  refine px_putRF d_X12_init_279 fl_X12_105 (by decide) rfl rfl rfl (px_ob.N (mkF_ob [(20, 8, 11), (20, 8, 12), (20, 9, 13), (21, 144, 14), (20, 144, 15), (20, 144, 16), (20, 5940, 17), (20, 5940, 18), (20, 7, 21), (20, 7, 22), (20, 7, 23), (20, 5, 24), (20, 660, 25), (20, 20, 28), (20, 20, 29), (20, 20, 30), (20, 20, 31), (20, 400, 33), (20, 400, 34), (20, 400, 35)] ho2)) ?_
  refine px_heap (h2 := (mkF r [(20, 8, 11), (20, 8, 12), (20, 9, 13), (21, 144, 14), (20, 144, 15), (20, 144, 16), (20, 5940, 17), (20, 5940, 18), (20, 7, 21), (20, 7, 22), (20, 7, 23), (20, 5, 24), (20, 660, 25), (20, 20, 28), (20, 20, 29), (20, 20, 30), (20, 20, 31), (20, 400, 33), (20, 400, 34), (20, 400, 35), (20, 400, 36)] (moH r h))) rfl ?_
  refine px_aload_n d_X12_init_282 rfl rfl ?_
  refine px_iconst (v := 4) d_X12_init_283 (by decide) ?_
  refine px_newI (len := 4) d_X12_init_284 ac_int (by decide) (by decide) (by rw [mkF_n]; rw [e3]; show hn h + 5 + 21 + 1 ≤ hn h + 40; omega) (by rw [mkF_s]; rw [e4]; show hs h + 2415 + 14703 + 4 ≤ hs h + 19460; omega) ?_
  refine px_putRF d_X12_init_286 fl_X12_108 (by decide) rfl rfl rfl (px_ob.N (mkF_ob [(20, 8, 11), (20, 8, 12), (20, 9, 13), (21, 144, 14), (20, 144, 15), (20, 144, 16), (20, 5940, 17), (20, 5940, 18), (20, 7, 21), (20, 7, 22), (20, 7, 23), (20, 5, 24), (20, 660, 25), (20, 20, 28), (20, 20, 29), (20, 20, 30), (20, 20, 31), (20, 400, 33), (20, 400, 34), (20, 400, 35), (20, 400, 36)] ho2)) ?_
  refine px_heap (h2 := (mkF r [(20, 8, 11), (20, 8, 12), (20, 9, 13), (21, 144, 14), (20, 144, 15), (20, 144, 16), (20, 5940, 17), (20, 5940, 18), (20, 7, 21), (20, 7, 22), (20, 7, 23), (20, 5, 24), (20, 660, 25), (20, 20, 28), (20, 20, 29), (20, 20, 30), (20, 20, 31), (20, 400, 33), (20, 400, 34), (20, 400, 35), (20, 400, 36), (20, 4, 37)] (moH r h))) rfl ?_
  refine px_aload_n d_X12_init_289 rfl rfl ?_
  refine px_bipush (v := 24) d_X12_init_290 (by decide) ?_
  refine px_newI (len := 24) d_X12_init_292 ac_int (by decide) (by decide) (by rw [mkF_n]; rw [e3]; show hn h + 5 + 22 + 1 ≤ hn h + 40; omega) (by rw [mkF_s]; rw [e4]; show hs h + 2415 + 14707 + 24 ≤ hs h + 19460; omega) ?_
  refine px_putRF d_X12_init_294 fl_X12_111 (by decide) rfl rfl rfl (px_ob.N (mkF_ob [(20, 8, 11), (20, 8, 12), (20, 9, 13), (21, 144, 14), (20, 144, 15), (20, 144, 16), (20, 5940, 17), (20, 5940, 18), (20, 7, 21), (20, 7, 22), (20, 7, 23), (20, 5, 24), (20, 660, 25), (20, 20, 28), (20, 20, 29), (20, 20, 30), (20, 20, 31), (20, 400, 33), (20, 400, 34), (20, 400, 35), (20, 400, 36), (20, 4, 37)] ho2)) ?_
  refine px_heap (h2 := (mkF r [(20, 8, 11), (20, 8, 12), (20, 9, 13), (21, 144, 14), (20, 144, 15), (20, 144, 16), (20, 5940, 17), (20, 5940, 18), (20, 7, 21), (20, 7, 22), (20, 7, 23), (20, 5, 24), (20, 660, 25), (20, 20, 28), (20, 20, 29), (20, 20, 30), (20, 20, 31), (20, 400, 33), (20, 400, 34), (20, 400, 35), (20, 400, 36), (20, 4, 37), (20, 24, 38)] (moH r h))) rfl ?_
  refine px_aload_n d_X12_init_297 rfl rfl ?_
  refine px_bipush (v := 60) d_X12_init_298 (by decide) ?_
  refine px_newI (len := 60) d_X12_init_300 ac_int (by decide) (by decide) (by rw [mkF_n]; rw [e3]; show hn h + 5 + 23 + 1 ≤ hn h + 40; omega) (by rw [mkF_s]; rw [e4]; show hs h + 2415 + 14731 + 60 ≤ hs h + 19460; omega) ?_
  refine px_putRF d_X12_init_302 fl_X12_114 (by decide) rfl rfl rfl (px_ob.N (mkF_ob [(20, 8, 11), (20, 8, 12), (20, 9, 13), (21, 144, 14), (20, 144, 15), (20, 144, 16), (20, 5940, 17), (20, 5940, 18), (20, 7, 21), (20, 7, 22), (20, 7, 23), (20, 5, 24), (20, 660, 25), (20, 20, 28), (20, 20, 29), (20, 20, 30), (20, 20, 31), (20, 400, 33), (20, 400, 34), (20, 400, 35), (20, 400, 36), (20, 4, 37), (20, 24, 38)] ho2)) ?_
  refine px_heap (h2 := (mkF r [(20, 8, 11), (20, 8, 12), (20, 9, 13), (21, 144, 14), (20, 144, 15), (20, 144, 16), (20, 5940, 17), (20, 5940, 18), (20, 7, 21), (20, 7, 22), (20, 7, 23), (20, 5, 24), (20, 660, 25), (20, 20, 28), (20, 20, 29), (20, 20, 30), (20, 20, 31), (20, 400, 33), (20, 400, 34), (20, 400, 35), (20, 400, 36), (20, 4, 37), (20, 24, 38), (20, 60, 40)] (moH r h))) rfl ?_
  refine px_aload_n d_X12_init_305 rfl rfl ?_
  refine px_bipush (v := 60) d_X12_init_306 (by decide) ?_
  refine px_newI (len := 60) d_X12_init_308 ac_int (by decide) (by decide) (by rw [mkF_n]; rw [e3]; show hn h + 5 + 24 + 1 ≤ hn h + 40; omega) (by rw [mkF_s]; rw [e4]; show hs h + 2415 + 14791 + 60 ≤ hs h + 19460; omega) ?_
  refine px_putRF d_X12_init_310 fl_X12_117 (by decide) rfl rfl rfl (px_ob.N (mkF_ob [(20, 8, 11), (20, 8, 12), (20, 9, 13), (21, 144, 14), (20, 144, 15), (20, 144, 16), (20, 5940, 17), (20, 5940, 18), (20, 7, 21), (20, 7, 22), (20, 7, 23), (20, 5, 24), (20, 660, 25), (20, 20, 28), (20, 20, 29), (20, 20, 30), (20, 20, 31), (20, 400, 33), (20, 400, 34), (20, 400, 35), (20, 400, 36), (20, 4, 37), (20, 24, 38), (20, 60, 40)] ho2)) ?_
  refine px_heap (h2 := (mkF r [(20, 8, 11), (20, 8, 12), (20, 9, 13), (21, 144, 14), (20, 144, 15), (20, 144, 16), (20, 5940, 17), (20, 5940, 18), (20, 7, 21), (20, 7, 22), (20, 7, 23), (20, 5, 24), (20, 660, 25), (20, 20, 28), (20, 20, 29), (20, 20, 30), (20, 20, 31), (20, 400, 33), (20, 400, 34), (20, 400, 35), (20, 400, 36), (20, 4, 37), (20, 24, 38), (20, 60, 40), (20, 60, 41)] (moH r h))) rfl ?_
  refine px_aload_n d_X12_init_313 rfl rfl ?_
  refine px_bipush (v := 60) d_X12_init_314 (by decide) ?_
  refine px_newI (len := 60) d_X12_init_316 ac_int (by decide) (by decide) (by rw [mkF_n]; rw [e3]; show hn h + 5 + 25 + 1 ≤ hn h + 40; omega) (by rw [mkF_s]; rw [e4]; show hs h + 2415 + 14851 + 60 ≤ hs h + 19460; omega) ?_
  refine px_putRF d_X12_init_318 fl_X12_120 (by decide) rfl rfl rfl (px_ob.N (mkF_ob [(20, 8, 11), (20, 8, 12), (20, 9, 13), (21, 144, 14), (20, 144, 15), (20, 144, 16), (20, 5940, 17), (20, 5940, 18), (20, 7, 21), (20, 7, 22), (20, 7, 23), (20, 5, 24), (20, 660, 25), (20, 20, 28), (20, 20, 29), (20, 20, 30), (20, 20, 31), (20, 400, 33), (20, 400, 34), (20, 400, 35), (20, 400, 36), (20, 4, 37), (20, 24, 38), (20, 60, 40), (20, 60, 41)] ho2)) ?_
  refine px_heap (h2 := (mkF r [(20, 8, 11), (20, 8, 12), (20, 9, 13), (21, 144, 14), (20, 144, 15), (20, 144, 16), (20, 5940, 17), (20, 5940, 18), (20, 7, 21), (20, 7, 22), (20, 7, 23), (20, 5, 24), (20, 660, 25), (20, 20, 28), (20, 20, 29), (20, 20, 30), (20, 20, 31), (20, 400, 33), (20, 400, 34), (20, 400, 35), (20, 400, 36), (20, 4, 37), (20, 24, 38), (20, 60, 40), (20, 60, 41), (20, 60, 42)] (moH r h))) rfl ?_
  refine px_aload_n d_X12_init_321 rfl rfl ?_
  refine px_bipush (v := 60) d_X12_init_322 (by decide) ?_
  refine px_newZ (len := 60) d_X12_init_324 ac_boolean (by decide) (by decide) (by rw [mkF_n]; rw [e3]; show hn h + 5 + 26 + 1 ≤ hn h + 40; omega) (by rw [mkF_s]; rw [e4]; show hs h + 2415 + 14911 + 60 ≤ hs h + 19460; omega) ?_
  refine px_putRF d_X12_init_326 fl_X12_123 (by decide) rfl rfl rfl (px_ob.N (mkF_ob [(20, 8, 11), (20, 8, 12), (20, 9, 13), (21, 144, 14), (20, 144, 15), (20, 144, 16), (20, 5940, 17), (20, 5940, 18), (20, 7, 21), (20, 7, 22), (20, 7, 23), (20, 5, 24), (20, 660, 25), (20, 20, 28), (20, 20, 29), (20, 20, 30), (20, 20, 31), (20, 400, 33), (20, 400, 34), (20, 400, 35), (20, 400, 36), (20, 4, 37), (20, 24, 38), (20, 60, 40), (20, 60, 41), (20, 60, 42)] ho2)) ?_
  refine px_heap (h2 := (mkF r [(20, 8, 11), (20, 8, 12), (20, 9, 13), (21, 144, 14), (20, 144, 15), (20, 144, 16), (20, 5940, 17), (20, 5940, 18), (20, 7, 21), (20, 7, 22), (20, 7, 23), (20, 5, 24), (20, 660, 25), (20, 20, 28), (20, 20, 29), (20, 20, 30), (20, 20, 31), (20, 400, 33), (20, 400, 34), (20, 400, 35), (20, 400, 36), (20, 4, 37), (20, 24, 38), (20, 60, 40), (20, 60, 41), (20, 60, 42), (21, 60, 43)] (moH r h))) rfl ?_
  refine px_aload_n d_X12_init_329 rfl rfl ?_
  refine px_bipush (v := 20) d_X12_init_330 (by decide) ?_
  refine px_newI (len := 20) d_X12_init_332 ac_int (by decide) (by decide) (by rw [mkF_n]; rw [e3]; show hn h + 5 + 27 + 1 ≤ hn h + 40; omega) (by rw [mkF_s]; rw [e4]; show hs h + 2415 + 14971 + 20 ≤ hs h + 19460; omega) ?_
  refine px_putRF d_X12_init_334 fl_X12_126 (by decide) rfl rfl rfl (px_ob.N (mkF_ob [(20, 8, 11), (20, 8, 12), (20, 9, 13), (21, 144, 14), (20, 144, 15), (20, 144, 16), (20, 5940, 17), (20, 5940, 18), (20, 7, 21), (20, 7, 22), (20, 7, 23), (20, 5, 24), (20, 660, 25), (20, 20, 28), (20, 20, 29), (20, 20, 30), (20, 20, 31), (20, 400, 33), (20, 400, 34), (20, 400, 35), (20, 400, 36), (20, 4, 37), (20, 24, 38), (20, 60, 40), (20, 60, 41), (20, 60, 42), (21, 60, 43)] ho2)) ?_
  refine px_heap (h2 := (mkF r [(20, 8, 11), (20, 8, 12), (20, 9, 13), (21, 144, 14), (20, 144, 15), (20, 144, 16), (20, 5940, 17), (20, 5940, 18), (20, 7, 21), (20, 7, 22), (20, 7, 23), (20, 5, 24), (20, 660, 25), (20, 20, 28), (20, 20, 29), (20, 20, 30), (20, 20, 31), (20, 400, 33), (20, 400, 34), (20, 400, 35), (20, 400, 36), (20, 4, 37), (20, 24, 38), (20, 60, 40), (20, 60, 41), (20, 60, 42), (21, 60, 43), (20, 20, 44)] (moH r h))) rfl ?_
  refine px_aload_n d_X12_init_337 rfl rfl ?_
  refine px_sipush (v := 800) d_X12_init_338 (by decide) ?_
  refine px_newI (len := 800) d_X12_init_341 ac_int (by decide) (by decide) (by rw [mkF_n]; rw [e3]; show hn h + 5 + 28 + 1 ≤ hn h + 40; omega) (by rw [mkF_s]; rw [e4]; show hs h + 2415 + 14991 + 800 ≤ hs h + 19460; omega) ?_
  refine px_putRF d_X12_init_343 fl_X12_129 (by decide) rfl rfl rfl (px_ob.N (mkF_ob [(20, 8, 11), (20, 8, 12), (20, 9, 13), (21, 144, 14), (20, 144, 15), (20, 144, 16), (20, 5940, 17), (20, 5940, 18), (20, 7, 21), (20, 7, 22), (20, 7, 23), (20, 5, 24), (20, 660, 25), (20, 20, 28), (20, 20, 29), (20, 20, 30), (20, 20, 31), (20, 400, 33), (20, 400, 34), (20, 400, 35), (20, 400, 36), (20, 4, 37), (20, 24, 38), (20, 60, 40), (20, 60, 41), (20, 60, 42), (21, 60, 43), (20, 20, 44)] ho2)) ?_
  refine px_heap (h2 := (mkF r [(20, 8, 11), (20, 8, 12), (20, 9, 13), (21, 144, 14), (20, 144, 15), (20, 144, 16), (20, 5940, 17), (20, 5940, 18), (20, 7, 21), (20, 7, 22), (20, 7, 23), (20, 5, 24), (20, 660, 25), (20, 20, 28), (20, 20, 29), (20, 20, 30), (20, 20, 31), (20, 400, 33), (20, 400, 34), (20, 400, 35), (20, 400, 36), (20, 4, 37), (20, 24, 38), (20, 60, 40), (20, 60, 41), (20, 60, 42), (21, 60, 43), (20, 20, 44), (20, 800, 45)] (moH r h))) rfl ?_
  refine px_aload_n d_X12_init_346 rfl rfl ?_
  refine px_sipush (v := 800) d_X12_init_347 (by decide) ?_
  refine px_newI (len := 800) d_X12_init_350 ac_int (by decide) (by decide) (by rw [mkF_n]; rw [e3]; show hn h + 5 + 29 + 1 ≤ hn h + 40; omega) (by rw [mkF_s]; rw [e4]; show hs h + 2415 + 15791 + 800 ≤ hs h + 19460; omega) ?_
  refine px_putRF d_X12_init_352 fl_X12_132 (by decide) rfl rfl rfl (px_ob.N (mkF_ob [(20, 8, 11), (20, 8, 12), (20, 9, 13), (21, 144, 14), (20, 144, 15), (20, 144, 16), (20, 5940, 17), (20, 5940, 18), (20, 7, 21), (20, 7, 22), (20, 7, 23), (20, 5, 24), (20, 660, 25), (20, 20, 28), (20, 20, 29), (20, 20, 30), (20, 20, 31), (20, 400, 33), (20, 400, 34), (20, 400, 35), (20, 400, 36), (20, 4, 37), (20, 24, 38), (20, 60, 40), (20, 60, 41), (20, 60, 42), (21, 60, 43), (20, 20, 44), (20, 800, 45)] ho2)) ?_
  refine px_heap (h2 := (mkF r [(20, 8, 11), (20, 8, 12), (20, 9, 13), (21, 144, 14), (20, 144, 15), (20, 144, 16), (20, 5940, 17), (20, 5940, 18), (20, 7, 21), (20, 7, 22), (20, 7, 23), (20, 5, 24), (20, 660, 25), (20, 20, 28), (20, 20, 29), (20, 20, 30), (20, 20, 31), (20, 400, 33), (20, 400, 34), (20, 400, 35), (20, 400, 36), (20, 4, 37), (20, 24, 38), (20, 60, 40), (20, 60, 41), (20, 60, 42), (21, 60, 43), (20, 20, 44), (20, 800, 45), (20, 800, 46)] (moH r h))) rfl ?_
  refine px_aload_n d_X12_init_355 rfl rfl ?_
  refine px_sipush (v := 400) d_X12_init_356 (by decide) ?_
  refine px_newZ (len := 400) d_X12_init_359 ac_boolean (by decide) (by decide) (by rw [mkF_n]; rw [e3]; show hn h + 5 + 30 + 1 ≤ hn h + 40; omega) (by rw [mkF_s]; rw [e4]; show hs h + 2415 + 16591 + 400 ≤ hs h + 19460; omega) ?_
  refine px_putRF d_X12_init_361 fl_X12_135 (by decide) rfl rfl rfl (px_ob.N (mkF_ob [(20, 8, 11), (20, 8, 12), (20, 9, 13), (21, 144, 14), (20, 144, 15), (20, 144, 16), (20, 5940, 17), (20, 5940, 18), (20, 7, 21), (20, 7, 22), (20, 7, 23), (20, 5, 24), (20, 660, 25), (20, 20, 28), (20, 20, 29), (20, 20, 30), (20, 20, 31), (20, 400, 33), (20, 400, 34), (20, 400, 35), (20, 400, 36), (20, 4, 37), (20, 24, 38), (20, 60, 40), (20, 60, 41), (20, 60, 42), (21, 60, 43), (20, 20, 44), (20, 800, 45), (20, 800, 46)] ho2)) ?_
  refine px_heap (h2 := (mkF r [(20, 8, 11), (20, 8, 12), (20, 9, 13), (21, 144, 14), (20, 144, 15), (20, 144, 16), (20, 5940, 17), (20, 5940, 18), (20, 7, 21), (20, 7, 22), (20, 7, 23), (20, 5, 24), (20, 660, 25), (20, 20, 28), (20, 20, 29), (20, 20, 30), (20, 20, 31), (20, 400, 33), (20, 400, 34), (20, 400, 35), (20, 400, 36), (20, 4, 37), (20, 24, 38), (20, 60, 40), (20, 60, 41), (20, 60, 42), (21, 60, 43), (20, 20, 44), (20, 800, 45), (20, 800, 46), (21, 400, 47)] (moH r h))) rfl ?_
  refine px_aload_n d_X12_init_364 rfl rfl ?_
  refine px_bipush (v := 36) d_X12_init_365 (by decide) ?_
  refine px_newI (len := 36) d_X12_init_367 ac_int (by decide) (by decide) (by rw [mkF_n]; rw [e3]; show hn h + 5 + 31 + 1 ≤ hn h + 40; omega) (by rw [mkF_s]; rw [e4]; show hs h + 2415 + 16991 + 36 ≤ hs h + 19460; omega) ?_
  refine px_putRF d_X12_init_369 fl_X12_138 (by decide) rfl rfl rfl (px_ob.N (mkF_ob [(20, 8, 11), (20, 8, 12), (20, 9, 13), (21, 144, 14), (20, 144, 15), (20, 144, 16), (20, 5940, 17), (20, 5940, 18), (20, 7, 21), (20, 7, 22), (20, 7, 23), (20, 5, 24), (20, 660, 25), (20, 20, 28), (20, 20, 29), (20, 20, 30), (20, 20, 31), (20, 400, 33), (20, 400, 34), (20, 400, 35), (20, 400, 36), (20, 4, 37), (20, 24, 38), (20, 60, 40), (20, 60, 41), (20, 60, 42), (21, 60, 43), (20, 20, 44), (20, 800, 45), (20, 800, 46), (21, 400, 47)] ho2)) ?_
  refine px_heap (h2 := (mkF r [(20, 8, 11), (20, 8, 12), (20, 9, 13), (21, 144, 14), (20, 144, 15), (20, 144, 16), (20, 5940, 17), (20, 5940, 18), (20, 7, 21), (20, 7, 22), (20, 7, 23), (20, 5, 24), (20, 660, 25), (20, 20, 28), (20, 20, 29), (20, 20, 30), (20, 20, 31), (20, 400, 33), (20, 400, 34), (20, 400, 35), (20, 400, 36), (20, 4, 37), (20, 24, 38), (20, 60, 40), (20, 60, 41), (20, 60, 42), (21, 60, 43), (20, 20, 44), (20, 800, 45), (20, 800, 46), (21, 400, 47), (20, 36, 50)] (moH r h))) rfl ?_
  refine px_aload_n d_X12_init_372 rfl rfl ?_
  refine px_bipush (v := 6) d_X12_init_373 (by decide) ?_
  refine px_newI (len := 6) d_X12_init_375 ac_int (by decide) (by decide) (by rw [mkF_n]; rw [e3]; show hn h + 5 + 32 + 1 ≤ hn h + 40; omega) (by rw [mkF_s]; rw [e4]; show hs h + 2415 + 17027 + 6 ≤ hs h + 19460; omega) ?_
  refine px_putRF d_X12_init_377 fl_X12_141 (by decide) rfl rfl rfl (px_ob.N (mkF_ob [(20, 8, 11), (20, 8, 12), (20, 9, 13), (21, 144, 14), (20, 144, 15), (20, 144, 16), (20, 5940, 17), (20, 5940, 18), (20, 7, 21), (20, 7, 22), (20, 7, 23), (20, 5, 24), (20, 660, 25), (20, 20, 28), (20, 20, 29), (20, 20, 30), (20, 20, 31), (20, 400, 33), (20, 400, 34), (20, 400, 35), (20, 400, 36), (20, 4, 37), (20, 24, 38), (20, 60, 40), (20, 60, 41), (20, 60, 42), (21, 60, 43), (20, 20, 44), (20, 800, 45), (20, 800, 46), (21, 400, 47), (20, 36, 50)] ho2)) ?_
  refine px_heap (h2 := (mkF r [(20, 8, 11), (20, 8, 12), (20, 9, 13), (21, 144, 14), (20, 144, 15), (20, 144, 16), (20, 5940, 17), (20, 5940, 18), (20, 7, 21), (20, 7, 22), (20, 7, 23), (20, 5, 24), (20, 660, 25), (20, 20, 28), (20, 20, 29), (20, 20, 30), (20, 20, 31), (20, 400, 33), (20, 400, 34), (20, 400, 35), (20, 400, 36), (20, 4, 37), (20, 24, 38), (20, 60, 40), (20, 60, 41), (20, 60, 42), (21, 60, 43), (20, 20, 44), (20, 800, 45), (20, 800, 46), (21, 400, 47), (20, 36, 50), (20, 6, 51)] (moH r h))) rfl ?_
  refine px_aload_n d_X12_init_380 rfl rfl ?_
  refine px_bipush (v := 6) d_X12_init_381 (by decide) ?_
  refine px_newI (len := 6) d_X12_init_383 ac_int (by decide) (by decide) (by rw [mkF_n]; rw [e3]; show hn h + 5 + 33 + 1 ≤ hn h + 40; omega) (by rw [mkF_s]; rw [e4]; show hs h + 2415 + 17033 + 6 ≤ hs h + 19460; omega) ?_
  refine px_putRF d_X12_init_385 fl_X12_144 (by decide) rfl rfl rfl (px_ob.N (mkF_ob [(20, 8, 11), (20, 8, 12), (20, 9, 13), (21, 144, 14), (20, 144, 15), (20, 144, 16), (20, 5940, 17), (20, 5940, 18), (20, 7, 21), (20, 7, 22), (20, 7, 23), (20, 5, 24), (20, 660, 25), (20, 20, 28), (20, 20, 29), (20, 20, 30), (20, 20, 31), (20, 400, 33), (20, 400, 34), (20, 400, 35), (20, 400, 36), (20, 4, 37), (20, 24, 38), (20, 60, 40), (20, 60, 41), (20, 60, 42), (21, 60, 43), (20, 20, 44), (20, 800, 45), (20, 800, 46), (21, 400, 47), (20, 36, 50), (20, 6, 51)] ho2)) ?_
  refine px_heap (h2 := (mkF r [(20, 8, 11), (20, 8, 12), (20, 9, 13), (21, 144, 14), (20, 144, 15), (20, 144, 16), (20, 5940, 17), (20, 5940, 18), (20, 7, 21), (20, 7, 22), (20, 7, 23), (20, 5, 24), (20, 660, 25), (20, 20, 28), (20, 20, 29), (20, 20, 30), (20, 20, 31), (20, 400, 33), (20, 400, 34), (20, 400, 35), (20, 400, 36), (20, 4, 37), (20, 24, 38), (20, 60, 40), (20, 60, 41), (20, 60, 42), (21, 60, 43), (20, 20, 44), (20, 800, 45), (20, 800, 46), (21, 400, 47), (20, 36, 50), (20, 6, 51), (20, 6, 52)] (moH r h))) rfl ?_
  refine px_aload_n d_X12_init_388 rfl rfl ?_
  refine px_bipush (v := 6) d_X12_init_389 (by decide) ?_
  refine px_newI (len := 6) d_X12_init_391 ac_int (by decide) (by decide) (by rw [mkF_n]; rw [e3]; show hn h + 5 + 34 + 1 ≤ hn h + 40; omega) (by rw [mkF_s]; rw [e4]; show hs h + 2415 + 17039 + 6 ≤ hs h + 19460; omega) ?_
  refine px_putRF d_X12_init_393 fl_X12_147 (by decide) rfl rfl rfl (px_ob.N (mkF_ob [(20, 8, 11), (20, 8, 12), (20, 9, 13), (21, 144, 14), (20, 144, 15), (20, 144, 16), (20, 5940, 17), (20, 5940, 18), (20, 7, 21), (20, 7, 22), (20, 7, 23), (20, 5, 24), (20, 660, 25), (20, 20, 28), (20, 20, 29), (20, 20, 30), (20, 20, 31), (20, 400, 33), (20, 400, 34), (20, 400, 35), (20, 400, 36), (20, 4, 37), (20, 24, 38), (20, 60, 40), (20, 60, 41), (20, 60, 42), (21, 60, 43), (20, 20, 44), (20, 800, 45), (20, 800, 46), (21, 400, 47), (20, 36, 50), (20, 6, 51), (20, 6, 52)] ho2)) ?_
  refine px_heap (h2 := (mkF r [(20, 8, 11), (20, 8, 12), (20, 9, 13), (21, 144, 14), (20, 144, 15), (20, 144, 16), (20, 5940, 17), (20, 5940, 18), (20, 7, 21), (20, 7, 22), (20, 7, 23), (20, 5, 24), (20, 660, 25), (20, 20, 28), (20, 20, 29), (20, 20, 30), (20, 20, 31), (20, 400, 33), (20, 400, 34), (20, 400, 35), (20, 400, 36), (20, 4, 37), (20, 24, 38), (20, 60, 40), (20, 60, 41), (20, 60, 42), (21, 60, 43), (20, 20, 44), (20, 800, 45), (20, 800, 46), (21, 400, 47), (20, 36, 50), (20, 6, 51), (20, 6, 52), (20, 6, 53)] (moH r h))) rfl ?_
  exact px_return d_X12_init_396 rfl hP
theorem c_X12_init {h : PH} {r : Nat} (ho : px_ob h r 12) : PM M_X12_init [.ref r] h none (mkF r [(20, 8, 11), (20, 8, 12), (20, 9, 13), (21, 144, 14), (20, 144, 15), (20, 144, 16), (20, 5940, 17), (20, 5940, 18), (20, 7, 21), (20, 7, 22), (20, 7, 23), (20, 5, 24), (20, 660, 25), (20, 20, 28), (20, 20, 29), (20, 20, 30), (20, 20, 31), (20, 400, 33), (20, 400, 34), (20, 400, 35), (20, 400, 36), (20, 4, 37), (20, 24, 38), (20, 60, 40), (20, 60, 41), (20, 60, 42), (21, 60, 43), (20, 20, 44), (20, 800, 45), (20, 800, 46), (21, 400, 47), (20, 36, 50), (20, 6, 51), (20, 6, 52), (20, 6, 53)] (moH r h)) := by
  have e3 : hn (moH r h) = hn h + 5 := by show hn (mkF r [(20, 600, 1), (20, 602, 4), (20, 602, 5), (23, 602, 6)] h) + 1 = _; rw [mkF_n]; rfl
  have e4 : hs (moH r h) = hs h + 2415 := by show hs (mkF r [(20, 600, 1), (20, 602, 4), (20, 602, 5), (23, 602, 6)] h) + 9 = _; rw [mkF_s]; rfl
  have e5 : hn (mkF r [(20, 8, 11), (20, 8, 12), (20, 9, 13), (21, 144, 14), (20, 144, 15), (20, 144, 16), (20, 5940, 17), (20, 5940, 18), (20, 7, 21), (20, 7, 22), (20, 7, 23), (20, 5, 24), (20, 660, 25), (20, 20, 28), (20, 20, 29), (20, 20, 30), (20, 20, 31), (20, 400, 33), (20, 400, 34), (20, 400, 35), (20, 400, 36), (20, 4, 37), (20, 24, 38), (20, 60, 40), (20, 60, 41), (20, 60, 42), (21, 60, 43), (20, 20, 44), (20, 800, 45), (20, 800, 46), (21, 400, 47), (20, 36, 50), (20, 6, 51), (20, 6, 52), (20, 6, 53)] (moH r h)) = hn h + 40 := by rw [mkF_n, e3]; rfl
  have e6 : hs (mkF r [(20, 8, 11), (20, 8, 12), (20, 9, 13), (21, 144, 14), (20, 144, 15), (20, 144, 16), (20, 5940, 17), (20, 5940, 18), (20, 7, 21), (20, 7, 22), (20, 7, 23), (20, 5, 24), (20, 660, 25), (20, 20, 28), (20, 20, 29), (20, 20, 30), (20, 20, 31), (20, 400, 33), (20, 400, 34), (20, 400, 35), (20, 400, 36), (20, 4, 37), (20, 24, 38), (20, 60, 40), (20, 60, 41), (20, 60, 42), (21, 60, 43), (20, 20, 44), (20, 800, 45), (20, 800, 46), (21, 400, 47), (20, 36, 50), (20, 6, 51), (20, 6, 52), (20, 6, 53)] (moH r h)) = hs h + 19460 := by
    have q : mkL [(20, 8, 11), (20, 8, 12), (20, 9, 13), (21, 144, 14), (20, 144, 15), (20, 144, 16), (20, 5940, 17), (20, 5940, 18), (20, 7, 21), (20, 7, 22), (20, 7, 23), (20, 5, 24), (20, 660, 25), (20, 20, 28), (20, 20, 29), (20, 20, 30), (20, 20, 31), (20, 400, 33), (20, 400, 34), (20, 400, 35), (20, 400, 36), (20, 4, 37), (20, 24, 38), (20, 60, 40), (20, 60, 41), (20, 60, 42), (21, 60, 43), (20, 20, 44), (20, 800, 45), (20, 800, 46), (21, 400, 47), (20, 36, 50), (20, 6, 51), (20, 6, 52), (20, 6, 53)] = 17045 := by decide
    rw [mkF_s, e4]
    omega
  refine PM.of (by decide +kernel) (by decide +kernel) (by rw [e5]; exact Nat.le_add_right _ _) (by rw [e6]; exact Nat.le_add_right _ _) (Nat.le_of_ble_eq_true rfl) ?_
  rw [e5, e6]
  have aw : px_ar (pN (mkF r [(20, 600, 1), (20, 602, 4), (20, 602, 5), (23, 602, 6)] h) 23 9 9) (hn (mkF r [(20, 600, 1), (20, 602, 4), (20, 602, 5), (23, 602, 6)] h)) 23 9 := ⟨Nat.lt_succ_self _, up1_s, by decide⟩
  refine px_aload_n d_X12_init_0 rfl rfl ?_
  refine px_obji d_X12_init_1 lk_X12_1 (by decide) (Nat.le_of_ble_eq_true rfl) ?_
  refine px_heap (h2 := mkF r [] h) rfl ?_
  refine px_aload_n d_X12_init_4 rfl rfl ?_
  refine px_sipush (v := 600) d_X12_init_5 (by decide) ?_
  refine px_newI (len := 600) d_X12_init_8 ac_int (by decide) (by decide) (by rw [mkF_n]; show hn h + 0 + 1 ≤ hn h + 40; omega) (by rw [mkF_s]; show hs h + 0 + 600 ≤ hs h + 19460; omega) ?_
  refine px_putRF d_X12_init_10 fl_X12_7 (by decide) rfl rfl rfl (px_ob.N (mkF_ob [] ho)) ?_
  refine px_heap (h2 := (mkF r [(20, 600, 1)] h)) rfl ?_
  refine px_aload_n d_X12_init_13 rfl rfl ?_
  refine px_sipush (v := 602) d_X12_init_14 (by decide) ?_
  refine px_newI (len := 602) d_X12_init_17 ac_int (by decide) (by decide) (by rw [mkF_n]; show hn h + 1 + 1 ≤ hn h + 40; omega) (by rw [mkF_s]; show hs h + 600 + 602 ≤ hs h + 19460; omega) ?_
  refine px_putRF d_X12_init_19 fl_X12_13 (by decide) rfl rfl rfl (px_ob.N (mkF_ob [(20, 600, 1)] ho)) ?_
  refine px_heap (h2 := (mkF r [(20, 600, 1), (20, 602, 4)] h)) rfl ?_
  refine px_aload_n d_X12_init_22 rfl rfl ?_
  refine px_sipush (v := 602) d_X12_init_23 (by decide) ?_
  refine px_newI (len := 602) d_X12_init_26 ac_int (by decide) (by decide) (by rw [mkF_n]; show hn h + 2 + 1 ≤ hn h + 40; omega) (by rw [mkF_s]; show hs h + 1202 + 602 ≤ hs h + 19460; omega) ?_
  refine px_putRF d_X12_init_28 fl_X12_16 (by decide) rfl rfl rfl (px_ob.N (mkF_ob [(20, 600, 1), (20, 602, 4)] ho)) ?_
  refine px_heap (h2 := (mkF r [(20, 600, 1), (20, 602, 4), (20, 602, 5)] h)) rfl ?_
  refine px_aload_n d_X12_init_31 rfl rfl ?_
  refine px_sipush (v := 602) d_X12_init_32 (by decide) ?_
  refine px_newJ (len := 602) d_X12_init_35 ac_long (by decide) (by decide) (by rw [mkF_n]; show hn h + 3 + 1 ≤ hn h + 40; omega) (by rw [mkF_s]; show hs h + 1804 + 602 ≤ hs h + 19460; omega) ?_
  refine px_putRF d_X12_init_37 fl_X12_19 (by decide) rfl rfl rfl (px_ob.N (mkF_ob [(20, 600, 1), (20, 602, 4), (20, 602, 5)] ho)) ?_
  refine px_heap (h2 := (mkF r [(20, 600, 1), (20, 602, 4), (20, 602, 5), (23, 602, 6)] h)) rfl ?_
  refine px_aload_n d_X12_init_40 rfl rfl ?_
  refine px_bipush (v := 9) d_X12_init_41 (by decide) ?_
  refine px_newJ (len := 9) d_X12_init_43 ac_long (by decide) (by decide) (by rw [mkF_n]; show hn h + 4 + 1 ≤ hn h + 40; omega) (by rw [mkF_s]; show hs h + 2406 + 9 ≤ hs h + 19460; omega) ?_
  refine px_dup d_X12_init_45 rfl ?_
  refine px_iconst (v := 0) d_X12_init_46 (by decide) ?_
  refine px_ldc2 d_X12_init_47 cl_X12_23 ?_
  refine px_last (j := 0) d_X12_init_50 aw rfl (by decide) ?_
  refine px_dup d_X12_init_51 rfl ?_
  refine px_iconst (v := 1) d_X12_init_52 (by decide) ?_
  refine px_ldc2 d_X12_init_53 cl_X12_25 ?_
  refine px_last (j := 1) d_X12_init_56 aw rfl (by decide) ?_
  refine px_dup d_X12_init_57 rfl ?_
  refine px_iconst (v := 2) d_X12_init_58 (by decide) ?_
  refine px_ldc2 d_X12_init_59 cl_X12_27 ?_
  refine px_last (j := 2) d_X12_init_62 aw rfl (by decide) ?_
  refine px_dup d_X12_init_63 rfl ?_
  refine px_iconst (v := 3) d_X12_init_64 (by decide) ?_
  refine px_ldc2 d_X12_init_65 cl_X12_29 ?_
  refine px_last (j := 3) d_X12_init_68 aw rfl (by decide) ?_
  refine px_dup d_X12_init_69 rfl ?_
  refine px_iconst (v := 4) d_X12_init_70 (by decide) ?_
  refine px_ldc2 d_X12_init_71 cl_X12_31 ?_
  refine px_last (j := 4) d_X12_init_74 aw rfl (by decide) ?_
  refine px_dup d_X12_init_75 rfl ?_
  refine px_iconst (v := 5) d_X12_init_76 (by decide) ?_
  refine px_ldc2 d_X12_init_77 cl_X12_33 ?_
  refine px_last (j := 5) d_X12_init_80 aw rfl (by decide) ?_
  refine px_dup d_X12_init_81 rfl ?_
  refine px_bipush (v := 6) d_X12_init_82 (by decide) ?_
  refine px_ldc2 d_X12_init_84 cl_X12_35 ?_
  refine px_last (j := 6) d_X12_init_87 aw rfl (by decide) ?_
  refine px_dup d_X12_init_88 rfl ?_
  refine px_bipush (v := 7) d_X12_init_89 (by decide) ?_
  refine px_ldc2 d_X12_init_91 cl_X12_37 ?_
  refine px_last (j := 7) d_X12_init_94 aw rfl (by decide) ?_
  refine px_dup d_X12_init_95 rfl ?_
  refine px_bipush (v := 8) d_X12_init_96 (by decide) ?_
  refine px_ldc2 d_X12_init_98 cl_X12_39 ?_
  refine px_last (j := 8) d_X12_init_101 aw rfl (by decide) ?_
  refine px_putRF d_X12_init_102 fl_X12_41 (by decide) rfl rfl rfl (px_ob.N (mkF_ob [(20, 600, 1), (20, 602, 4), (20, 602, 5), (23, 602, 6)] ho)) ?_
  refine px_heap (h2 := moH r h) rfl ?_
  refine px_heap (h2 := mkF r [] (moH r h)) rfl ?_
  exact tl_X12_init ho ⟨rfl, rfl, rfl⟩
def e00 : PH := (fun _ _ => 0, fun _ _ => 0, fun _ _ => none, fun _ => (0, 0), 0, 0)
def e01 : PH := pN e00 11 0 (px_CT 11).2.2
def e02 : PH := pN e01 24 20 20
def e03 : PH := pR e02 0 0 (some 1)
def e04 : PH := pN e03 2 0 (px_CT 2).2.2
def e05 : PH := mkF 2 [(20, 400, 0), (20, 400, 1), (20, 400, 2), (20, 400, 3)] e04
def e06 : PH := pR e05 0 1 (some 2)
def e07 : PH := pN e06 9 0 (px_CT 9).2.2
def e08 : PH := mkF 7 [(22, 600, 0)] e07
def e09 : PH := pR e08 0 2 (some 7)
def e10 : PH := pN e09 3 0 (px_CT 3).2.2
def e11 : PH := mkF 9 [(20, 600, 0), (21, 6, 6)] e10
def e12 : PH := pR e11 0 3 (some 9)
def e13 : PH := pN e12 10 0 (px_CT 10).2.2
def e14 : PH := mkF 12 [(25, 8, 0)] e13
def e15 : PH := pR e14 0 4 (some 12)
def e16 : PH := pN e15 5 0 (px_CT 5).2.2
def e17 : PH := mkF 14 [(20, 6, 6), (20, 6, 7), (20, 6, 8), (20, 6, 9), (20, 6, 10), (20, 6, 11)] e16
def e18 : PH := pR e17 0 5 (some 14)
def e19 : PH := pN e18 7 0 (px_CT 7).2.2
def e20 : PH := pR (pR (pR (mkF 21 [(20, 720, 3)] e19) 21 0 (some 2)) 21 1 (some 12)) 21 2 (some 14)
def e21 : PH := pR e20 0 6 (some 21)
def e22 : PH := pN e21 6 0 (px_CT 6).2.2
def e23 : PH := mkF 23 [(20, 60, 0), (20, 60, 1), (20, 60, 2), (21, 60, 3)] e22
def e24 : PH := pR e23 0 7 (some 23)
def e25 : PH := pN e24 1 0 (px_CT 1).2.2
def e26 : PH := mkF 28 [(20, 4, 0)] e25
def e27 : PH := pR e26 0 8 (some 28)
def e28 : PH := pN e27 4 0 (px_CT 4).2.2
def e29 : PH := mkF 30 [(20, 6, 0), (20, 6, 1), (20, 6, 2), (20, 6, 4), (23, 64, 6)] e28
def e30 : PH := pR e29 0 9 (some 30)
theorem c_X11_init   : PM M_X11_init [.ref 0] e01 none e30 := by
  refine PM.of (by decide +kernel) (by decide +kernel) (by decide +kernel) (by decide +kernel) (Nat.le_of_ble_eq_true rfl) ?_
  refine px_aload_n d_X11_init_0 rfl rfl ?_
  refine px_obji d_X11_init_1 lk_X11_3 (by decide) (Nat.le_of_ble_eq_true rfl) ?_
  refine px_aload_n d_X11_init_4 rfl rfl ?_
  refine px_bipush (v := 20) d_X11_init_5 (by decide) ?_
  refine px_newA (len := 20) d_X11_init_7 cc_X11_9 (by decide) (by decide) (by decide) (by decide +kernel) (by decide +kernel) ?_
  refine px_heap (h2 := e02) rfl ?_
  refine px_vallS (w := .ref 1) rfl ?_
  refine px_putRF d_X11_init_10 fl_X11_11 (by decide) rfl rfl rfl (show px_ob e02 0 11 from ⟨by decide +kernel, by decide +kernel⟩) ?_
  refine px_heap (h2 := e03) rfl ?_
  refine px_aload_n d_X11_init_13 rfl rfl ?_
  refine px_new (ci := 2) d_X11_init_14 (by decide) cc_X11_15 in_X2 ii_X2 (by decide +kernel) (by decide +kernel) ?_
  refine px_heap (h2 := e04) rfl ?_
  refine px_vallS (w := .ref 2) rfl ?_
  refine px_dup d_X11_init_17 rfl ?_
  refine px_callIN (c_X2_init (h := e04) (r := 2) (show px_ob e04 2 2 from ⟨by decide +kernel, by decide +kernel⟩)) d_X11_init_18 ln_X11_17 ok_X2_init oi_X2_init rfl rfl (Nat.le_of_ble_eq_true rfl) (by decide) ⟨by decide +kernel, by decide +kernel⟩ ?_
  refine px_heap (h2 := e05) rfl ?_
  refine px_putRF d_X11_init_21 fl_X11_18 (by decide) rfl rfl rfl (show px_ob e05 0 11 from ⟨by decide +kernel, by decide +kernel⟩) ?_
  refine px_heap (h2 := e06) rfl ?_
  refine px_aload_n d_X11_init_24 rfl rfl ?_
  refine px_new (ci := 9) d_X11_init_25 (by decide) cc_X11_22 in_X9 ii_X9 (by decide +kernel) (by decide +kernel) ?_
  refine px_heap (h2 := e07) rfl ?_
  refine px_vallS (w := .ref 7) rfl ?_
  refine px_dup d_X11_init_28 rfl ?_
  refine px_callIN (c_X9_init (h := e07) (r := 7) (show px_ob e07 7 9 from ⟨by decide +kernel, by decide +kernel⟩)) d_X11_init_29 ln_X11_24 ok_X9_init oi_X9_init rfl rfl (Nat.le_of_ble_eq_true rfl) (by decide) ⟨by decide +kernel, by decide +kernel⟩ ?_
  refine px_heap (h2 := e08) rfl ?_
  refine px_putRF d_X11_init_32 fl_X11_25 (by decide) rfl rfl rfl (show px_ob e08 0 11 from ⟨by decide +kernel, by decide +kernel⟩) ?_
  refine px_heap (h2 := e09) rfl ?_
  refine px_aload_n d_X11_init_35 rfl rfl ?_
  refine px_new (ci := 3) d_X11_init_36 (by decide) cc_X11_29 in_X3 ii_X3 (by decide +kernel) (by decide +kernel) ?_
  refine px_heap (h2 := e10) rfl ?_
  refine px_vallS (w := .ref 9) rfl ?_
  refine px_dup d_X11_init_39 rfl ?_
  refine px_callIN (c_X3_init (h := e10) (r := 9) (show px_ob e10 9 3 from ⟨by decide +kernel, by decide +kernel⟩)) d_X11_init_40 ln_X11_31 ok_X3_init oi_X3_init rfl rfl (Nat.le_of_ble_eq_true rfl) (by decide) ⟨by decide +kernel, by decide +kernel⟩ ?_
  refine px_heap (h2 := e11) rfl ?_
  refine px_putRF d_X11_init_43 fl_X11_32 (by decide) rfl rfl rfl (show px_ob e11 0 11 from ⟨by decide +kernel, by decide +kernel⟩) ?_
  refine px_heap (h2 := e12) rfl ?_
  refine px_aload_n d_X11_init_46 rfl rfl ?_
  refine px_new (ci := 10) d_X11_init_47 (by decide) cc_X11_36 in_X10 ii_X10 (by decide +kernel) (by decide +kernel) ?_
  refine px_heap (h2 := e13) rfl ?_
  refine px_vallS (w := .ref 12) rfl ?_
  refine px_dup d_X11_init_50 rfl ?_
  refine px_callIN (c_X10_init (h := e13) (r := 12) (show px_ob e13 12 10 from ⟨by decide +kernel, by decide +kernel⟩)) d_X11_init_51 ln_X11_38 ok_X10_init oi_X10_init rfl rfl (Nat.le_of_ble_eq_true rfl) (by decide) ⟨by decide +kernel, by decide +kernel⟩ ?_
  refine px_heap (h2 := e14) rfl ?_
  refine px_putRF d_X11_init_54 fl_X11_39 (by decide) rfl rfl rfl (show px_ob e14 0 11 from ⟨by decide +kernel, by decide +kernel⟩) ?_
  refine px_heap (h2 := e15) rfl ?_
  refine px_aload_n d_X11_init_57 rfl rfl ?_
  refine px_new (ci := 5) d_X11_init_58 (by decide) cc_X11_43 in_X5 ii_X5 (by decide +kernel) (by decide +kernel) ?_
  refine px_heap (h2 := e16) rfl ?_
  refine px_vallS (w := .ref 14) rfl ?_
  refine px_dup d_X11_init_61 rfl ?_
  refine px_callIN (c_X5_init (h := e16) (r := 14) (show px_ob e16 14 5 from ⟨by decide +kernel, by decide +kernel⟩)) d_X11_init_62 ln_X11_45 ok_X5_init oi_X5_init rfl rfl (Nat.le_of_ble_eq_true rfl) (by decide) ⟨by decide +kernel, by decide +kernel⟩ ?_
  refine px_heap (h2 := e17) rfl ?_
  refine px_putRF d_X11_init_65 fl_X11_46 (by decide) rfl rfl rfl (show px_ob e17 0 11 from ⟨by decide +kernel, by decide +kernel⟩) ?_
  refine px_heap (h2 := e18) rfl ?_
  refine px_aload_n d_X11_init_68 rfl rfl ?_
  refine px_new (ci := 7) d_X11_init_69 (by decide) cc_X11_50 in_X7 ii_X7 (by decide +kernel) (by decide +kernel) ?_
  refine px_heap (h2 := e19) rfl ?_
  refine px_vallS (w := .ref 21) rfl ?_
  refine px_dup d_X11_init_72 rfl ?_
  refine px_aload_n d_X11_init_73 rfl rfl ?_
  refine px_getR d_X11_init_74 fl_X11_18 (by decide) (show px_ob e19 0 11 from ⟨by decide +kernel, by decide +kernel⟩) (show hR e19 0 1 = some 2 from by decide +kernel) ?_
  refine px_aload_n d_X11_init_77 rfl rfl ?_
  refine px_getR d_X11_init_78 fl_X11_39 (by decide) (show px_ob e19 0 11 from ⟨by decide +kernel, by decide +kernel⟩) (show hR e19 0 4 = some 12 from by decide +kernel) ?_
  refine px_aload_n d_X11_init_81 rfl rfl ?_
  refine px_getR d_X11_init_82 fl_X11_46 (by decide) (show px_ob e19 0 11 from ⟨by decide +kernel, by decide +kernel⟩) (show hR e19 0 5 = some 14 from by decide +kernel) ?_
  refine px_callI (c_X7_init (h := e19) (r := 21) (show px_ob e19 21 7 from ⟨by decide +kernel, by decide +kernel⟩)) d_X11_init_85 lk_X11_52 ok_X7_init oi_X7_init rfl rfl (Nat.le_of_ble_eq_true rfl) (by decide) ⟨by decide +kernel, by decide +kernel⟩ ?_
  refine px_heap (h2 := e20) rfl ?_
  refine px_putRF d_X11_init_88 fl_X11_55 (by decide) rfl rfl rfl (show px_ob e20 0 11 from ⟨by decide +kernel, by decide +kernel⟩) ?_
  refine px_heap (h2 := e21) rfl ?_
  refine px_aload_n d_X11_init_91 rfl rfl ?_
  refine px_new (ci := 6) d_X11_init_92 (by decide) cc_X11_59 in_X6 ii_X6 (by decide +kernel) (by decide +kernel) ?_
  refine px_heap (h2 := e22) rfl ?_
  refine px_vallS (w := .ref 23) rfl ?_
  refine px_dup d_X11_init_95 rfl ?_
  refine px_callIN (c_X6_init (h := e22) (r := 23) (show px_ob e22 23 6 from ⟨by decide +kernel, by decide +kernel⟩)) d_X11_init_96 ln_X11_61 ok_X6_init oi_X6_init rfl rfl (Nat.le_of_ble_eq_true rfl) (by decide) ⟨by decide +kernel, by decide +kernel⟩ ?_
  refine px_heap (h2 := e23) rfl ?_
  refine px_putRF d_X11_init_99 fl_X11_62 (by decide) rfl rfl rfl (show px_ob e23 0 11 from ⟨by decide +kernel, by decide +kernel⟩) ?_
  refine px_heap (h2 := e24) rfl ?_
  refine px_aload_n d_X11_init_102 rfl rfl ?_
  refine px_new (ci := 1) d_X11_init_103 (by decide) cc_X11_66 in_X1 ii_X1 (by decide +kernel) (by decide +kernel) ?_
  refine px_heap (h2 := e25) rfl ?_
  refine px_vallS (w := .ref 28) rfl ?_
  refine px_dup d_X11_init_106 rfl ?_
  refine px_callIN (c_X1_init (h := e25) (r := 28) (show px_ob e25 28 1 from ⟨by decide +kernel, by decide +kernel⟩)) d_X11_init_107 ln_X11_68 ok_X1_init oi_X1_init rfl rfl (Nat.le_of_ble_eq_true rfl) (by decide) ⟨by decide +kernel, by decide +kernel⟩ ?_
  refine px_heap (h2 := e26) rfl ?_
  refine px_putRF d_X11_init_110 fl_X11_69 (by decide) rfl rfl rfl (show px_ob e26 0 11 from ⟨by decide +kernel, by decide +kernel⟩) ?_
  refine px_heap (h2 := e27) rfl ?_
  refine px_aload_n d_X11_init_113 rfl rfl ?_
  refine px_new (ci := 4) d_X11_init_114 (by decide) cc_X11_73 in_X4 ii_X4 (by decide +kernel) (by decide +kernel) ?_
  refine px_heap (h2 := e28) rfl ?_
  refine px_vallS (w := .ref 30) rfl ?_
  refine px_dup d_X11_init_117 rfl ?_
  refine px_callIN (c_X4_init (h := e28) (r := 30) (show px_ob e28 30 4 from ⟨by decide +kernel, by decide +kernel⟩)) d_X11_init_118 ln_X11_75 ok_X4_init oi_X4_init rfl rfl (Nat.le_of_ble_eq_true rfl) (by decide) ⟨by decide +kernel, by decide +kernel⟩ ?_
  refine px_heap (h2 := e29) rfl ?_
  refine px_putRF d_X11_init_121 fl_X11_76 (by decide) rfl rfl rfl (show px_ob e29 0 11 from ⟨by decide +kernel, by decide +kernel⟩) ?_
  refine px_heap (h2 := e30) rfl ?_
  exact px_return d_X11_init_124 rfl ⟨rfl, rfl, rfl⟩
/-- the class, the reference, the answers' row -/
def eC : PH := e30
def eM0 : PH := pN eC 12 0 (px_CT 12).2.2
def eM : PH := mkF 36 [(20, 8, 11), (20, 8, 12), (20, 9, 13), (21, 144, 14), (20, 144, 15), (20, 144, 16), (20, 5940, 17), (20, 5940, 18), (20, 7, 21), (20, 7, 22), (20, 7, 23), (20, 5, 24), (20, 660, 25), (20, 20, 28), (20, 20, 29), (20, 20, 30), (20, 20, 31), (20, 400, 33), (20, 400, 34), (20, 400, 35), (20, 400, 36), (20, 4, 37), (20, 24, 38), (20, 60, 40), (20, 60, 41), (20, 60, 42), (21, 60, 43), (20, 20, 44), (20, 800, 45), (20, 800, 46), (21, 400, 47), (20, 36, 50), (20, 6, 51), (20, 6, 52), (20, 6, 53)] (moH 36 eM0)
def eO : PH := pN eM 23 1 1
theorem eM_c : PM M_X12_init [.ref 36] eM0 none eM := c_X12_init (show px_ob eM0 36 12 from ⟨by decide +kernel, by decide +kernel⟩)
theorem eC_n : hn eC = 36 ∧ hs eC = hs eC := ⟨by decide +kernel, rfl⟩
theorem eO_n : hn eO = 78 := by decide +kernel
theorem eO_K : ∀ k, k < 78 → hK eO k = px_KT k := by decide +kernel
