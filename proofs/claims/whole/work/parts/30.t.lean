theorem c_X2_isFull {h : PH} (hL : px_L h) : PM M_X2_isFull [.ref 2] h (some (.int (if hI h 2 4 < 400 then 0 else 1))) h := by
  refine PM.of (by decide +kernel) (by decide +kernel) (Nat.le_refl _) (Nat.le_refl _) (Nat.le_of_ble_eq_true rfl) ?_
  refine px_aload_n d_X2_isFull_0 rfl rfl ?_
  refine px_getI d_X2_isFull_1 fl_X2_24 rfl (so2 hL) ?_
  refine px_sipush (v := 400) d_X2_isFull_4 (by decide) ?_
  refine px_icmp_lt (tgt := 14) d_X2_isFull_7 (by decide) (fun c7 => ?_) (fun c7 => ?_)
  · refine px_iconst (v := 0) d_X2_isFull_14 (by decide) ?_
    exact px_ireturn d_X2_isFull_15 rfl rfl ⟨rfl, by simp [c7], rfl⟩
  · refine px_iconst (v := 1) d_X2_isFull_10 (by decide) ?_
    refine px_goto (tgt := 15) d_X2_isFull_11 (by decide) ?_
    exact px_ireturn d_X2_isFull_15 rfl rfl ⟨rfl, by simp [c7], rfl⟩
/-- how many of the first n are a -/
def cnt1 (f : Nat → Int32) (a : Int32) : Nat → Int32
  | 0 => 0
  | n + 1 => cnt1 f a n + (if f n = a then 1 else 0)
theorem lp_X2_countOf {h : PH} (hL : px_L h) {a : Int32} {n : Nat} (hs1 : hI h 2 4 = nI n) (hn4 : n ≤ 400) : ∀ (k : Nat) (i : Nat), i + k = n → PW M_X2_countOf (hn h) (hs h) (PMpost (some (.int (cnt1 (hI h 3) a n))) h) 4 [(0, .ref 2), (1, .int a), (2, .int (cnt1 (hI h 3) a (i))), (3, .int (nI (i)))] [] h := by
  intro k
  induction k with
  | zero =>
    intro i hi
    have e : i = n := by omega
    subst e
    refine px_iload_n d_X2_countOf_4 rfl rfl ?_
    refine px_aload_n d_X2_countOf_5 rfl rfl ?_
    refine px_getI d_X2_countOf_6 fl_X2_24 rfl (so2 hL) ?_
    refine px_icmp_ge (tgt := 31) d_X2_countOf_9 (by decide) (fun c9 => ?_) (fun c9 => (c9 (by rw [hs1]; exact nI_le (by omega) (by omega))).elim)
    refine px_iload_n d_X2_countOf_31 rfl rfl ?_
    exact px_ireturn d_X2_countOf_32 rfl rfl ⟨rfl, rfl, rfl⟩
  | succ k ih =>
    intro i hi
    refine px_iload_n d_X2_countOf_4 rfl rfl ?_
    refine px_aload_n d_X2_countOf_5 rfl rfl ?_
    refine px_getI d_X2_countOf_6 fl_X2_24 rfl (so2 hL) ?_
    refine px_icmp_ge (tgt := 31) d_X2_countOf_9 (by decide) (fun c9 => absurd c9 (by rw [hs1]; exact nI_ge (by omega) (by omega))) (fun c9 => ?_)
    refine px_aload_n d_X2_countOf_12 rfl rfl ?_
    refine px_getR d_X2_countOf_13 fl_X2_9 (by decide) (so2 hL) (sr2_0 hL) ?_
    refine px_iload_n d_X2_countOf_16 rfl rfl ?_
    refine px_iald d_X2_countOf_17 (sa3 hL) rfl (by omega) ?_
    refine px_iload_n d_X2_countOf_18 rfl rfl ?_
    refine px_icmp_ne (tgt := 25) d_X2_countOf_19 (by decide) (fun c19 => ?_) (fun c19 => ?_)
    · refine px_inc1 d_X2_countOf_25 rfl (by decide) ?_
      refine px_goto (tgt := 4) d_X2_countOf_28 (by decide) ?_
      refine px_drop (lv' := [(0, .ref 2), (1, .int a), (2, .int (cnt1 (hI h 3) a (i + 1))), (3, .int (nI (i + 1)))]) ⟨rfl, rfl, px_si (by simp [cnt1, c19]), px_si (nI_s1 _), trivial⟩ ?_
      exact ih (i + 1) (by omega)
    · refine px_inc1 d_X2_countOf_22 rfl (by decide) ?_
      refine px_inc1 d_X2_countOf_25 rfl (by decide) ?_
      refine px_goto (tgt := 4) d_X2_countOf_28 (by decide) ?_
      refine px_drop (lv' := [(0, .ref 2), (1, .int a), (2, .int (cnt1 (hI h 3) a (i + 1))), (3, .int (nI (i + 1)))]) ⟨rfl, rfl, px_si (by simp [cnt1, c19]), px_si (nI_s1 _), trivial⟩ ?_
      exact ih (i + 1) (by omega)
theorem c_X2_countOf {h : PH} (hL : px_L h) {a : Int32} {n : Nat} (hs1 : hI h 2 4 = nI n) (hn4 : n ≤ 400) : PM M_X2_countOf [.ref 2, .int a] h (some (.int (cnt1 (hI h 3) a n))) h := by
  refine PM.of (by decide +kernel) (by decide +kernel) (Nat.le_refl _) (Nat.le_refl _) (Nat.le_of_ble_eq_true rfl) ?_
  refine px_iconst (v := 0) d_X2_countOf_0 (by decide) ?_
  refine px_istore_n d_X2_countOf_1 rfl (by decide) ?_
  refine px_iconst (v := 0) d_X2_countOf_2 (by decide) ?_
  refine px_istore_n d_X2_countOf_3 rfl (by decide) ?_
  exact lp_X2_countOf hL hs1 hn4 n 0 (by omega)
