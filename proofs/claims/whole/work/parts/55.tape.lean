def isBb (c : Int32) : Bool := decide (c = 10 ∨ c = 32)
def isLb (c : Int32) : Bool := decide (¬ c < 97 ∧ ¬ 122 < c)
def isDb (c : Int32) : Bool := decide (¬ c < 48 ∧ ¬ 57 < c)
/-- the end of a run of signs -/
def run (P : Int32 → Bool) (S : Nat → Int32) : Nat → Nat → Nat
  | 0, i => i
  | k + 1, i => if P (S i) = true then run P S k (i + 1) else i
theorem run_y {P : Int32 → Bool} {S : Nat → Int32} {k i : Nat} (h : P (S i) = true) : run P S (k + 1) i = run P S k (i + 1) := if_pos h
theorem run_n {P : Int32 → Bool} {S : Nat → Int32} {k i : Nat} (h : ¬ P (S i) = true) : run P S (k + 1) i = i := if_neg h
theorem run_ge {P : Int32 → Bool} {S : Nat → Int32} : ∀ (k i : Nat), i ≤ run P S k i ∧ run P S k i ≤ i + k
  | 0, i => ⟨Nat.le_refl _, Nat.le_refl _⟩
  | k + 1, i => by
    by_cases h : P (S i) = true
    · rw [run_y h]
      have := run_ge (P := P) (S := S) k (i + 1)
      omega
    · rw [run_n h]; omega
/-- a number's worth: its first five digits -/
def nvI (S : Nat → Int32) (p : Nat) : Nat → Int32
  | 0 => 0
  | m + 1 => if m < 5 then nvI S p m * 10 + (S (p + m) - 48) else nvI S p m
/-- a word's letters, from the j-th on -/
def mtF (S : Nat → Int32) (p i : Nat) : Nat → Nat → Bool
  | 0, _ => true
  | k + 1, j => if S (p + j) = (px_SB.getD i []).getD j 0 then mtF S p i k (j + 1) else false
def wmB (S : Nat → Int32) (p m i : Nat) : Bool := decide (m = px_SL.getD i 0) && mtF S p i (px_SL.getD i 0) 0
def wcd (S : Nat → Int32) (p m : Nat) : Int32 := if wmB S p m 0 = true then -3 else if wmB S p m 1 = true then -4 else if wmB S p m 2 = true then -5 else if wmB S p m 3 = true then -6 else if wmB S p m 4 = true then -7 else if wmB S p m 5 = true then -8 else if wmB S p m 6 = true then -9 else if wmB S p m 7 = true then -10 else if wmB S p m 8 = true then -11 else -2
def sgnT (c : Int32) : Int32 := if c = 40 then -12 else if c = 41 then -13 else if c = 60 then -14 else if c = 61 then -15 else if c = 43 then -16 else if c = 45 then -17 else if c = 59 then -18 else -2
/-- where a token ends, and what it is -/
def enT (S : Nat → Int32) (n p : Nat) : Nat := if p < n then (if isLb (S p) = true then run isLb S (n - p) p else if isDb (S p) = true then run isDb S (n - p) p else p + 1) else p
def tkT (S : Nat → Int32) (n p : Nat) : Int32 := if p < n then (if isLb (S p) = true then (if 8 < run isLb S (n - p) p - p then -2 else wcd S p (run isLb S (n - p) p - p)) else if isDb (S p) = true then (if 5 < run isDb S (n - p) p - p then -2 else nvI S p (run isDb S (n - p) p - p)) else sgnT (S p)) else -1
def tpS (h : PH) (p a : Nat) : PH := pI (pI h 7 2 (nI p)) 7 3 (nI a)
theorem nI_sub {a b : Nat} (h : b ≤ a) : nI a - nI b = nI (a - b) := by
  have e : nI a = nI (a - b) + nI b := by rw [nI_add]; congr 1; omega
  rw [e]
  exact Int32.add_sub_cancel _ _
theorem isLb_t {c : Int32} (h : ¬ bI (¬ c < 97 ∧ ¬ 122 < c) = 0) : isLb c = true := decide_eq_true (bI_n.mp h)
theorem isLb_f {c : Int32} (h : bI (¬ c < 97 ∧ ¬ 122 < c) = 0) : ¬ isLb c = true := fun q => absurd (of_decide_eq_true q) (bI_0.mp h)
theorem isDb_t {c : Int32} (h : ¬ bI (¬ c < 48 ∧ ¬ 57 < c) = 0) : isDb c = true := decide_eq_true (bI_n.mp h)
theorem isDb_f {c : Int32} (h : bI (¬ c < 48 ∧ ¬ 57 < c) = 0) : ¬ isDb c = true := fun q => absurd (of_decide_eq_true q) (bI_0.mp h)
theorem c_X9_signToken {h : PH} {c : Int32}  : PM M_X9_signToken [.int c] h (some (.int (sgnT c))) h := by
  refine PM.of (by decide +kernel) (by decide +kernel) (Nat.le_refl _) (Nat.le_refl _) (Nat.le_of_ble_eq_true rfl) ?_
  refine px_iload_n d_X9_signToken_0 rfl rfl ?_
  by_cases w1_40 : c = 40
  · refine px_tabI (off := 103) (tgt := 104) d_X9_signToken_1 (by rw [w1_40]; decide) (by rw [w1_40]; decide) (by rw [w1_40]; decide) (by decide) ?_
    refine px_bipush (v := (-12)) d_X9_signToken_104 (by decide) ?_
    exact px_ireturn d_X9_signToken_106 rfl rfl ⟨rfl, px_si (by simp [sgnT, w1_40]), rfl⟩
  by_cases w1_41 : c = 41
  · refine px_tabI (off := 106) (tgt := 107) d_X9_signToken_1 (by rw [w1_41]; decide) (by rw [w1_41]; decide) (by rw [w1_41]; decide) (by decide) ?_
    refine px_bipush (v := (-13)) d_X9_signToken_107 (by decide) ?_
    exact px_ireturn d_X9_signToken_109 rfl rfl ⟨rfl, px_si (by simp [sgnT, w1_40, w1_41]), rfl⟩
  by_cases w1_43 : c = 43
  · refine px_tabI (off := 115) (tgt := 116) d_X9_signToken_1 (by rw [w1_43]; decide) (by rw [w1_43]; decide) (by rw [w1_43]; decide) (by decide) ?_
    refine px_bipush (v := (-16)) d_X9_signToken_116 (by decide) ?_
    exact px_ireturn d_X9_signToken_118 rfl rfl ⟨rfl, px_si (by simp [sgnT, w1_40, w1_41, w1_43]), rfl⟩
  by_cases w1_45 : c = 45
  · refine px_tabI (off := 118) (tgt := 119) d_X9_signToken_1 (by rw [w1_45]; decide) (by rw [w1_45]; decide) (by rw [w1_45]; decide) (by decide) ?_
    refine px_bipush (v := (-17)) d_X9_signToken_119 (by decide) ?_
    exact px_ireturn d_X9_signToken_121 rfl rfl ⟨rfl, px_si (by simp [sgnT, w1_40, w1_41, w1_43, w1_45]), rfl⟩
  by_cases w1_59 : c = 59
  · refine px_tabI (off := 121) (tgt := 122) d_X9_signToken_1 (by rw [w1_59]; decide) (by rw [w1_59]; decide) (by rw [w1_59]; decide) (by decide) ?_
    refine px_bipush (v := (-18)) d_X9_signToken_122 (by decide) ?_
    exact px_ireturn d_X9_signToken_124 rfl rfl ⟨rfl, px_si (by simp [sgnT, w1_40, w1_41, w1_43, w1_45, w1_59]), rfl⟩
  by_cases w1_60 : c = 60
  · refine px_tabI (off := 109) (tgt := 110) d_X9_signToken_1 (by rw [w1_60]; decide) (by rw [w1_60]; decide) (by rw [w1_60]; decide) (by decide) ?_
    refine px_bipush (v := (-14)) d_X9_signToken_110 (by decide) ?_
    exact px_ireturn d_X9_signToken_112 rfl rfl ⟨rfl, px_si (by simp [sgnT, w1_40, w1_41, w1_43, w1_45, w1_59, w1_60]), rfl⟩
  by_cases w1_61 : c = 61
  · refine px_tabI (off := 112) (tgt := 113) d_X9_signToken_1 (by rw [w1_61]; decide) (by rw [w1_61]; decide) (by rw [w1_61]; decide) (by decide) ?_
    refine px_bipush (v := (-15)) d_X9_signToken_113 (by decide) ?_
    exact px_ireturn d_X9_signToken_115 rfl rfl ⟨rfl, px_si (by simp [sgnT, w1_40, w1_41, w1_43, w1_45, w1_59, w1_60, w1_61]), rfl⟩
  have zw1_40 := px_neT (a := 40) 40 (by decide) w1_40
  have zw1_41 := px_neT (a := 41) 41 (by decide) w1_41
  have zw1_43 := px_neT (a := 43) 43 (by decide) w1_43
  have zw1_45 := px_neT (a := 45) 45 (by decide) w1_45
  have zw1_59 := px_neT (a := 59) 59 (by decide) w1_59
  have zw1_60 := px_neT (a := 60) 60 (by decide) w1_60
  have zw1_61 := px_neT (a := 61) 61 (by decide) w1_61
  refine px_tabD (tgt := 125) [40, 41, 43, 45, 59, 60, 61] d_X9_signToken_1 (by decide) (by decide) (by simp only [List.mem_cons, List.not_mem_nil, or_false]; omega) (by decide) ?_
  refine px_bipush (v := (-2)) d_X9_signToken_125 (by decide) ?_
  exact px_ireturn d_X9_signToken_127 rfl rfl ⟨rfl, px_si (by simp [sgnT, w1_40, w1_41, w1_43, w1_45, w1_59, w1_60, w1_61]), rfl⟩
theorem lp_X9_isWord {h : PH} (hL : px_L h) {n p m i : Nat} (hi : i < px_SN) (hp : hI h 7 2 = nI p) (ha : hI h 7 3 = nI (p + m)) (hn6 : p + m ≤ 600) (hm : m = (px_SL.getD i 0)) : ∀ (k j : Nat), j + k = (px_SL.getD i 0) → PW M_X9_isWord (hn h) (hs h) (PMpost (some (.int (bI (mtF (hI h 8) p i k j = true)))) h) 20 [(0, .ref 7), (1, .retAddr (1 + 2 * i)), (2, .int (nI (j)))] [] h := by
  have hb := px_SLb i hi
  intro k
  induction k with
  | zero =>
    intro j hj
    have e : j = (px_SL.getD i 0) := by omega
    rw [e]
    refine px_iload_n d_X9_isWord_20 rfl rfl ?_
    refine px_aload_nX d_X9_isWord_21 rfl rfl ?_
    refine px_callVS (as := []) hi (c_J0_length_8abf5 hi) d_X9_isWord_22 lk_X9_65 ok_J0_length_8abf5 ov_J0_length_8abf5 rfl rfl (Nat.le_of_ble_eq_true rfl) (by decide) ⟨Nat.le_refl (hn h), Nat.le_refl (hs h)⟩ ?_
    refine px_icmp_ge (tgt := 55) d_X9_isWord_25 (by decide) (fun c25 => ?_) (fun c25 => (c25 (nI_le (Nat.le_refl _) (by omega))).elim)
    refine px_iconst (v := 1) d_X9_isWord_55 (by decide) ?_
    exact px_ireturn d_X9_isWord_56 rfl rfl ⟨rfl, rfl, rfl⟩
  | succ k ih =>
    intro j hj
    refine px_iload_n d_X9_isWord_20 rfl rfl ?_
    refine px_aload_nX d_X9_isWord_21 rfl rfl ?_
    refine px_callVS (as := []) hi (c_J0_length_8abf5 hi) d_X9_isWord_22 lk_X9_65 ok_J0_length_8abf5 ov_J0_length_8abf5 rfl rfl (Nat.le_of_ble_eq_true rfl) (by decide) ⟨Nat.le_refl (hn h), Nat.le_refl (hs h)⟩ ?_
    refine px_icmp_ge (tgt := 55) d_X9_isWord_25 (by decide) (fun c25 => absurd c25 (nI_ge (by omega) (by omega))) (fun c25 => ?_)
    refine px_aload_n d_X9_isWord_28 rfl rfl ?_
    refine px_getR d_X9_isWord_29 fl_X9_9 (by decide) (so7 hL) (sr7_0 hL) ?_
    refine px_aload_n d_X9_isWord_32 rfl rfl ?_
    refine px_getI d_X9_isWord_33 fl_X9_22 rfl (so7 hL) ?_
    refine px_val (y := nI p) hp ?_
    refine px_iload_n d_X9_isWord_36 rfl rfl ?_
    refine px_iadd d_X9_isWord_37 ?_
    refine px_val (y := nI (p + j)) (nI_add _ _) ?_
    refine px_cald d_X9_isWord_38 (sa8 hL) rfl (by omega) ?_
    refine px_aload_nX d_X9_isWord_39 rfl rfl ?_
    refine px_iload_n d_X9_isWord_40 rfl rfl ?_
    refine px_callVS (as := [.int (nI j)]) hi (c_J0_charAt_5068e hi (j := j) (by omega)) d_X9_isWord_41 lk_X9_70 ok_J0_charAt_5068e ov_J0_charAt_5068e rfl rfl (Nat.le_of_ble_eq_true rfl) (by decide) ⟨Nat.le_refl (hn h), Nat.le_refl (hs h)⟩ ?_
    refine px_icmp_eq (tgt := 49) d_X9_isWord_44 (by decide) (fun c44 => ?_) (fun c44 => ?_)
    · refine px_inc1 d_X9_isWord_49 rfl (by decide) ?_
      refine px_goto (tgt := 20) d_X9_isWord_52 (by decide) ?_
      rw [show mtF (hI h 8) p i (k + 1) j = mtF (hI h 8) p i k (j + 1) from if_pos c44]
      refine px_drop (lv' := [(0, .ref 7), (1, .retAddr (1 + 2 * i)), (2, .int (nI (j + 1)))]) ⟨rfl, rfl, px_si (nI_s1 _), trivial⟩ ?_
      exact ih (j + 1) (by omega)
    · refine px_iconst (v := 0) d_X9_isWord_47 (by decide) ?_
      exact px_ireturn d_X9_isWord_48 rfl rfl ⟨rfl, px_si (bI_0.mpr (by rw [show mtF (hI h 8) p i (k + 1) j = false from if_neg c44]; decide)).symm, rfl⟩
theorem c_X9_isWord {h : PH} (hL : px_L h) {n p m i : Nat} (hi : i < px_SN) (hp : hI h 7 2 = nI p) (ha : hI h 7 3 = nI (p + m)) (hn6 : p + m ≤ 600) : PM M_X9_isWord [.ref 7, .retAddr (1 + 2 * i)] h (some (.int (bI (wmB (hI h 8) p m i = true)))) h := by
  refine PM.of (by decide +kernel) (by decide +kernel) (Nat.le_refl _) (Nat.le_refl _) (Nat.le_of_ble_eq_true rfl) ?_
  refine px_aload_nX d_X9_isWord_0 rfl rfl ?_
  refine px_callVS (as := []) hi (c_J0_length_8abf5 hi) d_X9_isWord_1 lk_X9_65 ok_J0_length_8abf5 ov_J0_length_8abf5 rfl rfl (Nat.le_of_ble_eq_true rfl) (by decide) ⟨Nat.le_refl (hn h), Nat.le_refl (hs h)⟩ ?_
  refine px_aload_n d_X9_isWord_4 rfl rfl ?_
  refine px_getI d_X9_isWord_5 fl_X9_19 rfl (so7 hL) ?_
  refine px_val (y := nI (p + m)) ha ?_
  refine px_aload_n d_X9_isWord_8 rfl rfl ?_
  refine px_getI d_X9_isWord_9 fl_X9_22 rfl (so7 hL) ?_
  refine px_val (y := nI p) hp ?_
  refine px_isub d_X9_isWord_12 ?_
  refine px_val (y := nI m) ((nI_sub (by omega)).trans (congrArg nI (by omega))) ?_
  refine px_icmp_eq (tgt := 18) d_X9_isWord_13 (by decide) (fun c13 => ?_) (fun c13 => ?_)
  · refine px_iconst (v := 0) d_X9_isWord_18 (by decide) ?_
    refine px_istore_n d_X9_isWord_19 rfl (by decide) ?_
    have hm : m = (px_SL.getD i 0) := ((nI_eq (by have := px_SLb i hi; omega) (by omega)).mp c13).symm
    rw [show (bI (wmB (hI h 8) p m i = true)) = bI (mtF (hI h 8) p i (px_SL.getD i 0) 0 = true) from by unfold wmB; rw [decide_eq_true hm, Bool.true_and]]
    refine px_drop (lv' := [(0, .ref 7), (1, .retAddr (1 + 2 * i)), (2, .int (nI (0)))]) ⟨rfl, rfl, rfl, trivial⟩ ?_
    exact lp_X9_isWord (n := 0) hL hi hp ha hn6 hm (px_SL.getD i 0) 0 (by omega)
  · refine px_iconst (v := 0) d_X9_isWord_16 (by decide) ?_
    exact px_ireturn d_X9_isWord_17 rfl rfl ⟨rfl, px_si (bI_0.mpr (by unfold wmB; rw [decide_eq_false (fun q => c13 (by rw [q]))]; simp)).symm, rfl⟩
theorem lp_X9_wordToken {h : PH} {N S0 : Nat} {Post : Nat → Option Value → PH → Prop} (hL : px_L h) {n p : Nat} (hz : hI h 7 1 = nI n) (hn6 : n ≤ 600) (hN : hn h ≤ N ∧ hs h ≤ S0) : ∀ (k i : Nat), i + k = n → PW M_X9_wordToken N S0 Post 39 [(0, .ref 7)] [] (pI h 7 3 (nI (run isLb (hI h 8) k i))) → PW M_X9_wordToken N S0 Post 0 [(0, .ref 7)] [] (pI h 7 3 (nI i)) := by
  intro k
  induction k with
  | zero =>
    intro i hi kk
    have e : i = n := by omega
    rw [e] at kk ⊢
    refine px_aload_n d_X9_wordToken_0 rfl rfl ?_
    refine px_getI d_X9_wordToken_1 fl_X9_19 rfl (so7 hL) ?_
    refine px_val (y := nI n) (gI_s _ _ _ _) ?_
    refine px_aload_n d_X9_wordToken_4 rfl rfl ?_
    refine px_getI d_X9_wordToken_5 fl_X9_15 rfl (so7 hL) ?_
    refine px_val (y := nI n) hz ?_
    refine px_icmp_ge (tgt := 39) d_X9_wordToken_8 (by decide) (fun c8 => ?_) (fun c8 => (c8 (nI_le (Nat.le_refl _) (by omega))).elim)
    exact kk
  | succ k ih =>
    intro i hi kk
    refine px_aload_n d_X9_wordToken_0 rfl rfl ?_
    refine px_getI d_X9_wordToken_1 fl_X9_19 rfl (so7 hL) ?_
    refine px_val (y := nI i) (gI_s _ _ _ _) ?_
    refine px_aload_n d_X9_wordToken_4 rfl rfl ?_
    refine px_getI d_X9_wordToken_5 fl_X9_15 rfl (so7 hL) ?_
    refine px_val (y := nI n) hz ?_
    refine px_icmp_ge (tgt := 39) d_X9_wordToken_8 (by decide) (fun c8 => absurd c8 (nI_ge (by omega) (by omega))) (fun c8 => ?_)
    refine px_aload_n d_X9_wordToken_11 rfl rfl ?_
    refine px_getR d_X9_wordToken_12 fl_X9_9 (by decide) (so7 hL) (sr7_0 hL) ?_
    refine px_aload_n d_X9_wordToken_15 rfl rfl ?_
    refine px_getI d_X9_wordToken_16 fl_X9_19 rfl (so7 hL) ?_
    refine px_val (y := nI i) (gI_s _ _ _ _) ?_
    refine px_cald d_X9_wordToken_19 (sa8 hL) rfl (by omega) ?_
    refine px_val (y := (hI h 8) i) rfl ?_
    refine px_callS (c_X9_isLetter) d_X9_wordToken_20 lk_X9_25 ok_X9_isLetter os_X9_isLetter rfl (Nat.le_of_ble_eq_true rfl) (by decide) hN ?_
    refine px_if_eq (tgt := 39) d_X9_wordToken_23 (by decide) (fun c23 => ?_) (fun c23 => ?_)
    · rw [run_n (isLb_f c23)] at kk
      exact kk
    · refine px_aload_n d_X9_wordToken_26 rfl rfl ?_
      refine px_dup d_X9_wordToken_27 rfl ?_
      refine px_getI d_X9_wordToken_28 fl_X9_19 rfl (so7 hL) ?_
      refine px_val (y := nI i) (gI_s _ _ _ _) ?_
      refine px_iconst (v := 1) d_X9_wordToken_31 (by decide) ?_
      refine px_iadd d_X9_wordToken_32 ?_
      refine px_putI d_X9_wordToken_33 fl_X9_19 rfl (so7 hL) ?_
      refine px_heap (h2 := pI h 7 3 (nI (i + 1))) ((pI_pI ..).trans (by rw [nI_s1])) ?_
      refine px_goto (tgt := 0) d_X9_wordToken_36 (by decide) ?_
      rw [run_y (isLb_t c23)] at kk
      refine px_drop (lv' := [(0, .ref 7)]) ⟨rfl, trivial⟩ ?_
      exact ih (i + 1) (by omega) kk
theorem c_X9_wordToken {h : PH} (hL : px_L h) {n p : Nat} (hz : hI h 7 1 = nI n) (hn6 : n ≤ 600) (hp : hI h 7 2 = nI p) (ha : hI h 7 3 = nI p) (hpn : p ≤ n) : PM M_X9_wordToken [.ref 7] h (some (.int (if 8 < (run isLb (hI h 8) (n - p) p) - p then -2 else wcd (hI h 8) p ((run isLb (hI h 8) (n - p) p) - p)))) (pI h 7 3 (nI (run isLb (hI h 8) (n - p) p))) := by
  refine PM.of (by decide +kernel) (by decide +kernel) (Nat.le_refl _) (Nat.le_refl _) (Nat.le_of_ble_eq_true rfl) ?_
  have hge := run_ge (P := isLb) (S := (hI h 8)) (n - p) p
  refine px_drop (lv' := [(0, .ref 7)]) ⟨rfl, trivial⟩ ?_
  refine px_heap (h2 := (pI h 7 3 (nI p))) (by rw [← ha]; exact (pI_self ..).symm) ?_
  refine lp_X9_wordToken (p := 0) hL hz hn6 ⟨Nat.le_refl (hn h), Nat.le_refl (hs h)⟩ (n - p) p (by omega) ?_
  refine px_aload_n d_X9_wordToken_39 rfl rfl ?_
  refine px_getI d_X9_wordToken_40 fl_X9_19 rfl (so7 hL) ?_
  refine px_val (y := nI (run isLb (hI h 8) (n - p) p)) (gI_s _ _ _ _) ?_
  refine px_aload_n d_X9_wordToken_43 rfl rfl ?_
  refine px_getI d_X9_wordToken_44 fl_X9_22 rfl (so7 hL) ?_
  refine px_val (y := nI p) hp ?_
  refine px_isub d_X9_wordToken_47 ?_
  refine px_val (y := nI ((run isLb (hI h 8) (n - p) p) - p)) (nI_sub hge.1) ?_
  refine px_bipush (v := 8) d_X9_wordToken_48 (by decide) ?_
  refine px_icmp_le (tgt := 56) d_X9_wordToken_50 (by decide) (fun c50 => ?_) (fun c50 => ?_)
  · refine px_aload_n d_X9_wordToken_56 rfl rfl ?_
    refine px_ldcS (tx := "interest") (sa := 1) d_X9_wordToken_57 (by decide +kernel) ?_
    refine px_callV (c_X9_isWord (h := (pI h 7 3 (nI (run isLb (hI h 8) (n - p) p)))) (n := 0) (i := 0) (m := (run isLb (hI h 8) (n - p) p) - p) hL (by decide) hp ((gI_s _ _ _ _).trans (congrArg nI (by omega))) (by omega)) d_X9_wordToken_59 lk_X9_45 ok_X9_isWord ov_X9_isWord (so7 hL) (by decide) rfl rfl (Nat.le_of_ble_eq_true rfl) (by decide) ⟨Nat.le_refl (hn h), Nat.le_refl (hs h)⟩ ?_
    refine px_val (y := bI (wmB (hI h 8) p ((run isLb (hI h 8) (n - p) p) - p) 0 = true)) rfl ?_
    refine px_if_eq (tgt := 70) d_X9_wordToken_62 (by decide) (fun c62 => ?_) (fun c62 => ?_)
    · refine px_aload_n d_X9_wordToken_70 rfl rfl ?_
      refine px_ldcS (tx := "limit") (sa := 3) d_X9_wordToken_71 (by decide +kernel) ?_
      refine px_callV (c_X9_isWord (h := (pI h 7 3 (nI (run isLb (hI h 8) (n - p) p)))) (n := 0) (i := 1) (m := (run isLb (hI h 8) (n - p) p) - p) hL (by decide) hp ((gI_s _ _ _ _).trans (congrArg nI (by omega))) (by omega)) d_X9_wordToken_73 lk_X9_45 ok_X9_isWord ov_X9_isWord (so7 hL) (by decide) rfl rfl (Nat.le_of_ble_eq_true rfl) (by decide) ⟨Nat.le_refl (hn h), Nat.le_refl (hs h)⟩ ?_
      refine px_val (y := bI (wmB (hI h 8) p ((run isLb (hI h 8) (n - p) p) - p) 1 = true)) rfl ?_
      refine px_if_eq (tgt := 84) d_X9_wordToken_76 (by decide) (fun c76 => ?_) (fun c76 => ?_)
      · refine px_aload_n d_X9_wordToken_84 rfl rfl ?_
        refine px_ldcS (tx := "when") (sa := 5) d_X9_wordToken_85 (by decide +kernel) ?_
        refine px_callV (c_X9_isWord (h := (pI h 7 3 (nI (run isLb (hI h 8) (n - p) p)))) (n := 0) (i := 2) (m := (run isLb (hI h 8) (n - p) p) - p) hL (by decide) hp ((gI_s _ _ _ _).trans (congrArg nI (by omega))) (by omega)) d_X9_wordToken_87 lk_X9_45 ok_X9_isWord ov_X9_isWord (so7 hL) (by decide) rfl rfl (Nat.le_of_ble_eq_true rfl) (by decide) ⟨Nat.le_refl (hn h), Nat.le_refl (hs h)⟩ ?_
        refine px_val (y := bI (wmB (hI h 8) p ((run isLb (hI h 8) (n - p) p) - p) 2 = true)) rfl ?_
        refine px_if_eq (tgt := 98) d_X9_wordToken_90 (by decide) (fun c90 => ?_) (fun c90 => ?_)
        · refine px_aload_n d_X9_wordToken_98 rfl rfl ?_
          refine px_ldcS (tx := "and") (sa := 7) d_X9_wordToken_99 (by decide +kernel) ?_
          refine px_callV (c_X9_isWord (h := (pI h 7 3 (nI (run isLb (hI h 8) (n - p) p)))) (n := 0) (i := 3) (m := (run isLb (hI h 8) (n - p) p) - p) hL (by decide) hp ((gI_s _ _ _ _).trans (congrArg nI (by omega))) (by omega)) d_X9_wordToken_101 lk_X9_45 ok_X9_isWord ov_X9_isWord (so7 hL) (by decide) rfl rfl (Nat.le_of_ble_eq_true rfl) (by decide) ⟨Nat.le_refl (hn h), Nat.le_refl (hs h)⟩ ?_
          refine px_val (y := bI (wmB (hI h 8) p ((run isLb (hI h 8) (n - p) p) - p) 3 = true)) rfl ?_
          refine px_if_eq (tgt := 112) d_X9_wordToken_104 (by decide) (fun c104 => ?_) (fun c104 => ?_)
          · refine px_aload_n d_X9_wordToken_112 rfl rfl ?_
            refine px_ldcS (tx := "kind") (sa := 9) d_X9_wordToken_113 (by decide +kernel) ?_
            refine px_callV (c_X9_isWord (h := (pI h 7 3 (nI (run isLb (hI h 8) (n - p) p)))) (n := 0) (i := 4) (m := (run isLb (hI h 8) (n - p) p) - p) hL (by decide) hp ((gI_s _ _ _ _).trans (congrArg nI (by omega))) (by omega)) d_X9_wordToken_115 lk_X9_45 ok_X9_isWord ov_X9_isWord (so7 hL) (by decide) rfl rfl (Nat.le_of_ble_eq_true rfl) (by decide) ⟨Nat.le_refl (hn h), Nat.le_refl (hs h)⟩ ?_
            refine px_val (y := bI (wmB (hI h 8) p ((run isLb (hI h 8) (n - p) p) - p) 4 = true)) rfl ?_
            refine px_if_eq (tgt := 126) d_X9_wordToken_118 (by decide) (fun c118 => ?_) (fun c118 => ?_)
            · refine px_aload_n d_X9_wordToken_126 rfl rfl ?_
              refine px_ldcS (tx := "base") (sa := 11) d_X9_wordToken_127 (by decide +kernel) ?_
              refine px_callV (c_X9_isWord (h := (pI h 7 3 (nI (run isLb (hI h 8) (n - p) p)))) (n := 0) (i := 5) (m := (run isLb (hI h 8) (n - p) p) - p) hL (by decide) hp ((gI_s _ _ _ _).trans (congrArg nI (by omega))) (by omega)) d_X9_wordToken_129 lk_X9_45 ok_X9_isWord ov_X9_isWord (so7 hL) (by decide) rfl rfl (Nat.le_of_ble_eq_true rfl) (by decide) ⟨Nat.le_refl (hn h), Nat.le_refl (hs h)⟩ ?_
              refine px_val (y := bI (wmB (hI h 8) p ((run isLb (hI h 8) (n - p) p) - p) 5 = true)) rfl ?_
              refine px_if_eq (tgt := 140) d_X9_wordToken_132 (by decide) (fun c132 => ?_) (fun c132 => ?_)
              · refine px_aload_n d_X9_wordToken_140 rfl rfl ?_
                refine px_ldcS (tx := "age") (sa := 13) d_X9_wordToken_141 (by decide +kernel) ?_
                refine px_callV (c_X9_isWord (h := (pI h 7 3 (nI (run isLb (hI h 8) (n - p) p)))) (n := 0) (i := 6) (m := (run isLb (hI h 8) (n - p) p) - p) hL (by decide) hp ((gI_s _ _ _ _).trans (congrArg nI (by omega))) (by omega)) d_X9_wordToken_143 lk_X9_45 ok_X9_isWord ov_X9_isWord (so7 hL) (by decide) rfl rfl (Nat.le_of_ble_eq_true rfl) (by decide) ⟨Nat.le_refl (hn h), Nat.le_refl (hs h)⟩ ?_
                refine px_val (y := bI (wmB (hI h 8) p ((run isLb (hI h 8) (n - p) p) - p) 6 = true)) rfl ?_
                refine px_if_eq (tgt := 154) d_X9_wordToken_146 (by decide) (fun c146 => ?_) (fun c146 => ?_)
                · refine px_aload_n d_X9_wordToken_154 rfl rfl ?_
                  refine px_ldcS (tx := "month") (sa := 15) d_X9_wordToken_155 (by decide +kernel) ?_
                  refine px_callV (c_X9_isWord (h := (pI h 7 3 (nI (run isLb (hI h 8) (n - p) p)))) (n := 0) (i := 7) (m := (run isLb (hI h 8) (n - p) p) - p) hL (by decide) hp ((gI_s _ _ _ _).trans (congrArg nI (by omega))) (by omega)) d_X9_wordToken_157 lk_X9_45 ok_X9_isWord ov_X9_isWord (so7 hL) (by decide) rfl rfl (Nat.le_of_ble_eq_true rfl) (by decide) ⟨Nat.le_refl (hn h), Nat.le_refl (hs h)⟩ ?_
                  refine px_val (y := bI (wmB (hI h 8) p ((run isLb (hI h 8) (n - p) p) - p) 7 = true)) rfl ?_
                  refine px_if_eq (tgt := 168) d_X9_wordToken_160 (by decide) (fun c160 => ?_) (fun c160 => ?_)
                  · refine px_aload_n d_X9_wordToken_168 rfl rfl ?_
                    refine px_ldcS (tx := "day") (sa := 17) d_X9_wordToken_169 (by decide +kernel) ?_
                    refine px_callV (c_X9_isWord (h := (pI h 7 3 (nI (run isLb (hI h 8) (n - p) p)))) (n := 0) (i := 8) (m := (run isLb (hI h 8) (n - p) p) - p) hL (by decide) hp ((gI_s _ _ _ _).trans (congrArg nI (by omega))) (by omega)) d_X9_wordToken_171 lk_X9_45 ok_X9_isWord ov_X9_isWord (so7 hL) (by decide) rfl rfl (Nat.le_of_ble_eq_true rfl) (by decide) ⟨Nat.le_refl (hn h), Nat.le_refl (hs h)⟩ ?_
                    refine px_val (y := bI (wmB (hI h 8) p ((run isLb (hI h 8) (n - p) p) - p) 8 = true)) rfl ?_
                    refine px_if_eq (tgt := 182) d_X9_wordToken_174 (by decide) (fun c174 => ?_) (fun c174 => ?_)
                    · refine px_bipush (v := (-2)) d_X9_wordToken_182 (by decide) ?_
                      exact px_ireturn d_X9_wordToken_184 rfl rfl ⟨rfl, px_si ((if_neg (Nat.not_lt.mpr ((nI_leI (b := 8) (by omega) (by decide)).mp c50))).trans (show wcd (hI h 8) p ((run isLb (hI h 8) (n - p) p) - p) = _ from by first | exact (if_pos (bI_n.mp c62)) | exact ((if_neg (bI_0.mp c62)).trans (if_pos (bI_n.mp c76))) | exact ((if_neg (bI_0.mp c62)).trans ((if_neg (bI_0.mp c76)).trans (if_pos (bI_n.mp c90)))) | exact ((if_neg (bI_0.mp c62)).trans ((if_neg (bI_0.mp c76)).trans ((if_neg (bI_0.mp c90)).trans (if_pos (bI_n.mp c104))))) | exact ((if_neg (bI_0.mp c62)).trans ((if_neg (bI_0.mp c76)).trans ((if_neg (bI_0.mp c90)).trans ((if_neg (bI_0.mp c104)).trans (if_pos (bI_n.mp c118)))))) | exact ((if_neg (bI_0.mp c62)).trans ((if_neg (bI_0.mp c76)).trans ((if_neg (bI_0.mp c90)).trans ((if_neg (bI_0.mp c104)).trans ((if_neg (bI_0.mp c118)).trans (if_pos (bI_n.mp c132))))))) | exact ((if_neg (bI_0.mp c62)).trans ((if_neg (bI_0.mp c76)).trans ((if_neg (bI_0.mp c90)).trans ((if_neg (bI_0.mp c104)).trans ((if_neg (bI_0.mp c118)).trans ((if_neg (bI_0.mp c132)).trans (if_pos (bI_n.mp c146)))))))) | exact ((if_neg (bI_0.mp c62)).trans ((if_neg (bI_0.mp c76)).trans ((if_neg (bI_0.mp c90)).trans ((if_neg (bI_0.mp c104)).trans ((if_neg (bI_0.mp c118)).trans ((if_neg (bI_0.mp c132)).trans ((if_neg (bI_0.mp c146)).trans (if_pos (bI_n.mp c160))))))))) | exact ((if_neg (bI_0.mp c62)).trans ((if_neg (bI_0.mp c76)).trans ((if_neg (bI_0.mp c90)).trans ((if_neg (bI_0.mp c104)).trans ((if_neg (bI_0.mp c118)).trans ((if_neg (bI_0.mp c132)).trans ((if_neg (bI_0.mp c146)).trans ((if_neg (bI_0.mp c160)).trans (if_pos (bI_n.mp c174)))))))))) | exact ((if_neg (bI_0.mp c62)).trans ((if_neg (bI_0.mp c76)).trans ((if_neg (bI_0.mp c90)).trans ((if_neg (bI_0.mp c104)).trans ((if_neg (bI_0.mp c118)).trans ((if_neg (bI_0.mp c132)).trans ((if_neg (bI_0.mp c146)).trans ((if_neg (bI_0.mp c160)).trans (if_neg (bI_0.mp c174)))))))))))).symm, rfl⟩
                    · refine px_bipush (v := (-11)) d_X9_wordToken_177 (by decide) ?_
                      refine px_goto (tgt := 184) d_X9_wordToken_179 (by decide) ?_
                      exact px_ireturn d_X9_wordToken_184 rfl rfl ⟨rfl, px_si ((if_neg (Nat.not_lt.mpr ((nI_leI (b := 8) (by omega) (by decide)).mp c50))).trans (show wcd (hI h 8) p ((run isLb (hI h 8) (n - p) p) - p) = _ from by first | exact (if_pos (bI_n.mp c62)) | exact ((if_neg (bI_0.mp c62)).trans (if_pos (bI_n.mp c76))) | exact ((if_neg (bI_0.mp c62)).trans ((if_neg (bI_0.mp c76)).trans (if_pos (bI_n.mp c90)))) | exact ((if_neg (bI_0.mp c62)).trans ((if_neg (bI_0.mp c76)).trans ((if_neg (bI_0.mp c90)).trans (if_pos (bI_n.mp c104))))) | exact ((if_neg (bI_0.mp c62)).trans ((if_neg (bI_0.mp c76)).trans ((if_neg (bI_0.mp c90)).trans ((if_neg (bI_0.mp c104)).trans (if_pos (bI_n.mp c118)))))) | exact ((if_neg (bI_0.mp c62)).trans ((if_neg (bI_0.mp c76)).trans ((if_neg (bI_0.mp c90)).trans ((if_neg (bI_0.mp c104)).trans ((if_neg (bI_0.mp c118)).trans (if_pos (bI_n.mp c132))))))) | exact ((if_neg (bI_0.mp c62)).trans ((if_neg (bI_0.mp c76)).trans ((if_neg (bI_0.mp c90)).trans ((if_neg (bI_0.mp c104)).trans ((if_neg (bI_0.mp c118)).trans ((if_neg (bI_0.mp c132)).trans (if_pos (bI_n.mp c146)))))))) | exact ((if_neg (bI_0.mp c62)).trans ((if_neg (bI_0.mp c76)).trans ((if_neg (bI_0.mp c90)).trans ((if_neg (bI_0.mp c104)).trans ((if_neg (bI_0.mp c118)).trans ((if_neg (bI_0.mp c132)).trans ((if_neg (bI_0.mp c146)).trans (if_pos (bI_n.mp c160))))))))) | exact ((if_neg (bI_0.mp c62)).trans ((if_neg (bI_0.mp c76)).trans ((if_neg (bI_0.mp c90)).trans ((if_neg (bI_0.mp c104)).trans ((if_neg (bI_0.mp c118)).trans ((if_neg (bI_0.mp c132)).trans ((if_neg (bI_0.mp c146)).trans ((if_neg (bI_0.mp c160)).trans (if_pos (bI_n.mp c174)))))))))) | exact ((if_neg (bI_0.mp c62)).trans ((if_neg (bI_0.mp c76)).trans ((if_neg (bI_0.mp c90)).trans ((if_neg (bI_0.mp c104)).trans ((if_neg (bI_0.mp c118)).trans ((if_neg (bI_0.mp c132)).trans ((if_neg (bI_0.mp c146)).trans ((if_neg (bI_0.mp c160)).trans (if_neg (bI_0.mp c174)))))))))))).symm, rfl⟩
                  · refine px_bipush (v := (-10)) d_X9_wordToken_163 (by decide) ?_
                    refine px_goto (tgt := 184) d_X9_wordToken_165 (by decide) ?_
                    exact px_ireturn d_X9_wordToken_184 rfl rfl ⟨rfl, px_si ((if_neg (Nat.not_lt.mpr ((nI_leI (b := 8) (by omega) (by decide)).mp c50))).trans (show wcd (hI h 8) p ((run isLb (hI h 8) (n - p) p) - p) = _ from by first | exact (if_pos (bI_n.mp c62)) | exact ((if_neg (bI_0.mp c62)).trans (if_pos (bI_n.mp c76))) | exact ((if_neg (bI_0.mp c62)).trans ((if_neg (bI_0.mp c76)).trans (if_pos (bI_n.mp c90)))) | exact ((if_neg (bI_0.mp c62)).trans ((if_neg (bI_0.mp c76)).trans ((if_neg (bI_0.mp c90)).trans (if_pos (bI_n.mp c104))))) | exact ((if_neg (bI_0.mp c62)).trans ((if_neg (bI_0.mp c76)).trans ((if_neg (bI_0.mp c90)).trans ((if_neg (bI_0.mp c104)).trans (if_pos (bI_n.mp c118)))))) | exact ((if_neg (bI_0.mp c62)).trans ((if_neg (bI_0.mp c76)).trans ((if_neg (bI_0.mp c90)).trans ((if_neg (bI_0.mp c104)).trans ((if_neg (bI_0.mp c118)).trans (if_pos (bI_n.mp c132))))))) | exact ((if_neg (bI_0.mp c62)).trans ((if_neg (bI_0.mp c76)).trans ((if_neg (bI_0.mp c90)).trans ((if_neg (bI_0.mp c104)).trans ((if_neg (bI_0.mp c118)).trans ((if_neg (bI_0.mp c132)).trans (if_pos (bI_n.mp c146)))))))) | exact ((if_neg (bI_0.mp c62)).trans ((if_neg (bI_0.mp c76)).trans ((if_neg (bI_0.mp c90)).trans ((if_neg (bI_0.mp c104)).trans ((if_neg (bI_0.mp c118)).trans ((if_neg (bI_0.mp c132)).trans ((if_neg (bI_0.mp c146)).trans (if_pos (bI_n.mp c160))))))))) | exact ((if_neg (bI_0.mp c62)).trans ((if_neg (bI_0.mp c76)).trans ((if_neg (bI_0.mp c90)).trans ((if_neg (bI_0.mp c104)).trans ((if_neg (bI_0.mp c118)).trans ((if_neg (bI_0.mp c132)).trans ((if_neg (bI_0.mp c146)).trans ((if_neg (bI_0.mp c160)).trans (if_pos (bI_n.mp c174)))))))))) | exact ((if_neg (bI_0.mp c62)).trans ((if_neg (bI_0.mp c76)).trans ((if_neg (bI_0.mp c90)).trans ((if_neg (bI_0.mp c104)).trans ((if_neg (bI_0.mp c118)).trans ((if_neg (bI_0.mp c132)).trans ((if_neg (bI_0.mp c146)).trans ((if_neg (bI_0.mp c160)).trans (if_neg (bI_0.mp c174)))))))))))).symm, rfl⟩
                · refine px_bipush (v := (-9)) d_X9_wordToken_149 (by decide) ?_
                  refine px_goto (tgt := 184) d_X9_wordToken_151 (by decide) ?_
                  exact px_ireturn d_X9_wordToken_184 rfl rfl ⟨rfl, px_si ((if_neg (Nat.not_lt.mpr ((nI_leI (b := 8) (by omega) (by decide)).mp c50))).trans (show wcd (hI h 8) p ((run isLb (hI h 8) (n - p) p) - p) = _ from by first | exact (if_pos (bI_n.mp c62)) | exact ((if_neg (bI_0.mp c62)).trans (if_pos (bI_n.mp c76))) | exact ((if_neg (bI_0.mp c62)).trans ((if_neg (bI_0.mp c76)).trans (if_pos (bI_n.mp c90)))) | exact ((if_neg (bI_0.mp c62)).trans ((if_neg (bI_0.mp c76)).trans ((if_neg (bI_0.mp c90)).trans (if_pos (bI_n.mp c104))))) | exact ((if_neg (bI_0.mp c62)).trans ((if_neg (bI_0.mp c76)).trans ((if_neg (bI_0.mp c90)).trans ((if_neg (bI_0.mp c104)).trans (if_pos (bI_n.mp c118)))))) | exact ((if_neg (bI_0.mp c62)).trans ((if_neg (bI_0.mp c76)).trans ((if_neg (bI_0.mp c90)).trans ((if_neg (bI_0.mp c104)).trans ((if_neg (bI_0.mp c118)).trans (if_pos (bI_n.mp c132))))))) | exact ((if_neg (bI_0.mp c62)).trans ((if_neg (bI_0.mp c76)).trans ((if_neg (bI_0.mp c90)).trans ((if_neg (bI_0.mp c104)).trans ((if_neg (bI_0.mp c118)).trans ((if_neg (bI_0.mp c132)).trans (if_pos (bI_n.mp c146)))))))) | exact ((if_neg (bI_0.mp c62)).trans ((if_neg (bI_0.mp c76)).trans ((if_neg (bI_0.mp c90)).trans ((if_neg (bI_0.mp c104)).trans ((if_neg (bI_0.mp c118)).trans ((if_neg (bI_0.mp c132)).trans ((if_neg (bI_0.mp c146)).trans (if_pos (bI_n.mp c160))))))))) | exact ((if_neg (bI_0.mp c62)).trans ((if_neg (bI_0.mp c76)).trans ((if_neg (bI_0.mp c90)).trans ((if_neg (bI_0.mp c104)).trans ((if_neg (bI_0.mp c118)).trans ((if_neg (bI_0.mp c132)).trans ((if_neg (bI_0.mp c146)).trans ((if_neg (bI_0.mp c160)).trans (if_pos (bI_n.mp c174)))))))))) | exact ((if_neg (bI_0.mp c62)).trans ((if_neg (bI_0.mp c76)).trans ((if_neg (bI_0.mp c90)).trans ((if_neg (bI_0.mp c104)).trans ((if_neg (bI_0.mp c118)).trans ((if_neg (bI_0.mp c132)).trans ((if_neg (bI_0.mp c146)).trans ((if_neg (bI_0.mp c160)).trans (if_neg (bI_0.mp c174)))))))))))).symm, rfl⟩
              · refine px_bipush (v := (-8)) d_X9_wordToken_135 (by decide) ?_
                refine px_goto (tgt := 184) d_X9_wordToken_137 (by decide) ?_
                exact px_ireturn d_X9_wordToken_184 rfl rfl ⟨rfl, px_si ((if_neg (Nat.not_lt.mpr ((nI_leI (b := 8) (by omega) (by decide)).mp c50))).trans (show wcd (hI h 8) p ((run isLb (hI h 8) (n - p) p) - p) = _ from by first | exact (if_pos (bI_n.mp c62)) | exact ((if_neg (bI_0.mp c62)).trans (if_pos (bI_n.mp c76))) | exact ((if_neg (bI_0.mp c62)).trans ((if_neg (bI_0.mp c76)).trans (if_pos (bI_n.mp c90)))) | exact ((if_neg (bI_0.mp c62)).trans ((if_neg (bI_0.mp c76)).trans ((if_neg (bI_0.mp c90)).trans (if_pos (bI_n.mp c104))))) | exact ((if_neg (bI_0.mp c62)).trans ((if_neg (bI_0.mp c76)).trans ((if_neg (bI_0.mp c90)).trans ((if_neg (bI_0.mp c104)).trans (if_pos (bI_n.mp c118)))))) | exact ((if_neg (bI_0.mp c62)).trans ((if_neg (bI_0.mp c76)).trans ((if_neg (bI_0.mp c90)).trans ((if_neg (bI_0.mp c104)).trans ((if_neg (bI_0.mp c118)).trans (if_pos (bI_n.mp c132))))))) | exact ((if_neg (bI_0.mp c62)).trans ((if_neg (bI_0.mp c76)).trans ((if_neg (bI_0.mp c90)).trans ((if_neg (bI_0.mp c104)).trans ((if_neg (bI_0.mp c118)).trans ((if_neg (bI_0.mp c132)).trans (if_pos (bI_n.mp c146)))))))) | exact ((if_neg (bI_0.mp c62)).trans ((if_neg (bI_0.mp c76)).trans ((if_neg (bI_0.mp c90)).trans ((if_neg (bI_0.mp c104)).trans ((if_neg (bI_0.mp c118)).trans ((if_neg (bI_0.mp c132)).trans ((if_neg (bI_0.mp c146)).trans (if_pos (bI_n.mp c160))))))))) | exact ((if_neg (bI_0.mp c62)).trans ((if_neg (bI_0.mp c76)).trans ((if_neg (bI_0.mp c90)).trans ((if_neg (bI_0.mp c104)).trans ((if_neg (bI_0.mp c118)).trans ((if_neg (bI_0.mp c132)).trans ((if_neg (bI_0.mp c146)).trans ((if_neg (bI_0.mp c160)).trans (if_pos (bI_n.mp c174)))))))))) | exact ((if_neg (bI_0.mp c62)).trans ((if_neg (bI_0.mp c76)).trans ((if_neg (bI_0.mp c90)).trans ((if_neg (bI_0.mp c104)).trans ((if_neg (bI_0.mp c118)).trans ((if_neg (bI_0.mp c132)).trans ((if_neg (bI_0.mp c146)).trans ((if_neg (bI_0.mp c160)).trans (if_neg (bI_0.mp c174)))))))))))).symm, rfl⟩
            · refine px_bipush (v := (-7)) d_X9_wordToken_121 (by decide) ?_
              refine px_goto (tgt := 184) d_X9_wordToken_123 (by decide) ?_
              exact px_ireturn d_X9_wordToken_184 rfl rfl ⟨rfl, px_si ((if_neg (Nat.not_lt.mpr ((nI_leI (b := 8) (by omega) (by decide)).mp c50))).trans (show wcd (hI h 8) p ((run isLb (hI h 8) (n - p) p) - p) = _ from by first | exact (if_pos (bI_n.mp c62)) | exact ((if_neg (bI_0.mp c62)).trans (if_pos (bI_n.mp c76))) | exact ((if_neg (bI_0.mp c62)).trans ((if_neg (bI_0.mp c76)).trans (if_pos (bI_n.mp c90)))) | exact ((if_neg (bI_0.mp c62)).trans ((if_neg (bI_0.mp c76)).trans ((if_neg (bI_0.mp c90)).trans (if_pos (bI_n.mp c104))))) | exact ((if_neg (bI_0.mp c62)).trans ((if_neg (bI_0.mp c76)).trans ((if_neg (bI_0.mp c90)).trans ((if_neg (bI_0.mp c104)).trans (if_pos (bI_n.mp c118)))))) | exact ((if_neg (bI_0.mp c62)).trans ((if_neg (bI_0.mp c76)).trans ((if_neg (bI_0.mp c90)).trans ((if_neg (bI_0.mp c104)).trans ((if_neg (bI_0.mp c118)).trans (if_pos (bI_n.mp c132))))))) | exact ((if_neg (bI_0.mp c62)).trans ((if_neg (bI_0.mp c76)).trans ((if_neg (bI_0.mp c90)).trans ((if_neg (bI_0.mp c104)).trans ((if_neg (bI_0.mp c118)).trans ((if_neg (bI_0.mp c132)).trans (if_pos (bI_n.mp c146)))))))) | exact ((if_neg (bI_0.mp c62)).trans ((if_neg (bI_0.mp c76)).trans ((if_neg (bI_0.mp c90)).trans ((if_neg (bI_0.mp c104)).trans ((if_neg (bI_0.mp c118)).trans ((if_neg (bI_0.mp c132)).trans ((if_neg (bI_0.mp c146)).trans (if_pos (bI_n.mp c160))))))))) | exact ((if_neg (bI_0.mp c62)).trans ((if_neg (bI_0.mp c76)).trans ((if_neg (bI_0.mp c90)).trans ((if_neg (bI_0.mp c104)).trans ((if_neg (bI_0.mp c118)).trans ((if_neg (bI_0.mp c132)).trans ((if_neg (bI_0.mp c146)).trans ((if_neg (bI_0.mp c160)).trans (if_pos (bI_n.mp c174)))))))))) | exact ((if_neg (bI_0.mp c62)).trans ((if_neg (bI_0.mp c76)).trans ((if_neg (bI_0.mp c90)).trans ((if_neg (bI_0.mp c104)).trans ((if_neg (bI_0.mp c118)).trans ((if_neg (bI_0.mp c132)).trans ((if_neg (bI_0.mp c146)).trans ((if_neg (bI_0.mp c160)).trans (if_neg (bI_0.mp c174)))))))))))).symm, rfl⟩
          · refine px_bipush (v := (-6)) d_X9_wordToken_107 (by decide) ?_
            refine px_goto (tgt := 184) d_X9_wordToken_109 (by decide) ?_
            exact px_ireturn d_X9_wordToken_184 rfl rfl ⟨rfl, px_si ((if_neg (Nat.not_lt.mpr ((nI_leI (b := 8) (by omega) (by decide)).mp c50))).trans (show wcd (hI h 8) p ((run isLb (hI h 8) (n - p) p) - p) = _ from by first | exact (if_pos (bI_n.mp c62)) | exact ((if_neg (bI_0.mp c62)).trans (if_pos (bI_n.mp c76))) | exact ((if_neg (bI_0.mp c62)).trans ((if_neg (bI_0.mp c76)).trans (if_pos (bI_n.mp c90)))) | exact ((if_neg (bI_0.mp c62)).trans ((if_neg (bI_0.mp c76)).trans ((if_neg (bI_0.mp c90)).trans (if_pos (bI_n.mp c104))))) | exact ((if_neg (bI_0.mp c62)).trans ((if_neg (bI_0.mp c76)).trans ((if_neg (bI_0.mp c90)).trans ((if_neg (bI_0.mp c104)).trans (if_pos (bI_n.mp c118)))))) | exact ((if_neg (bI_0.mp c62)).trans ((if_neg (bI_0.mp c76)).trans ((if_neg (bI_0.mp c90)).trans ((if_neg (bI_0.mp c104)).trans ((if_neg (bI_0.mp c118)).trans (if_pos (bI_n.mp c132))))))) | exact ((if_neg (bI_0.mp c62)).trans ((if_neg (bI_0.mp c76)).trans ((if_neg (bI_0.mp c90)).trans ((if_neg (bI_0.mp c104)).trans ((if_neg (bI_0.mp c118)).trans ((if_neg (bI_0.mp c132)).trans (if_pos (bI_n.mp c146)))))))) | exact ((if_neg (bI_0.mp c62)).trans ((if_neg (bI_0.mp c76)).trans ((if_neg (bI_0.mp c90)).trans ((if_neg (bI_0.mp c104)).trans ((if_neg (bI_0.mp c118)).trans ((if_neg (bI_0.mp c132)).trans ((if_neg (bI_0.mp c146)).trans (if_pos (bI_n.mp c160))))))))) | exact ((if_neg (bI_0.mp c62)).trans ((if_neg (bI_0.mp c76)).trans ((if_neg (bI_0.mp c90)).trans ((if_neg (bI_0.mp c104)).trans ((if_neg (bI_0.mp c118)).trans ((if_neg (bI_0.mp c132)).trans ((if_neg (bI_0.mp c146)).trans ((if_neg (bI_0.mp c160)).trans (if_pos (bI_n.mp c174)))))))))) | exact ((if_neg (bI_0.mp c62)).trans ((if_neg (bI_0.mp c76)).trans ((if_neg (bI_0.mp c90)).trans ((if_neg (bI_0.mp c104)).trans ((if_neg (bI_0.mp c118)).trans ((if_neg (bI_0.mp c132)).trans ((if_neg (bI_0.mp c146)).trans ((if_neg (bI_0.mp c160)).trans (if_neg (bI_0.mp c174)))))))))))).symm, rfl⟩
        · refine px_bipush (v := (-5)) d_X9_wordToken_93 (by decide) ?_
          refine px_goto (tgt := 184) d_X9_wordToken_95 (by decide) ?_
          exact px_ireturn d_X9_wordToken_184 rfl rfl ⟨rfl, px_si ((if_neg (Nat.not_lt.mpr ((nI_leI (b := 8) (by omega) (by decide)).mp c50))).trans (show wcd (hI h 8) p ((run isLb (hI h 8) (n - p) p) - p) = _ from by first | exact (if_pos (bI_n.mp c62)) | exact ((if_neg (bI_0.mp c62)).trans (if_pos (bI_n.mp c76))) | exact ((if_neg (bI_0.mp c62)).trans ((if_neg (bI_0.mp c76)).trans (if_pos (bI_n.mp c90)))) | exact ((if_neg (bI_0.mp c62)).trans ((if_neg (bI_0.mp c76)).trans ((if_neg (bI_0.mp c90)).trans (if_pos (bI_n.mp c104))))) | exact ((if_neg (bI_0.mp c62)).trans ((if_neg (bI_0.mp c76)).trans ((if_neg (bI_0.mp c90)).trans ((if_neg (bI_0.mp c104)).trans (if_pos (bI_n.mp c118)))))) | exact ((if_neg (bI_0.mp c62)).trans ((if_neg (bI_0.mp c76)).trans ((if_neg (bI_0.mp c90)).trans ((if_neg (bI_0.mp c104)).trans ((if_neg (bI_0.mp c118)).trans (if_pos (bI_n.mp c132))))))) | exact ((if_neg (bI_0.mp c62)).trans ((if_neg (bI_0.mp c76)).trans ((if_neg (bI_0.mp c90)).trans ((if_neg (bI_0.mp c104)).trans ((if_neg (bI_0.mp c118)).trans ((if_neg (bI_0.mp c132)).trans (if_pos (bI_n.mp c146)))))))) | exact ((if_neg (bI_0.mp c62)).trans ((if_neg (bI_0.mp c76)).trans ((if_neg (bI_0.mp c90)).trans ((if_neg (bI_0.mp c104)).trans ((if_neg (bI_0.mp c118)).trans ((if_neg (bI_0.mp c132)).trans ((if_neg (bI_0.mp c146)).trans (if_pos (bI_n.mp c160))))))))) | exact ((if_neg (bI_0.mp c62)).trans ((if_neg (bI_0.mp c76)).trans ((if_neg (bI_0.mp c90)).trans ((if_neg (bI_0.mp c104)).trans ((if_neg (bI_0.mp c118)).trans ((if_neg (bI_0.mp c132)).trans ((if_neg (bI_0.mp c146)).trans ((if_neg (bI_0.mp c160)).trans (if_pos (bI_n.mp c174)))))))))) | exact ((if_neg (bI_0.mp c62)).trans ((if_neg (bI_0.mp c76)).trans ((if_neg (bI_0.mp c90)).trans ((if_neg (bI_0.mp c104)).trans ((if_neg (bI_0.mp c118)).trans ((if_neg (bI_0.mp c132)).trans ((if_neg (bI_0.mp c146)).trans ((if_neg (bI_0.mp c160)).trans (if_neg (bI_0.mp c174)))))))))))).symm, rfl⟩
      · refine px_bipush (v := (-4)) d_X9_wordToken_79 (by decide) ?_
        refine px_goto (tgt := 184) d_X9_wordToken_81 (by decide) ?_
        exact px_ireturn d_X9_wordToken_184 rfl rfl ⟨rfl, px_si ((if_neg (Nat.not_lt.mpr ((nI_leI (b := 8) (by omega) (by decide)).mp c50))).trans (show wcd (hI h 8) p ((run isLb (hI h 8) (n - p) p) - p) = _ from by first | exact (if_pos (bI_n.mp c62)) | exact ((if_neg (bI_0.mp c62)).trans (if_pos (bI_n.mp c76))) | exact ((if_neg (bI_0.mp c62)).trans ((if_neg (bI_0.mp c76)).trans (if_pos (bI_n.mp c90)))) | exact ((if_neg (bI_0.mp c62)).trans ((if_neg (bI_0.mp c76)).trans ((if_neg (bI_0.mp c90)).trans (if_pos (bI_n.mp c104))))) | exact ((if_neg (bI_0.mp c62)).trans ((if_neg (bI_0.mp c76)).trans ((if_neg (bI_0.mp c90)).trans ((if_neg (bI_0.mp c104)).trans (if_pos (bI_n.mp c118)))))) | exact ((if_neg (bI_0.mp c62)).trans ((if_neg (bI_0.mp c76)).trans ((if_neg (bI_0.mp c90)).trans ((if_neg (bI_0.mp c104)).trans ((if_neg (bI_0.mp c118)).trans (if_pos (bI_n.mp c132))))))) | exact ((if_neg (bI_0.mp c62)).trans ((if_neg (bI_0.mp c76)).trans ((if_neg (bI_0.mp c90)).trans ((if_neg (bI_0.mp c104)).trans ((if_neg (bI_0.mp c118)).trans ((if_neg (bI_0.mp c132)).trans (if_pos (bI_n.mp c146)))))))) | exact ((if_neg (bI_0.mp c62)).trans ((if_neg (bI_0.mp c76)).trans ((if_neg (bI_0.mp c90)).trans ((if_neg (bI_0.mp c104)).trans ((if_neg (bI_0.mp c118)).trans ((if_neg (bI_0.mp c132)).trans ((if_neg (bI_0.mp c146)).trans (if_pos (bI_n.mp c160))))))))) | exact ((if_neg (bI_0.mp c62)).trans ((if_neg (bI_0.mp c76)).trans ((if_neg (bI_0.mp c90)).trans ((if_neg (bI_0.mp c104)).trans ((if_neg (bI_0.mp c118)).trans ((if_neg (bI_0.mp c132)).trans ((if_neg (bI_0.mp c146)).trans ((if_neg (bI_0.mp c160)).trans (if_pos (bI_n.mp c174)))))))))) | exact ((if_neg (bI_0.mp c62)).trans ((if_neg (bI_0.mp c76)).trans ((if_neg (bI_0.mp c90)).trans ((if_neg (bI_0.mp c104)).trans ((if_neg (bI_0.mp c118)).trans ((if_neg (bI_0.mp c132)).trans ((if_neg (bI_0.mp c146)).trans ((if_neg (bI_0.mp c160)).trans (if_neg (bI_0.mp c174)))))))))))).symm, rfl⟩
    · refine px_bipush (v := (-3)) d_X9_wordToken_65 (by decide) ?_
      refine px_goto (tgt := 184) d_X9_wordToken_67 (by decide) ?_
      exact px_ireturn d_X9_wordToken_184 rfl rfl ⟨rfl, px_si ((if_neg (Nat.not_lt.mpr ((nI_leI (b := 8) (by omega) (by decide)).mp c50))).trans (show wcd (hI h 8) p ((run isLb (hI h 8) (n - p) p) - p) = _ from by first | exact (if_pos (bI_n.mp c62)) | exact ((if_neg (bI_0.mp c62)).trans (if_pos (bI_n.mp c76))) | exact ((if_neg (bI_0.mp c62)).trans ((if_neg (bI_0.mp c76)).trans (if_pos (bI_n.mp c90)))) | exact ((if_neg (bI_0.mp c62)).trans ((if_neg (bI_0.mp c76)).trans ((if_neg (bI_0.mp c90)).trans (if_pos (bI_n.mp c104))))) | exact ((if_neg (bI_0.mp c62)).trans ((if_neg (bI_0.mp c76)).trans ((if_neg (bI_0.mp c90)).trans ((if_neg (bI_0.mp c104)).trans (if_pos (bI_n.mp c118)))))) | exact ((if_neg (bI_0.mp c62)).trans ((if_neg (bI_0.mp c76)).trans ((if_neg (bI_0.mp c90)).trans ((if_neg (bI_0.mp c104)).trans ((if_neg (bI_0.mp c118)).trans (if_pos (bI_n.mp c132))))))) | exact ((if_neg (bI_0.mp c62)).trans ((if_neg (bI_0.mp c76)).trans ((if_neg (bI_0.mp c90)).trans ((if_neg (bI_0.mp c104)).trans ((if_neg (bI_0.mp c118)).trans ((if_neg (bI_0.mp c132)).trans (if_pos (bI_n.mp c146)))))))) | exact ((if_neg (bI_0.mp c62)).trans ((if_neg (bI_0.mp c76)).trans ((if_neg (bI_0.mp c90)).trans ((if_neg (bI_0.mp c104)).trans ((if_neg (bI_0.mp c118)).trans ((if_neg (bI_0.mp c132)).trans ((if_neg (bI_0.mp c146)).trans (if_pos (bI_n.mp c160))))))))) | exact ((if_neg (bI_0.mp c62)).trans ((if_neg (bI_0.mp c76)).trans ((if_neg (bI_0.mp c90)).trans ((if_neg (bI_0.mp c104)).trans ((if_neg (bI_0.mp c118)).trans ((if_neg (bI_0.mp c132)).trans ((if_neg (bI_0.mp c146)).trans ((if_neg (bI_0.mp c160)).trans (if_pos (bI_n.mp c174)))))))))) | exact ((if_neg (bI_0.mp c62)).trans ((if_neg (bI_0.mp c76)).trans ((if_neg (bI_0.mp c90)).trans ((if_neg (bI_0.mp c104)).trans ((if_neg (bI_0.mp c118)).trans ((if_neg (bI_0.mp c132)).trans ((if_neg (bI_0.mp c146)).trans ((if_neg (bI_0.mp c160)).trans (if_neg (bI_0.mp c174)))))))))))).symm, rfl⟩
  · refine px_bipush (v := (-2)) d_X9_wordToken_53 (by decide) ?_
    exact px_ireturn d_X9_wordToken_55 rfl rfl ⟨rfl, px_si (if_pos (Nat.not_le.mp fun q => c50 (nI_le q (by decide)))).symm, rfl⟩
theorem nvI_y {S : Nat → Int32} {p i : Nat} (hpi : p ≤ i) (h : ¬ 5 ≤ nI (i - p)) (hi : i ≤ 600) : nvI S p (i + 1 - p) = nvI S p (i - p) * 10 + (S i - 48) := by
  have h5 : i - p < 5 := Nat.not_le.mp fun q => h ((nI_leI (a := 5) (by decide) (by omega)).mpr q)
  rw [show i + 1 - p = (i - p) + 1 by omega]
  conv => lhs; unfold nvI
  rw [if_pos h5, show p + (i - p) = i by omega]
theorem nvI_n {S : Nat → Int32} {p i : Nat} (hpi : p ≤ i) (h : 5 ≤ nI (i - p)) (hi : i ≤ 600) : nvI S p (i + 1 - p) = nvI S p (i - p) := by
  have h5 : ¬ i - p < 5 := fun q => absurd ((nI_leI (a := 5) (b := i - p) (by decide) (by omega)).mp h) (by omega)
  rw [show i + 1 - p = (i - p) + 1 by omega]
  conv => lhs; unfold nvI
  rw [if_neg h5]
theorem lp_X9_numberToken {h : PH} {N S0 : Nat} {Post : Nat → Option Value → PH → Prop} (hL : px_L h) {n p : Nat} (hz : hI h 7 1 = nI n) (hn6 : n ≤ 600) (hp : hI h 7 2 = nI p) (hN : hn h ≤ N ∧ hs h ≤ S0) : ∀ (k i : Nat), i + k = n → p ≤ i → PW M_X9_numberToken N S0 Post 72 [(0, .ref 7), (1, .int (nvI (hI h 8) p (run isDb (hI h 8) k i - p)))] [] (pI h 7 3 (nI (run isDb (hI h 8) k i))) → PW M_X9_numberToken N S0 Post 2 [(0, .ref 7), (1, .int (nvI (hI h 8) p (i - p)))] [] (pI h 7 3 (nI i)) := by
  intro k
  induction k with
  | zero =>
    intro i hi hpi kk
    have e : i = n := by omega
    rw [e] at kk ⊢
    refine px_aload_n d_X9_numberToken_2 rfl rfl ?_
    refine px_getI d_X9_numberToken_3 fl_X9_19 rfl (so7 hL) ?_
    refine px_val (y := nI n) (gI_s _ _ _ _) ?_
    refine px_aload_n d_X9_numberToken_6 rfl rfl ?_
    refine px_getI d_X9_numberToken_7 fl_X9_15 rfl (so7 hL) ?_
    refine px_val (y := nI n) hz ?_
    refine px_icmp_ge (tgt := 72) d_X9_numberToken_10 (by decide) (fun c10 => ?_) (fun c10 => (c10 (nI_le (Nat.le_refl _) (by omega))).elim)
    exact kk
  | succ k ih =>
    intro i hi hpi kk
    refine px_aload_n d_X9_numberToken_2 rfl rfl ?_
    refine px_getI d_X9_numberToken_3 fl_X9_19 rfl (so7 hL) ?_
    refine px_val (y := nI i) (gI_s _ _ _ _) ?_
    refine px_aload_n d_X9_numberToken_6 rfl rfl ?_
    refine px_getI d_X9_numberToken_7 fl_X9_15 rfl (so7 hL) ?_
    refine px_val (y := nI n) hz ?_
    refine px_icmp_ge (tgt := 72) d_X9_numberToken_10 (by decide) (fun c10 => absurd c10 (nI_ge (by omega) (by omega))) (fun c10 => ?_)
    refine px_aload_n d_X9_numberToken_13 rfl rfl ?_
    refine px_getR d_X9_numberToken_14 fl_X9_9 (by decide) (so7 hL) (sr7_0 hL) ?_
    refine px_aload_n d_X9_numberToken_17 rfl rfl ?_
    refine px_getI d_X9_numberToken_18 fl_X9_19 rfl (so7 hL) ?_
    refine px_val (y := nI i) (gI_s _ _ _ _) ?_
    refine px_cald d_X9_numberToken_21 (sa8 hL) rfl (by omega) ?_
    refine px_val (y := (hI h 8) i) rfl ?_
    refine px_callS (c_X9_isDigit) d_X9_numberToken_22 lk_X9_33 ok_X9_isDigit os_X9_isDigit rfl (Nat.le_of_ble_eq_true rfl) (by decide) hN ?_
    refine px_if_eq (tgt := 72) d_X9_numberToken_25 (by decide) (fun c25 => ?_) (fun c25 => ?_)
    · rw [run_n (isDb_f c25)] at kk
      exact kk
    · refine px_aload_n d_X9_numberToken_28 rfl rfl ?_
      refine px_getI d_X9_numberToken_29 fl_X9_19 rfl (so7 hL) ?_
      refine px_val (y := nI i) (gI_s _ _ _ _) ?_
      refine px_aload_n d_X9_numberToken_32 rfl rfl ?_
      refine px_getI d_X9_numberToken_33 fl_X9_22 rfl (so7 hL) ?_
      refine px_val (y := nI p) hp ?_
      refine px_isub d_X9_numberToken_36 ?_
      refine px_val (y := nI (i - p)) (nI_sub hpi) ?_
      refine px_iconst (v := 5) d_X9_numberToken_37 (by decide) ?_
      refine px_icmp_ge (tgt := 59) d_X9_numberToken_38 (by decide) (fun c38 => ?_) (fun c38 => ?_)
      · refine px_aload_n d_X9_numberToken_59 rfl rfl ?_
        refine px_dup d_X9_numberToken_60 rfl ?_
        refine px_getI d_X9_numberToken_61 fl_X9_19 rfl (so7 hL) ?_
        refine px_val (y := nI i) (gI_s _ _ _ _) ?_
        refine px_iconst (v := 1) d_X9_numberToken_64 (by decide) ?_
        refine px_iadd d_X9_numberToken_65 ?_
        refine px_putI d_X9_numberToken_66 fl_X9_19 rfl (so7 hL) ?_
        refine px_heap (h2 := pI h 7 3 (nI (i + 1))) ((pI_pI ..).trans (by rw [nI_s1])) ?_
        refine px_goto (tgt := 2) d_X9_numberToken_69 (by decide) ?_
        rw [run_y (isDb_t c25)] at kk
        first
          | (refine px_drop (lv' := [(0, .ref 7), (1, .int (nvI (hI h 8) p (i + 1 - p)))]) ⟨rfl, px_si ((nvI_y hpi c38 (by omega)).symm), trivial⟩ ?_
             exact ih (i + 1) (by omega) (by omega) kk)
          | (refine px_drop (lv' := [(0, .ref 7), (1, .int (nvI (hI h 8) p (i + 1 - p)))]) ⟨rfl, px_si ((nvI_n hpi c38 (by omega)).symm), trivial⟩ ?_
             exact ih (i + 1) (by omega) (by omega) kk)
      · refine px_iload_n d_X9_numberToken_41 rfl rfl ?_
        refine px_bipush (v := 10) d_X9_numberToken_42 (by decide) ?_
        refine px_imul d_X9_numberToken_44 ?_
        refine px_aload_n d_X9_numberToken_45 rfl rfl ?_
        refine px_getR d_X9_numberToken_46 fl_X9_9 (by decide) (so7 hL) (sr7_0 hL) ?_
        refine px_aload_n d_X9_numberToken_49 rfl rfl ?_
        refine px_getI d_X9_numberToken_50 fl_X9_19 rfl (so7 hL) ?_
        refine px_val (y := nI i) (gI_s _ _ _ _) ?_
        refine px_cald d_X9_numberToken_53 (sa8 hL) rfl (by omega) ?_
        refine px_val (y := (hI h 8) i) rfl ?_
        refine px_bipush (v := 48) d_X9_numberToken_54 (by decide) ?_
        refine px_isub d_X9_numberToken_56 ?_
        refine px_iadd d_X9_numberToken_57 ?_
        refine px_istore_n d_X9_numberToken_58 rfl (by decide) ?_
        refine px_aload_n d_X9_numberToken_59 rfl rfl ?_
        refine px_dup d_X9_numberToken_60 rfl ?_
        refine px_getI d_X9_numberToken_61 fl_X9_19 rfl (so7 hL) ?_
        refine px_val (y := nI i) (gI_s _ _ _ _) ?_
        refine px_iconst (v := 1) d_X9_numberToken_64 (by decide) ?_
        refine px_iadd d_X9_numberToken_65 ?_
        refine px_putI d_X9_numberToken_66 fl_X9_19 rfl (so7 hL) ?_
        refine px_heap (h2 := pI h 7 3 (nI (i + 1))) ((pI_pI ..).trans (by rw [nI_s1])) ?_
        refine px_goto (tgt := 2) d_X9_numberToken_69 (by decide) ?_
        rw [run_y (isDb_t c25)] at kk
        first
          | (refine px_drop (lv' := [(0, .ref 7), (1, .int (nvI (hI h 8) p (i + 1 - p)))]) ⟨rfl, px_si ((nvI_y hpi c38 (by omega)).symm), trivial⟩ ?_
             exact ih (i + 1) (by omega) (by omega) kk)
          | (refine px_drop (lv' := [(0, .ref 7), (1, .int (nvI (hI h 8) p (i + 1 - p)))]) ⟨rfl, px_si ((nvI_n hpi c38 (by omega)).symm), trivial⟩ ?_
             exact ih (i + 1) (by omega) (by omega) kk)
theorem c_X9_numberToken {h : PH} (hL : px_L h) {n p : Nat} (hz : hI h 7 1 = nI n) (hn6 : n ≤ 600) (hp : hI h 7 2 = nI p) (ha : hI h 7 3 = nI p) (hpn : p ≤ n) : PM M_X9_numberToken [.ref 7] h (some (.int (if 5 < (run isDb (hI h 8) (n - p) p) - p then -2 else nvI (hI h 8) p ((run isDb (hI h 8) (n - p) p) - p)))) (pI h 7 3 (nI (run isDb (hI h 8) (n - p) p))) := by
  refine PM.of (by decide +kernel) (by decide +kernel) (Nat.le_refl _) (Nat.le_refl _) (Nat.le_of_ble_eq_true rfl) ?_
  refine px_iconst (v := 0) d_X9_numberToken_0 (by decide) ?_
  refine px_istore_n d_X9_numberToken_1 rfl (by decide) ?_
  have hge := run_ge (P := isDb) (S := (hI h 8)) (n - p) p
  refine px_drop (lv' := [(0, .ref 7), (1, .int (nvI (hI h 8) p (p - p)))]) ⟨rfl, px_si (by rw [Nat.sub_self]; rfl), trivial⟩ ?_
  refine px_heap (h2 := (pI h 7 3 (nI p))) (by rw [← ha]; exact (pI_self ..).symm) ?_
  refine lp_X9_numberToken hL hz hn6 hp ⟨Nat.le_refl (hn h), Nat.le_refl (hs h)⟩ (n - p) p (by omega) (Nat.le_refl _) ?_
  refine px_aload_n d_X9_numberToken_72 rfl rfl ?_
  refine px_getI d_X9_numberToken_73 fl_X9_19 rfl (so7 hL) ?_
  refine px_val (y := nI (run isDb (hI h 8) (n - p) p)) (gI_s _ _ _ _) ?_
  refine px_aload_n d_X9_numberToken_76 rfl rfl ?_
  refine px_getI d_X9_numberToken_77 fl_X9_22 rfl (so7 hL) ?_
  refine px_val (y := nI p) hp ?_
  refine px_isub d_X9_numberToken_80 ?_
  refine px_val (y := nI ((run isDb (hI h 8) (n - p) p) - p)) (nI_sub hge.1) ?_
  refine px_iconst (v := 5) d_X9_numberToken_81 (by decide) ?_
  refine px_icmp_le (tgt := 90) d_X9_numberToken_82 (by decide) (fun c82 => ?_) (fun c82 => ?_)
  · refine px_iload_n d_X9_numberToken_90 rfl rfl ?_
    exact px_ireturn d_X9_numberToken_91 rfl rfl ⟨rfl, px_si (by first | exact (if_neg (Nat.not_lt.mpr ((nI_leI (b := 5) (by omega) (by decide)).mp c82))).symm | exact (if_pos (Nat.not_le.mp fun q => c82 (nI_le q (by decide)))).symm), rfl⟩
  · refine px_bipush (v := (-2)) d_X9_numberToken_85 (by decide) ?_
    refine px_goto (tgt := 91) d_X9_numberToken_87 (by decide) ?_
    exact px_ireturn d_X9_numberToken_91 rfl rfl ⟨rfl, px_si (by first | exact (if_neg (Nat.not_lt.mpr ((nI_leI (b := 5) (by omega) (by decide)).mp c82))).symm | exact (if_pos (Nat.not_le.mp fun q => c82 (nI_le q (by decide)))).symm), rfl⟩
theorem isBb_f {c : Int32} (h1 : ¬ c = 10) (h2 : ¬ c = 32) : ¬ isBb c = true := fun q => (of_decide_eq_true q).elim h1 h2
theorem isBb_t {c : Int32} (h : c = 10 ∨ c = 32) : isBb c = true := decide_eq_true h
def rnB (S : Nat → Int32) (n i : Nat) : Nat := run isBb S (n - i) i
theorem tpS_I {h : PH} {p a x : Nat} (hx : x ≠ 7) : hI (tpS h p a) x = hI h x := by
  unfold tpS
  rw [hI_pI hx, hI_pI hx]
theorem tpS_w (h : PH) (p a b : Nat) : pI (tpS h p a) 7 3 (nI b) = tpS h p b := pI_pI _ _ _ _ _
theorem pI_com (h : PH) {a i j : Nat} (hij : i ≠ j) (v w : Int32) : pI (pI h a i v) a j w = pI (pI h a j w) a i v := PH.ext (fun x k => by
  simp only [gI]
  by_cases h1 : x = a ∧ k = j <;> by_cases h2 : x = a ∧ k = i
  · exact absurd (h2.2.symm.trans h1.2) hij
  · simp [h1.1, h1.2, Ne.symm hij]
  · simp [h2.1, h2.2, hij]
  · simp [h1, h2]) rfl
theorem lp_X9_nextToken {h : PH} {N S0 : Nat} {Post : Nat → Option Value → PH → Prop} (hL : px_L h) {n p : Nat} (hz : hI h 7 1 = nI n) (hn6 : n ≤ 600) (hN : hn h ≤ N ∧ hs h ≤ S0) : ∀ (k i : Nat), i + k = n → PW M_X9_nextToken N S0 Post 52 [(0, .ref 7)] [] (pI h 7 3 (nI (run isBb (hI h 8) k i))) → PW M_X9_nextToken N S0 Post 0 [(0, .ref 7)] [] (pI h 7 3 (nI i)) := by
  intro k
  induction k with
  | zero =>
    intro i hi kk
    have e : i = n := by omega
    rw [e] at kk ⊢
    refine px_aload_n d_X9_nextToken_0 rfl rfl ?_
    refine px_getI d_X9_nextToken_1 fl_X9_19 rfl (so7 hL) ?_
    refine px_val (y := nI n) (gI_s _ _ _ _) ?_
    refine px_aload_n d_X9_nextToken_4 rfl rfl ?_
    refine px_getI d_X9_nextToken_5 fl_X9_15 rfl (so7 hL) ?_
    refine px_val (y := nI n) hz ?_
    refine px_icmp_ge (tgt := 52) d_X9_nextToken_8 (by decide) (fun c8 => ?_) (fun c8 => (c8 (nI_le (Nat.le_refl _) (by omega))).elim)
    exact kk
  | succ k ih =>
    intro i hi kk
    refine px_aload_n d_X9_nextToken_0 rfl rfl ?_
    refine px_getI d_X9_nextToken_1 fl_X9_19 rfl (so7 hL) ?_
    refine px_val (y := nI i) (gI_s _ _ _ _) ?_
    refine px_aload_n d_X9_nextToken_4 rfl rfl ?_
    refine px_getI d_X9_nextToken_5 fl_X9_15 rfl (so7 hL) ?_
    refine px_val (y := nI n) hz ?_
    refine px_icmp_ge (tgt := 52) d_X9_nextToken_8 (by decide) (fun c8 => absurd c8 (nI_ge (by omega) (by omega))) (fun c8 => ?_)
    refine px_aload_n d_X9_nextToken_11 rfl rfl ?_
    refine px_getR d_X9_nextToken_12 fl_X9_9 (by decide) (so7 hL) (sr7_0 hL) ?_
    refine px_aload_n d_X9_nextToken_15 rfl rfl ?_
    refine px_getI d_X9_nextToken_16 fl_X9_19 rfl (so7 hL) ?_
    refine px_val (y := nI i) (gI_s _ _ _ _) ?_
    refine px_cald d_X9_nextToken_19 (sa8 hL) rfl (by omega) ?_
    refine px_val (y := (hI h 8) i) rfl ?_
    refine px_bipush (v := 10) d_X9_nextToken_20 (by decide) ?_
    refine px_icmp_eq (tgt := 39) d_X9_nextToken_22 (by decide) (fun c22 => ?_) (fun c22 => ?_)
    · refine px_aload_n d_X9_nextToken_39 rfl rfl ?_
      refine px_dup d_X9_nextToken_40 rfl ?_
      refine px_getI d_X9_nextToken_41 fl_X9_19 rfl (so7 hL) ?_
      refine px_val (y := nI i) (gI_s _ _ _ _) ?_
      refine px_iconst (v := 1) d_X9_nextToken_44 (by decide) ?_
      refine px_iadd d_X9_nextToken_45 ?_
      refine px_putI d_X9_nextToken_46 fl_X9_19 rfl (so7 hL) ?_
      refine px_heap (h2 := pI h 7 3 (nI (i + 1))) ((pI_pI ..).trans (by rw [nI_s1])) ?_
      refine px_goto (tgt := 0) d_X9_nextToken_49 (by decide) ?_
      rw [run_y (isBb_t (by first | exact Or.inl c22 | exact Or.inr (by first | exact c36 | exact Classical.not_not.mp c36)))] at kk
      refine px_drop (lv' := [(0, .ref 7)]) ⟨rfl, trivial⟩ ?_
      exact ih (i + 1) (by omega) kk
    · refine px_aload_n d_X9_nextToken_25 rfl rfl ?_
      refine px_getR d_X9_nextToken_26 fl_X9_9 (by decide) (so7 hL) (sr7_0 hL) ?_
      refine px_aload_n d_X9_nextToken_29 rfl rfl ?_
      refine px_getI d_X9_nextToken_30 fl_X9_19 rfl (so7 hL) ?_
      refine px_val (y := nI i) (gI_s _ _ _ _) ?_
      refine px_cald d_X9_nextToken_33 (sa8 hL) rfl (by omega) ?_
      refine px_val (y := (hI h 8) i) rfl ?_
      refine px_bipush (v := 32) d_X9_nextToken_34 (by decide) ?_
      refine px_icmp_ne (tgt := 52) d_X9_nextToken_36 (by decide) (fun c36 => ?_) (fun c36 => ?_)
      · rw [run_n (isBb_f c22 c36)] at kk
        exact kk
      · refine px_aload_n d_X9_nextToken_39 rfl rfl ?_
        refine px_dup d_X9_nextToken_40 rfl ?_
        refine px_getI d_X9_nextToken_41 fl_X9_19 rfl (so7 hL) ?_
        refine px_val (y := nI i) (gI_s _ _ _ _) ?_
        refine px_iconst (v := 1) d_X9_nextToken_44 (by decide) ?_
        refine px_iadd d_X9_nextToken_45 ?_
        refine px_putI d_X9_nextToken_46 fl_X9_19 rfl (so7 hL) ?_
        refine px_heap (h2 := pI h 7 3 (nI (i + 1))) ((pI_pI ..).trans (by rw [nI_s1])) ?_
        refine px_goto (tgt := 0) d_X9_nextToken_49 (by decide) ?_
        rw [run_y (isBb_t (by first | exact Or.inl c22 | exact Or.inr (by first | exact c36 | exact Classical.not_not.mp c36)))] at kk
        refine px_drop (lv' := [(0, .ref 7)]) ⟨rfl, trivial⟩ ?_
        exact ih (i + 1) (by omega) kk
theorem c_X9_nextToken {h : PH} (hL : px_L h) {n a : Nat} (hz : hI h 7 1 = nI n) (hn6 : n ≤ 600) (ha : hI h 7 3 = nI a) (han : a ≤ n) : PM M_X9_nextToken [.ref 7] h (some (.int (tkT (hI h 8) n (rnB (hI h 8) n a)))) (tpS h (rnB (hI h 8) n a) (enT (hI h 8) n (rnB (hI h 8) n a))) := by
  refine PM.of (by decide +kernel) (by decide +kernel) (Nat.le_refl _) (Nat.le_refl _) (Nat.le_of_ble_eq_true rfl) ?_
  have hge := run_ge (P := isBb) (S := (hI h 8)) (n - a) a
  have hge2 : a ≤ (rnB (hI h 8) n a) ∧ (rnB (hI h 8) n a) ≤ n := ⟨hge.1, by have := hge.2; unfold rnB; omega⟩
  refine px_drop (lv' := [(0, .ref 7)]) ⟨rfl, trivial⟩ ?_
  refine px_heap (h2 := (pI h 7 3 (nI a))) (by rw [← ha]; exact (pI_self ..).symm) ?_
  refine lp_X9_nextToken (p := 0) hL hz hn6 ⟨Nat.le_refl (hn h), Nat.le_refl (hs h)⟩ (n - a) a (by omega) ?_
  refine px_heap (h2 := pI h 7 3 (nI (rnB (hI h 8) n a))) rfl ?_
  refine px_aload_n d_X9_nextToken_52 rfl rfl ?_
  refine px_aload_n d_X9_nextToken_53 rfl rfl ?_
  refine px_getI d_X9_nextToken_54 fl_X9_19 rfl (so7 hL) ?_
  refine px_val (y := nI (rnB (hI h 8) n a)) (gI_s _ _ _ _) ?_
  refine px_putI d_X9_nextToken_57 fl_X9_22 rfl (so7 hL) ?_
  refine px_heap (h2 := (tpS h (rnB (hI h 8) n a) (rnB (hI h 8) n a))) (pI_com _ (by decide) _ _) ?_
  refine px_aload_n d_X9_nextToken_60 rfl rfl ?_
  refine px_getI d_X9_nextToken_61 fl_X9_19 rfl (so7 hL) ?_
  refine px_val (y := nI (rnB (hI h 8) n a)) (gI_s _ _ _ _) ?_
  refine px_aload_n d_X9_nextToken_64 rfl rfl ?_
  refine px_getI d_X9_nextToken_65 fl_X9_15 rfl (so7 hL) ?_
  refine px_val (y := nI n) hz ?_
  refine px_icmp_lt (tgt := 73) d_X9_nextToken_68 (by decide) (fun c68 => ?_) (fun c68 => ?_)
  · refine px_aload_n d_X9_nextToken_73 rfl rfl ?_
    refine px_getR d_X9_nextToken_74 fl_X9_9 (by decide) (so7 hL) (sr7_0 hL) ?_
    refine px_aload_n d_X9_nextToken_77 rfl rfl ?_
    have hq : (rnB (hI h 8) n a) < n := (nI_ltI (by omega) (by omega)).mp c68
    refine px_getI d_X9_nextToken_78 fl_X9_19 rfl (so7 hL) ?_
    refine px_val (y := nI (rnB (hI h 8) n a)) (gI_s _ _ _ _) ?_
    refine px_cald d_X9_nextToken_81 (sa8 hL) rfl (by omega) ?_
    refine px_val (y := (hI h 8) (rnB (hI h 8) n a)) rfl ?_
    refine px_callS (c_X9_isLetter) d_X9_nextToken_82 lk_X9_25 ok_X9_isLetter os_X9_isLetter rfl (Nat.le_of_ble_eq_true rfl) (by decide) ⟨Nat.le_refl (hn h), Nat.le_refl (hs h)⟩ ?_
    refine px_if_eq (tgt := 93) d_X9_nextToken_85 (by decide) (fun c85 => ?_) (fun c85 => ?_)
    · refine px_aload_n d_X9_nextToken_93 rfl rfl ?_
      refine px_getR d_X9_nextToken_94 fl_X9_9 (by decide) (so7 hL) (sr7_0 hL) ?_
      refine px_aload_n d_X9_nextToken_97 rfl rfl ?_
      refine px_getI d_X9_nextToken_98 fl_X9_19 rfl (so7 hL) ?_
      refine px_val (y := nI (rnB (hI h 8) n a)) (gI_s _ _ _ _) ?_
      refine px_cald d_X9_nextToken_101 (sa8 hL) rfl (by omega) ?_
      refine px_val (y := (hI h 8) (rnB (hI h 8) n a)) rfl ?_
      refine px_callS (c_X9_isDigit) d_X9_nextToken_102 lk_X9_33 ok_X9_isDigit os_X9_isDigit rfl (Nat.le_of_ble_eq_true rfl) (by decide) ⟨Nat.le_refl (hn h), Nat.le_refl (hs h)⟩ ?_
      refine px_if_eq (tgt := 113) d_X9_nextToken_105 (by decide) (fun c105 => ?_) (fun c105 => ?_)
      · refine px_aload_n d_X9_nextToken_113 rfl rfl ?_
        refine px_dup d_X9_nextToken_114 rfl ?_
        refine px_getI d_X9_nextToken_115 fl_X9_19 rfl (so7 hL) ?_
        refine px_val (y := nI (rnB (hI h 8) n a)) (gI_s _ _ _ _) ?_
        refine px_iconst (v := 1) d_X9_nextToken_118 (by decide) ?_
        refine px_iadd d_X9_nextToken_119 ?_
        refine px_putI d_X9_nextToken_120 fl_X9_19 rfl (so7 hL) ?_
        refine px_heap (h2 := tpS h (rnB (hI h 8) n a) ((rnB (hI h 8) n a) + 1)) ((congrArg (pI (tpS h (rnB (hI h 8) n a) (rnB (hI h 8) n a)) 7 3) (nI_s1 _)).trans (tpS_w ..)) ?_
        refine px_aload_n d_X9_nextToken_123 rfl rfl ?_
        refine px_getR d_X9_nextToken_124 fl_X9_9 (by decide) (so7 hL) (sr7_0 hL) ?_
        refine px_aload_n d_X9_nextToken_127 rfl rfl ?_
        refine px_getI d_X9_nextToken_128 fl_X9_22 rfl (so7 hL) ?_
        refine px_val (y := nI (rnB (hI h 8) n a)) rfl ?_
        refine px_cald d_X9_nextToken_131 (sa8 hL) rfl (by omega) ?_
        refine px_val (y := (hI h 8) (rnB (hI h 8) n a)) rfl ?_
        refine px_callS (c_X9_signToken) d_X9_nextToken_132 lk_X9_39 ok_X9_signToken os_X9_signToken rfl (Nat.le_of_ble_eq_true rfl) (by decide) ⟨Nat.le_refl (hn h), Nat.le_refl (hs h)⟩ ?_
        exact px_ireturn d_X9_nextToken_135 rfl rfl ⟨rfl, px_si ((if_pos hq).trans ((if_neg (isLb_f c85)).trans (if_neg (isDb_f c105)))).symm, by rw [show enT (hI h 8) n (rnB (hI h 8) n a) = _ from (if_pos hq).trans ((if_neg (isLb_f c85)).trans (if_neg (isDb_f c105)))]⟩
      · refine px_aload_n d_X9_nextToken_108 rfl rfl ?_
        refine px_callV (c_X9_numberToken (h := (tpS h (rnB (hI h 8) n a) (rnB (hI h 8) n a))) (n := n) (p := (rnB (hI h 8) n a)) hL hz hn6 rfl rfl (by omega)) d_X9_nextToken_109 lk_X9_36 ok_X9_numberToken ov_X9_numberToken (so7 hL) (by decide) rfl rfl (Nat.le_of_ble_eq_true rfl) (by decide) ⟨Nat.le_refl (hn h), Nat.le_refl (hs h)⟩ ?_
        refine px_heap (h2 := tpS h (rnB (hI h 8) n a) (run isDb (hI h 8) (n - (rnB (hI h 8) n a)) (rnB (hI h 8) n a))) (tpS_w ..) ?_
        exact px_ireturn d_X9_nextToken_112 rfl rfl ⟨rfl, px_si ((if_pos hq).trans ((if_neg (isLb_f c85)).trans (if_pos (isDb_t c105)))).symm, by rw [show enT (hI h 8) n (rnB (hI h 8) n a) = _ from (if_pos hq).trans ((if_neg (isLb_f c85)).trans (if_pos (isDb_t c105)))]⟩
    · refine px_aload_n d_X9_nextToken_88 rfl rfl ?_
      refine px_callV (c_X9_wordToken (h := (tpS h (rnB (hI h 8) n a) (rnB (hI h 8) n a))) (n := n) (p := (rnB (hI h 8) n a)) hL hz hn6 rfl rfl (by omega)) d_X9_nextToken_89 lk_X9_29 ok_X9_wordToken ov_X9_wordToken (so7 hL) (by decide) rfl rfl (Nat.le_of_ble_eq_true rfl) (by decide) ⟨Nat.le_refl (hn h), Nat.le_refl (hs h)⟩ ?_
      refine px_heap (h2 := tpS h (rnB (hI h 8) n a) (run isLb (hI h 8) (n - (rnB (hI h 8) n a)) (rnB (hI h 8) n a))) (tpS_w ..) ?_
      exact px_ireturn d_X9_nextToken_92 rfl rfl ⟨rfl, px_si ((if_pos hq).trans (if_pos (isLb_t c85))).symm, by rw [show enT (hI h 8) n (rnB (hI h 8) n a) = _ from (if_pos hq).trans (if_pos (isLb_t c85))]⟩
  · refine px_iconst (v := (-1)) d_X9_nextToken_71 (by decide) ?_
    exact px_ireturn d_X9_nextToken_72 rfl rfl (have hq : ¬ (rnB (hI h 8) n a) < n := fun q => c68 (nI_lt q (by omega))
    ⟨rfl, px_si (if_neg hq).symm, by rw [show enT (hI h 8) n (rnB (hI h 8) n a) = (rnB (hI h 8) n a) from if_neg hq]⟩)
