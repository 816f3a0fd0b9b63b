theorem nI_d7 {a : Nat} (ha : a < 2 ^ 31) : nI a / 7 = nI (a / 7) := pk_div (d := 7) ha (by decide) (by decide)
theorem nI_r7 {a : Nat} (ha : a < 2 ^ 31) : nI a - nI a / 7 * 7 = nI (a % 7) := by
  rw [nI_d7 ha]
  have e1 : nI (a / 7) * 7 = nI (a / 7 * 7) := (Int32.ofNat_mul ..).symm
  have e2 : nI a = nI (a % 7) + nI (a / 7 * 7) := by rw [nI_add]; congr 1; omega
  rw [e1, e2]
  exact Int32.add_sub_cancel _ _
theorem nI_m7 (a : Nat) : nI a * 7 = nI (7 * a) := by
  rw [Nat.mul_comm]
  exact (Int32.ofNat_mul ..).symm
/-- the reference's sales: the draft, what was sold, how many -/
def setB (h : PH) (d so : Nat → Int32) (sm : Int32) : PH := pI (rI (rI h 75 d) 76 so) 36 54 sm
theorem setB_75 (h : PH) (d so : Nat → Int32) (sm : Int32) (i : Nat) (v : Int32) : pI (setB h d so sm) 75 i v = setB h (upf d i v) so sm := by
  refine PH.ext (fun x j => ?_) rfl
  unfold setB upf
  simp only [gI, hI_rI]
  by_cases h1 : x = 75 <;> by_cases h2 : x = 76 <;> by_cases h3 : x = 36 <;> first | omega | simp [h1, h2, h3]
theorem setB_76 (h : PH) (d so : Nat → Int32) (sm : Int32) (i : Nat) (v : Int32) : pI (setB h d so sm) 76 i v = setB h d (upf so i v) sm := by
  refine PH.ext (fun x j => ?_) rfl
  unfold setB upf
  simp only [gI, hI_rI]
  by_cases h1 : x = 75 <;> by_cases h2 : x = 76 <;> by_cases h3 : x = 36 <;> first | omega | simp [h1, h2, h3]
theorem setB_sm (h : PH) (d so : Nat → Int32) (sm v : Int32) : pI (setB h d so sm) 36 54 v = setB h d so v := pI_pI _ _ _ _ _
theorem setB_self (h : PH) : setB h (hI h 75) (hI h 76) (hI h 36 54) = h := by
  unfold setB
  rw [rI_self, rI_self, pI_self]
/-- a digit of a number to the base 7, the first of n the highest -/
def dgr (k n j : Nat) : Nat := k / 7 ^ (n - 1 - j) % 7
def dgF (k n i : Nat) (d : Nat → Int32) : Nat → Int32 := fun j => if i ≤ j ∧ j < n then nI (dgr k n j) else d j
theorem dgF_n (k n : Nat) (d : Nat → Int32) : dgF k n n d = d := funext fun j => if_neg (by omega)
theorem dgF_s (k n i : Nat) (d : Nat → Int32) (hi : i < n) : upf (dgF k n (i + 1) d) i (nI (dgr k n i)) = dgF k n i d := by
  funext j
  unfold upf dgF
  by_cases h1 : j = i
  · subst h1; rw [if_pos rfl, if_pos ⟨Nat.le_refl _, hi⟩]
  · rw [if_neg h1]
    by_cases h2 : i + 1 ≤ j ∧ j < n
    · rw [if_pos h2, if_pos ⟨by omega, h2.2⟩]
    · rw [if_neg h2, if_neg (by omega)]
theorem slW_cg {dr dr' pr : Nat → Int32} {w : Int32} {v : Nat} {x : Int32} : ∀ (n : Nat), (∀ j, j < n → dr j = dr' j) → slW dr pr w v x n = slW dr' pr w v x n
  | 0, _ => rfl
  | n + 1, h => by
    unfold slW
    rw [slW_cg n (fun j hj => h j (by omega)), h n (by omega)]
theorem cmW_cg {dr dr' pr nd : Nat → Int32} {n : Nat} (h : ∀ j, j < n → dr j = dr' j) : ∀ (k w : Nat) (x a : Int32), cmW dr pr nd n k w x a = cmW dr' pr nd n k w x a
  | 0, _, _, _ => slW_cg n h
  | k + 1, w, x, a => by
    unfold cmW
    rw [slW_cg n h, cmW_cg h k]
/-- what the draft of number k comes to -/
def cmK (pr nd : Nat → Int32) (n k : Nat) : Int32 := cmW (fun j => nI (dgr k n j)) pr nd n 6 0 0 0
abbrev BS : Type := Int32 × (Nat → Int32) × Int32
def cpF (k n i : Nat) (so : Nat → Int32) : Nat → Int32 := fun j => if j < i then nI (dgr k n j) else so j
def bst (pr nd : Nat → Int32) (n k : Nat) (B : BS) : BS := if cmK pr nd n k ≤ B.1 then B else (cmK pr nd n k, cpF k n n B.2.1, nI n)
def bLp (pr nd : Nat → Int32) (n : Nat) : Nat → BS → BS
  | 0, B => B
  | k + 1, B => bLp pr nd n k (bst pr nd n k B)
theorem cpF_0 (k n : Nat) (so : Nat → Int32) : cpF k n 0 so = so := funext fun j => if_neg (Nat.not_lt_zero j)
theorem cpF_s (k n i : Nat) (so : Nat → Int32) : upf (cpF k n i so) i (nI (dgr k n i)) = cpF k n (i + 1) so := by
  funext j
  unfold upf cpF
  by_cases h1 : j = i
  · subst h1; rw [if_pos rfl, if_pos (Nat.lt_succ_self _)]
  · rw [if_neg h1]
    by_cases h2 : j < i
    · rw [if_pos h2, if_pos (by omega)]
    · rw [if_neg h2, if_neg (by omega)]
theorem p7 {n : Nat} (hn : n ≤ 6) : 7 ^ n ≤ 117649 := Nat.pow_le_pow_right (by decide) hn
def bsQ (h : PH) (B : BS) : Option Value → PH → Prop := fun r h' => r = some (.int B.1) ∧ ∃ d, h' = setB h d B.2.1 B.2.2
theorem lpA_X12_best {h : PH} {N S : Nat} {Post : Nat → Option Value → PH → Prop} (hL : px_L h) {n : Nat} (hs1 : hI h 36 49 = nI n) (hn6 : n ≤ 6) (kk : PW M_X12_best N S Post 28 [(0, .ref 36), (1, .int (nI (7 ^ n)))] [] h) : ∀ (k i : Nat), i + k = n → PW M_X12_best N S Post 9 [(0, .ref 36), (1, .int (nI (7 ^ (i)))), (2, .int (nI (i)))] [] h := by
  intro k
  induction k with
  | zero =>
    intro i hi
    have e : i = n := by omega
    rw [e]
    refine px_iload_n d_X12_best_9 rfl rfl ?_
    refine px_aload_n d_X12_best_10 rfl rfl ?_
    refine px_getI d_X12_best_11 fl_X12_309 rfl (so36 hL) ?_
    refine px_val (y := nI n) hs1 ?_
    refine px_icmp_ge (tgt := 28) d_X12_best_14 (by decide) (fun c14 => ?_) (fun c14 => (c14 (nI_le (by omega) (by omega))).elim)
    refine px_drop (lv' := [(0, .ref 36), (1, .int (nI (7 ^ n)))]) ⟨rfl, rfl, trivial⟩ ?_
    exact kk
  | succ k ih =>
    intro i hi
    refine px_iload_n d_X12_best_9 rfl rfl ?_
    refine px_aload_n d_X12_best_10 rfl rfl ?_
    refine px_getI d_X12_best_11 fl_X12_309 rfl (so36 hL) ?_
    refine px_val (y := nI n) hs1 ?_
    refine px_icmp_ge (tgt := 28) d_X12_best_14 (by decide) (fun c14 => absurd c14 (nI_ge (by omega) (by omega))) (fun c14 => ?_)
    refine px_iload_n d_X12_best_17 rfl rfl ?_
    refine px_bipush (v := 7) d_X12_best_18 (by decide) ?_
    refine px_imul d_X12_best_20 ?_
    refine px_istore_n d_X12_best_21 rfl (by decide) ?_
    refine px_inc1 d_X12_best_22 rfl (by decide) ?_
    refine px_goto (tgt := 9) d_X12_best_25 (by decide) ?_
    refine px_drop (lv' := [(0, .ref 36), (1, .int (nI (7 ^ (i + 1)))), (2, .int (nI (i + 1)))]) ⟨rfl, px_si ((nI_m7 _).trans (congrArg nI (by rw [Nat.pow_succ, Nat.mul_comm]))), px_si (nI_s1 _), trivial⟩ ?_
    exact ih (i + 1) (by omega)
theorem lpD_X12_best {h : PH} {N S : Nat} {Post : Nat → Option Value → PH → Prop} {mo sm : Int32} {q : Nat} {d so : Nat → Int32} (hL : px_L h) {n : Nat} (hn6 : n ≤ 6) (hq : q < 2 ^ 31) (kk : PW M_X12_best N S Post 79 [(0, .ref 36), (2, .int mo), (3, .int (nI q))] [] (setB h (dgF q n 0 d) so sm)) : ∀ i : Nat, i ≤ n → PW M_X12_best N S Post 49 [(0, .ref 36), (2, .int mo), (3, .int (nI q)), (4, .int (nI (q / 7 ^ (n - i)))), (5, .int (nI (i) - 1))] [] (setB h (dgF q n i d) so sm) := by
  intro i
  induction i with
  | zero =>
    intro hi
    refine px_iload d_X12_best_49 rfl ?_
    refine px_if_lt (tgt := 79) d_X12_best_51 (by decide) (fun c51 => ?_) (fun c51 => (c51 (by decide)).elim)
    refine px_drop (lv' := [(0, .ref 36), (2, .int mo), (3, .int (nI q))]) ⟨rfl, rfl, rfl, trivial⟩ ?_
    exact kk
  | succ i ih =>
    intro hi
    rw [nI_pred]
    have hlt : q / 7 ^ (n - (i + 1)) < 2 ^ 31 := Nat.lt_of_le_of_lt (Nat.div_le_self _ _) hq
    have e1 : q / 7 ^ (n - (i + 1)) % 7 = dgr q n i := by unfold dgr; rw [show n - (i + 1) = n - 1 - i by omega]
    have e2 : q / 7 ^ (n - (i + 1)) / 7 = q / 7 ^ (n - i) := by rw [Nat.div_div_eq_div_mul, ← Nat.pow_succ, show (n - (i + 1)).succ = n - i by omega]
    refine px_iload d_X12_best_49 rfl ?_
    refine px_if_lt (tgt := 79) d_X12_best_51 (by decide) (fun c51 => absurd c51 (nI_pos (by omega))) (fun c51 => ?_)
    refine px_aload_n d_X12_best_54 rfl rfl ?_
    refine px_getR d_X12_best_55 fl_X12_144 (by decide) (so36 hL) (sr36_52 hL) ?_
    refine px_iload d_X12_best_58 rfl ?_
    refine px_iload d_X12_best_60 rfl ?_
    refine px_bipush (v := 7) d_X12_best_62 (by decide) ?_
    refine px_irem d_X12_best_64 (by decide) ?_
    refine px_val (y := nI (dgr q n i)) ((nI_r7 hlt).trans (congrArg nI e1)) ?_
    refine px_iast d_X12_best_65 (sa75 hL) rfl (by omega) ?_
    refine px_heap (h2 := (setB h (dgF q n i d) so sm)) ((setB_75 ..).trans (by rw [dgF_s _ _ _ _ (by omega)])) ?_
    refine px_iload d_X12_best_66 rfl ?_
    refine px_bipush (v := 7) d_X12_best_68 (by decide) ?_
    refine px_idiv d_X12_best_70 (by decide) ?_
    refine px_val (y := nI (q / 7 ^ (n - i))) ((nI_d7 hlt).trans (congrArg nI e2)) ?_
    refine px_istore d_X12_best_71 (by decide) ?_
    refine px_iinc d_X12_best_73 rfl rfl (by decide) ?_
    refine px_goto (tgt := 49) d_X12_best_76 (by decide) ?_
    refine px_drop (lv' := [(0, .ref 36), (2, .int mo), (3, .int (nI q)), (4, .int (nI (q / 7 ^ (n - i)))), (5, .int (nI i - 1))]) ⟨rfl, rfl, rfl, rfl, px_si ((by rw [Int32.sub_eq_add_neg]; rfl)), trivial⟩ ?_
    exact ih (by omega)
theorem lpC_X12_best {h : PH} {N S : Nat} {Post : Nat → Option Value → PH → Prop} {mo sm : Int32} {q : Nat} {d so : Nat → Int32} (hL : px_L h) {n : Nat} (hs1 : hI h 36 49 = nI n) (hn6 : n ≤ 6) (kk : PW M_X12_best N S Post 134 [(0, .ref 36), (2, .int mo), (3, .int (nI q))] [] (setB h (dgF q n 0 d) (cpF q n n so) (nI n))) : ∀ (k i : Nat), i + k = n → PW M_X12_best N S Post 97 [(0, .ref 36), (2, .int mo), (3, .int (nI q)), (6, .int (nI (i)))] [] (setB h (dgF q n 0 d) (cpF q n i so) sm) := by
  intro k
  induction k with
  | zero =>
    intro i hi
    have e : i = n := by omega
    rw [e]
    refine px_iload d_X12_best_97 rfl ?_
    refine px_aload_n d_X12_best_99 rfl rfl ?_
    refine px_getI d_X12_best_100 fl_X12_309 rfl (so36 hL) ?_
    refine px_val (y := nI n) hs1 ?_
    refine px_icmp_ge (tgt := 126) d_X12_best_103 (by decide) (fun c103 => ?_) (fun c103 => (c103 (nI_le (by omega) (by omega))).elim)
    refine px_aload_n d_X12_best_126 rfl rfl ?_
    refine px_aload_n d_X12_best_127 rfl rfl ?_
    refine px_getI d_X12_best_128 fl_X12_309 rfl (so36 hL) ?_
    refine px_val (y := nI n) hs1 ?_
    refine px_putI d_X12_best_131 fl_X12_318 rfl (so36 hL) ?_
    refine px_heap (h2 := setB h (dgF q n 0 d) (cpF q n n so) (nI n)) (setB_sm ..) ?_
    refine px_drop (lv' := [(0, .ref 36), (2, .int mo), (3, .int (nI q))]) ⟨rfl, rfl, rfl, trivial⟩ ?_
    exact kk
  | succ k ih =>
    intro i hi
    refine px_iload d_X12_best_97 rfl ?_
    refine px_aload_n d_X12_best_99 rfl rfl ?_
    refine px_getI d_X12_best_100 fl_X12_309 rfl (so36 hL) ?_
    refine px_val (y := nI n) hs1 ?_
    refine px_icmp_ge (tgt := 126) d_X12_best_103 (by decide) (fun c103 => absurd c103 (nI_ge (by omega) (by omega))) (fun c103 => ?_)
    refine px_aload_n d_X12_best_106 rfl rfl ?_
    refine px_getR d_X12_best_107 fl_X12_147 (by decide) (so36 hL) (sr36_53 hL) ?_
    refine px_iload d_X12_best_110 rfl ?_
    refine px_aload_n d_X12_best_112 rfl rfl ?_
    refine px_getR d_X12_best_113 fl_X12_144 (by decide) (so36 hL) (sr36_52 hL) ?_
    refine px_iload d_X12_best_116 rfl ?_
    refine px_iald d_X12_best_118 (sa75 hL) rfl (by omega) ?_
    refine px_val (y := nI (dgr q n i)) (show dgF q n 0 d i = _ from if_pos ⟨Nat.zero_le _, by omega⟩) ?_
    refine px_iast d_X12_best_119 (sa76 hL) rfl (by omega) ?_
    refine px_heap (h2 := setB h (dgF q n 0 d) (cpF q n (i + 1) so) sm) ((setB_76 ..).trans (by rw [cpF_s])) ?_
    refine px_inc1 d_X12_best_120 rfl (by decide) ?_
    refine px_goto (tgt := 97) d_X12_best_123 (by decide) ?_
    refine px_drop (lv' := [(0, .ref 36), (2, .int mo), (3, .int (nI q)), (6, .int (nI (i + 1)))]) ⟨rfl, rfl, rfl, px_si (nI_s1 _), trivial⟩ ?_
    exact ih (i + 1) (by omega)
theorem lp_X12_best {h : PH} (hL : px_L h) {n : Nat} (hs1 : hI h 36 49 = nI n) (hn6 : n ≤ 6) : ∀ (k : Nat) (B : BS) (d : Nat → Int32), k ≤ 7 ^ n → PW M_X12_best (hn h) (hs h) (PXpost h 0 0 (bsQ h (bLp (hI h 73) (hI h 74) n k B))) 34 [(0, .ref 36), (2, .int B.1), (3, .int (nI k - 1))] [] (setB h d B.2.1 B.2.2) := by
  have h7 := p7 hn6
  intro k
  induction k with
  | zero =>
    intro B d hk
    refine px_iload_n d_X12_best_34 rfl rfl ?_
    refine px_if_lt (tgt := 140) d_X12_best_35 (by decide) (fun c35 => ?_) (fun c35 => (c35 (by decide)).elim)
    refine px_iload_n d_X12_best_140 rfl rfl ?_
    exact px_ireturn d_X12_best_141 rfl rfl ⟨rfl, ⟨rfl, d, rfl⟩, rfl, rfl⟩
  | succ k ih =>
    intro B d hk
    rw [nI_pred]
    have cC := c_X12_comesTo (h := setB h (dgF k n 0 d) B.2.1 B.2.2) (n := n) hL hs1 hn6
    rw [show cmW (hI (setB h (dgF k n 0 d) B.2.1 B.2.2) 75) (hI (setB h (dgF k n 0 d) B.2.1 B.2.2) 73) (hI (setB h (dgF k n 0 d) B.2.1 B.2.2) 74) n 6 0 0 0 = cmK (hI h 73) (hI h 74) n k from cmW_cg (fun j hj => if_pos ⟨Nat.zero_le _, hj⟩) 6 0 0 0] at cC
    refine px_iload_n d_X12_best_34 rfl rfl ?_
    refine px_if_lt (tgt := 140) d_X12_best_35 (by decide) (fun c35 => absurd c35 (nI_pos (by omega))) (fun c35 => ?_)
    refine px_iload_n d_X12_best_38 rfl rfl ?_
    refine px_istore d_X12_best_39 (by decide) ?_
    refine px_aload_n d_X12_best_41 rfl rfl ?_
    refine px_getI d_X12_best_42 fl_X12_309 rfl (so36 hL) ?_
    refine px_val (y := nI n) hs1 ?_
    refine px_iconst (v := 1) d_X12_best_45 (by decide) ?_
    refine px_isub d_X12_best_46 ?_
    refine px_istore d_X12_best_47 (by decide) ?_
    refine px_drop (lv' := [(0, .ref 36), (2, .int B.1), (3, .int (nI k)), (4, .int (nI (k / 7 ^ (n - n)))), (5, .int (nI n - 1))]) ⟨rfl, rfl, rfl, px_si (by rw [Nat.sub_self, Nat.pow_zero, Nat.div_one]), rfl, trivial⟩ ?_
    refine px_heap (h2 := setB h (dgF k n n d) B.2.1 B.2.2) (by rw [dgF_n]) ?_
    refine lpD_X12_best hL hn6 (by omega) ?_ n (Nat.le_refl _)
    refine px_aload_n d_X12_best_79 rfl rfl ?_
    refine px_callV (cC) d_X12_best_80 lk_X12_315 ok_X12_comesTo ov_X12_comesTo (so36 hL) (by decide) rfl rfl (Nat.le_of_ble_eq_true rfl) (by decide) ⟨Nat.le_refl (hn h), Nat.le_refl (hs h)⟩ ?_
    refine px_istore d_X12_best_83 (by decide) ?_
    refine px_iload d_X12_best_85 rfl ?_
    refine px_iload_n d_X12_best_87 rfl rfl ?_
    refine px_icmp_le (tgt := 134) d_X12_best_88 (by decide) (fun c88 => ?_) (fun c88 => ?_)
    · rw [show bLp (hI h 73) (hI h 74) n (k + 1) B = bLp (hI h 73) (hI h 74) n k B from congrArg (bLp (hI h 73) (hI h 74) n k) (if_pos c88)]
      refine px_iinc (v := nI k - 1) d_X12_best_134 rfl (by rw [Int32.sub_eq_add_neg]; rfl) (by decide) ?_
      refine px_goto (tgt := 34) d_X12_best_137 (by decide) ?_
      refine px_drop (lv' := [(0, .ref 36), (2, .int B.1), (3, .int (nI k - 1))]) ⟨rfl, rfl, rfl, trivial⟩ ?_
      exact ih B _ (by omega)
    · refine px_iload d_X12_best_91 rfl ?_
      refine px_istore_n d_X12_best_93 rfl (by decide) ?_
      refine px_iconst (v := 0) d_X12_best_94 (by decide) ?_
      refine px_istore d_X12_best_95 (by decide) ?_
      have eB : bLp (hI h 73) (hI h 74) n (k + 1) B = bLp (hI h 73) (hI h 74) n k (cmK (hI h 73) (hI h 74) n k, cpF k n n B.2.1, nI n) := congrArg (bLp (hI h 73) (hI h 74) n k) (if_neg c88)
      rw [eB]
      refine px_drop (lv' := [(0, .ref 36), (2, .int (cmK (hI h 73) (hI h 74) n k)), (3, .int (nI k)), (6, .int (nI 0))]) ⟨rfl, rfl, rfl, rfl, trivial⟩ ?_
      refine px_heap (h2 := setB h (dgF k n 0 d) (cpF k n 0 B.2.1) B.2.2) (by rw [cpF_0]) ?_
      refine lpC_X12_best hL hs1 hn6 ?_ n 0 (by omega)
      refine px_iinc (v := nI k - 1) d_X12_best_134 rfl (by rw [Int32.sub_eq_add_neg]; rfl) (by decide) ?_
      refine px_goto (tgt := 34) d_X12_best_137 (by decide) ?_
      refine px_drop (lv' := [(0, .ref 36), (2, .int (cmK (hI h 73) (hI h 74) n k)), (3, .int (nI k - 1))]) ⟨rfl, rfl, rfl, trivial⟩ ?_
      exact ih (cmK (hI h 73) (hI h 74) n k, cpF k n n B.2.1, nI n) _ (by omega)
theorem x_X12_best {h : PH} (hL : px_L h) {n : Nat} (hs1 : hI h 36 49 = nI n) (hn6 : n ≤ 6) : PX M_X12_best [.ref 36] h 0 0 (bsQ (th0 h) (bLp (hI h 73) (hI h 74) n (7 ^ n) (-1, hI h 76, hI h 36 54))) := by
  refine PX.of (by decide +kernel) (by decide +kernel) (Nat.le_of_ble_eq_true rfl) ?_
  refine px_aload_n d_X12_best_0 rfl rfl ?_
  refine px_iconst (v := 0) d_X12_best_1 (by decide) ?_
  refine px_putI d_X12_best_2 fl_X12_150 rfl (so36 hL) ?_
  refine px_iconst (v := 1) d_X12_best_5 (by decide) ?_
  refine px_istore_n d_X12_best_6 rfl (by decide) ?_
  refine px_iconst (v := 0) d_X12_best_7 (by decide) ?_
  refine px_istore_n d_X12_best_8 rfl (by decide) ?_
  refine px_drop (lv' := [(0, .ref 36), (1, .int (nI (7 ^ 0))), (2, .int (nI 0))]) ⟨rfl, rfl, rfl, trivial⟩ ?_
  refine lpA_X12_best (h := th0 h) hL hs1 hn6 ?_ n 0 (by omega)
  refine px_iconst (v := (-1)) d_X12_best_28 (by decide) ?_
  refine px_istore_n d_X12_best_29 rfl (by decide) ?_
  refine px_iload_n d_X12_best_30 rfl rfl ?_
  refine px_iconst (v := 1) d_X12_best_31 (by decide) ?_
  refine px_isub d_X12_best_32 ?_
  refine px_istore_n d_X12_best_33 rfl (by decide) ?_
  refine px_drop (lv' := [(0, .ref 36), (2, .int (-1)), (3, .int (nI (7 ^ n) - 1))]) ⟨rfl, rfl, rfl, trivial⟩ ?_
  refine px_heap (h2 := setB (th0 h) (hI h 75) (hI h 76) (hI h 36 54)) (setB_self (th0 h)).symm ?_
  exact lp_X12_best (h := th0 h) hL hs1 hn6 (7 ^ n) (-1, hI h 76, hI h 36 54) (hI h 75) (Nat.le_refl _)
