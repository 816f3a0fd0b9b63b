def upJ (g : Nat → Int64) (i : Nat) (v : Int64) : Nat → Int64 := fun j => if j = i then v else g j
/-- the reference's tokens: sorts, places, values -/
def cutS (h : PH) (so pl : Nat → Int32) (va : Nat → Int64) : PH := rJ (rI (rI h 38 so) 39 pl) 40 va
theorem cutS_38 (h : PH) (so pl : Nat → Int32) (va : Nat → Int64) (i : Nat) (v : Int32) : pI (cutS h so pl va) 38 i v = cutS h (upf so i v) pl va := by
  refine PH.ext (fun x j => ?_) rfl
  show hI (pI (rI (rI h 38 so) 39 pl) 38 i v) x j = hI (rI (rI h 38 (upf so i v)) 39 pl) x j
  unfold upf
  simp only [gI, hI_rI]
  by_cases h1 : x = 38 <;> by_cases h2 : x = 39 <;> first | omega | simp [h1, h2]
theorem cutS_39 (h : PH) (so pl : Nat → Int32) (va : Nat → Int64) (i : Nat) (v : Int32) : pI (cutS h so pl va) 39 i v = cutS h so (upf pl i v) va := by
  refine PH.ext (fun x j => ?_) rfl
  show hI (pI (rI (rI h 38 so) 39 pl) 39 i v) x j = hI (rI (rI h 38 so) 39 (upf pl i v)) x j
  unfold upf
  simp only [gI, hI_rI]
  by_cases h1 : x = 38 <;> by_cases h2 : x = 39 <;> first | omega | simp [h1, h2]
theorem cutS_40 (h : PH) (so pl : Nat → Int32) (va : Nat → Int64) (i : Nat) (v : Int64) : pJ (cutS h so pl va) 40 i v = cutS h so pl (upJ va i v) := pJ_rJ ..
theorem cutS_self (h : PH) : cutS h (hI h 38) (hI h 39) (hJ h 40) = h := by
  unfold cutS
  rw [rI_self, rI_self, rJ_self]
def hvJ (S : Nat → Int32) (p : Nat) : Nat → Int64
  | 0 => 0
  | m + 1 => if m < 8 then 37 * hvJ S p m + (S (p + m) - 96).toInt64 else hvJ S p m
def dvJ (S : Nat → Int32) (p : Nat) : Nat → Int64
  | 0 => 0
  | m + 1 => if m < 5 then 10 * dvJ S p m + (S (p + m)).toInt64 - 48 else dvJ S p m
theorem hvJ_y {S : Nat → Int32} {p i : Nat} (hpi : p ≤ i) (h : ¬ 8 ≤ nI (i - p)) (hi : i ≤ 600) : hvJ S p (i + 1 - p) = 37 * hvJ S p (i - p) + (S i - 96).toInt64 := by
  have h5 : i - p < 8 := Nat.not_le.mp fun q => h ((nI_leI (a := 8) (by decide) (by omega)).mpr q)
  rw [show i + 1 - p = (i - p) + 1 by omega]
  conv => lhs; unfold hvJ
  rw [if_pos h5, show p + (i - p) = i by omega]
theorem hvJ_n {S : Nat → Int32} {p i : Nat} (hpi : p ≤ i) (h : 8 ≤ nI (i - p)) (hi : i ≤ 600) : hvJ S p (i + 1 - p) = hvJ S p (i - p) := by
  have h5 : ¬ i - p < 8 := fun q => absurd ((nI_leI (a := 8) (b := i - p) (by decide) (by omega)).mp h) (by omega)
  rw [show i + 1 - p = (i - p) + 1 by omega]
  conv => lhs; unfold hvJ
  rw [if_neg h5]
theorem dvJ_y {S : Nat → Int32} {p i : Nat} (hpi : p ≤ i) (h : ¬ 5 ≤ nI (i - p)) (hi : i ≤ 600) : dvJ S p (i + 1 - p) = 10 * dvJ S p (i - p) + (S i).toInt64 - 48 := by
  have h5 : i - p < 5 := Nat.not_le.mp fun q => h ((nI_leI (a := 5) (by decide) (by omega)).mpr q)
  rw [show i + 1 - p = (i - p) + 1 by omega]
  conv => lhs; unfold dvJ
  rw [if_pos h5, show p + (i - p) = i by omega]
theorem dvJ_n {S : Nat → Int32} {p i : Nat} (hpi : p ≤ i) (h : 5 ≤ nI (i - p)) (hi : i ≤ 600) : dvJ S p (i + 1 - p) = dvJ S p (i - p) := by
  have h5 : ¬ i - p < 5 := fun q => absurd ((nI_leI (a := 5) (b := i - p) (by decide) (by omega)).mp h) (by omega)
  rw [show i + 1 - p = (i - p) + 1 by omega]
  conv => lhs; unfold dvJ
  rw [if_neg h5]
def isSb (c : Int32) : Bool := decide (c = 40 ∨ c = 41 ∨ c = 59 ∨ c = 61 ∨ c = 60 ∨ c = 43 ∨ c = 45)
def mSo (S : Nat → Int32) (n p : Nat) : Int32 := if isLb (S p) = true then (if enT S n p - p ≤ 8 then 1 else 4) else if isDb (S p) = true then (if enT S n p - p ≤ 5 then 2 else 4) else if isSb (S p) = true then 3 else 4
def mVa (S : Nat → Int32) (n p : Nat) : Int64 := if isLb (S p) = true then hvJ S p (enT S n p - p) else if isDb (S p) = true then dvJ S p (enT S n p - p) else (S p).toInt64
def aT (S : Nat → Int32) (n : Nat) : Nat → Nat
  | 0 => 0
  | i + 1 => enT S n (rnB S n (aT S n i))
def pT (S : Nat → Int32) (n i : Nat) : Nat := rnB S n (aT S n i)
theorem pT_s (S : Nat → Int32) (n i : Nat) : pT S n (i + 1) = rnB S n (enT S n (pT S n i)) := rfl
theorem rnB_le {S : Nat → Int32} {n i : Nat} (h : i ≤ n) : i ≤ rnB S n i ∧ rnB S n i ≤ n := by
  have := run_ge (P := isBb) (S := S) (n - i) i
  unfold rnB
  omega
theorem rnB_b {S : Nat → Int32} {n i : Nat} (h : i < n) (hb : isBb (S i) = true) : rnB S n i = rnB S n (i + 1) := by
  unfold rnB
  rw [show n - i = (n - (i + 1)) + 1 by omega]
  exact run_y hb
theorem rnB_n {S : Nat → Int32} {n i : Nat} (h : i < n) (hb : ¬ isBb (S i) = true) : rnB S n i = i := by
  unfold rnB
  rw [show n - i = (n - (i + 1)) + 1 by omega]
  exact run_n hb
theorem rnB_e (S : Nat → Int32) (n : Nat) : rnB S n n = n := by
  unfold rnB
  rw [Nat.sub_self]
  rfl
theorem enT_L {S : Nat → Int32} {n p : Nat} (h : p < n) (hl : isLb (S p) = true) : enT S n p = run isLb S (n - p) p := (if_pos h).trans (if_pos hl)
theorem enT_D {S : Nat → Int32} {n p : Nat} (h : p < n) (hl : ¬ isLb (S p) = true) (hd : isDb (S p) = true) : enT S n p = run isDb S (n - p) p := (if_pos h).trans ((if_neg hl).trans (if_pos hd))
theorem enT_S {S : Nat → Int32} {n p : Nat} (h : p < n) (hl : ¬ isLb (S p) = true) (hd : ¬ isDb (S p) = true) : enT S n p = p + 1 := (if_pos h).trans ((if_neg hl).trans (if_neg hd))
theorem run_gt {P : Int32 → Bool} {S : Nat → Int32} {k i : Nat} (h : P (S i) = true) : i + 1 ≤ run P S (k + 1) i := by
  rw [run_y h]; exact (run_ge k (i + 1)).1
theorem enT_gt {S : Nat → Int32} {n p : Nat} (h : p < n) : p + 1 ≤ enT S n p ∧ enT S n p ≤ n := by
  by_cases hl : isLb (S p) = true
  · rw [enT_L h hl, show n - p = (n - p - 1) + 1 by omega]
    have h1 := run_gt (k := n - p - 1) hl
    have h2 := run_ge (P := isLb) (S := S) (n - p - 1 + 1) p
    omega
  · by_cases hd : isDb (S p) = true
    · rw [enT_D h hl hd, show n - p = (n - p - 1) + 1 by omega]
      have h1 := run_gt (k := n - p - 1) hd
      have h2 := run_ge (P := isDb) (S := S) (n - p - 1 + 1) p
      omega
    · rw [enT_S h hl hd]; omega
def CUT (S : Nat → Int32) (n : Nat) (so pl : Nat → Int32) (va : Nat → Int64) (c : Nat) : Prop := ∀ i, i < c → pT S n i < n ∧ so i = mSo S n (pT S n i) ∧ pl i = nI (pT S n i) ∧ va i = mVa S n (pT S n i)
theorem CUT.add {S : Nat → Int32} {n : Nat} {so pl : Nat → Int32} {va : Nat → Int64} {c k : Nat} (h : CUT S n so pl va c) (hk : k < n) (hp : pT S n c = k) {s : Int32} {v : Int64} (hs : s = mSo S n k) (hv : v = mVa S n k) : CUT S n (upf so c s) (upf pl c (nI k)) (upJ va c v) (c + 1) := by
  intro i hi
  rcases Nat.lt_or_eq_of_le (Nat.le_of_lt_succ hi) with w | w
  · have e := Nat.ne_of_lt w
    rw [upf_n _ _ e, upf_n _ _ e, show upJ va c v i = va i from if_neg e]
    exact h i w
  · subst w
    rw [upf_s, upf_s, show upJ va i v i = v from if_pos rfl, hp]
    exact ⟨hk, hs, rfl, hv⟩
def cutQ (h : PH) (S : Nat → Int32) (n : Nat) : Option Value → PH → Prop := fun r h' => r = none ∧ ∃ (so pl : Nat → Int32) (va : Nat → Int64) (N : Nat), h' = pI (pI (cutS h so pl va) 36 7 0) 36 8 0 ∧ CUT S n so pl va N ∧ pT S n N = n ∧ so N = 0 ∧ pl N = nI n ∧ N ≤ n
theorem c_X12_rank {h : PH} {c : Int32}  : PM M_X12_rank [.int c] h (some (.int (if isLb c = true then c - 96 else c - 21))) h := by
  refine PM.of (by decide +kernel) (by decide +kernel) (Nat.le_refl _) (Nat.le_refl _) (Nat.le_of_ble_eq_true rfl) ?_
  refine px_iload_n d_X12_rank_0 rfl rfl ?_
  refine px_callS (c_X12_isLetter) d_X12_rank_1 lk_X12_161 ok_X12_isLetter os_X12_isLetter rfl (Nat.le_of_ble_eq_true rfl) (by decide) ⟨Nat.le_refl _, Nat.le_refl _⟩ ?_
  refine px_if_eq (tgt := 14) d_X12_rank_4 (by decide) (fun c4 => ?_) (fun c4 => ?_)
  · refine px_iload_n d_X12_rank_14 rfl rfl ?_
    refine px_bipush (v := 21) d_X12_rank_15 (by decide) ?_
    refine px_isub d_X12_rank_17 ?_
    exact px_ireturn d_X12_rank_18 rfl rfl ⟨rfl, px_si (by first | exact (if_pos (isLb_t c4)).symm | exact (if_neg (isLb_f c4)).symm), rfl⟩
  · refine px_iload_n d_X12_rank_7 rfl rfl ?_
    refine px_bipush (v := 96) d_X12_rank_8 (by decide) ?_
    refine px_isub d_X12_rank_10 ?_
    refine px_goto (tgt := 18) d_X12_rank_11 (by decide) ?_
    exact px_ireturn d_X12_rank_18 rfl rfl ⟨rfl, px_si (by first | exact (if_pos (isLb_t c4)).symm | exact (if_neg (isLb_f c4)).symm), rfl⟩
theorem lL_X12_cutAll {h : PH} {N0 S0 : Nat} {Post : Nat → Option Value → PH → Prop} (hL : px_L h) {n : Nat} (hz : hI h 36 3 = nI n) (hn6 : n ≤ 600) {c p : Nat} {so pl : Nat → Int32} {va : Nat → Int64} (hN : hn h ≤ N0 ∧ hs h ≤ S0) : ∀ (k i : Nat), i + k = n → p ≤ i → PW M_X12_cutAll N0 S0 Post 129 [(0, .ref 36), (1, .int (nI c)), (2, .int (nI (run isLb (hI h 37) k i))), (4, .int (nI p)), (5, .long (hvJ (hI h 37) p (run isLb (hI h 37) k i - p)))] [] (cutS h so pl va) → PW M_X12_cutAll N0 S0 Post 70 [(0, .ref 36), (1, .int (nI c)), (2, .int (nI i)), (4, .int (nI p)), (5, .long (hvJ (hI h 37) p (i - p)))] [] (cutS h so pl va) := by
  intro k
  induction k with
  | zero =>
    intro i hi hpi kk
    have e : i = n := by omega
    rw [e] at kk ⊢
    refine px_iload_n d_X12_cutAll_70 rfl rfl ?_
    refine px_aload_n d_X12_cutAll_71 rfl rfl ?_
    refine px_getI d_X12_cutAll_72 fl_X12_165 rfl (so36 hL) ?_
    refine px_val (y := nI n) hz ?_
    refine px_icmp_ge (tgt := 129) d_X12_cutAll_75 (by decide) (fun c75 => ?_) (fun c75 => (c75 (nI_le (Nat.le_refl _) (by omega))).elim)
    exact kk
  | succ k ih =>
    intro i hi hpi kk
    refine px_iload_n d_X12_cutAll_70 rfl rfl ?_
    refine px_aload_n d_X12_cutAll_71 rfl rfl ?_
    refine px_getI d_X12_cutAll_72 fl_X12_165 rfl (so36 hL) ?_
    refine px_val (y := nI n) hz ?_
    refine px_icmp_ge (tgt := 129) d_X12_cutAll_75 (by decide) (fun c75 => absurd c75 (nI_ge (by omega) (by omega))) (fun c75 => ?_)
    refine px_aload_n d_X12_cutAll_78 rfl rfl ?_
    refine px_getR d_X12_cutAll_79 fl_X12_7 (by decide) (so36 hL) (sr36_1 hL) ?_
    refine px_iload_n d_X12_cutAll_82 rfl rfl ?_
    refine px_iald d_X12_cutAll_83 (sa37 hL) rfl (by omega) ?_
    refine px_val (y := (hI h 37) i) rfl ?_
    refine px_callS (c_X12_isLetter) d_X12_cutAll_84 lk_X12_161 ok_X12_isLetter os_X12_isLetter rfl (Nat.le_of_ble_eq_true rfl) (by decide) hN ?_
    refine px_if_eq (tgt := 129) d_X12_cutAll_87 (by decide) (fun c87 => ?_) (fun c87 => ?_)
    · rw [run_n (isLb_f c87)] at kk
      exact kk
    · refine px_iload_n d_X12_cutAll_90 rfl rfl ?_
      refine px_iload d_X12_cutAll_91 rfl ?_
      refine px_isub d_X12_cutAll_93 ?_
      refine px_val (y := nI (i - p)) (nI_sub hpi) ?_
      refine px_bipush (v := 8) d_X12_cutAll_94 (by decide) ?_
      refine px_icmp_ge (tgt := 119) d_X12_cutAll_96 (by decide) (fun c96 => ?_) (fun c96 => ?_)
      · refine px_lload d_X12_cutAll_119 rfl ?_
        refine px_lstore d_X12_cutAll_121 (by decide) ?_
        refine px_inc1 d_X12_cutAll_123 rfl (by decide) ?_
        refine px_goto (tgt := 70) d_X12_cutAll_126 (by decide) ?_
        rw [run_y (isLb_t c87)] at kk
        first
          | (refine px_drop (lv' := [(0, .ref 36), (1, .int (nI c)), (2, .int (nI (i + 1))), (4, .int (nI p)), (5, .long (hvJ (hI h 37) p (i + 1 - p)))]) ⟨rfl, rfl, px_si (nI_s1 _), rfl, px_sj ((hvJ_y hpi c96 (by omega)).symm), trivial⟩ ?_
             exact ih (i + 1) (by omega) (by omega) kk)
          | (refine px_drop (lv' := [(0, .ref 36), (1, .int (nI c)), (2, .int (nI (i + 1))), (4, .int (nI p)), (5, .long (hvJ (hI h 37) p (i + 1 - p)))]) ⟨rfl, rfl, px_si (nI_s1 _), rfl, px_sj ((hvJ_n hpi c96 (by omega)).symm), trivial⟩ ?_
             exact ih (i + 1) (by omega) (by omega) kk)
      · refine px_ldc2 d_X12_cutAll_99 cl_X12_168 ?_
        refine px_lload d_X12_cutAll_102 rfl ?_
        refine px_lmul d_X12_cutAll_104 ?_
        refine px_aload_n d_X12_cutAll_105 rfl rfl ?_
        refine px_getR d_X12_cutAll_106 fl_X12_7 (by decide) (so36 hL) (sr36_1 hL) ?_
        refine px_iload_n d_X12_cutAll_109 rfl rfl ?_
        refine px_iald d_X12_cutAll_110 (sa37 hL) rfl (by omega) ?_
        refine px_val (y := (hI h 37) i) rfl ?_
        refine px_callS (c_X12_rank) d_X12_cutAll_111 lk_X12_170 ok_X12_rank os_X12_rank rfl (Nat.le_of_ble_eq_true rfl) (by decide) hN ?_
        refine px_val (y := (hI h 37) i - 96) (if_pos (isLb_t c87)) ?_
        refine px_i2l d_X12_cutAll_114 ?_
        refine px_ladd d_X12_cutAll_115 ?_
        refine px_goto (tgt := 121) d_X12_cutAll_116 (by decide) ?_
        refine px_lstore d_X12_cutAll_121 (by decide) ?_
        refine px_inc1 d_X12_cutAll_123 rfl (by decide) ?_
        refine px_goto (tgt := 70) d_X12_cutAll_126 (by decide) ?_
        rw [run_y (isLb_t c87)] at kk
        first
          | (refine px_drop (lv' := [(0, .ref 36), (1, .int (nI c)), (2, .int (nI (i + 1))), (4, .int (nI p)), (5, .long (hvJ (hI h 37) p (i + 1 - p)))]) ⟨rfl, rfl, px_si (nI_s1 _), rfl, px_sj ((hvJ_y hpi c96 (by omega)).symm), trivial⟩ ?_
             exact ih (i + 1) (by omega) (by omega) kk)
          | (refine px_drop (lv' := [(0, .ref 36), (1, .int (nI c)), (2, .int (nI (i + 1))), (4, .int (nI p)), (5, .long (hvJ (hI h 37) p (i + 1 - p)))]) ⟨rfl, rfl, px_si (nI_s1 _), rfl, px_sj ((hvJ_n hpi c96 (by omega)).symm), trivial⟩ ?_
             exact ih (i + 1) (by omega) (by omega) kk)
theorem lD_X12_cutAll {h : PH} {N0 S0 : Nat} {Post : Nat → Option Value → PH → Prop} (hL : px_L h) {n : Nat} (hz : hI h 36 3 = nI n) (hn6 : n ≤ 600) {c p : Nat} {so pl : Nat → Int32} {va : Nat → Int64} (hN : hn h ≤ N0 ∧ hs h ≤ S0) : ∀ (k i : Nat), i + k = n → p ≤ i → PW M_X12_cutAll N0 S0 Post 218 [(0, .ref 36), (1, .int (nI c)), (2, .int (nI (run isDb (hI h 37) k i))), (4, .int (nI p)), (5, .long (dvJ (hI h 37) p (run isDb (hI h 37) k i - p)))] [] (cutS h so pl va) → PW M_X12_cutAll N0 S0 Post 159 [(0, .ref 36), (1, .int (nI c)), (2, .int (nI i)), (4, .int (nI p)), (5, .long (dvJ (hI h 37) p (i - p)))] [] (cutS h so pl va) := by
  intro k
  induction k with
  | zero =>
    intro i hi hpi kk
    have e : i = n := by omega
    rw [e] at kk ⊢
    refine px_iload_n d_X12_cutAll_159 rfl rfl ?_
    refine px_aload_n d_X12_cutAll_160 rfl rfl ?_
    refine px_getI d_X12_cutAll_161 fl_X12_165 rfl (so36 hL) ?_
    refine px_val (y := nI n) hz ?_
    refine px_icmp_ge (tgt := 218) d_X12_cutAll_164 (by decide) (fun c164 => ?_) (fun c164 => (c164 (nI_le (Nat.le_refl _) (by omega))).elim)
    exact kk
  | succ k ih =>
    intro i hi hpi kk
    refine px_iload_n d_X12_cutAll_159 rfl rfl ?_
    refine px_aload_n d_X12_cutAll_160 rfl rfl ?_
    refine px_getI d_X12_cutAll_161 fl_X12_165 rfl (so36 hL) ?_
    refine px_val (y := nI n) hz ?_
    refine px_icmp_ge (tgt := 218) d_X12_cutAll_164 (by decide) (fun c164 => absurd c164 (nI_ge (by omega) (by omega))) (fun c164 => ?_)
    refine px_aload_n d_X12_cutAll_167 rfl rfl ?_
    refine px_getR d_X12_cutAll_168 fl_X12_7 (by decide) (so36 hL) (sr36_1 hL) ?_
    refine px_iload_n d_X12_cutAll_171 rfl rfl ?_
    refine px_iald d_X12_cutAll_172 (sa37 hL) rfl (by omega) ?_
    refine px_val (y := (hI h 37) i) rfl ?_
    refine px_callS (c_X12_isDigit) d_X12_cutAll_173 lk_X12_174 ok_X12_isDigit os_X12_isDigit rfl (Nat.le_of_ble_eq_true rfl) (by decide) hN ?_
    refine px_if_eq (tgt := 218) d_X12_cutAll_176 (by decide) (fun c176 => ?_) (fun c176 => ?_)
    · rw [run_n (isDb_f c176)] at kk
      exact kk
    · refine px_iload_n d_X12_cutAll_179 rfl rfl ?_
      refine px_iload d_X12_cutAll_180 rfl ?_
      refine px_isub d_X12_cutAll_182 ?_
      refine px_val (y := nI (i - p)) (nI_sub hpi) ?_
      refine px_iconst (v := 5) d_X12_cutAll_183 (by decide) ?_
      refine px_icmp_ge (tgt := 208) d_X12_cutAll_184 (by decide) (fun c184 => ?_) (fun c184 => ?_)
      · refine px_lload d_X12_cutAll_208 rfl ?_
        refine px_lstore d_X12_cutAll_210 (by decide) ?_
        refine px_inc1 d_X12_cutAll_212 rfl (by decide) ?_
        refine px_goto (tgt := 159) d_X12_cutAll_215 (by decide) ?_
        rw [run_y (isDb_t c176)] at kk
        first
          | (refine px_drop (lv' := [(0, .ref 36), (1, .int (nI c)), (2, .int (nI (i + 1))), (4, .int (nI p)), (5, .long (dvJ (hI h 37) p (i + 1 - p)))]) ⟨rfl, rfl, px_si (nI_s1 _), rfl, px_sj ((dvJ_y hpi c184 (by omega)).symm), trivial⟩ ?_
             exact ih (i + 1) (by omega) (by omega) kk)
          | (refine px_drop (lv' := [(0, .ref 36), (1, .int (nI c)), (2, .int (nI (i + 1))), (4, .int (nI p)), (5, .long (dvJ (hI h 37) p (i + 1 - p)))]) ⟨rfl, rfl, px_si (nI_s1 _), rfl, px_sj ((dvJ_n hpi c184 (by omega)).symm), trivial⟩ ?_
             exact ih (i + 1) (by omega) (by omega) kk)
      · refine px_ldc2 d_X12_cutAll_187 cl_X12_177 ?_
        refine px_lload d_X12_cutAll_190 rfl ?_
        refine px_lmul d_X12_cutAll_192 ?_
        refine px_aload_n d_X12_cutAll_193 rfl rfl ?_
        refine px_getR d_X12_cutAll_194 fl_X12_7 (by decide) (so36 hL) (sr36_1 hL) ?_
        refine px_iload_n d_X12_cutAll_197 rfl rfl ?_
        refine px_iald d_X12_cutAll_198 (sa37 hL) rfl (by omega) ?_
        refine px_val (y := (hI h 37) i) rfl ?_
        refine px_i2l d_X12_cutAll_199 ?_
        refine px_ladd d_X12_cutAll_200 ?_
        refine px_ldc2 d_X12_cutAll_201 cl_X12_179 ?_
        refine px_lsub d_X12_cutAll_204 ?_
        refine px_goto (tgt := 210) d_X12_cutAll_205 (by decide) ?_
        refine px_lstore d_X12_cutAll_210 (by decide) ?_
        refine px_inc1 d_X12_cutAll_212 rfl (by decide) ?_
        refine px_goto (tgt := 159) d_X12_cutAll_215 (by decide) ?_
        rw [run_y (isDb_t c176)] at kk
        first
          | (refine px_drop (lv' := [(0, .ref 36), (1, .int (nI c)), (2, .int (nI (i + 1))), (4, .int (nI p)), (5, .long (dvJ (hI h 37) p (i + 1 - p)))]) ⟨rfl, rfl, px_si (nI_s1 _), rfl, px_sj ((dvJ_y hpi c184 (by omega)).symm), trivial⟩ ?_
             exact ih (i + 1) (by omega) (by omega) kk)
          | (refine px_drop (lv' := [(0, .ref 36), (1, .int (nI c)), (2, .int (nI (i + 1))), (4, .int (nI p)), (5, .long (dvJ (hI h 37) p (i + 1 - p)))]) ⟨rfl, rfl, px_si (nI_s1 _), rfl, px_sj ((dvJ_n hpi c184 (by omega)).symm), trivial⟩ ?_
             exact ih (i + 1) (by omega) (by omega) kk)
theorem ex_X12_cutAll {h : PH} (hL : px_L h) {n : Nat} (hz : hI h 36 3 = nI n) (hn6 : n ≤ 600) {c : Nat} {so pl : Nat → Int32} {va : Nat → Int64} (hc : c ≤ n) (hC : CUT (hI h 37) n so pl va c) (hp : pT (hI h 37) n c = n) : PW M_X12_cutAll (hn h) (hs h) (PXpost h 0 0 (cutQ h (hI h 37) n)) 17 [(0, .ref 36), (1, .int (nI c)), (2, .int (nI n))] [] (cutS h so pl va) := by
  refine px_iload_n d_X12_cutAll_17 rfl rfl ?_
  refine px_aload_n d_X12_cutAll_18 rfl rfl ?_
  refine px_getI d_X12_cutAll_19 fl_X12_165 rfl (so36 hL) ?_
  refine px_val (y := nI n) hz ?_
  refine px_icmp_ge (tgt := 279) d_X12_cutAll_22 (by decide) (fun c22 => ?_) (fun c22 => (c22 (nI_le (Nat.le_refl _) (by omega))).elim)
  refine px_aload_n d_X12_cutAll_279 rfl rfl ?_
  refine px_getR d_X12_cutAll_280 fl_X12_13 (by decide) (so36 hL) (sr36_4 hL) ?_
  refine px_iload_n d_X12_cutAll_283 rfl rfl ?_
  refine px_iconst (v := 0) d_X12_cutAll_284 (by decide) ?_
  refine px_iast d_X12_cutAll_285 (sa38 hL) rfl (by omega) ?_
  refine px_heap (h2 := cutS h (upf so c 0) pl va) (cutS_38 ..) ?_
  refine px_aload_n d_X12_cutAll_286 rfl rfl ?_
  refine px_getR d_X12_cutAll_287 fl_X12_16 (by decide) (so36 hL) (sr36_5 hL) ?_
  refine px_iload_n d_X12_cutAll_290 rfl rfl ?_
  refine px_aload_n d_X12_cutAll_291 rfl rfl ?_
  refine px_getI d_X12_cutAll_292 fl_X12_165 rfl (so36 hL) ?_
  refine px_val (y := nI n) hz ?_
  refine px_iast d_X12_cutAll_295 (sa39 hL) rfl (by omega) ?_
  refine px_heap (h2 := cutS h (upf so c 0) (upf pl c (nI n)) va) (cutS_39 ..) ?_
  refine px_aload_n d_X12_cutAll_296 rfl rfl ?_
  refine px_iconst (v := 0) d_X12_cutAll_297 (by decide) ?_
  refine px_putI d_X12_cutAll_298 fl_X12_184 rfl (so36 hL) ?_
  refine px_aload_n d_X12_cutAll_301 rfl rfl ?_
  refine px_iconst (v := 0) d_X12_cutAll_302 (by decide) ?_
  refine px_putI d_X12_cutAll_303 fl_X12_187 rfl (so36 hL) ?_
  exact px_return d_X12_cutAll_306 rfl ⟨rfl, ⟨rfl, _, _, va, c, rfl, fun i hi => by rw [upf_n _ _ (Nat.ne_of_lt hi), upf_n _ _ (Nat.ne_of_lt hi)]; exact hC i hi, hp, upf_s .., upf_s .., hc⟩, rfl, rfl⟩
theorem tV_X12_cutAll {h : PH} (hL : px_L h) {n : Nat} (hz : hI h 36 3 = nI n) (hn6 : n ≤ 600) {k c e : Nat} {so pl : Nat → Int32} {va : Nat → Int64} (hkn : k < n) (hc : c ≤ k) (hC : CUT (hI h 37) n so pl va c) (hp : pT (hI h 37) n c = k) (he : e = enT (hI h 37) n k) {s : Int32} {v : Int64} (hs1 : s = mSo (hI h 37) n k) (hv1 : v = mVa (hI h 37) n k) (kk : ∀ (k2 c2 : Nat) (so2 pl2 : Nat → Int32) (va2 : Nat → Int64), k < k2 → k2 ≤ n → c2 ≤ k2 → CUT (hI h 37) n so2 pl2 va2 c2 → pT (hI h 37) n c2 = rnB (hI h 37) n k2 → PW M_X12_cutAll (hn h) (hs h) (PXpost h 0 0 (cutQ h (hI h 37) n)) 17 [(0, .ref 36), (1, .int (nI c2)), (2, .int (nI k2))] [] (cutS h so2 pl2 va2)) : PW M_X12_cutAll (hn h) (hs h) (PXpost h 0 0 (cutQ h (hI h 37) n)) 265 [(0, .ref 36), (1, .int (nI c)), (2, .int (nI e)), (5, .long v)] [] (cutS h (upf so c s) (upf pl c (nI k)) va) := by
  have hgt := enT_gt (S := (hI h 37)) hkn
  refine px_aload_n d_X12_cutAll_265 rfl rfl ?_
  refine px_getR d_X12_cutAll_266 fl_X12_19 (by decide) (so36 hL) (sr36_6 hL) ?_
  refine px_iload_n d_X12_cutAll_269 rfl rfl ?_
  refine px_lload d_X12_cutAll_270 rfl ?_
  refine px_last d_X12_cutAll_272 (sa40 hL) rfl (by omega) ?_
  refine px_heap (h2 := cutS h (upf so c s) (upf pl c (nI k)) (upJ va c v)) (cutS_40 ..) ?_
  refine px_inc1 d_X12_cutAll_273 rfl (by decide) ?_
  refine px_goto (tgt := 17) d_X12_cutAll_276 (by decide) ?_
  refine px_drop (lv' := [(0, .ref 36), (1, .int (nI (c + 1))), (2, .int (nI e))]) ⟨rfl, px_si (nI_s1 _), rfl, trivial⟩ ?_
  exact kk e (c + 1) _ _ _ (by omega) (by omega) (by omega) (hC.add hkn hp hs1 hv1) (by rw [pT_s, hp, he])
theorem st_X12_cutAll {h : PH} (hL : px_L h) {n : Nat} (hz : hI h 36 3 = nI n) (hn6 : n ≤ 600) {k c : Nat} {so pl : Nat → Int32} {va : Nat → Int64} (hkn : k < n) (hc : c ≤ k) (hC : CUT (hI h 37) n so pl va c) (hp : pT (hI h 37) n c = rnB (hI h 37) n k) (kk : ∀ (k2 c2 : Nat) (so2 pl2 : Nat → Int32) (va2 : Nat → Int64), k < k2 → k2 ≤ n → c2 ≤ k2 → CUT (hI h 37) n so2 pl2 va2 c2 → pT (hI h 37) n c2 = rnB (hI h 37) n k2 → PW M_X12_cutAll (hn h) (hs h) (PXpost h 0 0 (cutQ h (hI h 37) n)) 17 [(0, .ref 36), (1, .int (nI c2)), (2, .int (nI k2))] [] (cutS h so2 pl2 va2)) : PW M_X12_cutAll (hn h) (hs h) (PXpost h 0 0 (cutQ h (hI h 37) n)) 17 [(0, .ref 36), (1, .int (nI c)), (2, .int (nI k))] [] (cutS h so pl va) := by
  have hgt := enT_gt (S := (hI h 37)) hkn
  refine px_iload_n d_X12_cutAll_17 rfl rfl ?_
  refine px_aload_n d_X12_cutAll_18 rfl rfl ?_
  refine px_getI d_X12_cutAll_19 fl_X12_165 rfl (so36 hL) ?_
  refine px_val (y := nI n) hz ?_
  refine px_icmp_ge (tgt := 279) d_X12_cutAll_22 (by decide) (fun c22 => absurd c22 (nI_ge hkn (by omega))) (fun c22 => ?_)
  refine px_aload_n d_X12_cutAll_25 rfl rfl ?_
  refine px_getR d_X12_cutAll_26 fl_X12_7 (by decide) (so36 hL) (sr36_1 hL) ?_
  refine px_iload_n d_X12_cutAll_29 rfl rfl ?_
  refine px_iald d_X12_cutAll_30 (sa37 hL) rfl (by omega) ?_
  refine px_val (y := (hI h 37) k) rfl ?_
  refine px_istore_n d_X12_cutAll_31 rfl (by decide) ?_
  refine px_iload_n d_X12_cutAll_32 rfl rfl ?_
  refine px_bipush (v := 10) d_X12_cutAll_33 (by decide) ?_
  refine px_icmp_eq (tgt := 44) d_X12_cutAll_35 (by decide) (fun c35 => ?_) (fun c35 => ?_)
  · refine px_inc1 d_X12_cutAll_44 rfl (by decide) ?_
    refine px_goto (tgt := 17) d_X12_cutAll_47 (by decide) ?_
    rw [rnB_b hkn (isBb_t (by first | exact Or.inl c35 | exact Or.inr (by first | exact c41 | exact Classical.not_not.mp c41)))] at hp
    refine px_drop (lv' := [(0, .ref 36), (1, .int (nI c)), (2, .int (nI (k + 1)))]) ⟨rfl, rfl, px_si (nI_s1 _), trivial⟩ ?_
    exact kk (k + 1) c so pl va (by omega) (by omega) (by omega) hC hp
  · refine px_iload_n d_X12_cutAll_38 rfl rfl ?_
    refine px_bipush (v := 32) d_X12_cutAll_39 (by decide) ?_
    refine px_icmp_ne (tgt := 50) d_X12_cutAll_41 (by decide) (fun c41 => ?_) (fun c41 => ?_)
    · refine px_iload_n d_X12_cutAll_50 rfl rfl ?_
      refine px_istore d_X12_cutAll_51 (by decide) ?_
      refine px_lconst (v := 0) d_X12_cutAll_53 (by decide) ?_
      refine px_lstore d_X12_cutAll_54 (by decide) ?_
      refine px_aload_n d_X12_cutAll_56 rfl rfl ?_
      refine px_getR d_X12_cutAll_57 fl_X12_16 (by decide) (so36 hL) (sr36_5 hL) ?_
      refine px_iload_n d_X12_cutAll_60 rfl rfl ?_
      refine px_iload_n d_X12_cutAll_61 rfl rfl ?_
      rw [rnB_n hkn (isBb_f c35 c41)] at hp
      refine px_iast d_X12_cutAll_62 (sa39 hL) rfl (by omega) ?_
      refine px_heap (h2 := (cutS h so (upf pl c (nI k)) va)) (cutS_39 ..) ?_
      refine px_iload_n d_X12_cutAll_63 rfl rfl ?_
      refine px_callS (c_X12_isLetter) d_X12_cutAll_64 lk_X12_161 ok_X12_isLetter os_X12_isLetter rfl (Nat.le_of_ble_eq_true rfl) (by decide) ⟨Nat.le_refl (hn h), Nat.le_refl (hs h)⟩ ?_
      refine px_if_eq (tgt := 152) d_X12_cutAll_67 (by decide) (fun c67 => ?_) (fun c67 => ?_)
      · refine px_iload_n d_X12_cutAll_152 rfl rfl ?_
        refine px_callS (c_X12_isDigit) d_X12_cutAll_153 lk_X12_174 ok_X12_isDigit os_X12_isDigit rfl (Nat.le_of_ble_eq_true rfl) (by decide) ⟨Nat.le_refl (hn h), Nat.le_refl (hs h)⟩ ?_
        refine px_if_eq (tgt := 240) d_X12_cutAll_156 (by decide) (fun c156 => ?_) (fun c156 => ?_)
        · have eS := enT_S hkn (isLb_f c67) (isDb_f c156)
          refine px_iload_n d_X12_cutAll_240 rfl rfl ?_
          refine px_i2l d_X12_cutAll_241 ?_
          refine px_lstore d_X12_cutAll_242 (by decide) ?_
          refine px_aload_n d_X12_cutAll_244 rfl rfl ?_
          refine px_getR d_X12_cutAll_245 fl_X12_13 (by decide) (so36 hL) (sr36_4 hL) ?_
          refine px_iload_n d_X12_cutAll_248 rfl rfl ?_
          refine px_iload_n d_X12_cutAll_249 rfl rfl ?_
          refine px_callS (c_X12_isSignOf) d_X12_cutAll_250 lk_X12_181 ok_X12_isSignOf os_X12_isSignOf rfl (Nat.le_of_ble_eq_true rfl) (by decide) ⟨Nat.le_refl (hn h), Nat.le_refl (hs h)⟩ ?_
          refine px_if_eq (tgt := 260) d_X12_cutAll_253 (by decide) (fun c253 => ?_) (fun c253 => ?_)
          · refine px_iconst (v := 4) d_X12_cutAll_260 (by decide) ?_
            refine px_val (y := mSo (hI h 37) n k) (by unfold mSo; rw [if_neg (isLb_f c67), if_neg (isDb_f c156)]; first | (rw [if_neg (show ¬ isSb ((hI h 37) k) = true from fun q => (bI_0.mp c253) (of_decide_eq_true q))]) | (rw [if_pos (show isSb ((hI h 37) k) = true from decide_eq_true (bI_n.mp c253))])) ?_
            refine px_iast d_X12_cutAll_261 (sa38 hL) rfl (by omega) ?_
            refine px_heap (h2 := cutS h (upf so c (mSo (hI h 37) n k)) (upf pl c (nI k)) va) (cutS_38 ..) ?_
            refine px_inc1 d_X12_cutAll_262 rfl (by decide) ?_
            refine px_drop (lv' := [(0, .ref 36), (1, .int (nI c)), (2, .int (nI (k + 1))), (5, .long ((hI h 37) k).toInt64)]) ⟨rfl, rfl, px_si (nI_s1 _), rfl, trivial⟩ ?_
            exact tV_X12_cutAll hL hz hn6 hkn hc hC hp eS.symm rfl (by unfold mVa; rw [if_neg (isLb_f c67), if_neg (isDb_f c156)]) kk
          · refine px_iconst (v := 3) d_X12_cutAll_256 (by decide) ?_
            refine px_goto (tgt := 261) d_X12_cutAll_257 (by decide) ?_
            refine px_val (y := mSo (hI h 37) n k) (by unfold mSo; rw [if_neg (isLb_f c67), if_neg (isDb_f c156)]; first | (rw [if_neg (show ¬ isSb ((hI h 37) k) = true from fun q => (bI_0.mp c253) (of_decide_eq_true q))]) | (rw [if_pos (show isSb ((hI h 37) k) = true from decide_eq_true (bI_n.mp c253))])) ?_
            refine px_iast d_X12_cutAll_261 (sa38 hL) rfl (by omega) ?_
            refine px_heap (h2 := cutS h (upf so c (mSo (hI h 37) n k)) (upf pl c (nI k)) va) (cutS_38 ..) ?_
            refine px_inc1 d_X12_cutAll_262 rfl (by decide) ?_
            refine px_drop (lv' := [(0, .ref 36), (1, .int (nI c)), (2, .int (nI (k + 1))), (5, .long ((hI h 37) k).toInt64)]) ⟨rfl, rfl, px_si (nI_s1 _), rfl, trivial⟩ ?_
            exact tV_X12_cutAll hL hz hn6 hkn hc hC hp eS.symm rfl (by unfold mVa; rw [if_neg (isLb_f c67), if_neg (isDb_f c156)]) kk
        · have eD := enT_D hkn (isLb_f c67) (isDb_t c156)
          have e9 : dvJ (hI h 37) k (k - k) = 0 := by rw [Nat.sub_self]; rfl
          refine px_drop (lv' := [(0, .ref 36), (1, .int (nI c)), (2, .int (nI k)), (4, .int (nI k)), (5, .long (dvJ (hI h 37) k (k - k)))]) ⟨rfl, rfl, rfl, rfl, px_sj e9.symm, trivial⟩ ?_
          refine lD_X12_cutAll hL hz hn6 ⟨Nat.le_refl (hn h), Nat.le_refl (hs h)⟩ (n - k) k (by omega) (Nat.le_refl _) ?_
          refine px_aload_n d_X12_cutAll_218 rfl rfl ?_
          refine px_getR d_X12_cutAll_219 fl_X12_13 (by decide) (so36 hL) (sr36_4 hL) ?_
          refine px_iload_n d_X12_cutAll_222 rfl rfl ?_
          refine px_iload_n d_X12_cutAll_223 rfl rfl ?_
          refine px_iload d_X12_cutAll_224 rfl ?_
          refine px_isub d_X12_cutAll_226 ?_
          refine px_val (y := nI (run isDb (hI h 37) (n - k) k - k)) (nI_sub (by omega)) ?_
          refine px_iconst (v := 5) d_X12_cutAll_227 (by decide) ?_
          refine px_icmp_le (tgt := 235) d_X12_cutAll_228 (by decide) (fun c228 => ?_) (fun c228 => ?_)
          · refine px_iconst (v := 2) d_X12_cutAll_235 (by decide) ?_
            refine px_val (y := mSo (hI h 37) n k) (by unfold mSo; rw [if_neg (isLb_f c67), if_pos (isDb_t c156), eD]; first | rw [if_pos ((nI_leI (b := 5) (by omega) (by decide)).mp c228)] | rw [if_neg (fun q => c228 (nI_le q (by decide)))]) ?_
            refine px_iast d_X12_cutAll_236 (sa38 hL) rfl (by omega) ?_
            refine px_heap (h2 := cutS h (upf so c (mSo (hI h 37) n k)) (upf pl c (nI k)) va) (cutS_38 ..) ?_
            refine px_goto (tgt := 265) d_X12_cutAll_237 (by decide) ?_
            refine px_drop (lv' := [(0, .ref 36), (1, .int (nI c)), (2, .int (nI (run isDb (hI h 37) (n - k) k))), (5, .long (dvJ (hI h 37) k (run isDb (hI h 37) (n - k) k - k)))]) ⟨rfl, rfl, rfl, rfl, trivial⟩ ?_
            exact tV_X12_cutAll hL hz hn6 hkn hc hC hp eD.symm rfl (by unfold mVa; rw [if_neg (isLb_f c67), if_pos (isDb_t c156), eD]) kk
          · refine px_iconst (v := 4) d_X12_cutAll_231 (by decide) ?_
            refine px_goto (tgt := 236) d_X12_cutAll_232 (by decide) ?_
            refine px_val (y := mSo (hI h 37) n k) (by unfold mSo; rw [if_neg (isLb_f c67), if_pos (isDb_t c156), eD]; first | rw [if_pos ((nI_leI (b := 5) (by omega) (by decide)).mp c228)] | rw [if_neg (fun q => c228 (nI_le q (by decide)))]) ?_
            refine px_iast d_X12_cutAll_236 (sa38 hL) rfl (by omega) ?_
            refine px_heap (h2 := cutS h (upf so c (mSo (hI h 37) n k)) (upf pl c (nI k)) va) (cutS_38 ..) ?_
            refine px_goto (tgt := 265) d_X12_cutAll_237 (by decide) ?_
            refine px_drop (lv' := [(0, .ref 36), (1, .int (nI c)), (2, .int (nI (run isDb (hI h 37) (n - k) k))), (5, .long (dvJ (hI h 37) k (run isDb (hI h 37) (n - k) k - k)))]) ⟨rfl, rfl, rfl, rfl, trivial⟩ ?_
            exact tV_X12_cutAll hL hz hn6 hkn hc hC hp eD.symm rfl (by unfold mVa; rw [if_neg (isLb_f c67), if_pos (isDb_t c156), eD]) kk
      · have eL := enT_L hkn (isLb_t c67)
        have e9 : hvJ (hI h 37) k (k - k) = 0 := by rw [Nat.sub_self]; rfl
        refine px_drop (lv' := [(0, .ref 36), (1, .int (nI c)), (2, .int (nI k)), (4, .int (nI k)), (5, .long (hvJ (hI h 37) k (k - k)))]) ⟨rfl, rfl, rfl, rfl, px_sj e9.symm, trivial⟩ ?_
        refine lL_X12_cutAll hL hz hn6 ⟨Nat.le_refl (hn h), Nat.le_refl (hs h)⟩ (n - k) k (by omega) (Nat.le_refl _) ?_
        refine px_aload_n d_X12_cutAll_129 rfl rfl ?_
        refine px_getR d_X12_cutAll_130 fl_X12_13 (by decide) (so36 hL) (sr36_4 hL) ?_
        refine px_iload_n d_X12_cutAll_133 rfl rfl ?_
        refine px_iload_n d_X12_cutAll_134 rfl rfl ?_
        refine px_iload d_X12_cutAll_135 rfl ?_
        refine px_isub d_X12_cutAll_137 ?_
        refine px_val (y := nI (run isLb (hI h 37) (n - k) k - k)) (nI_sub (by omega)) ?_
        refine px_bipush (v := 8) d_X12_cutAll_138 (by decide) ?_
        refine px_icmp_le (tgt := 147) d_X12_cutAll_140 (by decide) (fun c140 => ?_) (fun c140 => ?_)
        · refine px_iconst (v := 1) d_X12_cutAll_147 (by decide) ?_
          refine px_val (y := mSo (hI h 37) n k) (by unfold mSo; rw [if_pos (isLb_t c67), eL]; first | rw [if_pos ((nI_leI (b := 8) (by omega) (by decide)).mp c140)] | rw [if_neg (fun q => c140 (nI_le q (by decide)))]) ?_
          refine px_iast d_X12_cutAll_148 (sa38 hL) rfl (by omega) ?_
          refine px_heap (h2 := cutS h (upf so c (mSo (hI h 37) n k)) (upf pl c (nI k)) va) (cutS_38 ..) ?_
          refine px_goto (tgt := 265) d_X12_cutAll_149 (by decide) ?_
          refine px_drop (lv' := [(0, .ref 36), (1, .int (nI c)), (2, .int (nI (run isLb (hI h 37) (n - k) k))), (5, .long (hvJ (hI h 37) k (run isLb (hI h 37) (n - k) k - k)))]) ⟨rfl, rfl, rfl, rfl, trivial⟩ ?_
          exact tV_X12_cutAll hL hz hn6 hkn hc hC hp eL.symm rfl (by unfold mVa; rw [if_pos (isLb_t c67), eL]) kk
        · refine px_iconst (v := 4) d_X12_cutAll_143 (by decide) ?_
          refine px_goto (tgt := 148) d_X12_cutAll_144 (by decide) ?_
          refine px_val (y := mSo (hI h 37) n k) (by unfold mSo; rw [if_pos (isLb_t c67), eL]; first | rw [if_pos ((nI_leI (b := 8) (by omega) (by decide)).mp c140)] | rw [if_neg (fun q => c140 (nI_le q (by decide)))]) ?_
          refine px_iast d_X12_cutAll_148 (sa38 hL) rfl (by omega) ?_
          refine px_heap (h2 := cutS h (upf so c (mSo (hI h 37) n k)) (upf pl c (nI k)) va) (cutS_38 ..) ?_
          refine px_goto (tgt := 265) d_X12_cutAll_149 (by decide) ?_
          refine px_drop (lv' := [(0, .ref 36), (1, .int (nI c)), (2, .int (nI (run isLb (hI h 37) (n - k) k))), (5, .long (hvJ (hI h 37) k (run isLb (hI h 37) (n - k) k - k)))]) ⟨rfl, rfl, rfl, rfl, trivial⟩ ?_
          exact tV_X12_cutAll hL hz hn6 hkn hc hC hp eL.symm rfl (by unfold mVa; rw [if_pos (isLb_t c67), eL]) kk
    · refine px_inc1 d_X12_cutAll_44 rfl (by decide) ?_
      refine px_goto (tgt := 17) d_X12_cutAll_47 (by decide) ?_
      rw [rnB_b hkn (isBb_t (by first | exact Or.inl c35 | exact Or.inr (by first | exact c41 | exact Classical.not_not.mp c41)))] at hp
      refine px_drop (lv' := [(0, .ref 36), (1, .int (nI c)), (2, .int (nI (k + 1)))]) ⟨rfl, rfl, px_si (nI_s1 _), trivial⟩ ?_
      exact kk (k + 1) c so pl va (by omega) (by omega) (by omega) hC hp
theorem lp_X12_cutAll {h : PH} (hL : px_L h) {n : Nat} (hz : hI h 36 3 = nI n) (hn6 : n ≤ 600) : ∀ (f k c : Nat) (so pl : Nat → Int32) (va : Nat → Int64), n - k ≤ f → k ≤ n → c ≤ k → CUT (hI h 37) n so pl va c → pT (hI h 37) n c = rnB (hI h 37) n k → PW M_X12_cutAll (hn h) (hs h) (PXpost h 0 0 (cutQ h (hI h 37) n)) 17 [(0, .ref 36), (1, .int (nI c)), (2, .int (nI k))] [] (cutS h so pl va) := by
  intro f
  induction f with
  | zero =>
    intro k c so pl va hf hk hc hC hp
    have e : k = n := by omega
    rw [e, rnB_e] at hp
    rw [e]
    exact ex_X12_cutAll hL hz hn6 (by omega) hC hp
  | succ f ih =>
    intro k c so pl va hf hk hc hC hp
    rcases Nat.lt_or_ge k n with hkn | hkn
    · exact st_X12_cutAll hL hz hn6 hkn hc hC hp (fun k2 c2 so2 pl2 va2 w1 w2 w3 w4 w5 => ih k2 c2 so2 pl2 va2 (by omega) w2 w3 w4 w5)
    · have e : k = n := by omega
      rw [e, rnB_e] at hp
      rw [e]
      exact ex_X12_cutAll hL hz hn6 (by omega) hC hp
theorem x_X12_cutAll {h : PH} (hL : px_L h) {n : Nat} (hz : hI h 36 2 = nI n) (hn6 : n ≤ 600) : PX M_X12_cutAll [.ref 36] h 0 0 (cutQ (pI (pI h 36 3 (nI n)) 36 2 0) (hI h 37) n) := by
  refine PX.of (by decide +kernel) (by decide +kernel) (Nat.le_of_ble_eq_true rfl) ?_
  refine px_aload_n d_X12_cutAll_0 rfl rfl ?_
  refine px_aload_n d_X12_cutAll_1 rfl rfl ?_
  refine px_getI d_X12_cutAll_2 fl_X12_158 rfl (so36 hL) ?_
  refine px_val (y := nI n) hz ?_
  refine px_putI d_X12_cutAll_5 fl_X12_165 rfl (so36 hL) ?_
  refine px_aload_n d_X12_cutAll_8 rfl rfl ?_
  refine px_iconst (v := 0) d_X12_cutAll_9 (by decide) ?_
  refine px_putI d_X12_cutAll_10 fl_X12_158 rfl (so36 hL) ?_
  refine px_iconst (v := 0) d_X12_cutAll_13 (by decide) ?_
  refine px_istore_n d_X12_cutAll_14 rfl (by decide) ?_
  refine px_iconst (v := 0) d_X12_cutAll_15 (by decide) ?_
  refine px_istore_n d_X12_cutAll_16 rfl (by decide) ?_
  refine px_drop (lv' := [(0, .ref 36), (1, .int (nI 0)), (2, .int (nI 0))]) ⟨rfl, rfl, rfl, trivial⟩ ?_
  refine px_heap (h2 := cutS (pI (pI h 36 3 (nI n)) 36 2 0) (hI h 38) (hI h 39) (hJ h 40)) (cutS_self (pI (pI h 36 3 (nI n)) 36 2 0)).symm ?_
  exact lp_X12_cutAll (h := (pI (pI h 36 3 (nI n)) 36 2 0)) hL rfl hn6 n 0 0 _ _ _ (by omega) (Nat.zero_le _) (Nat.le_refl _) (fun i hi => absurd hi (Nat.not_lt_zero i)) rfl
