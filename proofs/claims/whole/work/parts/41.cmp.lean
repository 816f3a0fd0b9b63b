/-- the first place from i on, of k, where p holds; else the place behind them -/
def fstP (p : Nat → Bool) : Nat → Nat → Nat
  | i, 0 => i
  | i, k + 1 => if p i then i else fstP p (i + 1) k
theorem fstP_le (p : Nat → Bool) : ∀ (k i : Nat), i ≤ fstP p i k ∧ fstP p i k ≤ i + k
  | 0, i => ⟨Nat.le_refl _, Nat.le_refl _⟩
  | k + 1, i => by
    unfold fstP
    have := fstP_le p k (i + 1)
    by_cases h : p i <;> simp [h] <;> omega
theorem cnt1_s (g : Nat → Int32) (a : Int32) (n : Nat) : cnt1 g a (n + 1) = cnt1 g a n + (if g n = a then 1 else 0) := rfl
def prD (of : Nat → Int32) (a : Int32) (old : Nat → Int32) (i : Nat) : Nat → Int32 := fun j => if j < i then (if of j = a then 0 else 1) else old j
theorem prD_s (of : Nat → Int32) (a : Int32) (old : Nat → Int32) (i : Nat) : (fun j => if j = i then (if of i = a then 0 else 1) else prD of a old i j) = prD of a old (i + 1) := by
  funext j
  unfold prD
  by_cases h1 : j = i
  · subst h1; simp
  · by_cases h2 : j < i
    · simp [h1, h2, Nat.lt_succ_of_lt h2]
    · rw [if_neg h1, if_neg h2, if_neg (by omega)]
theorem prD_0 (of : Nat → Int32) (a : Int32) (old : Nat → Int32) : prD of a old 0 = old := by funext j; simp [prD]
def seekP (dy sm row : Nat → Int32) (D S : Int32) : Nat → Bool := fun i => decide (row i = 0) && (decide (dy i = D) && decide (sm i = S))
def grd (dy sm bD bS row0 : Nat → Int32) (n : Nat) : Nat → (Nat → Int32) × Nat
  | 0 => (row0, 0)
  | j + 1 => if fstP (seekP dy sm (grd dy sm bD bS row0 n j).1 (bD j) (bS j)) 0 n < n then (fun i => if i = fstP (seekP dy sm (grd dy sm bD bS row0 n j).1 (bD j) (bS j)) 0 n then 1 else (grd dy sm bD bS row0 n j).1 i, (grd dy sm bD bS row0 n j).2 + 1) else grd dy sm bD bS row0 n j
theorem lp1_X12_compare {h : PH} {x : Int32} {N S : Nat} {Post : Nat → Option Value → PH → Prop} (hL : px_L h) {n a : Nat} (hs1 : hI h 36 32 = nI n) (hn4 : n ≤ 400) (ha : a < 20) (kk : PW M_X12_compare N S Post 91 [(0, .ref 36), (1, .int (nI a)), (2, .int x), (3, .int 0), (4, .int (cnt1 (hI h 59) (nI a) n))] [] (rI h 72 (prD (hI h 59) (nI a) (hI h 72) (n)))) : ∀ (k i : Nat), i + k = n → PW M_X12_compare N S Post 32 [(0, .ref 36), (1, .int (nI a)), (2, .int x), (3, .int 0), (4, .int (cnt1 (hI h 59) (nI a) (i))), (5, .int (nI (i)))] [] (rI h 72 (prD (hI h 59) (nI a) (hI h 72) (i))) := by
  intro k
  induction k with
  | zero =>
    intro i hi
    have e : i = n := by omega
    rw [e]
    refine px_iload d_X12_compare_32 rfl ?_
    refine px_aload_n d_X12_compare_34 rfl rfl ?_
    refine px_getI d_X12_compare_35 fl_X12_259 rfl (so36 hL) ?_
    refine px_icmp_ge (tgt := 91) d_X12_compare_38 (by decide) (fun c38 => ?_) (fun c38 => (c38 (by rw [show hI (rI h 72 (prD (hI h 59) (nI a) (hI h 72) (n))) 36 32 = nI n from hs1]; exact nI_le (by omega) (by omega))).elim)
    refine px_drop (lv' := [(0, .ref 36), (1, .int (nI a)), (2, .int x), (3, .int 0), (4, .int (cnt1 (hI h 59) (nI a) n))]) ⟨rfl, rfl, rfl, rfl, rfl, trivial⟩ ?_
    exact kk
  | succ k ih =>
    intro i hi
    refine px_iload d_X12_compare_32 rfl ?_
    refine px_aload_n d_X12_compare_34 rfl rfl ?_
    refine px_getI d_X12_compare_35 fl_X12_259 rfl (so36 hL) ?_
    refine px_icmp_ge (tgt := 91) d_X12_compare_38 (by decide) (fun c38 => absurd c38 (by rw [show hI (rI h 72 (prD (hI h 59) (nI a) (hI h 72) (i))) 36 32 = nI n from hs1]; exact nI_ge (by omega) (by omega))) (fun c38 => ?_)
    refine px_aload_n d_X12_compare_41 rfl rfl ?_
    refine px_getR d_X12_compare_42 fl_X12_135 (by decide) (so36 hL) (sr36_47 hL) ?_
    refine px_iload d_X12_compare_45 rfl ?_
    refine px_aload_n d_X12_compare_47 rfl rfl ?_
    refine px_getR d_X12_compare_48 fl_X12_96 (by decide) (so36 hL) (sr36_33 hL) ?_
    refine px_iload d_X12_compare_51 rfl ?_
    refine px_iald d_X12_compare_53 (sa59 hL) rfl (by omega) ?_
    refine px_iload_n d_X12_compare_54 rfl rfl ?_
    refine px_icmp_eq (tgt := 62) d_X12_compare_55 (by decide) (fun c55 => ?_) (fun c55 => ?_)
    · refine px_iconst (v := 0) d_X12_compare_62 (by decide) ?_
      refine px_val (y := if hI h 59 i = nI a then 0 else 1) (by first | exact (if_pos c55).symm | exact (if_neg c55).symm) ?_
      refine px_zast d_X12_compare_63 (sa72 hL) rfl (by omega) (by by_cases q : hI h 59 i = nI a <;> simp [q] <;> rfl) ?_
      refine px_heap (h2 := (rI h 72 (prD (hI h 59) (nI a) (hI h 72) (i + 1)))) (by rw [pI_rI, prD_s]) ?_
      refine px_iload d_X12_compare_64 rfl ?_
      refine px_aload_n d_X12_compare_66 rfl rfl ?_
      refine px_getR d_X12_compare_67 fl_X12_96 (by decide) (so36 hL) (sr36_33 hL) ?_
      refine px_iload d_X12_compare_70 rfl ?_
      refine px_iald d_X12_compare_72 (sa59 hL) rfl (by omega) ?_
      refine px_iload_n d_X12_compare_73 rfl rfl ?_
      refine px_icmp_ne (tgt := 81) d_X12_compare_74 (by decide) (fun c74 => ?_) (fun c74 => ?_)
      · refine px_iconst (v := 0) d_X12_compare_81 (by decide) ?_
        refine px_iadd d_X12_compare_82 ?_
        refine px_istore d_X12_compare_83 (by decide) ?_
        refine px_inc1 d_X12_compare_85 rfl (by decide) ?_
        refine px_goto (tgt := 32) d_X12_compare_88 (by decide) ?_
        refine px_drop (lv' := [(0, .ref 36), (1, .int (nI a)), (2, .int x), (3, .int 0), (4, .int (cnt1 (hI h 59) (nI a) (i + 1))), (5, .int (nI (i + 1)))]) ⟨rfl, rfl, rfl, rfl, px_si (by first | exact absurd c55 c74 | exact absurd c74 c55 | (rw [cnt1_s, if_pos (show hI h 59 i = nI a from c74)]) | (rw [cnt1_s, if_neg (show ¬ hI h 59 i = nI a from c74)])), px_si (nI_s1 _), trivial⟩ ?_
        exact ih (i + 1) (by omega)
      · refine px_iconst (v := 1) d_X12_compare_77 (by decide) ?_
        refine px_goto (tgt := 82) d_X12_compare_78 (by decide) ?_
        refine px_iadd d_X12_compare_82 ?_
        refine px_istore d_X12_compare_83 (by decide) ?_
        refine px_inc1 d_X12_compare_85 rfl (by decide) ?_
        refine px_goto (tgt := 32) d_X12_compare_88 (by decide) ?_
        refine px_drop (lv' := [(0, .ref 36), (1, .int (nI a)), (2, .int x), (3, .int 0), (4, .int (cnt1 (hI h 59) (nI a) (i + 1))), (5, .int (nI (i + 1)))]) ⟨rfl, rfl, rfl, rfl, px_si (by first | exact absurd c55 c74 | exact absurd c74 c55 | (rw [cnt1_s, if_pos (show hI h 59 i = nI a from c74)]) | (rw [cnt1_s, if_neg (show ¬ hI h 59 i = nI a from c74)])), px_si (nI_s1 _), trivial⟩ ?_
        exact ih (i + 1) (by omega)
    · refine px_iconst (v := 1) d_X12_compare_58 (by decide) ?_
      refine px_goto (tgt := 63) d_X12_compare_59 (by decide) ?_
      refine px_val (y := if hI h 59 i = nI a then 0 else 1) (by first | exact (if_pos c55).symm | exact (if_neg c55).symm) ?_
      refine px_zast d_X12_compare_63 (sa72 hL) rfl (by omega) (by by_cases q : hI h 59 i = nI a <;> simp [q] <;> rfl) ?_
      refine px_heap (h2 := (rI h 72 (prD (hI h 59) (nI a) (hI h 72) (i + 1)))) (by rw [pI_rI, prD_s]) ?_
      refine px_iload d_X12_compare_64 rfl ?_
      refine px_aload_n d_X12_compare_66 rfl rfl ?_
      refine px_getR d_X12_compare_67 fl_X12_96 (by decide) (so36 hL) (sr36_33 hL) ?_
      refine px_iload d_X12_compare_70 rfl ?_
      refine px_iald d_X12_compare_72 (sa59 hL) rfl (by omega) ?_
      refine px_iload_n d_X12_compare_73 rfl rfl ?_
      refine px_icmp_ne (tgt := 81) d_X12_compare_74 (by decide) (fun c74 => ?_) (fun c74 => ?_)
      · refine px_iconst (v := 0) d_X12_compare_81 (by decide) ?_
        refine px_iadd d_X12_compare_82 ?_
        refine px_istore d_X12_compare_83 (by decide) ?_
        refine px_inc1 d_X12_compare_85 rfl (by decide) ?_
        refine px_goto (tgt := 32) d_X12_compare_88 (by decide) ?_
        refine px_drop (lv' := [(0, .ref 36), (1, .int (nI a)), (2, .int x), (3, .int 0), (4, .int (cnt1 (hI h 59) (nI a) (i + 1))), (5, .int (nI (i + 1)))]) ⟨rfl, rfl, rfl, rfl, px_si (by first | exact absurd c55 c74 | exact absurd c74 c55 | (rw [cnt1_s, if_pos (show hI h 59 i = nI a from c74)]) | (rw [cnt1_s, if_neg (show ¬ hI h 59 i = nI a from c74)])), px_si (nI_s1 _), trivial⟩ ?_
        exact ih (i + 1) (by omega)
      · refine px_iconst (v := 1) d_X12_compare_77 (by decide) ?_
        refine px_goto (tgt := 82) d_X12_compare_78 (by decide) ?_
        refine px_iadd d_X12_compare_82 ?_
        refine px_istore d_X12_compare_83 (by decide) ?_
        refine px_inc1 d_X12_compare_85 rfl (by decide) ?_
        refine px_goto (tgt := 32) d_X12_compare_88 (by decide) ?_
        refine px_drop (lv' := [(0, .ref 36), (1, .int (nI a)), (2, .int x), (3, .int 0), (4, .int (cnt1 (hI h 59) (nI a) (i + 1))), (5, .int (nI (i + 1)))]) ⟨rfl, rfl, rfl, rfl, px_si (by first | exact absurd c55 c74 | exact absurd c74 c55 | (rw [cnt1_s, if_pos (show hI h 59 i = nI a from c74)]) | (rw [cnt1_s, if_neg (show ¬ hI h 59 i = nI a from c74)])), px_si (nI_s1 _), trivial⟩ ?_
        exact ih (i + 1) (by omega)
theorem lp2_X12_compare {h : PH} {x p al : Int32} {b : Nat} {row : Nat → Int32} {N S : Nat} {Post : Nat → Option Value → PH → Prop} (hL : px_L h) {n a : Nat} (hs1 : hI h 36 32 = nI n) (hn4 : n ≤ 400) (ha : a < 20) (hb : b < 800) : ∀ (k i : Nat), i + k = n → (PW M_X12_compare N S Post 175 [(0, .ref 36), (1, .int (nI a)), (2, .int x), (3, .int p), (4, .int al), (5, .int (nI b)), (6, .int (nI (fstP (seekP (hI h 60) (hI h 61) row (hI h 70 b) (hI h 71 b)) i k)))] [] (rI h 72 row)) → PW M_X12_compare N S Post 116 [(0, .ref 36), (1, .int (nI a)), (2, .int x), (3, .int p), (4, .int al), (5, .int (nI b)), (6, .int (nI (i)))] [] (rI h 72 row) := by
  intro k
  induction k with
  | zero =>
    intro i hi kk
    have e : i = n := by omega
    rw [e]
    refine px_iload d_X12_compare_116 rfl ?_
    refine px_aload_n d_X12_compare_118 rfl rfl ?_
    refine px_getI d_X12_compare_119 fl_X12_259 rfl (so36 hL) ?_
    refine px_icmp_ge (tgt := 175) d_X12_compare_122 (by decide) (fun c122 => ?_) (fun c122 => (c122 (by rw [show hI (rI h 72 row) 36 32 = nI n from hs1]; exact nI_le (by omega) (by omega))).elim)
    rw [e] at kk
    exact kk
  | succ k ih =>
    intro i hi kk
    refine px_iload d_X12_compare_116 rfl ?_
    refine px_aload_n d_X12_compare_118 rfl rfl ?_
    refine px_getI d_X12_compare_119 fl_X12_259 rfl (so36 hL) ?_
    refine px_icmp_ge (tgt := 175) d_X12_compare_122 (by decide) (fun c122 => absurd c122 (by rw [show hI (rI h 72 row) 36 32 = nI n from hs1]; exact nI_ge (by omega) (by omega))) (fun c122 => ?_)
    refine px_aload_n d_X12_compare_125 rfl rfl ?_
    refine px_getR d_X12_compare_126 fl_X12_135 (by decide) (so36 hL) (sr36_47 hL) ?_
    refine px_iload d_X12_compare_129 rfl ?_
    refine px_zald d_X12_compare_131 (sa72 hL) rfl (by omega) ?_
    refine px_if_ne (tgt := 169) d_X12_compare_132 (by decide) (fun c132 => ?_) (fun c132 => ?_)
    · refine px_inc1 d_X12_compare_169 rfl (by decide) ?_
      refine px_goto (tgt := 116) d_X12_compare_172 (by decide) ?_
      have e9 : fstP (seekP (hI h 60) (hI h 61) row (hI h 70 b) (hI h 71 b)) i (k + 1) = fstP (seekP (hI h 60) (hI h 61) row (hI h 70 b) (hI h 71 b)) (i + 1) k := by
        have q9 : ¬ (seekP (hI h 60) (hI h 61) row (hI h 70 b) (hI h 71 b)) i = true := by
          unfold seekP
          simp only [Bool.and_eq_true, decide_eq_true_eq]
          rintro ⟨w1, w2, w3⟩
          first | exact c132 w1 | exact c149 w2 | exact c166 w3
        exact if_neg q9
      rw [e9] at kk
      refine px_drop (lv' := [(0, .ref 36), (1, .int (nI a)), (2, .int x), (3, .int p), (4, .int al), (5, .int (nI b)), (6, .int (nI (i + 1)))]) ⟨rfl, rfl, rfl, rfl, rfl, rfl, px_si (nI_s1 _), trivial⟩ ?_
      exact ih (i + 1) (by omega) kk
    · refine px_aload_n d_X12_compare_135 rfl rfl ?_
      refine px_getR d_X12_compare_136 fl_X12_99 (by decide) (so36 hL) (sr36_34 hL) ?_
      refine px_iload d_X12_compare_139 rfl ?_
      refine px_iald d_X12_compare_141 (sa60 hL) rfl (by omega) ?_
      refine px_aload_n d_X12_compare_142 rfl rfl ?_
      refine px_getR d_X12_compare_143 fl_X12_129 (by decide) (so36 hL) (sr36_45 hL) ?_
      refine px_iload d_X12_compare_146 rfl ?_
      refine px_iald d_X12_compare_148 (sa70 hL) rfl (by omega) ?_
      refine px_icmp_ne (tgt := 169) d_X12_compare_149 (by decide) (fun c149 => ?_) (fun c149 => ?_)
      · refine px_inc1 d_X12_compare_169 rfl (by decide) ?_
        refine px_goto (tgt := 116) d_X12_compare_172 (by decide) ?_
        have e9 : fstP (seekP (hI h 60) (hI h 61) row (hI h 70 b) (hI h 71 b)) i (k + 1) = fstP (seekP (hI h 60) (hI h 61) row (hI h 70 b) (hI h 71 b)) (i + 1) k := by
          have q9 : ¬ (seekP (hI h 60) (hI h 61) row (hI h 70 b) (hI h 71 b)) i = true := by
            unfold seekP
            simp only [Bool.and_eq_true, decide_eq_true_eq]
            rintro ⟨w1, w2, w3⟩
            first | exact c132 w1 | exact c149 w2 | exact c166 w3
          exact if_neg q9
        rw [e9] at kk
        refine px_drop (lv' := [(0, .ref 36), (1, .int (nI a)), (2, .int x), (3, .int p), (4, .int al), (5, .int (nI b)), (6, .int (nI (i + 1)))]) ⟨rfl, rfl, rfl, rfl, rfl, rfl, px_si (nI_s1 _), trivial⟩ ?_
        exact ih (i + 1) (by omega) kk
      · refine px_aload_n d_X12_compare_152 rfl rfl ?_
        refine px_getR d_X12_compare_153 fl_X12_102 (by decide) (so36 hL) (sr36_35 hL) ?_
        refine px_iload d_X12_compare_156 rfl ?_
        refine px_iald d_X12_compare_158 (sa61 hL) rfl (by omega) ?_
        refine px_aload_n d_X12_compare_159 rfl rfl ?_
        refine px_getR d_X12_compare_160 fl_X12_132 (by decide) (so36 hL) (sr36_46 hL) ?_
        refine px_iload d_X12_compare_163 rfl ?_
        refine px_iald d_X12_compare_165 (sa71 hL) rfl (by omega) ?_
        refine px_icmp_eq (tgt := 175) d_X12_compare_166 (by decide) (fun c166 => ?_) (fun c166 => ?_)
        · have e9 : fstP (seekP (hI h 60) (hI h 61) row (hI h 70 b) (hI h 71 b)) i (k + 1) = i := by
            refine if_pos ?_
            unfold seekP
            simp only [Bool.and_eq_true, decide_eq_true_eq]
            exact ⟨c132, c149, c166⟩
          rw [e9] at kk
          exact kk
        · refine px_inc1 d_X12_compare_169 rfl (by decide) ?_
          refine px_goto (tgt := 116) d_X12_compare_172 (by decide) ?_
          have e9 : fstP (seekP (hI h 60) (hI h 61) row (hI h 70 b) (hI h 71 b)) i (k + 1) = fstP (seekP (hI h 60) (hI h 61) row (hI h 70 b) (hI h 71 b)) (i + 1) k := by
            have q9 : ¬ (seekP (hI h 60) (hI h 61) row (hI h 70 b) (hI h 71 b)) i = true := by
              unfold seekP
              simp only [Bool.and_eq_true, decide_eq_true_eq]
              rintro ⟨w1, w2, w3⟩
              first | exact c132 w1 | exact c149 w2 | exact c166 w3
            exact if_neg q9
          rw [e9] at kk
          refine px_drop (lv' := [(0, .ref 36), (1, .int (nI a)), (2, .int x), (3, .int p), (4, .int al), (5, .int (nI b)), (6, .int (nI (i + 1)))]) ⟨rfl, rfl, rfl, rfl, rfl, rfl, px_si (nI_s1 _), trivial⟩ ?_
          exact ih (i + 1) (by omega) kk
theorem lq_X12_compare {h : PH} {x al : Int32} {row0 : Nat → Int32} {N S : Nat} {Post : Nat → Option Value → PH → Prop} (hL : px_L h) {n a : Nat} (hs1 : hI h 36 32 = nI n) (hn4 : n ≤ 400) (ha : a < 20) {c : Nat} (hc : hI h 69 a = nI c) (hc4 : c ≤ 40) {i : Nat} (hi : i < c) (ih : PW M_X12_compare N S Post 97 [(0, .ref 36), (1, .int (nI a)), (2, .int x), (3, .int (nI (grd (hI h 60) (hI h 61) (fun j => hI h 70 (40 * a + j)) (fun j => hI h 71 (40 * a + j)) row0 n (i + 1)).2)), (4, .int al), (5, .int (nI (40 * a + (i + 1))))] [] (rI h 72 (grd (hI h 60) (hI h 61) (fun j => hI h 70 (40 * a + j)) (fun j => hI h 71 (40 * a + j)) row0 n (i + 1)).1)) : PW M_X12_compare N S Post 175 [(0, .ref 36), (1, .int (nI a)), (2, .int x), (3, .int (nI (grd (hI h 60) (hI h 61) (fun j => hI h 70 (40 * a + j)) (fun j => hI h 71 (40 * a + j)) row0 n (i)).2)), (4, .int al), (5, .int (nI (40 * a + i))), (6, .int (nI (fstP (seekP (hI h 60) (hI h 61) (grd (hI h 60) (hI h 61) (fun j => hI h 70 (40 * a + j)) (fun j => hI h 71 (40 * a + j)) row0 n (i)).1 (hI h 70 (40 * a + i)) (hI h 71 (40 * a + i))) 0 n)))] [] (rI h 72 (grd (hI h 60) (hI h 61) (fun j => hI h 70 (40 * a + j)) (fun j => hI h 71 (40 * a + j)) row0 n (i)).1) := by
  have hf := (fstP_le (seekP (hI h 60) (hI h 61) (grd (hI h 60) (hI h 61) (fun j => hI h 70 (40 * a + j)) (fun j => hI h 71 (40 * a + j)) row0 n (i)).1 (hI h 70 (40 * a + i)) (hI h 71 (40 * a + i))) n 0).2
  rw [Nat.zero_add] at hf
  refine px_iload d_X12_compare_175 rfl ?_
  refine px_aload_n d_X12_compare_177 rfl rfl ?_
  refine px_getI d_X12_compare_178 fl_X12_259 rfl (so36 hL) ?_
  refine px_icmp_ge (tgt := 195) d_X12_compare_181 (by decide) (fun c181 => ?_) (fun c181 => ?_)
  · refine px_inc1 d_X12_compare_195 rfl (by decide) ?_
    refine px_goto (tgt := 97) d_X12_compare_198 (by decide) ?_
    have c9 := c181
    rw [show hI (rI h 72 (grd (hI h 60) (hI h 61) (fun j => hI h 70 (40 * a + j)) (fun j => hI h 71 (40 * a + j)) row0 n (i)).1) 36 32 = nI n from hs1] at c9
    first
      | (have e9 : grd (hI h 60) (hI h 61) (fun j => hI h 70 (40 * a + j)) (fun j => hI h 71 (40 * a + j)) row0 n (i + 1) = (grd (hI h 60) (hI h 61) (fun j => hI h 70 (40 * a + j)) (fun j => hI h 71 (40 * a + j)) row0 n (i)) := if_neg (show ¬ (fstP (seekP (hI h 60) (hI h 61) (grd (hI h 60) (hI h 61) (fun j => hI h 70 (40 * a + j)) (fun j => hI h 71 (40 * a + j)) row0 n (i)).1 (hI h 70 (40 * a + i)) (hI h 71 (40 * a + i))) 0 n) < n by rw [nI_leI (by omega) (by omega)] at c9; omega)
         rw [e9] at ih
         refine px_drop (lv' := [(0, .ref 36), (1, .int (nI a)), (2, .int x), (3, .int (nI (grd (hI h 60) (hI h 61) (fun j => hI h 70 (40 * a + j)) (fun j => hI h 71 (40 * a + j)) row0 n (i)).2)), (4, .int al), (5, .int (nI (40 * a + (i + 1))))]) ⟨rfl, rfl, rfl, rfl, rfl, px_si (nI_s1 _), trivial⟩ ?_
         exact ih)
      | (have e9 : grd (hI h 60) (hI h 61) (fun j => hI h 70 (40 * a + j)) (fun j => hI h 71 (40 * a + j)) row0 n (i + 1) = (fun q => if q = (fstP (seekP (hI h 60) (hI h 61) (grd (hI h 60) (hI h 61) (fun j => hI h 70 (40 * a + j)) (fun j => hI h 71 (40 * a + j)) row0 n (i)).1 (hI h 70 (40 * a + i)) (hI h 71 (40 * a + i))) 0 n) then 1 else (grd (hI h 60) (hI h 61) (fun j => hI h 70 (40 * a + j)) (fun j => hI h 71 (40 * a + j)) row0 n (i)).1 q, (grd (hI h 60) (hI h 61) (fun j => hI h 70 (40 * a + j)) (fun j => hI h 71 (40 * a + j)) row0 n (i)).2 + 1) := if_pos (show (fstP (seekP (hI h 60) (hI h 61) (grd (hI h 60) (hI h 61) (fun j => hI h 70 (40 * a + j)) (fun j => hI h 71 (40 * a + j)) row0 n (i)).1 (hI h 70 (40 * a + i)) (hI h 71 (40 * a + i))) 0 n) < n by rw [nI_leI (by omega) (by omega)] at c9; omega)
         rw [e9] at ih
         refine px_heap (h2 := rI h 72 (fun q => if q = (fstP (seekP (hI h 60) (hI h 61) (grd (hI h 60) (hI h 61) (fun j => hI h 70 (40 * a + j)) (fun j => hI h 71 (40 * a + j)) row0 n (i)).1 (hI h 70 (40 * a + i)) (hI h 71 (40 * a + i))) 0 n) then 1 else (grd (hI h 60) (hI h 61) (fun j => hI h 70 (40 * a + j)) (fun j => hI h 71 (40 * a + j)) row0 n (i)).1 q)) (by rw [pI_rI]) ?_
         refine px_drop (lv' := [(0, .ref 36), (1, .int (nI a)), (2, .int x), (3, .int (nI ((grd (hI h 60) (hI h 61) (fun j => hI h 70 (40 * a + j)) (fun j => hI h 71 (40 * a + j)) row0 n (i)).2 + 1))), (4, .int al), (5, .int (nI (40 * a + (i + 1))))]) ⟨rfl, rfl, rfl, px_si (nI_s1 _), rfl, px_si (nI_s1 _), trivial⟩ ?_
         exact ih)
  · refine px_aload_n d_X12_compare_184 rfl rfl ?_
    refine px_getR d_X12_compare_185 fl_X12_135 (by decide) (so36 hL) (sr36_47 hL) ?_
    refine px_iload d_X12_compare_188 rfl ?_
    refine px_iconst (v := 1) d_X12_compare_190 (by decide) ?_
    refine px_zast d_X12_compare_191 (sa72 hL) rfl (Nat.lt_of_lt_of_le ((nI_ltI (by omega) (by omega)).mp (Int32.not_le.mp (by rw [← hs1]; exact c181))) hn4) rfl ?_
    refine px_inc1 d_X12_compare_192 rfl (by decide) ?_
    refine px_inc1 d_X12_compare_195 rfl (by decide) ?_
    refine px_goto (tgt := 97) d_X12_compare_198 (by decide) ?_
    have c9 := c181
    rw [show hI (rI h 72 (grd (hI h 60) (hI h 61) (fun j => hI h 70 (40 * a + j)) (fun j => hI h 71 (40 * a + j)) row0 n (i)).1) 36 32 = nI n from hs1] at c9
    first
      | (have e9 : grd (hI h 60) (hI h 61) (fun j => hI h 70 (40 * a + j)) (fun j => hI h 71 (40 * a + j)) row0 n (i + 1) = (grd (hI h 60) (hI h 61) (fun j => hI h 70 (40 * a + j)) (fun j => hI h 71 (40 * a + j)) row0 n (i)) := if_neg (show ¬ (fstP (seekP (hI h 60) (hI h 61) (grd (hI h 60) (hI h 61) (fun j => hI h 70 (40 * a + j)) (fun j => hI h 71 (40 * a + j)) row0 n (i)).1 (hI h 70 (40 * a + i)) (hI h 71 (40 * a + i))) 0 n) < n by rw [nI_leI (by omega) (by omega)] at c9; omega)
         rw [e9] at ih
         refine px_drop (lv' := [(0, .ref 36), (1, .int (nI a)), (2, .int x), (3, .int (nI (grd (hI h 60) (hI h 61) (fun j => hI h 70 (40 * a + j)) (fun j => hI h 71 (40 * a + j)) row0 n (i)).2)), (4, .int al), (5, .int (nI (40 * a + (i + 1))))]) ⟨rfl, rfl, rfl, rfl, rfl, px_si (nI_s1 _), trivial⟩ ?_
         exact ih)
      | (have e9 : grd (hI h 60) (hI h 61) (fun j => hI h 70 (40 * a + j)) (fun j => hI h 71 (40 * a + j)) row0 n (i + 1) = (fun q => if q = (fstP (seekP (hI h 60) (hI h 61) (grd (hI h 60) (hI h 61) (fun j => hI h 70 (40 * a + j)) (fun j => hI h 71 (40 * a + j)) row0 n (i)).1 (hI h 70 (40 * a + i)) (hI h 71 (40 * a + i))) 0 n) then 1 else (grd (hI h 60) (hI h 61) (fun j => hI h 70 (40 * a + j)) (fun j => hI h 71 (40 * a + j)) row0 n (i)).1 q, (grd (hI h 60) (hI h 61) (fun j => hI h 70 (40 * a + j)) (fun j => hI h 71 (40 * a + j)) row0 n (i)).2 + 1) := if_pos (show (fstP (seekP (hI h 60) (hI h 61) (grd (hI h 60) (hI h 61) (fun j => hI h 70 (40 * a + j)) (fun j => hI h 71 (40 * a + j)) row0 n (i)).1 (hI h 70 (40 * a + i)) (hI h 71 (40 * a + i))) 0 n) < n by rw [nI_leI (by omega) (by omega)] at c9; omega)
         rw [e9] at ih
         refine px_heap (h2 := rI h 72 (fun q => if q = (fstP (seekP (hI h 60) (hI h 61) (grd (hI h 60) (hI h 61) (fun j => hI h 70 (40 * a + j)) (fun j => hI h 71 (40 * a + j)) row0 n (i)).1 (hI h 70 (40 * a + i)) (hI h 71 (40 * a + i))) 0 n) then 1 else (grd (hI h 60) (hI h 61) (fun j => hI h 70 (40 * a + j)) (fun j => hI h 71 (40 * a + j)) row0 n (i)).1 q)) (by rw [pI_rI]) ?_
         refine px_drop (lv' := [(0, .ref 36), (1, .int (nI a)), (2, .int x), (3, .int (nI ((grd (hI h 60) (hI h 61) (fun j => hI h 70 (40 * a + j)) (fun j => hI h 71 (40 * a + j)) row0 n (i)).2 + 1))), (4, .int al), (5, .int (nI (40 * a + (i + 1))))]) ⟨rfl, rfl, rfl, px_si (nI_s1 _), rfl, px_si (nI_s1 _), trivial⟩ ?_
         exact ih)
theorem lp3_X12_compare {h : PH} {x al : Int32} {row0 : Nat → Int32} {N S : Nat} {Post : Nat → Option Value → PH → Prop} (hL : px_L h) {n a : Nat} (hs1 : hI h 36 32 = nI n) (hn4 : n ≤ 400) (ha : a < 20) {c : Nat} (hc : hI h 69 a = nI c) (hc4 : c ≤ 40) (kk : PW M_X12_compare N S Post 201 [(0, .ref 36), (1, .int (nI a)), (2, .int x), (3, .int (nI (grd (hI h 60) (hI h 61) (fun j => hI h 70 (40 * a + j)) (fun j => hI h 71 (40 * a + j)) row0 n (c)).2)), (4, .int al)] [] (rI h 72 (grd (hI h 60) (hI h 61) (fun j => hI h 70 (40 * a + j)) (fun j => hI h 71 (40 * a + j)) row0 n (c)).1)) : ∀ (k i : Nat), i + k = c → PW M_X12_compare N S Post 97 [(0, .ref 36), (1, .int (nI a)), (2, .int x), (3, .int (nI (grd (hI h 60) (hI h 61) (fun j => hI h 70 (40 * a + j)) (fun j => hI h 71 (40 * a + j)) row0 n (i)).2)), (4, .int al), (5, .int (nI (40 * a + (i))))] [] (rI h 72 (grd (hI h 60) (hI h 61) (fun j => hI h 70 (40 * a + j)) (fun j => hI h 71 (40 * a + j)) row0 n (i)).1) := by
  intro k
  induction k with
  | zero =>
    intro i hi
    have e : i = c := by omega
    rw [e]
    refine px_iload d_X12_compare_97 rfl ?_
    refine px_bipush (v := 40) d_X12_compare_99 (by decide) ?_
    refine px_iload_n d_X12_compare_101 rfl rfl ?_
    refine px_imul d_X12_compare_102 ?_
    refine px_aload_n d_X12_compare_103 rfl rfl ?_
    refine px_getR d_X12_compare_104 fl_X12_126 (by decide) (so36 hL) (sr36_44 hL) ?_
    refine px_iload_n d_X12_compare_107 rfl rfl ?_
    refine px_iald d_X12_compare_108 (sa69 hL) rfl (by omega) ?_
    refine px_iadd d_X12_compare_109 ?_
    refine px_val (y := nI (40 * a + c)) (nI_40 a c hc) ?_
    refine px_icmp_ge (tgt := 201) d_X12_compare_110 (by decide) (fun c110 => ?_) (fun c110 => (c110 (nI_le (by omega) (by omega))).elim)
    refine px_drop (lv' := [(0, .ref 36), (1, .int (nI a)), (2, .int x), (3, .int (nI (grd (hI h 60) (hI h 61) (fun j => hI h 70 (40 * a + j)) (fun j => hI h 71 (40 * a + j)) row0 n (c)).2)), (4, .int al)]) ⟨rfl, rfl, rfl, rfl, rfl, trivial⟩ ?_
    exact kk
  | succ k ih =>
    intro i hi
    refine px_iload d_X12_compare_97 rfl ?_
    refine px_bipush (v := 40) d_X12_compare_99 (by decide) ?_
    refine px_iload_n d_X12_compare_101 rfl rfl ?_
    refine px_imul d_X12_compare_102 ?_
    refine px_aload_n d_X12_compare_103 rfl rfl ?_
    refine px_getR d_X12_compare_104 fl_X12_126 (by decide) (so36 hL) (sr36_44 hL) ?_
    refine px_iload_n d_X12_compare_107 rfl rfl ?_
    refine px_iald d_X12_compare_108 (sa69 hL) rfl (by omega) ?_
    refine px_iadd d_X12_compare_109 ?_
    refine px_val (y := nI (40 * a + c)) (nI_40 a c hc) ?_
    refine px_icmp_ge (tgt := 201) d_X12_compare_110 (by decide) (fun c110 => absurd c110 (nI_ge (by omega) (by omega))) (fun c110 => ?_)
    refine px_iconst (v := 0) d_X12_compare_113 (by decide) ?_
    refine px_istore d_X12_compare_114 (by decide) ?_
    refine lp2_X12_compare (p := nI (grd (hI h 60) (hI h 61) (fun j => hI h 70 (40 * a + j)) (fun j => hI h 71 (40 * a + j)) row0 n (i)).2) (al := al) (b := 40 * a + i) (row := (grd (hI h 60) (hI h 61) (fun j => hI h 70 (40 * a + j)) (fun j => hI h 71 (40 * a + j)) row0 n (i)).1) hL hs1 hn4 ha (by omega) n 0 (by omega) ?_
    have hf := (fstP_le (seekP (hI h 60) (hI h 61) (grd (hI h 60) (hI h 61) (fun j => hI h 70 (40 * a + j)) (fun j => hI h 71 (40 * a + j)) row0 n (i)).1 (hI h 70 (40 * a + i)) (hI h 71 (40 * a + i))) n 0).2
    rw [Nat.zero_add] at hf
    exact lq_X12_compare hL hs1 hn4 ha hc hc4 (by omega) (ih (i + 1) (by omega))
theorem t1_X12_compare {h : PH} {x : Int32} (hL : px_L h) {n a c : Nat} (ha : a < 20) {N S : Nat} : PW M_X12_compare N S (PMpost (some (.int (if x = 0 then nI (grd (hI h 60) (hI h 61) (fun j => hI h 70 (40 * a + j)) (fun j => hI h 71 (40 * a + j)) (prD (hI h 59) (nI a) (hI h 72) n) n c).2 else if x = 1 then hI h 69 a - nI (grd (hI h 60) (hI h 61) (fun j => hI h 70 (40 * a + j)) (fun j => hI h 71 (40 * a + j)) (prD (hI h 59) (nI a) (hI h 72) n) n c).2 else (cnt1 (hI h 59) (nI a) n) - nI (grd (hI h 60) (hI h 61) (fun j => hI h 70 (40 * a + j)) (fun j => hI h 71 (40 * a + j)) (prD (hI h 59) (nI a) (hI h 72) n) n c).2))) (rI (th0 h) 72 (grd (hI h 60) (hI h 61) (fun j => hI h 70 (40 * a + j)) (fun j => hI h 71 (40 * a + j)) (prD (hI h 59) (nI a) (hI h 72) n) n c).1)) 201 [(0, .ref 36), (1, .int (nI a)), (2, .int x), (3, .int (nI (grd (hI h 60) (hI h 61) (fun j => hI h 70 (40 * a + j)) (fun j => hI h 71 (40 * a + j)) (prD (hI h 59) (nI a) (hI h 72) n) n c).2)), (4, .int (cnt1 (hI h 59) (nI a) n))] [] (rI (th0 h) 72 (grd (hI h 60) (hI h 61) (fun j => hI h 70 (40 * a + j)) (fun j => hI h 71 (40 * a + j)) (prD (hI h 59) (nI a) (hI h 72) n) n c).1) := by
  refine px_iload_n d_X12_compare_201 rfl rfl ?_
  refine px_if_ne (tgt := 209) d_X12_compare_202 (by decide) (fun c202 => ?_) (fun c202 => ?_)
  · refine px_iload_n d_X12_compare_209 rfl rfl ?_
    refine px_iconst (v := 1) d_X12_compare_210 (by decide) ?_
    refine px_icmp_ne (tgt := 225) d_X12_compare_211 (by decide) (fun c211 => ?_) (fun c211 => ?_)
    · refine px_iload d_X12_compare_225 rfl ?_
      refine px_iload_n d_X12_compare_227 rfl rfl ?_
      refine px_isub d_X12_compare_228 ?_
      exact px_ireturn d_X12_compare_229 rfl rfl ⟨rfl, px_si (by first | exact (if_pos c202).symm | (rw [if_neg c202, if_pos c211]; rfl) | (rw [if_neg c202, if_neg c211])), rfl⟩
    · refine px_aload_n d_X12_compare_214 rfl rfl ?_
      refine px_getR d_X12_compare_215 fl_X12_126 (by decide) (so36 hL) (sr36_44 hL) ?_
      refine px_iload_n d_X12_compare_218 rfl rfl ?_
      refine px_iald d_X12_compare_219 (sa69 hL) rfl (by omega) ?_
      refine px_iload_n d_X12_compare_220 rfl rfl ?_
      refine px_isub d_X12_compare_221 ?_
      refine px_goto (tgt := 229) d_X12_compare_222 (by decide) ?_
      exact px_ireturn d_X12_compare_229 rfl rfl ⟨rfl, px_si (by first | exact (if_pos c202).symm | (rw [if_neg c202, if_pos c211]; rfl) | (rw [if_neg c202, if_neg c211])), rfl⟩
  · refine px_iload_n d_X12_compare_205 rfl rfl ?_
    refine px_goto (tgt := 229) d_X12_compare_206 (by decide) ?_
    exact px_ireturn d_X12_compare_229 rfl rfl ⟨rfl, px_si (by first | exact (if_pos c202).symm | (rw [if_neg c202, if_pos c211]; rfl) | (rw [if_neg c202, if_neg c211])), rfl⟩
theorem t2_X12_compare {h : PH} {x : Int32} (hL : px_L h) {n a c : Nat} (hs1 : hI h 36 32 = nI n) (hn4 : n ≤ 400) (ha : a < 20) (hc : hI h 69 a = nI c) (hc4 : c ≤ 40) {N S : Nat} : PW M_X12_compare N S (PMpost (some (.int (if x = 0 then nI (grd (hI h 60) (hI h 61) (fun j => hI h 70 (40 * a + j)) (fun j => hI h 71 (40 * a + j)) (prD (hI h 59) (nI a) (hI h 72) n) n c).2 else if x = 1 then hI h 69 a - nI (grd (hI h 60) (hI h 61) (fun j => hI h 70 (40 * a + j)) (fun j => hI h 71 (40 * a + j)) (prD (hI h 59) (nI a) (hI h 72) n) n c).2 else (cnt1 (hI h 59) (nI a) n) - nI (grd (hI h 60) (hI h 61) (fun j => hI h 70 (40 * a + j)) (fun j => hI h 71 (40 * a + j)) (prD (hI h 59) (nI a) (hI h 72) n) n c).2))) (rI (th0 h) 72 (grd (hI h 60) (hI h 61) (fun j => hI h 70 (40 * a + j)) (fun j => hI h 71 (40 * a + j)) (prD (hI h 59) (nI a) (hI h 72) n) n c).1)) 91 [(0, .ref 36), (1, .int (nI a)), (2, .int x), (3, .int 0), (4, .int (cnt1 (hI h 59) (nI a) n))] [] (rI (th0 h) 72 (prD (hI h 59) (nI a) (hI h 72) n)) := by
  refine px_bipush (v := 40) d_X12_compare_91 (by decide) ?_
  refine px_iload_n d_X12_compare_93 rfl rfl ?_
  refine px_imul d_X12_compare_94 ?_
  refine px_istore d_X12_compare_95 (by decide) ?_
  refine px_drop (lv' := [(0, .ref 36), (1, .int (nI a)), (2, .int x), (3, .int (nI 0)), (4, .int (cnt1 (hI h 59) (nI a) n)), (5, .int (nI (40 * a + 0)))]) ⟨rfl, rfl, rfl, rfl, rfl, px_si (nI_40 a 0 rfl |> fun q => by rw [← q]; exact (Int32.add_zero _).symm), trivial⟩ ?_
  exact lp3_X12_compare (h := th0 h) (x := x) (al := (cnt1 (hI h 59) (nI a) n)) (row0 := (prD (hI h 59) (nI a) (hI h 72) n)) hL hs1 hn4 ha hc hc4 (t1_X12_compare hL ha) c 0 (by omega)
theorem c_X12_compare {h : PH} {x : Int32} (hL : px_L h) {m n a c : Nat} (hm : hI h 36 27 = nI m) (hm2 : m ≤ 20) (ha : a < m) (hs1 : hI h 36 32 = nI n) (hn4 : n ≤ 400) (hc : hI h 69 a = nI c) (hc4 : c ≤ 40) (hv : ¬ x < 0 ∧ x ≤ 2) : PM M_X12_compare [.ref 36, .int (nI a), .int x] h (some (.int (if x = 0 then nI (grd (hI h 60) (hI h 61) (fun j => hI h 70 (40 * a + j)) (fun j => hI h 71 (40 * a + j)) (prD (hI h 59) (nI a) (hI h 72) n) n c).2 else if x = 1 then hI h 69 a - nI (grd (hI h 60) (hI h 61) (fun j => hI h 70 (40 * a + j)) (fun j => hI h 71 (40 * a + j)) (prD (hI h 59) (nI a) (hI h 72) n) n c).2 else (cnt1 (hI h 59) (nI a) n) - nI (grd (hI h 60) (hI h 61) (fun j => hI h 70 (40 * a + j)) (fun j => hI h 71 (40 * a + j)) (prD (hI h 59) (nI a) (hI h 72) n) n c).2))) (rI (th0 h) 72 (grd (hI h 60) (hI h 61) (fun j => hI h 70 (40 * a + j)) (fun j => hI h 71 (40 * a + j)) (prD (hI h 59) (nI a) (hI h 72) n) n c).1) := by
  refine PM.of (by decide +kernel) (by decide +kernel) (Nat.le_refl (hn h)) (Nat.le_refl (hs h)) (Nat.le_of_ble_eq_true rfl) ?_
  refine px_aload_n d_X12_compare_0 rfl rfl ?_
  refine px_iconst (v := 0) d_X12_compare_1 (by decide) ?_
  refine px_putI d_X12_compare_2 fl_X12_150 rfl (so36 hL) ?_
  refine px_aload_n d_X12_compare_5 rfl rfl ?_
  refine px_iload_n d_X12_compare_6 rfl rfl ?_
  refine px_callV (c_X12_isAccount (h := th0 h) hL) d_X12_compare_7 lk_X12_262 ok_X12_isAccount ov_X12_isAccount (so36 hL) (by decide) rfl rfl (Nat.le_of_ble_eq_true rfl) (by decide) ⟨Nat.le_refl (hn h), Nat.le_refl (hs h)⟩ ?_
  refine px_if_eq (tgt := 22) d_X12_compare_10 (by decide) (fun c10 => absurd c10 (bI_n.mpr (isAc hm hm2 ha))) (fun c10 => ?_)
  refine px_iload_n d_X12_compare_13 rfl rfl ?_
  refine px_if_lt (tgt := 22) d_X12_compare_14 (by decide) (fun c14 => absurd c14 hv.1) (fun c14 => ?_)
  refine px_iload_n d_X12_compare_17 rfl rfl ?_
  refine px_iconst (v := 2) d_X12_compare_18 (by decide) ?_
  refine px_icmp_le (tgt := 24) d_X12_compare_19 (by decide) (fun c19 => ?_) (fun c19 => (c19 hv.2).elim)
  refine px_iconst (v := 0) d_X12_compare_24 (by decide) ?_
  refine px_istore_n d_X12_compare_25 rfl (by decide) ?_
  refine px_iconst (v := 0) d_X12_compare_26 (by decide) ?_
  refine px_istore d_X12_compare_27 (by decide) ?_
  refine px_iconst (v := 0) d_X12_compare_29 (by decide) ?_
  refine px_istore d_X12_compare_30 (by decide) ?_
  refine px_heap (h2 := rI (th0 h) 72 (prD (hI (th0 h) 59) (nI a) (hI (th0 h) 72) 0)) (by rw [prD_0]; exact (rI_self (th0 h) 72).symm) ?_
  refine lp1_X12_compare (h := th0 h) (a := a) hL hs1 hn4 (by omega) ?_ n 0 (by omega)
  exact t2_X12_compare hL hs1 hn4 (by omega) hc hc4
theorem n_X12_compare {h : PH} {x : Int32} (hL : px_L h) {m a : Nat} (hm : hI h 36 27 = nI m) (hm2 : m ≤ 20) (ha : a < m) (hv : ¬ (¬ x < 0 ∧ x ≤ 2)) : PM M_X12_compare [.ref 36, .int (nI a), .int x] h (some (.int (-1))) (th0 h) := by
  refine PM.of (by decide +kernel) (by decide +kernel) (Nat.le_refl _) (Nat.le_refl _) (Nat.le_of_ble_eq_true rfl) ?_
  refine px_aload_n d_X12_compare_0 rfl rfl ?_
  refine px_iconst (v := 0) d_X12_compare_1 (by decide) ?_
  refine px_putI d_X12_compare_2 fl_X12_150 rfl (so36 hL) ?_
  refine px_aload_n d_X12_compare_5 rfl rfl ?_
  refine px_iload_n d_X12_compare_6 rfl rfl ?_
  refine px_callV (c_X12_isAccount (h := th0 h) hL) d_X12_compare_7 lk_X12_262 ok_X12_isAccount ov_X12_isAccount (so36 hL) (by decide) rfl rfl (Nat.le_of_ble_eq_true rfl) (by decide) ⟨Nat.le_refl (hn h), Nat.le_refl (hs h)⟩ ?_
  refine px_if_eq (tgt := 22) d_X12_compare_10 (by decide) (fun c10 => absurd c10 (bI_n.mpr (isAc hm hm2 ha))) (fun c10 => ?_)
  refine px_iload_n d_X12_compare_13 rfl rfl ?_
  refine px_if_lt (tgt := 22) d_X12_compare_14 (by decide) (fun c14 => ?_) (fun c14 => ?_)
  · refine px_iconst (v := (-1)) d_X12_compare_22 (by decide) ?_
    exact px_ireturn d_X12_compare_23 rfl rfl ⟨rfl, rfl, rfl⟩
  · refine px_iload_n d_X12_compare_17 rfl rfl ?_
    refine px_iconst (v := 2) d_X12_compare_18 (by decide) ?_
    refine px_icmp_le (tgt := 24) d_X12_compare_19 (by decide) (fun c19 => ?_) (fun c19 => ?_)
    · exact absurd ⟨c14, c19⟩ hv
    · refine px_iconst (v := (-1)) d_X12_compare_22 (by decide) ?_
      exact px_ireturn d_X12_compare_23 rfl rfl ⟨rfl, rfl, rfl⟩
