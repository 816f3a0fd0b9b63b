theorem wrun_cg {op one kn kn' : Nat → Int32} (hk : ∀ j, j < 5 → kn j = kn' j) : ∀ (f i : Nat) (st : List Int32), wrun op one kn f i st = wrun op one kn' f i st
  | 0, _, _ => rfl
  | f + 1, i, st => by
    unfold wrun
    by_cases h0 : op i = 0
    · rw [if_pos h0, if_pos h0]
    rw [if_neg h0, if_neg h0]
    by_cases h1 : op i = 1
    · rw [if_pos h1, if_pos h1]; exact wrun_cg hk f _ _
    rw [if_neg h1, if_neg h1]
    by_cases h2 : op i = 2
    · rw [if_pos h2, if_pos h2]
      by_cases q : ¬ one i < 0 ∧ one i < 5
      · rw [if_pos q, if_pos q]
        obtain ⟨w, hw, ew⟩ := nI_of q.1
        have h5 : w < 5 := (nI_ltI (b := 5) hw (by decide)).mp (by rw [← ew]; exact q.2)
        rw [ew, nI_clamp hw, hk w h5]
        exact wrun_cg hk f _ _
      · rw [if_neg q, if_neg q]
    rw [if_neg h2, if_neg h2]
    match st with
    | [] => rfl
    | [_] => rfl
    | b :: a :: t => exact wrun_cg hk f _ _
theorem RX.cg {h : PH} {n : Nat} {nl : Nat → Nat} {W : Nat → Nat → (Nat → Int32) → Int32} (hX : RX h n nl W) {t k : Nat} (ht : t < n) (hk : k < nl t) {F F' : Nat → Int32} (hF : ∀ j, j < 5 → F j = F' j) : W t k F = W t k F' := by
  obtain ⟨c, fu, -, -, hw⟩ := (hX.2.2 t ht).2 k hk
  exact Option.some.inj ((hw F).symm.trans ((wrun_cg hF ..).trans (hw F')))
theorem fLn_cg {isl ln wv wv' : Nat → Int32} {lim : Int32} : ∀ (r k : Nat), (∀ j, j < k + r → wv j = wv' j) → fLn isl ln wv lim r k = fLn isl ln wv' lim r k
  | 0, _, _ => rfl
  | r + 1, k, h => by
    unfold fLn
    rw [h k (by omega), fLn_cg r (k + 1) (fun j hj => h j (by omega))]
theorem fOf_cg {h : PH} {n : Nat} {nl : Nat → Nat} {W : Nat → Nat → (Nat → Int32) → Int32} (hX : RX h n nl W) {F F' : Nat → Int32} (hF : ∀ j, j < 5 → F j = F' j) (lim : Int32) (p : Nat → Bool) : fOf h nl W F lim (lastT p n) = fOf h nl W F' lim (lastT p n) := by
  rcases hq : lastT p n with _ | t
  · rfl
  · exact fLn_cg _ _ fun j hj => hX.cg (lastT_lt hq) (by omega) hF
theorem nI_30 (m : Nat) : 30 * nI m = nI (30 * m) := by
  show Int32.ofNat 30 * Int32.ofNat m = _
  rw [← Int32.ofNat_mul]
  rfl
theorem nI_29 : ∀ m, m < 24 → nI (30 * m + 29) / 30 = nI m ∧ nI (30 * m + 29) - nI (30 * m + 29) / 30 * 30 = 29 := by decide +kernel
/-- the least balance of a month's days' ends, as the reference finds it -/
def leM (E : Int32 → Int32) (b : Int32) (i : Nat) : Nat → Int32
  | 0 => b + E (nI i)
  | k + 1 => if leM E b i k ≤ b + E (nI (i + k)) then leM E b i k else b + E (nI (i + k))
def whM (l : Int32) : Int32 := if 240 ≤ l then l / 240 else 0
def ivM (w r : Int32) : Int32 := if 0 < r then w * r / 100 else 0
def itS (E : Int32 → Int32) (R : Nat → Int32 → Int32) (b : Int32) (m : Nat) : Int32 := ivM (whM (leM E b (30 * m) 30)) (if whM (leM E b (30 * m) 30) = 0 then 0 else R m (whM (leM E b (30 * m) 30)))
def bfM (E : Int32 → Int32) (R : Nat → Int32 → Int32) : Nat → Int32
  | 0 => 0
  | m + 1 => bfM E R m + itS E R (bfM E R m) m
def itM (E : Int32 → Int32) (R : Nat → Int32 → Int32) (m : Nat) : Int32 := itS E R (bfM E R m) m
def SI (a : Nat) : Bool := decide (a = 53) || decide (a = 54) || decide (a = 64)
theorem SI_W {a : Nat} (h : SI a = false) : SW a = false := by
  unfold SI SW at *
  simp only [Bool.or_eq_false_iff, decide_eq_false_iff_not] at *
  exact h.1.2
theorem lpA_X12_findInterest {g : PH} {N S : Nat} {Post : Nat → Option Value → PH → Prop} {a m : Nat} {kn b : Int32} {E : Int32 → Int32} (hL : px_L g) (hN : hn g ≤ N ∧ hs g ≤ S) (hm : m < 24) (hE : ∀ d, PM M_X12_entriesTo [.ref 36, .int (nI a), .int d, .int kn] g (some (.int (E d))) g) (kk : PW M_X12_findInterest N S Post 81 [(0, .ref 36), (1, .int (nI a)), (2, .int kn), (3, .int b), (4, .int (nI m)), (5, .int (leM E b (30 * m) 30))] [] g) : ∀ (k i : Nat), i + k = 30 → PW M_X12_findInterest N S Post 34 [(0, .ref 36), (1, .int (nI a)), (2, .int kn), (3, .int b), (4, .int (nI m)), (5, .int (leM E b (30 * m) i)), (6, .int (nI (30 * m + i)))] [] g := by
  intro k
  induction k with
  | zero =>
    intro i hi
    have e : i = 30 := by omega
    rw [e]
    refine px_iload d_X12_findInterest_34 rfl ?_
    refine px_bipush (v := 30) d_X12_findInterest_36 (by decide) ?_
    refine px_iload d_X12_findInterest_38 rfl ?_
    refine px_imul d_X12_findInterest_40 ?_
    refine px_val (y := nI (30 * m)) (nI_30 m) ?_
    refine px_bipush (v := 30) d_X12_findInterest_41 (by decide) ?_
    refine px_iadd d_X12_findInterest_43 ?_
    refine px_val (y := nI (30 * m + 30)) (nI_a30 m) ?_
    refine px_icmp_ge (tgt := 81) d_X12_findInterest_44 (by decide) (fun c44 => ?_) (fun c44 => (c44 (nI_le (by omega) (by omega))).elim)
    refine px_drop (lv' := [(0, .ref 36), (1, .int (nI a)), (2, .int kn), (3, .int b), (4, .int (nI m)), (5, .int (leM E b (30 * m) 30))]) ⟨rfl, rfl, rfl, rfl, rfl, rfl, trivial⟩ ?_
    exact kk
  | succ k ih =>
    intro i hi
    refine px_iload d_X12_findInterest_34 rfl ?_
    refine px_bipush (v := 30) d_X12_findInterest_36 (by decide) ?_
    refine px_iload d_X12_findInterest_38 rfl ?_
    refine px_imul d_X12_findInterest_40 ?_
    refine px_val (y := nI (30 * m)) (nI_30 m) ?_
    refine px_bipush (v := 30) d_X12_findInterest_41 (by decide) ?_
    refine px_iadd d_X12_findInterest_43 ?_
    refine px_val (y := nI (30 * m + 30)) (nI_a30 m) ?_
    refine px_icmp_ge (tgt := 81) d_X12_findInterest_44 (by decide) (fun c44 => absurd c44 (nI_ge (by omega) (by omega))) (fun c44 => ?_)
    refine px_iload_n d_X12_findInterest_47 rfl rfl ?_
    refine px_aload_n d_X12_findInterest_48 rfl rfl ?_
    refine px_iload_n d_X12_findInterest_49 rfl rfl ?_
    refine px_iload d_X12_findInterest_50 rfl ?_
    refine px_iload_n d_X12_findInterest_52 rfl rfl ?_
    refine px_callV (hE _) d_X12_findInterest_53 lk_X12_271 ok_X12_entriesTo ov_X12_entriesTo (so36 hL) (by decide) rfl rfl (Nat.le_of_ble_eq_true rfl) (by decide) hN ?_
    refine px_iadd d_X12_findInterest_56 ?_
    refine px_istore d_X12_findInterest_57 (by decide) ?_
    refine px_iload d_X12_findInterest_59 rfl ?_
    refine px_iload d_X12_findInterest_61 rfl ?_
    refine px_icmp_ge (tgt := 71) d_X12_findInterest_63 (by decide) (fun c63 => ?_) (fun c63 => ?_)
    · refine px_iload d_X12_findInterest_71 rfl ?_
      refine px_val (y := (leM E b (30 * m) (i + 1))) (by first | exact (if_pos c63).symm | exact (if_neg c63).symm) ?_
      refine px_istore d_X12_findInterest_73 (by decide) ?_
      refine px_inc1 d_X12_findInterest_75 rfl (by decide) ?_
      refine px_goto (tgt := 34) d_X12_findInterest_78 (by decide) ?_
      refine px_drop (lv' := [(0, .ref 36), (1, .int (nI a)), (2, .int kn), (3, .int b), (4, .int (nI m)), (5, .int (leM E b (30 * m) (i + 1))), (6, .int (nI (30 * m + (i + 1))))]) ⟨rfl, rfl, rfl, rfl, rfl, rfl, px_si (nI_s1 _), trivial⟩ ?_
      exact ih (i + 1) (by omega)
    · refine px_iload d_X12_findInterest_66 rfl ?_
      refine px_goto (tgt := 73) d_X12_findInterest_68 (by decide) ?_
      refine px_val (y := (leM E b (30 * m) (i + 1))) (by first | exact (if_pos c63).symm | exact (if_neg c63).symm) ?_
      refine px_istore d_X12_findInterest_73 (by decide) ?_
      refine px_inc1 d_X12_findInterest_75 rfl (by decide) ?_
      refine px_goto (tgt := 34) d_X12_findInterest_78 (by decide) ?_
      refine px_drop (lv' := [(0, .ref 36), (1, .int (nI a)), (2, .int kn), (3, .int b), (4, .int (nI m)), (5, .int (leM E b (30 * m) (i + 1))), (6, .int (nI (30 * m + (i + 1))))]) ⟨rfl, rfl, rfl, rfl, rfl, rfl, px_si (nI_s1 _), trivial⟩ ?_
      exact ih (i + 1) (by omega)
theorem tD_X12_findInterest {h g : PH} {N S : Nat} {Post : Nat → Option Value → PH → Prop} {a m : Nat} {kn b w r : Int32} (hL : px_L h) (hg : px_same SI h g) (hm : m < 24) (kk : ∀ g2, px_same SI h g2 → (∀ j, j ≠ m → hI g2 64 j = hI g 64 j) → hI g2 64 m = ivM w r → PW M_X12_findInterest N S Post 5 [(0, .ref 36), (1, .int (nI a)), (2, .int kn), (3, .int (b + ivM w r)), (4, .int (nI (m + 1)))] [] g2) : PW M_X12_findInterest N S Post 183 [(0, .ref 36), (1, .int (nI a)), (2, .int kn), (3, .int b), (4, .int (nI m)), (6, .int w), (7, .int r)] [] g := by
  have hLg := hL.same hg
  refine px_aload_n d_X12_findInterest_183 rfl rfl ?_
  refine px_getR d_X12_findInterest_184 fl_X12_111 (by decide) (so36 hLg) (sr36_38 hLg) ?_
  refine px_iload d_X12_findInterest_187 rfl ?_
  refine px_iload d_X12_findInterest_189 rfl ?_
  refine px_if_gt (tgt := 198) d_X12_findInterest_191 (by decide) (fun c191 => ?_) (fun c191 => ?_)
  · refine px_iload d_X12_findInterest_198 rfl ?_
    refine px_iload d_X12_findInterest_200 rfl ?_
    refine px_imul d_X12_findInterest_202 ?_
    refine px_bipush (v := 100) d_X12_findInterest_203 (by decide) ?_
    refine px_idiv d_X12_findInterest_205 (by decide) ?_
    refine px_val (y := ivM w r) (by first | exact (if_pos c191).symm | exact (if_neg c191).symm) ?_
    refine px_iast d_X12_findInterest_206 (sa64 hLg) rfl hm ?_
    refine px_iload_n d_X12_findInterest_207 rfl rfl ?_
    refine px_aload_n d_X12_findInterest_208 rfl rfl ?_
    refine px_getR d_X12_findInterest_209 fl_X12_111 (by decide) (so36 hLg) (sr36_38 hLg) ?_
    refine px_iload d_X12_findInterest_212 rfl ?_
    refine px_iald d_X12_findInterest_214 (sa64 hLg) rfl hm ?_
    refine px_val (y := ivM w r) (gI_s _ _ _ _) ?_
    refine px_iadd d_X12_findInterest_215 ?_
    refine px_istore_n d_X12_findInterest_216 rfl (by decide) ?_
    refine px_inc1 d_X12_findInterest_217 rfl (by decide) ?_
    refine px_goto (tgt := 5) d_X12_findInterest_220 (by decide) ?_
    refine px_drop (lv' := [(0, .ref 36), (1, .int (nI a)), (2, .int kn), (3, .int (b + ivM w r)), (4, .int (nI (m + 1)))]) ⟨rfl, rfl, rfl, rfl, px_si (nI_s1 _), trivial⟩ ?_
    exact kk _ (hg.I (by decide) _ _) (fun j hj => up2_sn hj) (gI_s _ _ _ _)
  · refine px_iconst (v := 0) d_X12_findInterest_194 (by decide) ?_
    refine px_goto (tgt := 206) d_X12_findInterest_195 (by decide) ?_
    refine px_val (y := ivM w r) (by first | exact (if_pos c191).symm | exact (if_neg c191).symm) ?_
    refine px_iast d_X12_findInterest_206 (sa64 hLg) rfl hm ?_
    refine px_iload_n d_X12_findInterest_207 rfl rfl ?_
    refine px_aload_n d_X12_findInterest_208 rfl rfl ?_
    refine px_getR d_X12_findInterest_209 fl_X12_111 (by decide) (so36 hLg) (sr36_38 hLg) ?_
    refine px_iload d_X12_findInterest_212 rfl ?_
    refine px_iald d_X12_findInterest_214 (sa64 hLg) rfl hm ?_
    refine px_val (y := ivM w r) (gI_s _ _ _ _) ?_
    refine px_iadd d_X12_findInterest_215 ?_
    refine px_istore_n d_X12_findInterest_216 rfl (by decide) ?_
    refine px_inc1 d_X12_findInterest_217 rfl (by decide) ?_
    refine px_goto (tgt := 5) d_X12_findInterest_220 (by decide) ?_
    refine px_drop (lv' := [(0, .ref 36), (1, .int (nI a)), (2, .int kn), (3, .int (b + ivM w r)), (4, .int (nI (m + 1)))]) ⟨rfl, rfl, rfl, rfl, px_si (nI_s1 _), trivial⟩ ?_
    exact kk _ (hg.I (by decide) _ _) (fun j hj => up2_sn hj) (gI_s _ _ _ _)
/-- what the reference knows of a month -/
def knM (g : PH) (kd w x m y : Int32) : PH := pI (pI (pI (pI (pI g 53 0 kd) 53 1 w) 53 2 x) 53 3 m) 53 4 y
theorem knM_s {h g : PH} (hg : px_same SI h g) (kd w x m y : Int32) : px_same SI h (knM g kd w x m y) := ((((hg.I (by decide) _ _).I (by decide) _ _).I (by decide) _ _).I (by decide) _ _).I (by decide) _ _
theorem knM_64 (g : PH) (kd w x m y : Int32) : hI (knM g kd w x m y) 64 = hI g 64 := rfl
theorem knM_F (g : PH) (kd w x m y : Int32) : ∀ j, j < 5 → hI (knM g kd w x m y) 53 j = fct kd w x m y j := by
  intro j hj
  obtain rfl | rfl | rfl | rfl | rfl : j = 0 ∨ j = 1 ∨ j = 2 ∨ j = 3 ∨ j = 4 := by omega
  all_goals rfl
theorem fct_m {kd op w : Int32} {m : Nat} (hm : m < 24) : fct kd w (nI (30 * m + 29) - op) (nI m) 29 = fctD kd op w (nI (30 * m + 29)) := by
  unfold fctD
  rw [(nI_29 m hm).2, (nI_29 m hm).1]
/-- the number of the first line that holds, by the reference: of a day, known on a day -/
def rfM (h : PH) (nl : Nat → Nat) (W : Nat → Nat → (Nat → Int32) → Int32) (n : Nat) (F : Nat → Int32) (lim d kn : Int32) : Int32 := fOf h nl W F lim (lastT (frcP (hI h 42) (hI h 43) d kn) n)
theorem k_X12_firstOf {h g : PH} (hL : px_L h) {n : Nat} {nl : Nat → Nat} {W : Nat → Nat → (Nat → Int32) → Int32} (hX : RX h n nl W) (hg : px_same SI h g) {F : Nat → Int32} (hF : ∀ j, j < 5 → hI g 53 j = F j) {lim d kn : Int32} : PX M_X12_firstOf [.ref 36, .int lim, .int d, .int kn] g 0 0 (sQ SW g (rfM h nl W n F lim d kn)) := by
  have hXg := hX.same hg (by decide) (by decide) (by decide) (by decide) (by decide)
  have c := x_X12_firstOf (h := g) (hL.same hg) hXg (lim := lim) (d := d) (kd := kn) rfl
  rw [fOf_cg hXg hF, hg.2 42 (by decide), hg.2 43 (by decide), fOf_same nl W F lim hg (by decide) (by decide)] at c
  exact c
theorem tC_X12_findInterest {h g : PH} {Post : Nat → Option Value → PH → Prop} {a m : Nat} {kn b w : Int32} (hL : px_L h) {n : Nat} {nl : Nat → Nat} {W : Nat → Nat → (Nat → Int32) → Int32} (hX : RX h n nl W) {kd op : Int32} (hkd : hI h 55 a = kd) (hop : hI h 57 a = op) (ha : a < 20) (hg : px_same SI h g) (hm : m < 24) (kk : ∀ g2, px_same SI h g2 → (∀ j, j ≠ m → hI g2 64 j = hI g 64 j) → hI g2 64 m = ivM w (if w = 0 then 0 else rfM h nl W n (fctD kd op w (nI (30 * m + 29))) 0 (nI (30 * m + 29)) kn) → PW M_X12_findInterest (hn h) (hs h) Post 5 [(0, .ref 36), (1, .int (nI a)), (2, .int kn), (3, .int (b + ivM w (if w = 0 then 0 else rfM h nl W n (fctD kd op w (nI (30 * m + 29))) 0 (nI (30 * m + 29)) kn))), (4, .int (nI (m + 1)))] [] g2) : PW M_X12_findInterest (hn h) (hs h) Post 101 [(0, .ref 36), (1, .int (nI a)), (2, .int kn), (3, .int b), (4, .int (nI m)), (6, .int w)] [] g := by
  have hLg := hL.same hg
  have eN : hn g = hn h := hg.1.2.2.2.1
  have eS : hs g = hs h := hg.1.2.2.2.2
  have hs9 : px_same SI h (knM g kd w (nI (30 * m + 29) - op) (nI m) 29) := knM_s hg _ _ _ _ _
  refine px_aload_n d_X12_findInterest_101 rfl rfl ?_
  refine px_getR d_X12_findInterest_102 fl_X12_78 (by decide) (so36 hLg) (sr36_24 hLg) ?_
  refine px_iconst (v := 0) d_X12_findInterest_105 (by decide) ?_
  refine px_aload_n d_X12_findInterest_106 rfl rfl ?_
  refine px_getR d_X12_findInterest_107 fl_X12_84 (by decide) (so36 hLg) (sr36_28 hLg) ?_
  refine px_iload_n d_X12_findInterest_110 rfl rfl ?_
  refine px_iald d_X12_findInterest_111 (sa55 hLg) rfl ha ?_
  refine px_val (y := kd) ((congrFun (hg.2 55 (by decide)) _).trans hkd) ?_
  refine px_iast (j := 0) d_X12_findInterest_112 (sa53 hLg) rfl (by decide) ?_
  refine px_aload_n d_X12_findInterest_113 rfl rfl ?_
  refine px_getR d_X12_findInterest_114 fl_X12_78 (by decide) (so36 hLg) (sr36_24 hLg) ?_
  refine px_iconst (v := 1) d_X12_findInterest_117 (by decide) ?_
  refine px_iload d_X12_findInterest_118 rfl ?_
  refine px_iast (j := 1) d_X12_findInterest_120 (sa53 hLg) rfl (by decide) ?_
  refine px_aload_n d_X12_findInterest_121 rfl rfl ?_
  refine px_getR d_X12_findInterest_122 fl_X12_78 (by decide) (so36 hLg) (sr36_24 hLg) ?_
  refine px_iconst (v := 2) d_X12_findInterest_125 (by decide) ?_
  refine px_bipush (v := 30) d_X12_findInterest_126 (by decide) ?_
  refine px_iload d_X12_findInterest_128 rfl ?_
  refine px_imul d_X12_findInterest_130 ?_
  refine px_val (y := nI (30 * m)) (nI_30 m) ?_
  refine px_bipush (v := 29) d_X12_findInterest_131 (by decide) ?_
  refine px_iadd d_X12_findInterest_133 ?_
  refine px_val (y := nI (30 * m + 29)) (nI_add _ 29) ?_
  refine px_aload_n d_X12_findInterest_134 rfl rfl ?_
  refine px_getR d_X12_findInterest_135 fl_X12_90 (by decide) (so36 hLg) (sr36_30 hLg) ?_
  refine px_iload_n d_X12_findInterest_138 rfl rfl ?_
  refine px_iald d_X12_findInterest_139 (sa57 hLg) rfl ha ?_
  refine px_val (y := op) ((congrFun (hg.2 57 (by decide)) _).trans hop) ?_
  refine px_isub d_X12_findInterest_140 ?_
  refine px_iast (j := 2) d_X12_findInterest_141 (sa53 hLg) rfl (by decide) ?_
  refine px_aload_n d_X12_findInterest_142 rfl rfl ?_
  refine px_getR d_X12_findInterest_143 fl_X12_78 (by decide) (so36 hLg) (sr36_24 hLg) ?_
  refine px_iconst (v := 3) d_X12_findInterest_146 (by decide) ?_
  refine px_iload d_X12_findInterest_147 rfl ?_
  refine px_iast (j := 3) d_X12_findInterest_149 (sa53 hLg) rfl (by decide) ?_
  refine px_aload_n d_X12_findInterest_150 rfl rfl ?_
  refine px_getR d_X12_findInterest_151 fl_X12_78 (by decide) (so36 hLg) (sr36_24 hLg) ?_
  refine px_iconst (v := 4) d_X12_findInterest_154 (by decide) ?_
  refine px_bipush (v := 29) d_X12_findInterest_155 (by decide) ?_
  refine px_iast (j := 4) d_X12_findInterest_157 (sa53 hLg) rfl (by decide) ?_
  refine px_heap (h2 := (knM g kd w (nI (30 * m + 29) - op) (nI m) 29)) rfl ?_
  refine px_iload d_X12_findInterest_158 rfl ?_
  refine px_if_ne (tgt := 167) d_X12_findInterest_160 (by decide) (fun c160 => ?_) (fun c160 => ?_)
  · refine px_aload_n d_X12_findInterest_167 rfl rfl ?_
    refine px_iconst (v := 0) d_X12_findInterest_168 (by decide) ?_
    refine px_bipush (v := 30) d_X12_findInterest_169 (by decide) ?_
    refine px_iload d_X12_findInterest_171 rfl ?_
    refine px_imul d_X12_findInterest_173 ?_
    refine px_val (y := nI (30 * m)) (nI_30 m) ?_
    refine px_bipush (v := 29) d_X12_findInterest_174 (by decide) ?_
    refine px_iadd d_X12_findInterest_176 ?_
    refine px_val (y := nI (30 * m + 29)) (nI_add _ 29) ?_
    refine px_iload_n d_X12_findInterest_177 rfl rfl ?_
    refine px_callVX (k_X12_firstOf hL hX hs9 (F := fctD kd op w (nI (30 * m + 29))) (fun j hj => (knM_F g _ _ _ _ _ j hj).trans (congrFun (fct_m hm) j))) d_X12_findInterest_178 lk_X12_275 ok_X12_firstOf ov_X12_firstOf (so36 hLg) (by decide) rfl rfl (Nat.le_of_ble_eq_true rfl) (by decide) ⟨Nat.le_of_eq eN, Nat.le_of_eq eS⟩ (fun r9 h9 q9 n9 s9 => ?_)
    obtain ⟨rfl, hq9⟩ := q9
    have hs8 := hs9.tr (hq9.mono (fun a ha => SI_W ha))
    refine px_val (y := (if w = 0 then 0 else rfM h nl W n (fctD kd op w (nI (30 * m + 29))) 0 (nI (30 * m + 29)) kn)) (by first | exact (if_pos c160).symm | exact (if_neg c160).symm) ?_
    refine px_istore d_X12_findInterest_181 (by decide) ?_
    first
      | exact tD_X12_findInterest hL hs8 hm (fun g2 q1 q2 q3 => kk g2 q1 (fun j hj => (q2 j hj).trans ((congrFun (hq9.2 64 (by decide)) j).trans (congrFun (knM_64 ..) j))) q3)
      | exact tD_X12_findInterest hL hs9 hm (fun g2 q1 q2 q3 => kk g2 q1 (fun j hj => (q2 j hj).trans (congrFun (knM_64 ..) j)) q3)
  · refine px_iconst (v := 0) d_X12_findInterest_163 (by decide) ?_
    refine px_goto (tgt := 181) d_X12_findInterest_164 (by decide) ?_
    refine px_val (y := (if w = 0 then 0 else rfM h nl W n (fctD kd op w (nI (30 * m + 29))) 0 (nI (30 * m + 29)) kn)) (by first | exact (if_pos c160).symm | exact (if_neg c160).symm) ?_
    refine px_istore d_X12_findInterest_181 (by decide) ?_
    first
      | exact tD_X12_findInterest hL hs8 hm (fun g2 q1 q2 q3 => kk g2 q1 (fun j hj => (q2 j hj).trans ((congrFun (hq9.2 64 (by decide)) j).trans (congrFun (knM_64 ..) j))) q3)
      | exact tD_X12_findInterest hL hs9 hm (fun g2 q1 q2 q3 => kk g2 q1 (fun j hj => (q2 j hj).trans (congrFun (knM_64 ..) j)) q3)
theorem tB_X12_findInterest {h g : PH} {Post : Nat → Option Value → PH → Prop} {a m : Nat} {kn b l : Int32} (hL : px_L h) {n : Nat} {nl : Nat → Nat} {W : Nat → Nat → (Nat → Int32) → Int32} (hX : RX h n nl W) {kd op : Int32} (hkd : hI h 55 a = kd) (hop : hI h 57 a = op) (ha : a < 20) (hg : px_same SI h g) (hm : m < 24) (kk : ∀ g2, px_same SI h g2 → (∀ j, j ≠ m → hI g2 64 j = hI g 64 j) → hI g2 64 m = ivM (whM l) (if (whM l) = 0 then 0 else rfM h nl W n (fctD kd op (whM l) (nI (30 * m + 29))) 0 (nI (30 * m + 29)) kn) → PW M_X12_findInterest (hn h) (hs h) Post 5 [(0, .ref 36), (1, .int (nI a)), (2, .int kn), (3, .int (b + ivM (whM l) (if (whM l) = 0 then 0 else rfM h nl W n (fctD kd op (whM l) (nI (30 * m + 29))) 0 (nI (30 * m + 29)) kn))), (4, .int (nI (m + 1)))] [] g2) : PW M_X12_findInterest (hn h) (hs h) Post 81 [(0, .ref 36), (1, .int (nI a)), (2, .int kn), (3, .int b), (4, .int (nI m)), (5, .int l)] [] g := by
  refine px_iload d_X12_findInterest_81 rfl ?_
  refine px_sipush (v := 240) d_X12_findInterest_83 (by decide) ?_
  refine px_icmp_ge (tgt := 93) d_X12_findInterest_86 (by decide) (fun c86 => ?_) (fun c86 => ?_)
  · refine px_iload d_X12_findInterest_93 rfl ?_
    refine px_sipush (v := 240) d_X12_findInterest_95 (by decide) ?_
    refine px_idiv d_X12_findInterest_98 (by decide) ?_
    refine px_val (y := whM l) (by first | exact (if_pos c86).symm | exact (if_neg c86).symm) ?_
    refine px_istore d_X12_findInterest_99 (by decide) ?_
    refine px_drop (lv' := [(0, .ref 36), (1, .int (nI a)), (2, .int kn), (3, .int b), (4, .int (nI m)), (6, .int (whM l))]) ⟨rfl, rfl, rfl, rfl, rfl, rfl, trivial⟩ ?_
    exact tC_X12_findInterest hL hX hkd hop ha hg hm kk
  · refine px_iconst (v := 0) d_X12_findInterest_89 (by decide) ?_
    refine px_goto (tgt := 99) d_X12_findInterest_90 (by decide) ?_
    refine px_val (y := whM l) (by first | exact (if_pos c86).symm | exact (if_neg c86).symm) ?_
    refine px_istore d_X12_findInterest_99 (by decide) ?_
    refine px_drop (lv' := [(0, .ref 36), (1, .int (nI a)), (2, .int kn), (3, .int b), (4, .int (nI m)), (6, .int (whM l))]) ⟨rfl, rfl, rfl, rfl, rfl, rfl, trivial⟩ ?_
    exact tC_X12_findInterest hL hX hkd hop ha hg hm kk
def fiQ (h : PH) (E : Int32 → Int32) (R : Nat → Int32 → Int32) : Option Value → PH → Prop := fun r h' => r = none ∧ px_same SI h h' ∧ ∀ m, m < 24 → hI h' 64 m = itM E R m
theorem lp_X12_findInterest {h : PH} {a : Nat} {kn : Int32} (hL : px_L h) {n : Nat} {nl : Nat → Nat} {W : Nat → Nat → (Nat → Int32) → Int32} (hX : RX h n nl W) {kd op : Int32} (hkd : hI h 55 a = kd) (hop : hI h 57 a = op) (ha : a < 20) {ne : Nat} (hs1 : hI h 36 32 = nI ne) (hn4 : ne ≤ 400) {E : Int32 → Int32} (hE : ∀ d, eTo (hI h 59) (hI h 60) (hI h 61) (hI h 62) (nI a) d kn ne = E d) {R : Nat → Int32 → Int32} (hR : ∀ m w, m < 24 → rfM h nl W n (fctD kd op w (nI (30 * m + 29))) 0 (nI (30 * m + 29)) kn = R m w) : ∀ (k m : Nat) (g : PH), m + k = 24 → px_same SI h g → (∀ j, j < m → hI g 64 j = itM E R j) → PW M_X12_findInterest (hn h) (hs h) (PXpost h 0 0 (fiQ h E R)) 5 [(0, .ref 36), (1, .int (nI a)), (2, .int kn), (3, .int (bfM E R (m))), (4, .int (nI (m)))] [] g := by
  intro k
  induction k with
  | zero =>
    intro m g hm hg g64
    have e : m = 24 := by omega
    subst e
    refine px_iload d_X12_findInterest_5 rfl ?_
    refine px_bipush (v := 24) d_X12_findInterest_7 (by decide) ?_
    refine px_icmp_ge (tgt := 223) d_X12_findInterest_9 (by decide) (fun c9 => ?_) (fun c9 => (c9 (by decide)).elim)
    exact px_return d_X12_findInterest_223 rfl ⟨rfl, ⟨rfl, hg, g64⟩, hg.1.2.2.2.1, hg.1.2.2.2.2⟩
  | succ k ih =>
    intro m g hm hg g64
    have hLg := hL.same hg
    have eN : hn g = hn h := hg.1.2.2.2.1
    have eS : hs g = hs h := hg.1.2.2.2.2
    have cE : ∀ d, PM M_X12_entriesTo [.ref 36, .int (nI a), .int d, .int kn] g (some (.int (E d))) g := fun d => by
      have c := c_X12_entriesTo (h := g) (n := ne) (a := nI a) (d := d) (kn := kn) hLg ((congrFun (hg.2 36 (by decide)) _).trans hs1) hn4
      rw [hg.2 59 (by decide), hg.2 60 (by decide), hg.2 61 (by decide), hg.2 62 (by decide), hE d] at c
      exact c
    refine px_iload d_X12_findInterest_5 rfl ?_
    refine px_bipush (v := 24) d_X12_findInterest_7 (by decide) ?_
    refine px_icmp_ge (tgt := 223) d_X12_findInterest_9 (by decide) (fun c9 => absurd c9 (nI_ge (b := 24) (by omega) (by decide))) (fun c9 => ?_)
    refine px_iload_n d_X12_findInterest_12 rfl rfl ?_
    refine px_aload_n d_X12_findInterest_13 rfl rfl ?_
    refine px_iload_n d_X12_findInterest_14 rfl rfl ?_
    refine px_bipush (v := 30) d_X12_findInterest_15 (by decide) ?_
    refine px_iload d_X12_findInterest_17 rfl ?_
    refine px_imul d_X12_findInterest_19 ?_
    refine px_val (y := nI (30 * m)) (nI_30 m) ?_
    refine px_iload_n d_X12_findInterest_20 rfl rfl ?_
    refine px_callV (cE _) d_X12_findInterest_21 lk_X12_271 ok_X12_entriesTo ov_X12_entriesTo (so36 hLg) (by decide) rfl rfl (Nat.le_of_ble_eq_true rfl) (by decide) ⟨Nat.le_of_eq eN, Nat.le_of_eq eS⟩ ?_
    refine px_iadd d_X12_findInterest_24 ?_
    refine px_istore d_X12_findInterest_25 (by decide) ?_
    refine px_bipush (v := 30) d_X12_findInterest_27 (by decide) ?_
    refine px_iload d_X12_findInterest_29 rfl ?_
    refine px_imul d_X12_findInterest_31 ?_
    refine px_val (y := nI (30 * m)) (nI_30 m) ?_
    refine px_istore d_X12_findInterest_32 (by decide) ?_
    refine px_drop (lv' := [(0, .ref 36), (1, .int (nI a)), (2, .int kn), (3, .int (bfM E R m)), (4, .int (nI m)), (5, .int (leM E (bfM E R m) (30 * m) 0)), (6, .int (nI (30 * m + 0)))]) ⟨rfl, rfl, rfl, rfl, rfl, rfl, rfl, trivial⟩ ?_
    refine lpA_X12_findInterest hLg ⟨Nat.le_of_eq eN, Nat.le_of_eq eS⟩ (by omega) cE (tB_X12_findInterest hL hX hkd hop ha hg (by omega) (fun g2 q1 q2 q3 => ?_)) 30 0 (by omega)
    rw [hR m _ (by omega)] at q3 ⊢
    exact ih (m + 1) g2 (by omega) q1 (fun j hj => by
      rcases Nat.lt_or_eq_of_le (Nat.le_of_lt_succ hj) with w | w
      · rw [q2 j (by omega)]; exact g64 j w
      · rw [w]; exact q3)
theorem x_X12_findInterest {h : PH} {a : Nat} {kn : Int32} (hL : px_L h) {n : Nat} {nl : Nat → Nat} {W : Nat → Nat → (Nat → Int32) → Int32} (hX : RX h n nl W) {kd op : Int32} (hkd : hI h 55 a = kd) (hop : hI h 57 a = op) (ha : a < 20) {ne : Nat} (hs1 : hI h 36 32 = nI ne) (hn4 : ne ≤ 400) {E : Int32 → Int32} (hE : ∀ d, eTo (hI h 59) (hI h 60) (hI h 61) (hI h 62) (nI a) d kn ne = E d) {R : Nat → Int32 → Int32} (hR : ∀ m w, m < 24 → rfM h nl W n (fctD kd op w (nI (30 * m + 29))) 0 (nI (30 * m + 29)) kn = R m w) : PX M_X12_findInterest [.ref 36, .int (nI a), .int kn] h 0 0 (fiQ h E R) := by
  refine PX.of (by decide +kernel) (by decide +kernel) (Nat.le_of_ble_eq_true rfl) ?_
  refine px_iconst (v := 0) d_X12_findInterest_0 (by decide) ?_
  refine px_istore_n d_X12_findInterest_1 rfl (by decide) ?_
  refine px_iconst (v := 0) d_X12_findInterest_2 (by decide) ?_
  refine px_istore d_X12_findInterest_3 (by decide) ?_
  refine px_drop (lv' := [(0, .ref 36), (1, .int (nI a)), (2, .int kn), (3, .int (bfM E R 0)), (4, .int (nI 0))]) ⟨rfl, rfl, rfl, rfl, rfl, trivial⟩ ?_
  exact lp_X12_findInterest hL hX hkd hop ha hs1 hn4 hE hR 24 0 h (by omega) px_same.rf (fun j hj => absurd hj (Nat.not_lt_zero j))
def blM (E : Int32 → Int32) (R : Nat → Int32 → Int32) (x d : Int32) : Nat → Int32
  | 0 => x
  | m + 1 => blM E R x d m + (if d ≤ nI (30 * m + 29) then 0 else itM E R m)
theorem blM_e {E : Int32 → Int32} {R : Nat → Int32 → Int32} {x d : Int32} {m : Nat} : blM E R x d (m + 1) = blM E R x d m + (if d ≤ nI (30 * m + 29) then 0 else itM E R m) := rfl
def balM (E : Int32 → Int32) (R : Nat → Int32 → Int32) (d : Int32) : Int32 := blM E R (E d) d 24
theorem lp_X12_balanceAt {h g : PH} {a : Nat} {kn d x : Int32} {E : Int32 → Int32} {R : Nat → Int32 → Int32} (hL : px_L h) (hg : px_same SI h g) (g64 : ∀ m, m < 24 → hI g 64 m = itM E R m) : ∀ (k m : Nat), m + k = 24 → PW M_X12_balanceAt (hn h) (hs h) (PXpost h 0 0 (sQ SI h (blM E R x d 24))) 18 [(0, .ref 36), (1, .int (nI a)), (2, .int d), (3, .int kn), (4, .int (blM E R x d (m))), (5, .int (nI (m)))] [] g := by
  have hLg := hL.same hg
  intro k
  induction k with
  | zero =>
    intro m hm
    have e : m = 24 := by omega
    subst e
    refine px_iload d_X12_balanceAt_18 rfl ?_
    refine px_bipush (v := 24) d_X12_balanceAt_20 (by decide) ?_
    refine px_icmp_ge (tgt := 59) d_X12_balanceAt_22 (by decide) (fun c22 => ?_) (fun c22 => (c22 (by decide)).elim)
    refine px_iload d_X12_balanceAt_59 rfl ?_
    exact px_ireturn d_X12_balanceAt_61 rfl rfl ⟨rfl, ⟨rfl, hg⟩, hg.1.2.2.2.1, hg.1.2.2.2.2⟩
  | succ k ih =>
    intro m hm
    refine px_iload d_X12_balanceAt_18 rfl ?_
    refine px_bipush (v := 24) d_X12_balanceAt_20 (by decide) ?_
    refine px_icmp_ge (tgt := 59) d_X12_balanceAt_22 (by decide) (fun c22 => absurd c22 (nI_ge (b := 24) (by omega) (by decide))) (fun c22 => ?_)
    refine px_iload d_X12_balanceAt_25 rfl ?_
    refine px_bipush (v := 30) d_X12_balanceAt_27 (by decide) ?_
    refine px_iload d_X12_balanceAt_29 rfl ?_
    refine px_imul d_X12_balanceAt_31 ?_
    refine px_val (y := nI (30 * m)) (nI_30 m) ?_
    refine px_bipush (v := 29) d_X12_balanceAt_32 (by decide) ?_
    refine px_iadd d_X12_balanceAt_34 ?_
    refine px_val (y := nI (30 * m + 29)) (nI_add _ 29) ?_
    refine px_iload_n d_X12_balanceAt_35 rfl rfl ?_
    refine px_icmp_ge (tgt := 49) d_X12_balanceAt_36 (by decide) (fun c36 => ?_) (fun c36 => ?_)
    · refine px_iconst (v := 0) d_X12_balanceAt_49 (by decide) ?_
      refine px_iadd d_X12_balanceAt_50 ?_
      refine px_val (y := blM E R x d (m + 1)) (by rw [blM_e]; first | rw [if_pos c36] | rw [if_neg c36]) ?_
      refine px_istore d_X12_balanceAt_51 (by decide) ?_
      refine px_inc1 d_X12_balanceAt_53 rfl (by decide) ?_
      refine px_goto (tgt := 18) d_X12_balanceAt_56 (by decide) ?_
      refine px_drop (lv' := [(0, .ref 36), (1, .int (nI a)), (2, .int d), (3, .int kn), (4, .int (blM E R x d (m + 1))), (5, .int (nI (m + 1)))]) ⟨rfl, rfl, rfl, rfl, rfl, px_si (nI_s1 _), trivial⟩ ?_
      exact ih (m + 1) (by omega)
    · refine px_aload_n d_X12_balanceAt_39 rfl rfl ?_
      refine px_getR d_X12_balanceAt_40 fl_X12_111 (by decide) (so36 hLg) (sr36_38 hLg) ?_
      refine px_iload d_X12_balanceAt_43 rfl ?_
      refine px_iald d_X12_balanceAt_45 (sa64 hLg) rfl (by omega) ?_
      refine px_val (y := itM E R m) (g64 m (by omega)) ?_
      refine px_goto (tgt := 50) d_X12_balanceAt_46 (by decide) ?_
      refine px_iadd d_X12_balanceAt_50 ?_
      refine px_val (y := blM E R x d (m + 1)) (by rw [blM_e]; first | rw [if_pos c36] | rw [if_neg c36]) ?_
      refine px_istore d_X12_balanceAt_51 (by decide) ?_
      refine px_inc1 d_X12_balanceAt_53 rfl (by decide) ?_
      refine px_goto (tgt := 18) d_X12_balanceAt_56 (by decide) ?_
      refine px_drop (lv' := [(0, .ref 36), (1, .int (nI a)), (2, .int d), (3, .int kn), (4, .int (blM E R x d (m + 1))), (5, .int (nI (m + 1)))]) ⟨rfl, rfl, rfl, rfl, rfl, px_si (nI_s1 _), trivial⟩ ?_
      exact ih (m + 1) (by omega)
theorem x_X12_balanceAt {h : PH} {a : Nat} {kn d : Int32} (hL : px_L h) {n : Nat} {nl : Nat → Nat} {W : Nat → Nat → (Nat → Int32) → Int32} (hX : RX h n nl W) {kd op : Int32} (hkd : hI h 55 a = kd) (hop : hI h 57 a = op) (ha : a < 20) {ne : Nat} (hs1 : hI h 36 32 = nI ne) (hn4 : ne ≤ 400) {E : Int32 → Int32} (hE : ∀ d, eTo (hI h 59) (hI h 60) (hI h 61) (hI h 62) (nI a) d kn ne = E d) {R : Nat → Int32 → Int32} (hR : ∀ m w, m < 24 → rfM h nl W n (fctD kd op w (nI (30 * m + 29))) 0 (nI (30 * m + 29)) kn = R m w) : PX M_X12_balanceAt [.ref 36, .int (nI a), .int d, .int kn] h 0 0 (sQ SI h (balM E R d)) := by
  refine PX.of (by decide +kernel) (by decide +kernel) (Nat.le_of_ble_eq_true rfl) ?_
  refine px_aload_n d_X12_balanceAt_0 rfl rfl ?_
  refine px_iload_n d_X12_balanceAt_1 rfl rfl ?_
  refine px_iload_n d_X12_balanceAt_2 rfl rfl ?_
  refine px_callVX (x_X12_findInterest hL hX hkd hop ha hs1 hn4 hE hR) d_X12_balanceAt_3 lk_X12_279 ok_X12_findInterest ov_X12_findInterest (so36 hL) (by decide) rfl rfl (Nat.le_of_ble_eq_true rfl) (by decide) ⟨Nat.le_refl _, Nat.le_refl _⟩ (fun r9 h9 q9 n9 s9 => ?_)
  obtain ⟨rfl, hg, g64⟩ := q9
  have hLg := hL.same hg
  have cE := c_X12_entriesTo (h := h9) (n := ne) (a := nI a) (d := d) (kn := kn) hLg ((congrFun (hg.2 36 (by decide)) _).trans hs1) hn4
  rw [hg.2 59 (by decide), hg.2 60 (by decide), hg.2 61 (by decide), hg.2 62 (by decide), hE d] at cE
  refine px_aload_n d_X12_balanceAt_6 rfl rfl ?_
  refine px_iload_n d_X12_balanceAt_7 rfl rfl ?_
  refine px_iload_n d_X12_balanceAt_8 rfl rfl ?_
  refine px_iload_n d_X12_balanceAt_9 rfl rfl ?_
  refine px_callV (cE) d_X12_balanceAt_10 lk_X12_271 ok_X12_entriesTo ov_X12_entriesTo (so36 hLg) (by decide) rfl rfl (Nat.le_of_ble_eq_true rfl) (by decide) ⟨Nat.le_of_eq n9, Nat.le_of_eq s9⟩ ?_
  refine px_istore d_X12_balanceAt_13 (by decide) ?_
  refine px_iconst (v := 0) d_X12_balanceAt_15 (by decide) ?_
  refine px_istore d_X12_balanceAt_16 (by decide) ?_
  refine px_drop (lv' := [(0, .ref 36), (1, .int (nI a)), (2, .int d), (3, .int kn), (4, .int (blM E R (E d) d 0)), (5, .int (nI 0))]) ⟨rfl, rfl, rfl, rfl, rfl, rfl, trivial⟩ ?_
  exact lp_X12_balanceAt hL hg g64 24 0 (by omega)
