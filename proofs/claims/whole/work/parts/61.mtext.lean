/-- a row whose k places from 'to' on were copied from those from 'fr' on -/
def cpR (g : Nat → Int32) (fr to k : Nat) : Nat → Int32 := fun j => if to ≤ j ∧ j < to + k then g (fr + (j - to)) else g j
theorem cpR_0 (g : Nat → Int32) (fr to : Nat) : cpR g fr to 0 = g := funext fun j => if_neg (by omega)
theorem cpR_s {g : Nat → Int32} {fr to k : Nat} : (fun j => if j = to + k then g (fr + k) else cpR g fr to k j) = cpR g fr to (k + 1) := by
  funext j
  unfold cpR
  by_cases h1 : j = to + k
  · rw [if_pos h1, if_pos (by omega), show fr + (j - to) = fr + k by omega]
  · rw [if_neg h1]
    by_cases h2 : to ≤ j ∧ j < to + k
    · rw [if_pos h2, if_pos (by omega)]
    · rw [if_neg h2, if_neg (by omega)]
theorem cpR_r {g : Nat → Int32} {fr to k i : Nat} (h : to + k ≤ fr + i) : cpR g fr to k (fr + i) = g (fr + i) := if_neg (by omega)
def kp1 (h : PH) (t i : Nat) : PH := rI (rI (rI h 45 (cpR (hI h 45) 128 (16 * t) i)) 46 (cpR (hI h 46) 128 (16 * t) i)) 47 (cpR (hI h 47) 128 (16 * t) i)
def kp2 (h : PH) (t i : Nat) : PH := rI (rI h 48 (cpR (hI h 48) 5280 (660 * t) i)) 49 (cpR (hI h 49) 5280 (660 * t) i)
theorem kp1_0 (h : PH) (t : Nat) : kp1 h t 0 = h := by
  unfold kp1
  rw [cpR_0, cpR_0, cpR_0, rI_self, rI_self, rI_self]
theorem kp2_0 (h : PH) (t : Nat) : kp2 h t 0 = h := by
  unfold kp2
  rw [cpR_0, cpR_0, rI_self, rI_self]
theorem kp1_s {h : PH} {t i : Nat} {u v w : Int32} (hu : u = hI h 45 (128 + i)) (hv : v = hI h 46 (128 + i)) (hw : w = hI h 47 (128 + i)) : pI (pI (pI (kp1 h t i) 45 (16 * t + i) u) 46 (16 * t + i) v) 47 (16 * t + i) w = kp1 h t (i + 1) := by
  refine PH.ext (fun x j => ?_) rfl
  unfold kp1
  rw [← cpR_s (k := i), ← cpR_s (k := i), ← cpR_s (k := i), hu, hv, hw]
  simp only [gI, hI_rI]
  by_cases h1 : x = 45
  · simp [h1, hI_rI]
  by_cases h2 : x = 46
  · simp [h2, hI_rI]
  by_cases h3 : x = 47
  · simp [h3, hI_rI]
  simp [h1, h2, h3, hI_rI]
theorem kp2_s {h : PH} {t i : Nat} {u v : Int32} (hu : u = hI h 48 (5280 + i)) (hv : v = hI h 49 (5280 + i)) : pI (pI (kp2 h t i) 48 (660 * t + i) u) 49 (660 * t + i) v = kp2 h t (i + 1) := by
  refine PH.ext (fun x j => ?_) rfl
  unfold kp2
  rw [← cpR_s (k := i), ← cpR_s (k := i), hu, hv]
  simp only [gI, hI_rI]
  by_cases h1 : x = 48
  · simp [h1, hI_rI]
  by_cases h2 : x = 49
  · simp [h2, hI_rI]
  simp [h1, h2, hI_rI]
/-- the draft is kept as text t -/
def kpH (h : PH) (t c : Nat) (day now : Int32) : PH := pI (pI (pI (pI (kp2 (kp1 h t 16) t c) 44 t (hI h 44 8)) 42 t day) 43 t now) 36 10 (nI (t + 1))
theorem nar01 {x : Int32} (h : x = 0 ∨ x = 1) : narrow .boolean (.int x) = .int x := by rcases h with rfl | rfl <;> rfl
theorem lp1_X12_keeps {h : PH} {N0 S0 : Nat} {Post : Nat → Option Value → PH → Prop} {d : Int32} (hL : px_L h) {t : Nat} (ht : hI h 36 10 = nI t) (ht8 : t < 8) (hb : ∀ j, hI h 45 j = 0 ∨ hI h 45 j = 1) (kk : PW M_X12_keeps N0 S0 Post 86 [(0, .ref 36), (1, .int d)] [] (kp1 h t 16)) : ∀ (k i : Nat), i + k = 16 → PW M_X12_keeps N0 S0 Post 2 [(0, .ref 36), (1, .int d), (2, .int (nI (i)))] [] (kp1 h t i) := by
  intro k
  induction k with
  | zero =>
    intro i hi
    have e : i = 16 := by omega
    subst e
    refine px_iload_n d_X12_keeps_2 rfl rfl ?_
    refine px_bipush (v := 16) d_X12_keeps_3 (by decide) ?_
    refine px_icmp_ge (tgt := 86) d_X12_keeps_5 (by decide) (fun c5 => ?_) (fun c5 => (c5 (by decide)).elim)
    refine px_drop (lv' := [(0, .ref 36), (1, .int d)]) ⟨rfl, rfl, trivial⟩ ?_
    exact kk
  | succ k ih =>
    intro i hi
    refine px_iload_n d_X12_keeps_2 rfl rfl ?_
    refine px_bipush (v := 16) d_X12_keeps_3 (by decide) ?_
    refine px_icmp_ge (tgt := 86) d_X12_keeps_5 (by decide) (fun c5 => absurd c5 (nI_ge (b := 16) (by omega) (by decide))) (fun c5 => ?_)
    refine px_aload_n d_X12_keeps_8 rfl rfl ?_
    refine px_getR d_X12_keeps_9 fl_X12_53 (by decide) (so36 hL) (sr36_14 hL) ?_
    refine px_bipush (v := 16) d_X12_keeps_12 (by decide) ?_
    refine px_aload_n d_X12_keeps_14 rfl rfl ?_
    refine px_getI d_X12_keeps_15 fl_X12_206 rfl (so36 hL) ?_
    refine px_val (y := nI t) ht ?_
    refine px_imul d_X12_keeps_18 ?_
    refine px_iload_n d_X12_keeps_19 rfl rfl ?_
    refine px_iadd d_X12_keeps_20 ?_
    refine px_val (y := nI (16 * t + i)) (idx16 t i) ?_
    refine px_aload_n d_X12_keeps_21 rfl rfl ?_
    refine px_getR d_X12_keeps_22 fl_X12_53 (by decide) (so36 hL) (sr36_14 hL) ?_
    refine px_sipush (v := 128) d_X12_keeps_25 (by decide) ?_
    refine px_iload_n d_X12_keeps_28 rfl rfl ?_
    refine px_iadd d_X12_keeps_29 ?_
    refine px_val (y := nI (128 + i)) (nI_add 128 i) ?_
    refine px_zald d_X12_keeps_30 (sa45 hL) rfl (by omega) ?_
    refine px_val (y := hI h 45 (128 + i)) (cpR_r (by omega)) ?_
    refine px_zast d_X12_keeps_31 (sa45 hL) rfl (by omega) (nar01 (hb _)) ?_
    refine px_aload_n d_X12_keeps_32 rfl rfl ?_
    refine px_getR d_X12_keeps_33 fl_X12_57 (by decide) (so36 hL) (sr36_15 hL) ?_
    refine px_bipush (v := 16) d_X12_keeps_36 (by decide) ?_
    refine px_aload_n d_X12_keeps_38 rfl rfl ?_
    refine px_getI d_X12_keeps_39 fl_X12_206 rfl (so36 hL) ?_
    refine px_val (y := nI t) ht ?_
    refine px_imul d_X12_keeps_42 ?_
    refine px_iload_n d_X12_keeps_43 rfl rfl ?_
    refine px_iadd d_X12_keeps_44 ?_
    refine px_val (y := nI (16 * t + i)) (idx16 t i) ?_
    refine px_aload_n d_X12_keeps_45 rfl rfl ?_
    refine px_getR d_X12_keeps_46 fl_X12_57 (by decide) (so36 hL) (sr36_15 hL) ?_
    refine px_sipush (v := 128) d_X12_keeps_49 (by decide) ?_
    refine px_iload_n d_X12_keeps_52 rfl rfl ?_
    refine px_iadd d_X12_keeps_53 ?_
    refine px_val (y := nI (128 + i)) (nI_add 128 i) ?_
    refine px_iald d_X12_keeps_54 (sa46 hL) rfl (by omega) ?_
    refine px_val (y := hI h 46 (128 + i)) (cpR_r (by omega)) ?_
    refine px_iast d_X12_keeps_55 (sa46 hL) rfl (by omega) ?_
    refine px_aload_n d_X12_keeps_56 rfl rfl ?_
    refine px_getR d_X12_keeps_57 fl_X12_60 (by decide) (so36 hL) (sr36_16 hL) ?_
    refine px_bipush (v := 16) d_X12_keeps_60 (by decide) ?_
    refine px_aload_n d_X12_keeps_62 rfl rfl ?_
    refine px_getI d_X12_keeps_63 fl_X12_206 rfl (so36 hL) ?_
    refine px_val (y := nI t) ht ?_
    refine px_imul d_X12_keeps_66 ?_
    refine px_iload_n d_X12_keeps_67 rfl rfl ?_
    refine px_iadd d_X12_keeps_68 ?_
    refine px_val (y := nI (16 * t + i)) (idx16 t i) ?_
    refine px_aload_n d_X12_keeps_69 rfl rfl ?_
    refine px_getR d_X12_keeps_70 fl_X12_60 (by decide) (so36 hL) (sr36_16 hL) ?_
    refine px_sipush (v := 128) d_X12_keeps_73 (by decide) ?_
    refine px_iload_n d_X12_keeps_76 rfl rfl ?_
    refine px_iadd d_X12_keeps_77 ?_
    refine px_val (y := nI (128 + i)) (nI_add 128 i) ?_
    refine px_iald d_X12_keeps_78 (sa47 hL) rfl (by omega) ?_
    refine px_val (y := hI h 47 (128 + i)) (cpR_r (by omega)) ?_
    refine px_iast d_X12_keeps_79 (sa47 hL) rfl (by omega) ?_
    refine px_heap (h2 := kp1 h t (i + 1)) (kp1_s rfl rfl rfl) ?_
    refine px_inc1 d_X12_keeps_80 rfl (by decide) ?_
    refine px_goto (tgt := 2) d_X12_keeps_83 (by decide) ?_
    refine px_drop (lv' := [(0, .ref 36), (1, .int d), (2, .int (nI (i + 1)))]) ⟨rfl, rfl, px_si (nI_s1 _), trivial⟩ ?_
    exact ih (i + 1) (by omega)
theorem lp2_X12_keeps {h : PH} {N0 S0 : Nat} {Post : Nat → Option Value → PH → Prop} {d : Int32} (hL : px_L h) {t : Nat} (ht : hI h 36 10 = nI t) (ht8 : t < 8) (hb : ∀ j, hI h 45 j = 0 ∨ hI h 45 j = 1) {c : Nat} (hc : hI h 36 19 = nI c) (hc6 : c ≤ 660) (kk : PW M_X12_keeps N0 S0 Post 152 [(0, .ref 36), (1, .int d)] [] (kp2 h t c)) : ∀ (k i : Nat), i + k = c → PW M_X12_keeps N0 S0 Post 88 [(0, .ref 36), (1, .int d), (2, .int (nI (i)))] [] (kp2 h t i) := by
  intro k
  induction k with
  | zero =>
    intro i hi
    have e : i = c := by omega
    rw [e]
    refine px_iload_n d_X12_keeps_88 rfl rfl ?_
    refine px_aload_n d_X12_keeps_89 rfl rfl ?_
    refine px_getI d_X12_keeps_90 fl_X12_203 rfl (so36 hL) ?_
    refine px_val (y := nI c) hc ?_
    refine px_icmp_ge (tgt := 152) d_X12_keeps_93 (by decide) (fun c93 => ?_) (fun c93 => (c93 (nI_le (Nat.le_refl _) (by omega))).elim)
    refine px_drop (lv' := [(0, .ref 36), (1, .int d)]) ⟨rfl, rfl, trivial⟩ ?_
    exact kk
  | succ k ih =>
    intro i hi
    refine px_iload_n d_X12_keeps_88 rfl rfl ?_
    refine px_aload_n d_X12_keeps_89 rfl rfl ?_
    refine px_getI d_X12_keeps_90 fl_X12_203 rfl (so36 hL) ?_
    refine px_val (y := nI c) hc ?_
    refine px_icmp_ge (tgt := 152) d_X12_keeps_93 (by decide) (fun c93 => absurd c93 (nI_ge (by omega) (by omega))) (fun c93 => ?_)
    refine px_aload_n d_X12_keeps_96 rfl rfl ?_
    refine px_getR d_X12_keeps_97 fl_X12_63 (by decide) (so36 hL) (sr36_17 hL) ?_
    refine px_sipush (v := 660) d_X12_keeps_100 (by decide) ?_
    refine px_aload_n d_X12_keeps_103 rfl rfl ?_
    refine px_getI d_X12_keeps_104 fl_X12_206 rfl (so36 hL) ?_
    refine px_val (y := nI t) ht ?_
    refine px_imul d_X12_keeps_107 ?_
    refine px_iload_n d_X12_keeps_108 rfl rfl ?_
    refine px_iadd d_X12_keeps_109 ?_
    refine px_val (y := nI (660 * t + i)) (idx660 t i rfl) ?_
    refine px_aload_n d_X12_keeps_110 rfl rfl ?_
    refine px_getR d_X12_keeps_111 fl_X12_63 (by decide) (so36 hL) (sr36_17 hL) ?_
    refine px_sipush (v := 5280) d_X12_keeps_114 (by decide) ?_
    refine px_iload_n d_X12_keeps_117 rfl rfl ?_
    refine px_iadd d_X12_keeps_118 ?_
    refine px_val (y := nI (5280 + i)) (nI_add 5280 i) ?_
    refine px_iald d_X12_keeps_119 (sa48 hL) rfl (by omega) ?_
    refine px_val (y := hI h 48 (5280 + i)) (cpR_r (by omega)) ?_
    refine px_iast d_X12_keeps_120 (sa48 hL) rfl (by omega) ?_
    refine px_aload_n d_X12_keeps_121 rfl rfl ?_
    refine px_getR d_X12_keeps_122 fl_X12_66 (by decide) (so36 hL) (sr36_18 hL) ?_
    refine px_sipush (v := 660) d_X12_keeps_125 (by decide) ?_
    refine px_aload_n d_X12_keeps_128 rfl rfl ?_
    refine px_getI d_X12_keeps_129 fl_X12_206 rfl (so36 hL) ?_
    refine px_val (y := nI t) ht ?_
    refine px_imul d_X12_keeps_132 ?_
    refine px_iload_n d_X12_keeps_133 rfl rfl ?_
    refine px_iadd d_X12_keeps_134 ?_
    refine px_val (y := nI (660 * t + i)) (idx660 t i rfl) ?_
    refine px_aload_n d_X12_keeps_135 rfl rfl ?_
    refine px_getR d_X12_keeps_136 fl_X12_66 (by decide) (so36 hL) (sr36_18 hL) ?_
    refine px_sipush (v := 5280) d_X12_keeps_139 (by decide) ?_
    refine px_iload_n d_X12_keeps_142 rfl rfl ?_
    refine px_iadd d_X12_keeps_143 ?_
    refine px_val (y := nI (5280 + i)) (nI_add 5280 i) ?_
    refine px_iald d_X12_keeps_144 (sa49 hL) rfl (by omega) ?_
    refine px_val (y := hI h 49 (5280 + i)) (cpR_r (by omega)) ?_
    refine px_iast d_X12_keeps_145 (sa49 hL) rfl (by omega) ?_
    refine px_heap (h2 := kp2 h t (i + 1)) (kp2_s rfl rfl) ?_
    refine px_inc1 d_X12_keeps_146 rfl (by decide) ?_
    refine px_goto (tgt := 88) d_X12_keeps_149 (by decide) ?_
    refine px_drop (lv' := [(0, .ref 36), (1, .int d), (2, .int (nI (i + 1)))]) ⟨rfl, rfl, px_si (nI_s1 _), trivial⟩ ?_
    exact ih (i + 1) (by omega)
theorem c_X12_keeps {h : PH} {d : Int32} (hL : px_L h) {t : Nat} (ht : hI h 36 10 = nI t) (ht8 : t < 8) (hb : ∀ j, hI h 45 j = 0 ∨ hI h 45 j = 1) {c : Nat} (hc : hI h 36 19 = nI c) (hc6 : c ≤ 660) : PM M_X12_keeps [.ref 36, .int d] h none (kpH h t c d (hI h 36 26)) := by
  refine PM.of (by decide +kernel) (by decide +kernel) (Nat.le_refl _) (Nat.le_refl _) (Nat.le_of_ble_eq_true rfl) ?_
  have hb2 : ∀ j, hI (kp1 h t 16) 45 j = 0 ∨ hI (kp1 h t 16) 45 j = 1 := fun j => by
    show cpR (hI h 45) 128 (16 * t) 16 j = 0 ∨ cpR (hI h 45) 128 (16 * t) 16 j = 1
    unfold cpR
    split
    · exact hb _
    · exact hb _
  refine px_iconst (v := 0) d_X12_keeps_0 (by decide) ?_
  refine px_istore_n d_X12_keeps_1 rfl (by decide) ?_
  refine px_drop (lv' := [(0, .ref 36), (1, .int d), (2, .int (nI 0))]) ⟨rfl, rfl, rfl, trivial⟩ ?_
  refine px_heap (h2 := kp1 h t 0) (kp1_0 h t).symm ?_
  refine lp1_X12_keeps hL ht ht8 hb ?_ 16 0 (by omega)
  refine px_iconst (v := 0) d_X12_keeps_86 (by decide) ?_
  refine px_istore_n d_X12_keeps_87 rfl (by decide) ?_
  refine px_drop (lv' := [(0, .ref 36), (1, .int d), (2, .int (nI 0))]) ⟨rfl, rfl, rfl, trivial⟩ ?_
  refine px_heap (h2 := kp2 (kp1 h t 16) t 0) (kp2_0 _ t).symm ?_
  refine lp2_X12_keeps (h := kp1 h t 16) hL ht ht8 hb2 hc hc6 ?_ c 0 (by omega)
  refine px_aload_n d_X12_keeps_152 rfl rfl ?_
  refine px_getR d_X12_keeps_153 fl_X12_50 (by decide) (so36 hL) (sr36_13 hL) ?_
  refine px_aload_n d_X12_keeps_156 rfl rfl ?_
  refine px_getI d_X12_keeps_157 fl_X12_206 rfl (so36 hL) ?_
  refine px_val (y := nI t) ht ?_
  refine px_aload_n d_X12_keeps_160 rfl rfl ?_
  refine px_getR d_X12_keeps_161 fl_X12_50 (by decide) (so36 hL) (sr36_13 hL) ?_
  refine px_bipush (v := 8) d_X12_keeps_164 (by decide) ?_
  refine px_iald (j := 8) d_X12_keeps_166 (sa44 hL) rfl (by decide) ?_
  refine px_val (y := hI h 44 8) rfl ?_
  refine px_iast d_X12_keeps_167 (sa44 hL) rfl (by omega) ?_
  refine px_aload_n d_X12_keeps_168 rfl rfl ?_
  refine px_getR d_X12_keeps_169 fl_X12_44 (by decide) (so36 hL) (sr36_11 hL) ?_
  refine px_aload_n d_X12_keeps_172 rfl rfl ?_
  refine px_getI d_X12_keeps_173 fl_X12_206 rfl (so36 hL) ?_
  refine px_val (y := nI t) ht ?_
  refine px_iload_n d_X12_keeps_176 rfl rfl ?_
  refine px_iast d_X12_keeps_177 (sa42 hL) rfl (by omega) ?_
  refine px_aload_n d_X12_keeps_178 rfl rfl ?_
  refine px_getR d_X12_keeps_179 fl_X12_47 (by decide) (so36 hL) (sr36_12 hL) ?_
  refine px_aload_n d_X12_keeps_182 rfl rfl ?_
  refine px_getI d_X12_keeps_183 fl_X12_206 rfl (so36 hL) ?_
  refine px_val (y := nI t) ht ?_
  refine px_aload_n d_X12_keeps_186 rfl rfl ?_
  refine px_getI d_X12_keeps_187 fl_X12_218 rfl (so36 hL) ?_
  refine px_val (y := hI h 36 26) rfl ?_
  refine px_iast d_X12_keeps_190 (sa43 hL) rfl (by omega) ?_
  refine px_aload_n d_X12_keeps_191 rfl rfl ?_
  refine px_dup d_X12_keeps_192 rfl ?_
  refine px_getI d_X12_keeps_193 fl_X12_206 rfl (so36 hL) ?_
  refine px_val (y := nI t) ht ?_
  refine px_iconst (v := 1) d_X12_keeps_196 (by decide) ?_
  refine px_iadd d_X12_keeps_197 ?_
  refine px_val (y := nI (t + 1)) (nI_s1 t) ?_
  refine px_putI d_X12_keeps_198 fl_X12_206 rfl (so36 hL) ?_
  exact px_return d_X12_keeps_201 rfl ⟨rfl, rfl, rfl⟩
/-- the lines of a text -/
def txM (tk : Nat → Int32) (pl : Nat → Nat) (fu : Nat) : Nat → LiS → MS → Option (LiS × MS)
  | 0, _, _ => none
  | f + 1, l, m => if m.2.1 = 0 ∧ ¬ tk m.1 = -1 then
      (match liM tk pl fu l m with
      | none => none
      | some q => txM tk pl fu f q.1 q.2)
    else some (l, m)
theorem liM_ok {tk : Nat → Int32} {pl : Nat → Nat} {N fu : Nat} (hEN : tk N = -1) (hpl : ∀ i, i ≤ N → pl i ≤ 600) {l l' : LiS} {m m' : MS} (ha : m.1 < N) (hl : l.1 ≤ 16) (hil : ∀ j, l.2.1 j = 0 ∨ l.2.1 j = 1) (e : liM tk pl fu l m = some (l', m')) : (m'.2.1 = 0 → m'.1 ≤ N) ∧ l'.1 ≤ 16 ∧ ∀ j, l'.2.1 j = 0 ∨ l'.2.1 j = 1 := by
  obtain ⟨li, il, lN, lA⟩ := l
  obtain ⟨a, fl, cd, dp, sw, gw, aw, op, on⟩ := m
  have hp := hpl a (Nat.le_of_lt ha)
  unfold liM at e
  simp only at e
  split at e
  · split at e
    · cases e; exact ⟨fun w => absurd w (nI_ne0 (by omega) (by omega)), hl, hil⟩
    · rename_i q16
      split at e
      · cases e
      · rename_i m5 h5
        split at e
        · cases e
          have hok : f1M tk pl a = 0 → a + 2 ≤ N := fun q => (f1M_N hEN hpl ha q).2
          obtain ⟨a5, fl5, cd5, dp5, sw5, gw5, aw5, op5, on5⟩ := m5
          have b5 := boM_ok hEN hpl fu _ _ _ _ _ _ _ _ _ (tkM_ok hEN hpl (by decide) hok) (Nat.zero_le 5) h5
          refine ⟨tkM_ok hEN hpl (by decide) b5.1, ?_, fun j => ?_⟩
          · show li + 1 ≤ 16
            have hl : li ≤ 16 := hl
            omega
          · show upf il (128 + li) (if tk a = -4 then 1 else 0) j = 0 ∨ upf il (128 + li) (if tk a = -4 then 1 else 0) j = 1
            unfold upf
            split
            · split
              · exact Or.inr rfl
              · exact Or.inl rfl
            · exact hil j
        · cases e
  · cases e; exact ⟨fun w => absurd w (nI_ne0 (by omega) (by omega)), hl, hil⟩
theorem liM_PM {h : PH} (hL : px_L h) {N : Nat} {tk : Nat → Int32} {pl : Nat → Nat} (hT : TKs h N tk pl) (hE : ∀ i, i < N → ¬ tk i = -1) (hEN : tk N = -1) {fu : Nat} {l l' : LiS} {m m' : MS} (ha : m.1 < N) (hf : m.2.1 = 0) (hl : l.1 ≤ 16) (e : liM tk pl fu l m = some (l', m')) : PM M_X12_line [.ref 36] (setM (setL h l) m) none (setM (setL h l') m') := by
  obtain ⟨li, il, lN, lA⟩ := l
  obtain ⟨a, fl, cd, dp, sw, gw, aw, op, on⟩ := m
  have hf : fl = 0 := hf
  subst hf
  unfold liM at e
  simp only at e
  split at e
  · rename_i hv
    split at e
    · rename_i q16
      cases e
      exact n5_X12_line hL hT hE hEN ha hl hv q16
    · rename_i q16
      split at e
      · cases e
      · rename_i m5 h5
        split at e
        · rename_i h660
          cases e
          have hl : li ≤ 16 := hl
          exact c_X12_line hL hT hE hEN ha hl hv (by omega) h5 h660
        · cases e
  · rename_i hv
    cases e
    exact n1_X12_line hL hT hE hEN ha hl hv
theorem lp_X12_text {h : PH} {N0 S0 : Nat} {Post : Nat → Option Value → PH → Prop} {d : Int32} (hL : px_L h) {N : Nat} {tk : Nat → Int32} {pl : Nat → Nat} (hT : TKs h N tk pl) (hE : ∀ i, i < N → ¬ tk i = -1) (hEN : tk N = -1) (hN0 : hn h ≤ N0 ∧ hs h ≤ S0) {fu : Nat} {l' : LiS} {m' : MS} : ∀ (f : Nat) (l : LiS) (m : MS), (m.2.1 = 0 → m.1 ≤ N) → l.1 ≤ 16 → (∀ j, l.2.1 j = 0 ∨ l.2.1 j = 1) → txM tk pl fu f l m = some (l', m') → ((∀ j, l'.2.1 j = 0 ∨ l'.2.1 j = 1) → PW M_X12_text N0 S0 Post 97 [(0, .ref 36), (1, .int d)] [] (setM (setL h l') m')) → PW M_X12_text N0 S0 Post 71 [(0, .ref 36), (1, .int d)] [] (setM (setL h l) m) := by
  have hN6 := hT.1
  have hpl : ∀ i, i ≤ N → pl i ≤ 600 := fun i hi => (hT.2 i hi).2.2.2.2.2.2
  intro f
  induction f with
  | zero =>
    intro l m ha hl hil e kk
    cases e
  | succ f ih =>
    intro l m ha hl hil e kk
    unfold txM at e
    by_cases q : m.2.1 = 0 ∧ ¬ tk m.1 = -1
    · rw [if_pos q] at e
      have ha := ha q.1
      have hlt : m.1 < N := by
        rcases Nat.lt_or_ge m.1 N with w | w
        · exact w
        · exact absurd (by rw [show m.1 = N by omega]; exact hEN) q.2
      rcases hli : liM tk pl fu l m with _ | ⟨l2, m2⟩
      · rw [hli] at e; cases e
      · rw [hli] at e
        have e : txM tk pl fu f l2 m2 = some (l', m') := e
        have cL := liM_PM hL hT hE hEN hlt q.1 hl hli
        have ok := liM_ok hEN hpl hlt hl hil hli
        refine px_aload_n d_X12_text_71 rfl rfl ?_
        refine px_getI d_X12_text_72 fl_X12_187 rfl (so36 hL) ?_
        refine px_val (y := m.2.1) rfl ?_
        refine px_if_ne (tgt := 97) d_X12_text_75 (by decide) (fun c75 => absurd q.1 c75) (fun c75 => ?_)
        refine px_aload_n d_X12_text_78 rfl rfl ?_
        refine px_getR d_X12_text_79 fl_X12_13 (by decide) (so36 hL) (sr36_4 hL) ?_
        refine px_aload_n d_X12_text_82 rfl rfl ?_
        refine px_getI d_X12_text_83 fl_X12_184 rfl (so36 hL) ?_
        refine px_val (y := nI m.1) rfl ?_
        refine px_iald d_X12_text_86 (sa38 hL) rfl (by omega) ?_
        refine px_val (y := hI h 38 m.1) rfl ?_
        refine px_if_eq (tgt := 97) d_X12_text_87 (by decide) (fun c87 => absurd ((hT.2 m.1 ha).2.2.2.2.1.mp c87) q.2) (fun c87 => ?_)
        refine px_aload_n d_X12_text_90 rfl rfl ?_
        refine px_callV (cL) d_X12_text_91 lk_X12_212 ok_X12_line ov_X12_line (so36 hL) (by decide) rfl rfl (Nat.le_of_ble_eq_true rfl) (by decide) hN0 ?_
        refine px_goto (tgt := 71) d_X12_text_94 (by decide) ?_
        refine px_drop (lv' := [(0, .ref 36), (1, .int d)]) ⟨rfl, rfl, trivial⟩ ?_
        exact ih l2 m2 ok.1 ok.2.1 ok.2.2 e kk
    · rw [if_neg q] at e
      have e1 := Prod.mk.inj (Option.some.inj e)
      rw [← e1.1, ← e1.2] at kk
      have kk := kk hil
      refine px_aload_n d_X12_text_71 rfl rfl ?_
      refine px_getI d_X12_text_72 fl_X12_187 rfl (so36 hL) ?_
      refine px_val (y := m.2.1) rfl ?_
      refine px_if_ne (tgt := 97) d_X12_text_75 (by decide) (fun c75 => ?_) (fun c75 => ?_)
      · exact kk
      · refine px_aload_n d_X12_text_78 rfl rfl ?_
        refine px_getR d_X12_text_79 fl_X12_13 (by decide) (so36 hL) (sr36_4 hL) ?_
        refine px_aload_n d_X12_text_82 rfl rfl ?_
        refine px_getI d_X12_text_83 fl_X12_184 rfl (so36 hL) ?_
        refine px_val (y := nI m.1) rfl ?_
        refine px_iald d_X12_text_86 (sa38 hL) rfl (by have := ha c75; omega) ?_
        refine px_val (y := hI h 38 m.1) rfl ?_
        refine px_if_eq (tgt := 97) d_X12_text_87 (by decide) (fun c87 => ?_) (fun c87 => absurd ⟨c75, fun w => c87 ((hT.2 m.1 (ha c75)).2.2.2.2.1.mpr w)⟩ q)
        exact kk
theorem CUT.un {S : Nat → Int32} {n : Nat} {so pl so' pl' : Nat → Int32} {va va' : Nat → Int64} {N N' : Nat} (h1 : ∀ i, i < N → pT S n i < n) (h2 : pT S n N = n) (h3 : CUT S n so' pl' va' N') (h4 : pT S n N' = n) : N' = N := by
  rcases Nat.lt_trichotomy N' N with w | w | w
  · have := h1 N' w; omega
  · exact w
  · have := (h3 N w).1; omega
def tqM (h : PH) (t n : Nat) (day : Int32) (l : LiS) (m : MS) : Option Value → PH → Prop := fun r h' => r = some (.int m.2.1) ∧ ∃ (so pl : Nat → Int32) (va : Nat → Int64), h' = (if m.2.1 = 0 then kpH (setM (setL (cutS (pI (pI (th0 h) 36 3 (nI n)) 36 2 0) so pl va) l) m) t m.2.2.1 day (hI h 36 26) else setM (setL (cutS (pI (pI (th0 h) 36 3 (nI n)) 36 2 0) so pl va) l) m)
theorem setLM_of {h : PH} {d0 : Nat} (hd0 : hI h 36 20 = nI d0) : pI (pI (pI (pI h 36 7 0) 36 8 0) 44 8 0) 36 19 0 = setM (setL h (0, hI h 45, hI h 46, hI h 47)) (0, 0, 0, d0, hI h 50, hI h 51, hI h 52, hI h 48, hI h 49) := by
  refine PH.ext (fun x j => ?_) rfl
  unfold setM setL
  simp only [gI, hI_rI]
  by_cases h44 : x = 44
  · by_cases j8 : j = 8 <;> simp [h44, j8, gI, hI_rI]
    try rfl
  by_cases h45 : x = 45
  · simp [h45, gI, hI_rI]
  by_cases h46 : x = 46
  · simp [h46, gI, hI_rI]
  by_cases h47 : x = 47
  · simp [h47, gI, hI_rI]
  by_cases h48 : x = 48
  · simp [h48, gI, hI_rI]
  by_cases h49 : x = 49
  · simp [h49, gI, hI_rI]
  by_cases h50 : x = 50
  · simp [h50, gI, hI_rI]
  by_cases h51 : x = 51
  · simp [h51, gI, hI_rI]
  by_cases h52 : x = 52
  · simp [h52, gI, hI_rI]
  by_cases h36 : x = 36
  · by_cases j1 : j = 7
    · simp [h36, j1, gI, hI_rI]
      try rfl
    by_cases j2 : j = 8
    · simp [h36, j2, gI, hI_rI]
      try rfl
    by_cases j3 : j = 19
    · simp [h36, j3, gI, hI_rI]
      try rfl
    by_cases j4 : j = 20
    · simp [h36, j4, gI, hI_rI]
      exact hd0
    simp [h36, j1, j2, j3, j4, gI, hI_rI]
  simp [gI, hI_rI, h44, h45, h46, h47, h48, h49, h50, h51, h52, h36]
theorem x_X12_text {h : PH} {d : Int32} (hL : px_L h) {n : Nat} (hz : hI h 36 2 = nI n) (hn6 : n ≤ 600) (hd : ¬ d < 0 ∧ ¬ 719 < d) {t : Nat} (ht : hI h 36 10 = nI t) (ht8 : t < 8) (hday : t = 0 ∨ ¬ d ≤ hI h 42 (t - 1)) (hb : ∀ j, hI h 45 j = 0 ∨ hI h 45 j = 1) {N : Nat} {tk : Nat → Int32} {pn : Nat → Nat} (hN1 : ∀ i, i < N → pT (hI h 37) n i < n) (hN2 : pT (hI h 37) n N = n) (hE : ∀ i, i < N → ¬ tk i = -1) (hEN : tk N = -1) (hTK : ∀ (so pl : Nat → Int32) (va : Nat → Int64), CUT (hI h 37) n so pl va N → so N = 0 → pl N = nI n → TKs (cutS (pI (pI (th0 h) 36 3 (nI n)) 36 2 0) so pl va) N tk pn) {d0 : Nat} (hd0 : hI h 36 20 = nI d0) {fu F : Nat} {l' : LiS} {m' : MS} (e : txM tk pn fu F (0, hI h 45, hI h 46, hI h 47) (0, 0, 0, d0, hI h 50, hI h 51, hI h 52, hI h 48, hI h 49) = some (l', m')) (hc6 : m'.2.2.1 ≤ 660) : PX M_X12_text [.ref 36, .int d] h 0 0 (tqM h t n d l' m') := by
  refine PX.of (by decide +kernel) (by decide +kernel) (Nat.le_of_ble_eq_true rfl) ?_
  refine px_aload_n d_X12_text_0 rfl rfl ?_
  refine px_iconst (v := 0) d_X12_text_1 (by decide) ?_
  refine px_putI d_X12_text_2 fl_X12_150 rfl (so36 hL) ?_
  refine px_iload_n d_X12_text_5 rfl rfl ?_
  refine px_if_lt (tgt := 47) d_X12_text_6 (by decide) (fun c6 => absurd c6 hd.1) (fun c6 => ?_)
  refine px_iload_n d_X12_text_9 rfl rfl ?_
  refine px_sipush (v := 719) d_X12_text_10 (by decide) ?_
  refine px_icmp_gt (tgt := 47) d_X12_text_13 (by decide) (fun c13 => absurd c13 hd.2) (fun c13 => ?_)
  refine px_aload_n d_X12_text_16 rfl rfl ?_
  refine px_getI d_X12_text_17 fl_X12_206 rfl (so36 hL) ?_
  refine px_val (y := nI t) ht ?_
  refine px_bipush (v := 8) d_X12_text_20 (by decide) ?_
  refine px_icmp_eq (tgt := 47) d_X12_text_22 (by decide) (fun c22 => absurd ((nI_eq (a := t) (b := 8) (by omega) (by decide)).mp c22) (by omega)) (fun c22 => ?_)
  refine px_aload_n d_X12_text_25 rfl rfl ?_
  refine px_getI d_X12_text_26 fl_X12_206 rfl (so36 hL) ?_
  refine px_val (y := nI t) ht ?_
  refine px_if_le (tgt := 54) d_X12_text_29 (by decide) (fun c29 => ?_) (fun c29 => ?_)
  · refine px_aload_n d_X12_text_54 rfl rfl ?_
    refine px_callVX (x_X12_cutAll (h := th0 h) hL hz hn6) d_X12_text_55 lk_X12_209 ok_X12_cutAll ov_X12_cutAll (so36 hL) (by decide) rfl rfl (Nat.le_of_ble_eq_true rfl) (by decide) ⟨Nat.le_refl (hn h), Nat.le_refl (hs h)⟩ (fun r9 h9 q9 n9 s9 => ?_)
    obtain ⟨rfl, so, pl, va, N2, rfl, hC, hp2, hs0, hpn, hNn⟩ := q9
    have eN : N2 = N := CUT.un (so := so) (pl := pl) (va := va) hN1 hN2 hC hp2
    subst eN
    have hL9 : px_L h := hL
    have hTK := hTK so pl va hC hs0 hpn
    refine px_aload_n d_X12_text_58 rfl rfl ?_
    refine px_getR d_X12_text_59 fl_X12_50 (by decide) (so36 hL9) (sr36_13 hL9) ?_
    refine px_bipush (v := 8) d_X12_text_62 (by decide) ?_
    refine px_iconst (v := 0) d_X12_text_64 (by decide) ?_
    refine px_iast (j := 8) d_X12_text_65 (sa44 hL) rfl (by decide) ?_
    refine px_aload_n d_X12_text_66 rfl rfl ?_
    refine px_iconst (v := 0) d_X12_text_67 (by decide) ?_
    refine px_putI d_X12_text_68 fl_X12_203 rfl (so36 hL9) ?_
    refine px_heap (h2 := setM (setL (cutS (pI (pI (th0 h) 36 3 (nI n)) 36 2 0) so pl va) (0, hI h 45, hI h 46, hI h 47)) (0, 0, 0, d0, hI h 50, hI h 51, hI h 52, hI h 48, hI h 49)) (setLM_of (h := (cutS (pI (pI (th0 h) 36 3 (nI n)) 36 2 0) so pl va)) hd0) ?_
    refine px_drop (lv' := [(0, .ref 36), (1, .int d)]) ⟨rfl, rfl, trivial⟩ ?_
    refine lp_X12_text (h := (cutS (pI (pI (th0 h) 36 3 (nI n)) 36 2 0) so pl va)) hL hTK hE hEN ⟨Nat.le_refl (hn h), Nat.le_refl (hs h)⟩ F _ _ (fun _ => Nat.zero_le _) (Nat.zero_le 16) hb e (fun hil => ?_)
    refine px_aload_n d_X12_text_97 rfl rfl ?_
    refine px_getI d_X12_text_98 fl_X12_187 rfl (so36 hL) ?_
    refine px_val (y := m'.2.1) rfl ?_
    refine px_if_ne (tgt := 109) d_X12_text_101 (by decide) (fun c101 => ?_) (fun c101 => ?_)
    · refine px_aload_n d_X12_text_109 rfl rfl ?_
      refine px_getI d_X12_text_110 fl_X12_187 rfl (so36 hL) ?_
      refine px_val (y := m'.2.1) rfl ?_
      exact px_ireturn d_X12_text_113 rfl rfl ⟨rfl, ⟨rfl, so, pl, va, by first | rw [if_neg c101] | (rw [if_pos c101]; rfl)⟩, rfl, rfl⟩
    · refine px_aload_n d_X12_text_104 rfl rfl ?_
      refine px_iload_n d_X12_text_105 rfl rfl ?_
      refine px_callV (c_X12_keeps (h := setM (setL (cutS (pI (pI (th0 h) 36 3 (nI n)) 36 2 0) so pl va) l') m') (t := t) (c := m'.2.2.1) hL ht ht8 hil rfl hc6) d_X12_text_106 lk_X12_215 ok_X12_keeps ov_X12_keeps (so36 hL) (by decide) rfl rfl (Nat.le_of_ble_eq_true rfl) (by decide) ⟨Nat.le_refl (hn h), Nat.le_refl (hs h)⟩ ?_
      refine px_aload_n d_X12_text_109 rfl rfl ?_
      refine px_getI d_X12_text_110 fl_X12_187 rfl (so36 hL) ?_
      refine px_val (y := m'.2.1) rfl ?_
      exact px_ireturn d_X12_text_113 rfl rfl ⟨rfl, ⟨rfl, so, pl, va, by first | rw [if_neg c101] | (rw [if_pos c101]; rfl)⟩, rfl, rfl⟩
  · refine px_iload_n d_X12_text_32 rfl rfl ?_
    refine px_aload_n d_X12_text_33 rfl rfl ?_
    refine px_getR d_X12_text_34 fl_X12_44 (by decide) (so36 hL) (sr36_11 hL) ?_
    refine px_aload_n d_X12_text_37 rfl rfl ?_
    have t0 : ¬ t = 0 := fun q => c29 (by rw [q]; decide)
    refine px_getI d_X12_text_38 fl_X12_206 rfl (so36 hL) ?_
    refine px_val (y := nI t) ht ?_
    refine px_iconst (v := 1) d_X12_text_41 (by decide) ?_
    refine px_isub d_X12_text_42 ?_
    refine px_val (y := nI (t - 1)) (nI_sub (b := 1) (by omega)) ?_
    refine px_iald d_X12_text_43 (sa42 hL) rfl (by omega) ?_
    refine px_val (y := hI h 42 (t - 1)) rfl ?_
    refine px_icmp_gt (tgt := 54) d_X12_text_44 (by decide) (fun c44 => ?_) (fun c44 => absurd (Int32.not_lt.mp c44) (hday.resolve_left t0))
    refine px_aload_n d_X12_text_54 rfl rfl ?_
    refine px_callVX (x_X12_cutAll (h := th0 h) hL hz hn6) d_X12_text_55 lk_X12_209 ok_X12_cutAll ov_X12_cutAll (so36 hL) (by decide) rfl rfl (Nat.le_of_ble_eq_true rfl) (by decide) ⟨Nat.le_refl (hn h), Nat.le_refl (hs h)⟩ (fun r9 h9 q9 n9 s9 => ?_)
    obtain ⟨rfl, so, pl, va, N2, rfl, hC, hp2, hs0, hpn, hNn⟩ := q9
    have eN : N2 = N := CUT.un (so := so) (pl := pl) (va := va) hN1 hN2 hC hp2
    subst eN
    have hL9 : px_L h := hL
    have hTK := hTK so pl va hC hs0 hpn
    refine px_aload_n d_X12_text_58 rfl rfl ?_
    refine px_getR d_X12_text_59 fl_X12_50 (by decide) (so36 hL9) (sr36_13 hL9) ?_
    refine px_bipush (v := 8) d_X12_text_62 (by decide) ?_
    refine px_iconst (v := 0) d_X12_text_64 (by decide) ?_
    refine px_iast (j := 8) d_X12_text_65 (sa44 hL) rfl (by decide) ?_
    refine px_aload_n d_X12_text_66 rfl rfl ?_
    refine px_iconst (v := 0) d_X12_text_67 (by decide) ?_
    refine px_putI d_X12_text_68 fl_X12_203 rfl (so36 hL9) ?_
    refine px_heap (h2 := setM (setL (cutS (pI (pI (th0 h) 36 3 (nI n)) 36 2 0) so pl va) (0, hI h 45, hI h 46, hI h 47)) (0, 0, 0, d0, hI h 50, hI h 51, hI h 52, hI h 48, hI h 49)) (setLM_of (h := (cutS (pI (pI (th0 h) 36 3 (nI n)) 36 2 0) so pl va)) hd0) ?_
    refine px_drop (lv' := [(0, .ref 36), (1, .int d)]) ⟨rfl, rfl, trivial⟩ ?_
    refine lp_X12_text (h := (cutS (pI (pI (th0 h) 36 3 (nI n)) 36 2 0) so pl va)) hL hTK hE hEN ⟨Nat.le_refl (hn h), Nat.le_refl (hs h)⟩ F _ _ (fun _ => Nat.zero_le _) (Nat.zero_le 16) hb e (fun hil => ?_)
    refine px_aload_n d_X12_text_97 rfl rfl ?_
    refine px_getI d_X12_text_98 fl_X12_187 rfl (so36 hL) ?_
    refine px_val (y := m'.2.1) rfl ?_
    refine px_if_ne (tgt := 109) d_X12_text_101 (by decide) (fun c101 => ?_) (fun c101 => ?_)
    · refine px_aload_n d_X12_text_109 rfl rfl ?_
      refine px_getI d_X12_text_110 fl_X12_187 rfl (so36 hL) ?_
      refine px_val (y := m'.2.1) rfl ?_
      exact px_ireturn d_X12_text_113 rfl rfl ⟨rfl, ⟨rfl, so, pl, va, by first | rw [if_neg c101] | (rw [if_pos c101]; rfl)⟩, rfl, rfl⟩
    · refine px_aload_n d_X12_text_104 rfl rfl ?_
      refine px_iload_n d_X12_text_105 rfl rfl ?_
      refine px_callV (c_X12_keeps (h := setM (setL (cutS (pI (pI (th0 h) 36 3 (nI n)) 36 2 0) so pl va) l') m') (t := t) (c := m'.2.2.1) hL ht ht8 hil rfl hc6) d_X12_text_106 lk_X12_215 ok_X12_keeps ov_X12_keeps (so36 hL) (by decide) rfl rfl (Nat.le_of_ble_eq_true rfl) (by decide) ⟨Nat.le_refl (hn h), Nat.le_refl (hs h)⟩ ?_
      refine px_aload_n d_X12_text_109 rfl rfl ?_
      refine px_getI d_X12_text_110 fl_X12_187 rfl (so36 hL) ?_
      refine px_val (y := m'.2.1) rfl ?_
      exact px_ireturn d_X12_text_113 rfl rfl ⟨rfl, ⟨rfl, so, pl, va, by first | rw [if_neg c101] | (rw [if_pos c101]; rfl)⟩, rfl, rfl⟩
theorem n_X12_text {h : PH} {d : Int32} (hL : px_L h) {t : Nat} (ht : hI h 36 10 = nI t) (ht8 : t ≤ 8) (hv : ¬ ((¬ d < 0 ∧ ¬ 719 < d) ∧ t < 8 ∧ (t = 0 ∨ ¬ d ≤ hI h 42 (t - 1)))) : PM M_X12_text [.ref 36, .int d] h (some (.int (-1))) (pI (th0 h) 36 2 0) := by
  refine PM.of (by decide +kernel) (by decide +kernel) (Nat.le_refl _) (Nat.le_refl _) (Nat.le_of_ble_eq_true rfl) ?_
  refine px_aload_n d_X12_text_0 rfl rfl ?_
  refine px_iconst (v := 0) d_X12_text_1 (by decide) ?_
  refine px_putI d_X12_text_2 fl_X12_150 rfl (so36 hL) ?_
  refine px_iload_n d_X12_text_5 rfl rfl ?_
  refine px_if_lt (tgt := 47) d_X12_text_6 (by decide) (fun c6 => ?_) (fun c6 => ?_)
  · refine px_aload_n d_X12_text_47 rfl rfl ?_
    refine px_iconst (v := 0) d_X12_text_48 (by decide) ?_
    refine px_putI d_X12_text_49 fl_X12_158 rfl (so36 hL) ?_
    refine px_iconst (v := (-1)) d_X12_text_52 (by decide) ?_
    exact px_ireturn d_X12_text_53 rfl rfl ⟨rfl, rfl, rfl⟩
  · refine px_iload_n d_X12_text_9 rfl rfl ?_
    refine px_sipush (v := 719) d_X12_text_10 (by decide) ?_
    refine px_icmp_gt (tgt := 47) d_X12_text_13 (by decide) (fun c13 => ?_) (fun c13 => ?_)
    · refine px_aload_n d_X12_text_47 rfl rfl ?_
      refine px_iconst (v := 0) d_X12_text_48 (by decide) ?_
      refine px_putI d_X12_text_49 fl_X12_158 rfl (so36 hL) ?_
      refine px_iconst (v := (-1)) d_X12_text_52 (by decide) ?_
      exact px_ireturn d_X12_text_53 rfl rfl ⟨rfl, rfl, rfl⟩
    · refine px_aload_n d_X12_text_16 rfl rfl ?_
      refine px_getI d_X12_text_17 fl_X12_206 rfl (so36 hL) ?_
      refine px_val (y := nI t) ht ?_
      refine px_bipush (v := 8) d_X12_text_20 (by decide) ?_
      refine px_icmp_eq (tgt := 47) d_X12_text_22 (by decide) (fun c22 => ?_) (fun c22 => ?_)
      · refine px_aload_n d_X12_text_47 rfl rfl ?_
        refine px_iconst (v := 0) d_X12_text_48 (by decide) ?_
        refine px_putI d_X12_text_49 fl_X12_158 rfl (so36 hL) ?_
        refine px_iconst (v := (-1)) d_X12_text_52 (by decide) ?_
        exact px_ireturn d_X12_text_53 rfl rfl ⟨rfl, rfl, rfl⟩
      · refine px_aload_n d_X12_text_25 rfl rfl ?_
        refine px_getI d_X12_text_26 fl_X12_206 rfl (so36 hL) ?_
        refine px_val (y := nI t) ht ?_
        refine px_if_le (tgt := 54) d_X12_text_29 (by decide) (fun c29 => ?_) (fun c29 => ?_)
        · have t8 : ¬ t = 8 := fun q => c22 (by rw [q]; rfl)
          exact absurd ⟨⟨c6, c13⟩, by omega, by first | exact Or.inl (Nat.le_antisymm (Nat.not_lt.mp fun q => absurd c29 (nI_nle q (by omega))) (Nat.zero_le _)) | exact Or.inr (Int32.not_le.mpr c44)⟩ hv
        · refine px_iload_n d_X12_text_32 rfl rfl ?_
          refine px_aload_n d_X12_text_33 rfl rfl ?_
          refine px_getR d_X12_text_34 fl_X12_44 (by decide) (so36 hL) (sr36_11 hL) ?_
          refine px_aload_n d_X12_text_37 rfl rfl ?_
          have t0 : ¬ t = 0 := fun q => c29 (by rw [q]; decide)
          have t8 : ¬ t = 8 := fun q => c22 (by rw [q]; rfl)
          refine px_getI d_X12_text_38 fl_X12_206 rfl (so36 hL) ?_
          refine px_val (y := nI t) ht ?_
          refine px_iconst (v := 1) d_X12_text_41 (by decide) ?_
          refine px_isub d_X12_text_42 ?_
          refine px_val (y := nI (t - 1)) (nI_sub (b := 1) (by omega)) ?_
          refine px_iald d_X12_text_43 (sa42 hL) rfl (by omega) ?_
          refine px_val (y := hI h 42 (t - 1)) rfl ?_
          refine px_icmp_gt (tgt := 54) d_X12_text_44 (by decide) (fun c44 => ?_) (fun c44 => ?_)
          · have t8 : ¬ t = 8 := fun q => c22 (by rw [q]; rfl)
            exact absurd ⟨⟨c6, c13⟩, by omega, by first | exact Or.inl (Nat.le_antisymm (Nat.not_lt.mp fun q => absurd c29 (nI_nle q (by omega))) (Nat.zero_le _)) | exact Or.inr (Int32.not_le.mpr c44)⟩ hv
          · refine px_aload_n d_X12_text_47 rfl rfl ?_
            refine px_iconst (v := 0) d_X12_text_48 (by decide) ?_
            refine px_putI d_X12_text_49 fl_X12_158 rfl (so36 hL) ?_
            refine px_iconst (v := (-1)) d_X12_text_52 (by decide) ?_
            exact px_ireturn d_X12_text_53 rfl rfl ⟨rfl, rfl, rfl⟩
