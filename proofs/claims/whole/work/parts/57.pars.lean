/-- the reference's reading: at, the fault, how many codes, how deep; what waits, by depth; the codes -/
abbrev MS : Type := Nat × Int32 × Nat × Nat × (Nat → Int32) × (Nat → Int32) × (Nat → Int32) × (Nat → Int32) × (Nat → Int32)
def setM (h : PH) (m : MS) : PH := rI (rI (rI (rI (rI (pI (pI (pI (pI h 36 7 (nI m.1)) 36 8 m.2.1) 36 19 (nI m.2.2.1)) 36 20 (nI m.2.2.2.1)) 50 m.2.2.2.2.1) 51 m.2.2.2.2.2.1) 52 m.2.2.2.2.2.2.1) 48 m.2.2.2.2.2.2.2.1) 49 m.2.2.2.2.2.2.2.2
theorem sM_50 (h : PH) (a : Nat) (fl : Int32) (cd dp : Nat) (sw gw aw op on : Nat → Int32) (i : Nat) (v : Int32) : pI (setM h (a, fl, cd, dp, sw, gw, aw, op, on)) 50 i v = setM h (a, fl, cd, dp, (upf sw i v), gw, aw, op, on) := by
  refine PH.ext (fun x j => ?_) rfl
  unfold setM upf
  simp only [gI, hI_rI]
  by_cases h50 : x = 50 <;> by_cases h51 : x = 51 <;> by_cases h52 : x = 52 <;> by_cases h48 : x = 48 <;> by_cases h49 : x = 49 <;> first | omega | simp [h50, h51, h52, h48, h49]
theorem sM_51 (h : PH) (a : Nat) (fl : Int32) (cd dp : Nat) (sw gw aw op on : Nat → Int32) (i : Nat) (v : Int32) : pI (setM h (a, fl, cd, dp, sw, gw, aw, op, on)) 51 i v = setM h (a, fl, cd, dp, sw, (upf gw i v), aw, op, on) := by
  refine PH.ext (fun x j => ?_) rfl
  unfold setM upf
  simp only [gI, hI_rI]
  by_cases h50 : x = 50 <;> by_cases h51 : x = 51 <;> by_cases h52 : x = 52 <;> by_cases h48 : x = 48 <;> by_cases h49 : x = 49 <;> first | omega | simp [h50, h51, h52, h48, h49]
theorem sM_52 (h : PH) (a : Nat) (fl : Int32) (cd dp : Nat) (sw gw aw op on : Nat → Int32) (i : Nat) (v : Int32) : pI (setM h (a, fl, cd, dp, sw, gw, aw, op, on)) 52 i v = setM h (a, fl, cd, dp, sw, gw, (upf aw i v), op, on) := by
  refine PH.ext (fun x j => ?_) rfl
  unfold setM upf
  simp only [gI, hI_rI]
  by_cases h50 : x = 50 <;> by_cases h51 : x = 51 <;> by_cases h52 : x = 52 <;> by_cases h48 : x = 48 <;> by_cases h49 : x = 49 <;> first | omega | simp [h50, h51, h52, h48, h49]
theorem sM_48 (h : PH) (a : Nat) (fl : Int32) (cd dp : Nat) (sw gw aw op on : Nat → Int32) (i : Nat) (v : Int32) : pI (setM h (a, fl, cd, dp, sw, gw, aw, op, on)) 48 i v = setM h (a, fl, cd, dp, sw, gw, aw, (upf op i v), on) := by
  refine PH.ext (fun x j => ?_) rfl
  unfold setM upf
  simp only [gI, hI_rI]
  by_cases h50 : x = 50 <;> by_cases h51 : x = 51 <;> by_cases h52 : x = 52 <;> by_cases h48 : x = 48 <;> by_cases h49 : x = 49 <;> first | omega | simp [h50, h51, h52, h48, h49]
theorem sM_49 (h : PH) (a : Nat) (fl : Int32) (cd dp : Nat) (sw gw aw op on : Nat → Int32) (i : Nat) (v : Int32) : pI (setM h (a, fl, cd, dp, sw, gw, aw, op, on)) 49 i v = setM h (a, fl, cd, dp, sw, gw, aw, op, (upf on i v)) := by
  refine PH.ext (fun x j => ?_) rfl
  unfold setM upf
  simp only [gI, hI_rI]
  by_cases h50 : x = 50 <;> by_cases h51 : x = 51 <;> by_cases h52 : x = 52 <;> by_cases h48 : x = 48 <;> by_cases h49 : x = 49 <;> first | omega | simp [h50, h51, h52, h48, h49]
theorem sM_at (h : PH) (a : Nat) (fl : Int32) (cd dp : Nat) (sw gw aw op on : Nat → Int32) (v : Nat) : pI (setM h (a, fl, cd, dp, sw, gw, aw, op, on)) 36 7 (nI v) = setM h (v, fl, cd, dp, sw, gw, aw, op, on) := by
  refine PH.ext (fun x j => ?_) rfl
  unfold setM
  simp only [gI, hI_rI]
  by_cases h48 : x = 48
  · simp [h48]
  by_cases h49 : x = 49
  · simp [h49]
  by_cases h50 : x = 50
  · simp [h50]
  by_cases h51 : x = 51
  · simp [h51]
  by_cases h52 : x = 52
  · simp [h52]
  by_cases h2 : x = 36
  · by_cases h3 : j = 7 <;> by_cases h4 : j = 8 <;> by_cases h5 : j = 19 <;> by_cases h6 : j = 20 <;> first | omega | simp [gI, hI_rI, h48, h49, h50, h51, h52, h2, h3, h4, h5, h6]
  · simp [gI, hI_rI, h48, h49, h50, h51, h52, h2]
theorem sM_fl (h : PH) (a : Nat) (fl : Int32) (cd dp : Nat) (sw gw aw op on : Nat → Int32) (v : Int32) : pI (setM h (a, fl, cd, dp, sw, gw, aw, op, on)) 36 8 v = setM h (a, v, cd, dp, sw, gw, aw, op, on) := by
  refine PH.ext (fun x j => ?_) rfl
  unfold setM
  simp only [gI, hI_rI]
  by_cases h48 : x = 48
  · simp [h48]
  by_cases h49 : x = 49
  · simp [h49]
  by_cases h50 : x = 50
  · simp [h50]
  by_cases h51 : x = 51
  · simp [h51]
  by_cases h52 : x = 52
  · simp [h52]
  by_cases h2 : x = 36
  · by_cases h3 : j = 7 <;> by_cases h4 : j = 8 <;> by_cases h5 : j = 19 <;> by_cases h6 : j = 20 <;> first | omega | simp [gI, hI_rI, h48, h49, h50, h51, h52, h2, h3, h4, h5, h6]
  · simp [gI, hI_rI, h48, h49, h50, h51, h52, h2]
theorem sM_cd (h : PH) (a : Nat) (fl : Int32) (cd dp : Nat) (sw gw aw op on : Nat → Int32) (v : Nat) : pI (setM h (a, fl, cd, dp, sw, gw, aw, op, on)) 36 19 (nI v) = setM h (a, fl, v, dp, sw, gw, aw, op, on) := by
  refine PH.ext (fun x j => ?_) rfl
  unfold setM
  simp only [gI, hI_rI]
  by_cases h48 : x = 48
  · simp [h48]
  by_cases h49 : x = 49
  · simp [h49]
  by_cases h50 : x = 50
  · simp [h50]
  by_cases h51 : x = 51
  · simp [h51]
  by_cases h52 : x = 52
  · simp [h52]
  by_cases h2 : x = 36
  · by_cases h3 : j = 7 <;> by_cases h4 : j = 8 <;> by_cases h5 : j = 19 <;> by_cases h6 : j = 20 <;> first | omega | simp [gI, hI_rI, h48, h49, h50, h51, h52, h2, h3, h4, h5, h6]
  · simp [gI, hI_rI, h48, h49, h50, h51, h52, h2]
theorem sM_dp (h : PH) (a : Nat) (fl : Int32) (cd dp : Nat) (sw gw aw op on : Nat → Int32) (v : Nat) : pI (setM h (a, fl, cd, dp, sw, gw, aw, op, on)) 36 20 (nI v) = setM h (a, fl, cd, v, sw, gw, aw, op, on) := by
  refine PH.ext (fun x j => ?_) rfl
  unfold setM
  simp only [gI, hI_rI]
  by_cases h48 : x = 48
  · simp [h48]
  by_cases h49 : x = 49
  · simp [h49]
  by_cases h50 : x = 50
  · simp [h50]
  by_cases h51 : x = 51
  · simp [h51]
  by_cases h52 : x = 52
  · simp [h52]
  by_cases h2 : x = 36
  · by_cases h3 : j = 7 <;> by_cases h4 : j = 8 <;> by_cases h5 : j = 19 <;> by_cases h6 : j = 20 <;> first | omega | simp [gI, hI_rI, h48, h49, h50, h51, h52, h2, h3, h4, h5, h6]
  · simp [gI, hI_rI, h48, h49, h50, h51, h52, h2]
theorem setM_self {h : PH} {a cd dp : Nat} (h1 : hI h 36 7 = nI a) (h2 : hI h 36 19 = nI cd) (h3 : hI h 36 20 = nI dp) : setM h (a, hI h 36 8, cd, dp, hI h 50, hI h 51, hI h 52, hI h 48, hI h 49) = h := by
  unfold setM
  show rI (rI (rI (rI (rI (pI (pI (pI (pI h 36 7 (nI a)) 36 8 (hI h 36 8)) 36 19 (nI cd)) 36 20 (nI dp)) 50 (hI h 50)) 51 (hI h 51)) 52 (hI h 52)) 48 (hI h 48)) 49 (hI h 49) = h
  rw [← h1, pI_self, pI_self, ← h2, pI_self, ← h3, pI_self, rI_self, rI_self, rI_self, rI_self, rI_self]
/-- the tokens that were cut -/
def TKs (h : PH) (N : Nat) (tk : Nat → Int32) (pl : Nat → Nat) : Prop := N ≤ 600 ∧ ∀ i, i ≤ N → (∀ w, w < 9 → ((hI h 38 i = 1 ∧ hJ h 40 i = hJ h 41 w) ↔ tk i = -3 - nI w)) ∧ (hI h 38 i = 2 ↔ 0 ≤ tk i) ∧ (hI h 38 i = 2 → hJ h 40 i = (tk i).toInt64) ∧ (∀ c : Int32, c ∈ [40, 41, 59, 61, 60, 43, 45] → ((hI h 38 i = 3 ∧ hJ h 40 i = c.toInt64) ↔ tk i = sgnT c)) ∧ (hI h 38 i = 0 ↔ tk i = -1) ∧ hI h 39 i = nI (pl i) ∧ pl i ≤ 600
theorem lg_eq (x y : Int64) : lg_cmp x y = 0 ↔ x = y := by
  unfold lg_cmp
  by_cases h1 : y < x
  · have h2 : ¬ x = y := fun q => by rw [q] at h1; exact Int64.lt_irrefl h1
    simp [h1, h2]
  · by_cases h2 : x = y <;> simp [h1, h2]
def wrM (pl : Nat → Nat) (m : MS) (what : Nat) : MS := if m.2.1 = 0 then (m.1, nI (what + 16 * pl m.1), m.2.2) else m
theorem i16 (w p : Nat) : nI w + 16 * nI p = nI (w + 16 * p) := by
  show Int32.ofNat w + Int32.ofNat 16 * Int32.ofNat p = _
  rw [← Int32.ofNat_mul, ← Int32.ofNat_add]
  rfl
theorem c_X12_wrong {h : PH} {a : Nat} {fl : Int32} {cd dp : Nat} {sw gw aw op on : Nat → Int32} {wh : Int32} (hL : px_L h) {N : Nat} {tk : Nat → Int32} {pl : Nat → Nat} (hT : TKs h N tk pl) (ha : fl = 0 → a ≤ N) {w : Nat} (hw : wh = nI w) : PM M_X12_wrong [.ref 36, .int wh] (setM h (a, fl, cd, dp, sw, gw, aw, op, on)) none (setM h (wrM pl (a, fl, cd, dp, sw, gw, aw, op, on) w)) := by
  refine PM.of (by decide +kernel) (by decide +kernel) (Nat.le_refl (hn h)) (Nat.le_refl (hs h)) (Nat.le_of_ble_eq_true rfl) ?_
  refine px_aload_n d_X12_wrong_0 rfl rfl ?_
  refine px_getI d_X12_wrong_1 fl_X12_187 rfl (so36 hL) ?_
  refine px_val (y := fl) rfl ?_
  have hN6 := hT.1
  refine px_if_ne (tgt := 25) d_X12_wrong_4 (by decide) (fun c4 => ?_) (fun c4 => ?_)
  · exact px_return d_X12_wrong_25 rfl ⟨rfl, rfl, congrArg (setM h) (by first | exact (if_pos c4).symm | exact (if_neg c4).symm)⟩
  · refine px_aload_n d_X12_wrong_7 rfl rfl ?_
    refine px_iload_n d_X12_wrong_8 rfl rfl ?_
    refine px_bipush (v := 16) d_X12_wrong_9 (by decide) ?_
    refine px_aload_n d_X12_wrong_11 rfl rfl ?_
    refine px_getR d_X12_wrong_12 fl_X12_16 (by decide) (so36 hL) (sr36_5 hL) ?_
    refine px_aload_n d_X12_wrong_15 rfl rfl ?_
    refine px_getI d_X12_wrong_16 fl_X12_184 rfl (so36 hL) ?_
    refine px_val (y := nI a) rfl ?_
    refine px_iald d_X12_wrong_19 (sa39 hL) rfl (by have := ha c4; omega) ?_
    refine px_val (y := nI (pl a)) (hT.2 a (ha c4)).2.2.2.2.2.1 ?_
    refine px_imul d_X12_wrong_20 ?_
    refine px_iadd d_X12_wrong_21 ?_
    refine px_val (y := nI (w + 16 * pl a)) (by rw [hw]; exact i16 w (pl a)) ?_
    refine px_putI d_X12_wrong_22 fl_X12_187 rfl (so36 hL) ?_
    refine px_heap (h2 := setM h (a, nI (w + 16 * pl a), cd, dp, sw, gw, aw, op, on)) (sM_fl ..) ?_
    exact px_return d_X12_wrong_25 rfl ⟨rfl, rfl, congrArg (setM h) (by first | exact (if_pos c4).symm | exact (if_neg c4).symm)⟩
theorem c_X12_isSign {h : PH} {a : Nat} {fl : Int32} {cd dp : Nat} {sw gw aw op on : Nat → Int32} {c : Int32} (hL : px_L h) {N : Nat} {tk : Nat → Int32} {pl : Nat → Nat} (hT : TKs h N tk pl) (ha : fl = 0 → a ≤ N) (hc : (c : Int32) ∈ [40, 41, 59, 61, 60, 43, 45]) : PM M_X12_isSign [.ref 36, .int c] (setM h (a, fl, cd, dp, sw, gw, aw, op, on)) (some (.int (bI (fl = 0 ∧ tk a = sgnT c)))) (setM h (a, fl, cd, dp, sw, gw, aw, op, on)) := by
  refine PM.of (by decide +kernel) (by decide +kernel) (Nat.le_refl (hn h)) (Nat.le_refl (hs h)) (Nat.le_of_ble_eq_true rfl) ?_
  refine px_aload_n d_X12_isSign_0 rfl rfl ?_
  refine px_getI d_X12_isSign_1 fl_X12_187 rfl (so36 hL) ?_
  refine px_val (y := fl) rfl ?_
  have hN6 := hT.1
  refine px_if_ne (tgt := 39) d_X12_isSign_4 (by decide) (fun c4 => ?_) (fun c4 => ?_)
  · refine px_iconst (v := 0) d_X12_isSign_39 (by decide) ?_
    exact px_ireturn d_X12_isSign_40 rfl (by first | rfl | decide) ⟨rfl, px_si (by first | exact (bI_0.mpr (fun q => c4 q.1)).symm | exact (bI_0.mpr (fun q => c17 (((hT.2 a (ha c4)).2.2.2.1 c hc).mpr q.2).1)).symm | exact (bI_0.mpr (fun q => c32 ((lg_eq _ _).mpr (((hT.2 a (ha c4)).2.2.2.1 c hc).mpr q.2).2))).symm | exact (if_pos ⟨c4, ((hT.2 a (ha c4)).2.2.2.1 c hc).mp ⟨c17, (lg_eq _ _).mp c32⟩⟩).symm), rfl⟩
  · refine px_aload_n d_X12_isSign_7 rfl rfl ?_
    refine px_getR d_X12_isSign_8 fl_X12_13 (by decide) (so36 hL) (sr36_4 hL) ?_
    refine px_aload_n d_X12_isSign_11 rfl rfl ?_
    refine px_getI d_X12_isSign_12 fl_X12_184 rfl (so36 hL) ?_
    refine px_val (y := nI a) rfl ?_
    refine px_iald d_X12_isSign_15 (sa38 hL) rfl (by have := ha c4; omega) ?_
    refine px_val (y := hI h 38 a) rfl ?_
    refine px_iconst (v := 3) d_X12_isSign_16 (by decide) ?_
    refine px_icmp_ne (tgt := 39) d_X12_isSign_17 (by decide) (fun c17 => ?_) (fun c17 => ?_)
    · refine px_iconst (v := 0) d_X12_isSign_39 (by decide) ?_
      exact px_ireturn d_X12_isSign_40 rfl (by first | rfl | decide) ⟨rfl, px_si (by first | exact (bI_0.mpr (fun q => c4 q.1)).symm | exact (bI_0.mpr (fun q => c17 (((hT.2 a (ha c4)).2.2.2.1 c hc).mpr q.2).1)).symm | exact (bI_0.mpr (fun q => c32 ((lg_eq _ _).mpr (((hT.2 a (ha c4)).2.2.2.1 c hc).mpr q.2).2))).symm | exact (if_pos ⟨c4, ((hT.2 a (ha c4)).2.2.2.1 c hc).mp ⟨c17, (lg_eq _ _).mp c32⟩⟩).symm), rfl⟩
    · refine px_aload_n d_X12_isSign_20 rfl rfl ?_
      refine px_getR d_X12_isSign_21 fl_X12_19 (by decide) (so36 hL) (sr36_6 hL) ?_
      refine px_aload_n d_X12_isSign_24 rfl rfl ?_
      refine px_getI d_X12_isSign_25 fl_X12_184 rfl (so36 hL) ?_
      refine px_val (y := nI a) rfl ?_
      refine px_lald d_X12_isSign_28 (sa40 hL) rfl (by have := ha c4; omega) ?_
      refine px_vall (y := hJ h 40 a) rfl ?_
      refine px_iload_n d_X12_isSign_29 rfl rfl ?_
      refine px_i2l d_X12_isSign_30 ?_
      refine px_lcmp d_X12_isSign_31 ?_
      refine px_if_ne (tgt := 39) d_X12_isSign_32 (by decide) (fun c32 => ?_) (fun c32 => ?_)
      · refine px_iconst (v := 0) d_X12_isSign_39 (by decide) ?_
        exact px_ireturn d_X12_isSign_40 rfl (by first | rfl | decide) ⟨rfl, px_si (by first | exact (bI_0.mpr (fun q => c4 q.1)).symm | exact (bI_0.mpr (fun q => c17 (((hT.2 a (ha c4)).2.2.2.1 c hc).mpr q.2).1)).symm | exact (bI_0.mpr (fun q => c32 ((lg_eq _ _).mpr (((hT.2 a (ha c4)).2.2.2.1 c hc).mpr q.2).2))).symm | exact (if_pos ⟨c4, ((hT.2 a (ha c4)).2.2.2.1 c hc).mp ⟨c17, (lg_eq _ _).mp c32⟩⟩).symm), rfl⟩
      · refine px_iconst (v := 1) d_X12_isSign_35 (by decide) ?_
        refine px_goto (tgt := 40) d_X12_isSign_36 (by decide) ?_
        exact px_ireturn d_X12_isSign_40 rfl (by first | rfl | decide) ⟨rfl, px_si (by first | exact (bI_0.mpr (fun q => c4 q.1)).symm | exact (bI_0.mpr (fun q => c17 (((hT.2 a (ha c4)).2.2.2.1 c hc).mpr q.2).1)).symm | exact (bI_0.mpr (fun q => c32 ((lg_eq _ _).mpr (((hT.2 a (ha c4)).2.2.2.1 c hc).mpr q.2).2))).symm | exact (if_pos ⟨c4, ((hT.2 a (ha c4)).2.2.2.1 c hc).mp ⟨c17, (lg_eq _ _).mp c32⟩⟩).symm), rfl⟩
theorem c_X12_isWord {h : PH} {a : Nat} {fl : Int32} {cd dp : Nat} {sw gw aw op on : Nat → Int32} (hL : px_L h) {N : Nat} {tk : Nat → Int32} {pl : Nat → Nat} (hT : TKs h N tk pl) (ha : fl = 0 → a ≤ N) {w : Nat} (hw : w < 9) : PM M_X12_isWord [.ref 36, .int (nI w)] (setM h (a, fl, cd, dp, sw, gw, aw, op, on)) (some (.int (bI (fl = 0 ∧ tk a = -3 - nI w)))) (setM h (a, fl, cd, dp, sw, gw, aw, op, on)) := by
  refine PM.of (by decide +kernel) (by decide +kernel) (Nat.le_refl (hn h)) (Nat.le_refl (hs h)) (Nat.le_of_ble_eq_true rfl) ?_
  refine px_aload_n d_X12_isWord_0 rfl rfl ?_
  refine px_getI d_X12_isWord_1 fl_X12_187 rfl (so36 hL) ?_
  refine px_val (y := fl) rfl ?_
  have hN6 := hT.1
  refine px_if_ne (tgt := 43) d_X12_isWord_4 (by decide) (fun c4 => ?_) (fun c4 => ?_)
  · refine px_iconst (v := 0) d_X12_isWord_43 (by decide) ?_
    exact px_ireturn d_X12_isWord_44 rfl (by first | rfl | decide) ⟨rfl, px_si (by first | exact (bI_0.mpr (fun q => c4 q.1)).symm | exact (bI_0.mpr (fun q => c17 (((hT.2 a (ha c4)).1 w hw).mpr q.2).1)).symm | exact (bI_0.mpr (fun q => c36 ((lg_eq _ _).mpr (((hT.2 a (ha c4)).1 w hw).mpr q.2).2))).symm | exact (if_pos ⟨c4, ((hT.2 a (ha c4)).1 w hw).mp ⟨c17, (lg_eq _ _).mp c36⟩⟩).symm), rfl⟩
  · refine px_aload_n d_X12_isWord_7 rfl rfl ?_
    refine px_getR d_X12_isWord_8 fl_X12_13 (by decide) (so36 hL) (sr36_4 hL) ?_
    refine px_aload_n d_X12_isWord_11 rfl rfl ?_
    refine px_getI d_X12_isWord_12 fl_X12_184 rfl (so36 hL) ?_
    refine px_val (y := nI a) rfl ?_
    refine px_iald d_X12_isWord_15 (sa38 hL) rfl (by have := ha c4; omega) ?_
    refine px_val (y := hI h 38 a) rfl ?_
    refine px_iconst (v := 1) d_X12_isWord_16 (by decide) ?_
    refine px_icmp_ne (tgt := 43) d_X12_isWord_17 (by decide) (fun c17 => ?_) (fun c17 => ?_)
    · refine px_iconst (v := 0) d_X12_isWord_43 (by decide) ?_
      exact px_ireturn d_X12_isWord_44 rfl (by first | rfl | decide) ⟨rfl, px_si (by first | exact (bI_0.mpr (fun q => c4 q.1)).symm | exact (bI_0.mpr (fun q => c17 (((hT.2 a (ha c4)).1 w hw).mpr q.2).1)).symm | exact (bI_0.mpr (fun q => c36 ((lg_eq _ _).mpr (((hT.2 a (ha c4)).1 w hw).mpr q.2).2))).symm | exact (if_pos ⟨c4, ((hT.2 a (ha c4)).1 w hw).mp ⟨c17, (lg_eq _ _).mp c36⟩⟩).symm), rfl⟩
    · refine px_aload_n d_X12_isWord_20 rfl rfl ?_
      refine px_getR d_X12_isWord_21 fl_X12_19 (by decide) (so36 hL) (sr36_6 hL) ?_
      refine px_aload_n d_X12_isWord_24 rfl rfl ?_
      refine px_getI d_X12_isWord_25 fl_X12_184 rfl (so36 hL) ?_
      refine px_val (y := nI a) rfl ?_
      refine px_lald d_X12_isWord_28 (sa40 hL) rfl (by have := ha c4; omega) ?_
      refine px_vall (y := hJ h 40 a) rfl ?_
      refine px_aload_n d_X12_isWord_29 rfl rfl ?_
      refine px_getR d_X12_isWord_30 fl_X12_41 (by decide) (so36 hL) (sr36_9 hL) ?_
      refine px_iload_n d_X12_isWord_33 rfl rfl ?_
      refine px_lald d_X12_isWord_34 (sa41 hL) rfl hw ?_
      refine px_vall (y := hJ h 41 w) rfl ?_
      refine px_lcmp d_X12_isWord_35 ?_
      refine px_if_ne (tgt := 43) d_X12_isWord_36 (by decide) (fun c36 => ?_) (fun c36 => ?_)
      · refine px_iconst (v := 0) d_X12_isWord_43 (by decide) ?_
        exact px_ireturn d_X12_isWord_44 rfl (by first | rfl | decide) ⟨rfl, px_si (by first | exact (bI_0.mpr (fun q => c4 q.1)).symm | exact (bI_0.mpr (fun q => c17 (((hT.2 a (ha c4)).1 w hw).mpr q.2).1)).symm | exact (bI_0.mpr (fun q => c36 ((lg_eq _ _).mpr (((hT.2 a (ha c4)).1 w hw).mpr q.2).2))).symm | exact (if_pos ⟨c4, ((hT.2 a (ha c4)).1 w hw).mp ⟨c17, (lg_eq _ _).mp c36⟩⟩).symm), rfl⟩
      · refine px_iconst (v := 1) d_X12_isWord_39 (by decide) ?_
        refine px_goto (tgt := 44) d_X12_isWord_40 (by decide) ?_
        exact px_ireturn d_X12_isWord_44 rfl (by first | rfl | decide) ⟨rfl, px_si (by first | exact (bI_0.mpr (fun q => c4 q.1)).symm | exact (bI_0.mpr (fun q => c17 (((hT.2 a (ha c4)).1 w hw).mpr q.2).1)).symm | exact (bI_0.mpr (fun q => c36 ((lg_eq _ _).mpr (((hT.2 a (ha c4)).1 w hw).mpr q.2).2))).symm | exact (if_pos ⟨c4, ((hT.2 a (ha c4)).1 w hw).mp ⟨c17, (lg_eq _ _).mp c36⟩⟩).symm), rfl⟩
def tkM (tk : Nat → Int32) (pl : Nat → Nat) (m : MS) (x : Int32) : MS := if m.2.1 = 0 ∧ tk m.1 = x then (m.1 + 1, m.2) else wrM pl m 1
def hsM (tk : Nat → Int32) (m : MS) (x : Int32) : MS := if m.2.1 = 0 ∧ tk m.1 = x then (m.1 + 1, m.2) else m
theorem c_X12_takeSign {h : PH} {a : Nat} {fl : Int32} {cd dp : Nat} {sw gw aw op on : Nat → Int32} {c : Int32} (hL : px_L h) {N : Nat} {tk : Nat → Int32} {pl : Nat → Nat} (hT : TKs h N tk pl) (ha : fl = 0 → a ≤ N) (hc : (c : Int32) ∈ [40, 41, 59, 61, 60, 43, 45]) : PM M_X12_takeSign [.ref 36, .int c] (setM h (a, fl, cd, dp, sw, gw, aw, op, on)) none (setM h (tkM tk pl (a, fl, cd, dp, sw, gw, aw, op, on) (sgnT c))) := by
  refine PM.of (by decide +kernel) (by decide +kernel) (Nat.le_refl (hn h)) (Nat.le_refl (hs h)) (Nat.le_of_ble_eq_true rfl) ?_
  refine px_aload_n d_X12_takeSign_0 rfl rfl ?_
  refine px_iload_n d_X12_takeSign_1 rfl rfl ?_
  refine px_callV (c_X12_isSign hL hT ha hc) d_X12_takeSign_2 lk_X12_190 ok_X12_isSign ov_X12_isSign (so36 hL) (by decide) rfl rfl (Nat.le_of_ble_eq_true rfl) (by decide) ⟨Nat.le_refl (hn h), Nat.le_refl (hs h)⟩ ?_
  refine px_if_eq (tgt := 21) d_X12_takeSign_5 (by decide) (fun c5 => ?_) (fun c5 => ?_)
  · refine px_aload_n d_X12_takeSign_21 rfl rfl ?_
    refine px_iconst (v := 1) d_X12_takeSign_22 (by decide) ?_
    refine px_callV (c_X12_wrong (w := 1) hL hT ha rfl) d_X12_takeSign_23 lk_X12_193 ok_X12_wrong ov_X12_wrong (so36 hL) (by decide) rfl rfl (Nat.le_of_ble_eq_true rfl) (by decide) ⟨Nat.le_refl (hn h), Nat.le_refl (hs h)⟩ ?_
    exact px_return d_X12_takeSign_26 rfl ⟨rfl, rfl, congrArg (setM h) (by first | exact (if_pos (bI_n.mp c5)).symm | exact (if_neg (bI_0.mp c5)).symm)⟩
  · refine px_aload_n d_X12_takeSign_8 rfl rfl ?_
    refine px_dup d_X12_takeSign_9 rfl ?_
    refine px_getI d_X12_takeSign_10 fl_X12_184 rfl (so36 hL) ?_
    refine px_val (y := nI a) rfl ?_
    refine px_iconst (v := 1) d_X12_takeSign_13 (by decide) ?_
    refine px_iadd d_X12_takeSign_14 ?_
    refine px_putI d_X12_takeSign_15 fl_X12_184 rfl (so36 hL) ?_
    refine px_heap (h2 := setM h (a + 1, fl, cd, dp, sw, gw, aw, op, on)) ((congrArg (pI _ _ _) (nI_s1 a)).trans (sM_at ..)) ?_
    refine px_goto (tgt := 26) d_X12_takeSign_18 (by decide) ?_
    exact px_return d_X12_takeSign_26 rfl ⟨rfl, rfl, congrArg (setM h) (by first | exact (if_pos (bI_n.mp c5)).symm | exact (if_neg (bI_0.mp c5)).symm)⟩
theorem c_X12_hasSign {h : PH} {a : Nat} {fl : Int32} {cd dp : Nat} {sw gw aw op on : Nat → Int32} {c : Int32} (hL : px_L h) {N : Nat} {tk : Nat → Int32} {pl : Nat → Nat} (hT : TKs h N tk pl) (ha : fl = 0 → a ≤ N) (hc : (c : Int32) ∈ [40, 41, 59, 61, 60, 43, 45]) : PM M_X12_hasSign [.ref 36, .int c] (setM h (a, fl, cd, dp, sw, gw, aw, op, on)) (some (.int (bI (fl = 0 ∧ tk a = (sgnT c))))) (setM h (hsM tk (a, fl, cd, dp, sw, gw, aw, op, on) (sgnT c))) := by
  refine PM.of (by decide +kernel) (by decide +kernel) (Nat.le_refl (hn h)) (Nat.le_refl (hs h)) (Nat.le_of_ble_eq_true rfl) ?_
  refine px_aload_n d_X12_hasSign_0 rfl rfl ?_
  refine px_iload_n d_X12_hasSign_1 rfl rfl ?_
  refine px_callV (c_X12_isSign hL hT ha hc) d_X12_hasSign_2 lk_X12_190 ok_X12_isSign ov_X12_isSign (so36 hL) (by decide) rfl rfl (Nat.le_of_ble_eq_true rfl) (by decide) ⟨Nat.le_refl (hn h), Nat.le_refl (hs h)⟩ ?_
  refine px_istore_n d_X12_hasSign_5 rfl (by decide) ?_
  refine px_aload_n d_X12_hasSign_6 rfl rfl ?_
  refine px_dup d_X12_hasSign_7 rfl ?_
  refine px_getI d_X12_hasSign_8 fl_X12_184 rfl (so36 hL) ?_
  refine px_val (y := nI a) rfl ?_
  refine px_iload_n d_X12_hasSign_11 rfl rfl ?_
  refine px_if_eq (tgt := 19) d_X12_hasSign_12 (by decide) (fun c12 => ?_) (fun c12 => ?_)
  · refine px_iconst (v := 0) d_X12_hasSign_19 (by decide) ?_
    refine px_iadd d_X12_hasSign_20 ?_
    refine px_val (y := nI (hsM tk (a, fl, cd, dp, sw, gw, aw, op, on) (sgnT c)).1) (by unfold hsM; first | (rw [if_pos (bI_n.mp c12)]; exact nI_s1 a) | (rw [if_neg (bI_0.mp c12)]; exact Int32.add_zero _)) ?_
    refine px_putI d_X12_hasSign_21 fl_X12_184 rfl (so36 hL) ?_
    refine px_heap (h2 := setM h (hsM tk (a, fl, cd, dp, sw, gw, aw, op, on) (sgnT c))) ((sM_at ..).trans (congrArg (setM h) (by unfold hsM; first | rw [if_pos (bI_n.mp c12)] | rw [if_neg (bI_0.mp c12)]))) ?_
    refine px_iload_n d_X12_hasSign_24 rfl rfl ?_
    exact px_ireturn d_X12_hasSign_25 rfl bI_nar ⟨rfl, rfl, rfl⟩
  · refine px_iconst (v := 1) d_X12_hasSign_15 (by decide) ?_
    refine px_goto (tgt := 20) d_X12_hasSign_16 (by decide) ?_
    refine px_iadd d_X12_hasSign_20 ?_
    refine px_val (y := nI (hsM tk (a, fl, cd, dp, sw, gw, aw, op, on) (sgnT c)).1) (by unfold hsM; first | (rw [if_pos (bI_n.mp c12)]; exact nI_s1 a) | (rw [if_neg (bI_0.mp c12)]; exact Int32.add_zero _)) ?_
    refine px_putI d_X12_hasSign_21 fl_X12_184 rfl (so36 hL) ?_
    refine px_heap (h2 := setM h (hsM tk (a, fl, cd, dp, sw, gw, aw, op, on) (sgnT c))) ((sM_at ..).trans (congrArg (setM h) (by unfold hsM; first | rw [if_pos (bI_n.mp c12)] | rw [if_neg (bI_0.mp c12)]))) ?_
    refine px_iload_n d_X12_hasSign_24 rfl rfl ?_
    exact px_ireturn d_X12_hasSign_25 rfl bI_nar ⟨rfl, rfl, rfl⟩
theorem c_X12_hasWord {h : PH} {a : Nat} {fl : Int32} {cd dp : Nat} {sw gw aw op on : Nat → Int32} {w : Nat} (hL : px_L h) {N : Nat} {tk : Nat → Int32} {pl : Nat → Nat} (hT : TKs h N tk pl) (ha : fl = 0 → a ≤ N) (hw : w < 9) : PM M_X12_hasWord [.ref 36, .int (nI w)] (setM h (a, fl, cd, dp, sw, gw, aw, op, on)) (some (.int (bI (fl = 0 ∧ tk a = (-3 - nI w))))) (setM h (hsM tk (a, fl, cd, dp, sw, gw, aw, op, on) (-3 - nI w))) := by
  refine PM.of (by decide +kernel) (by decide +kernel) (Nat.le_refl (hn h)) (Nat.le_refl (hs h)) (Nat.le_of_ble_eq_true rfl) ?_
  refine px_aload_n d_X12_hasWord_0 rfl rfl ?_
  refine px_iload_n d_X12_hasWord_1 rfl rfl ?_
  refine px_callV (c_X12_isWord hL hT ha hw) d_X12_hasWord_2 lk_X12_197 ok_X12_isWord ov_X12_isWord (so36 hL) (by decide) rfl rfl (Nat.le_of_ble_eq_true rfl) (by decide) ⟨Nat.le_refl (hn h), Nat.le_refl (hs h)⟩ ?_
  refine px_istore_n d_X12_hasWord_5 rfl (by decide) ?_
  refine px_aload_n d_X12_hasWord_6 rfl rfl ?_
  refine px_dup d_X12_hasWord_7 rfl ?_
  refine px_getI d_X12_hasWord_8 fl_X12_184 rfl (so36 hL) ?_
  refine px_val (y := nI a) rfl ?_
  refine px_iload_n d_X12_hasWord_11 rfl rfl ?_
  refine px_if_eq (tgt := 19) d_X12_hasWord_12 (by decide) (fun c12 => ?_) (fun c12 => ?_)
  · refine px_iconst (v := 0) d_X12_hasWord_19 (by decide) ?_
    refine px_iadd d_X12_hasWord_20 ?_
    refine px_val (y := nI (hsM tk (a, fl, cd, dp, sw, gw, aw, op, on) (-3 - nI w)).1) (by unfold hsM; first | (rw [if_pos (bI_n.mp c12)]; exact nI_s1 a) | (rw [if_neg (bI_0.mp c12)]; exact Int32.add_zero _)) ?_
    refine px_putI d_X12_hasWord_21 fl_X12_184 rfl (so36 hL) ?_
    refine px_heap (h2 := setM h (hsM tk (a, fl, cd, dp, sw, gw, aw, op, on) (-3 - nI w))) ((sM_at ..).trans (congrArg (setM h) (by unfold hsM; first | rw [if_pos (bI_n.mp c12)] | rw [if_neg (bI_0.mp c12)]))) ?_
    refine px_iload_n d_X12_hasWord_24 rfl rfl ?_
    exact px_ireturn d_X12_hasWord_25 rfl bI_nar ⟨rfl, rfl, rfl⟩
  · refine px_iconst (v := 1) d_X12_hasWord_15 (by decide) ?_
    refine px_goto (tgt := 20) d_X12_hasWord_16 (by decide) ?_
    refine px_iadd d_X12_hasWord_20 ?_
    refine px_val (y := nI (hsM tk (a, fl, cd, dp, sw, gw, aw, op, on) (-3 - nI w)).1) (by unfold hsM; first | (rw [if_pos (bI_n.mp c12)]; exact nI_s1 a) | (rw [if_neg (bI_0.mp c12)]; exact Int32.add_zero _)) ?_
    refine px_putI d_X12_hasWord_21 fl_X12_184 rfl (so36 hL) ?_
    refine px_heap (h2 := setM h (hsM tk (a, fl, cd, dp, sw, gw, aw, op, on) (-3 - nI w))) ((sM_at ..).trans (congrArg (setM h) (by unfold hsM; first | rw [if_pos (bI_n.mp c12)] | rw [if_neg (bI_0.mp c12)]))) ?_
    refine px_iload_n d_X12_hasWord_24 rfl rfl ?_
    exact px_ireturn d_X12_hasWord_25 rfl bI_nar ⟨rfl, rfl, rfl⟩
theorem c_X12_takeWord {h : PH} {a : Nat} {fl : Int32} {cd dp : Nat} {sw gw aw op on : Nat → Int32} {w : Nat} (hL : px_L h) {N : Nat} {tk : Nat → Int32} {pl : Nat → Nat} (hT : TKs h N tk pl) (ha : fl = 0 → a ≤ N) (hw : w < 9) : PM M_X12_takeWord [.ref 36, .int (nI w)] (setM h (a, fl, cd, dp, sw, gw, aw, op, on)) none (setM h (tkM tk pl (a, fl, cd, dp, sw, gw, aw, op, on) (-3 - nI w))) := by
  refine PM.of (by decide +kernel) (by decide +kernel) (Nat.le_refl (hn h)) (Nat.le_refl (hs h)) (Nat.le_of_ble_eq_true rfl) ?_
  refine px_aload_n d_X12_takeWord_0 rfl rfl ?_
  refine px_iload_n d_X12_takeWord_1 rfl rfl ?_
  refine px_callV (c_X12_hasWord hL hT ha hw) d_X12_takeWord_2 lk_X12_200 ok_X12_hasWord ov_X12_hasWord (so36 hL) (by decide) rfl rfl (Nat.le_of_ble_eq_true rfl) (by decide) ⟨Nat.le_refl (hn h), Nat.le_refl (hs h)⟩ ?_
  refine px_if_ne (tgt := 13) d_X12_takeWord_5 (by decide) (fun c5 => ?_) (fun c5 => ?_)
  · exact px_return d_X12_takeWord_13 rfl ⟨rfl, rfl, congrArg (setM h) (by first | exact (if_neg (bI_0.mp c5)).symm | (unfold hsM tkM; rw [if_pos (bI_n.mp c5), if_pos (bI_n.mp c5)]))⟩
  · refine px_aload_n d_X12_takeWord_8 rfl rfl ?_
    refine px_iconst (v := 1) d_X12_takeWord_9 (by decide) ?_
    have hq := bI_0.mp c5
    refine px_heap (h2 := setM h (a, fl, cd, dp, sw, gw, aw, op, on)) (congrArg (setM h) (if_neg hq)) ?_
    refine px_callV (c_X12_wrong (w := 1) hL hT ha rfl) d_X12_takeWord_10 lk_X12_193 ok_X12_wrong ov_X12_wrong (so36 hL) (by decide) rfl rfl (Nat.le_of_ble_eq_true rfl) (by decide) ⟨Nat.le_refl (hn h), Nat.le_refl (hs h)⟩ ?_
    exact px_return d_X12_takeWord_13 rfl ⟨rfl, rfl, congrArg (setM h) (by first | exact (if_neg (bI_0.mp c5)).symm | (unfold hsM tkM; rw [if_pos (bI_n.mp c5), if_pos (bI_n.mp c5)]))⟩
def emM (m : MS) (c x : Int32) : MS := (m.1, m.2.1, m.2.2.1 + 1, m.2.2.2.1, m.2.2.2.2.1, m.2.2.2.2.2.1, m.2.2.2.2.2.2.1, upf m.2.2.2.2.2.2.2.1 (5280 + m.2.2.1) c, upf m.2.2.2.2.2.2.2.2 (5280 + m.2.2.1) x)
def opM (m : MS) : MS := (m.1, m.2.1, m.2.2.1, m.2.2.2.1, upf m.2.2.2.2.1 m.2.2.2.1 0, upf m.2.2.2.2.2.1 m.2.2.2.1 0, upf m.2.2.2.2.2.2.1 m.2.2.2.1 0, m.2.2.2.2.2.2.2)
theorem nI_5280 (c : Nat) : 5280 + nI c = nI (5280 + c) := nI_add 5280 c
theorem c_X12_emit {h : PH} {a : Nat} {fl : Int32} {cd dp : Nat} {sw gw aw op on : Nat → Int32} {c x : Int32} (hL : px_L h) (hcd : cd < 660) : PM M_X12_emit [.ref 36, .int c, .int x] (setM h (a, fl, cd, dp, sw, gw, aw, op, on)) none (setM h (emM (a, fl, cd, dp, sw, gw, aw, op, on) c x)) := by
  refine PM.of (by decide +kernel) (by decide +kernel) (Nat.le_refl (hn h)) (Nat.le_refl (hs h)) (Nat.le_of_ble_eq_true rfl) ?_
  refine px_aload_n d_X12_emit_0 rfl rfl ?_
  refine px_getR d_X12_emit_1 fl_X12_63 (by decide) (so36 hL) (sr36_17 hL) ?_
  refine px_sipush (v := 5280) d_X12_emit_4 (by decide) ?_
  refine px_aload_n d_X12_emit_7 rfl rfl ?_
  refine px_getI d_X12_emit_8 fl_X12_203 rfl (so36 hL) ?_
  refine px_val (y := nI cd) rfl ?_
  refine px_iadd d_X12_emit_11 ?_
  refine px_val (y := nI (5280 + cd)) (nI_5280 cd) ?_
  refine px_iload_n d_X12_emit_12 rfl rfl ?_
  refine px_iast d_X12_emit_13 (sa48 hL) rfl (by omega) ?_
  refine px_heap (h2 := setM h (a, fl, cd, dp, sw, gw, aw, (upf op (5280 + cd) c), on)) (sM_48 ..) ?_
  refine px_aload_n d_X12_emit_14 rfl rfl ?_
  refine px_getR d_X12_emit_15 fl_X12_66 (by decide) (so36 hL) (sr36_18 hL) ?_
  refine px_sipush (v := 5280) d_X12_emit_18 (by decide) ?_
  refine px_aload_n d_X12_emit_21 rfl rfl ?_
  refine px_getI d_X12_emit_22 fl_X12_203 rfl (so36 hL) ?_
  refine px_val (y := nI cd) rfl ?_
  refine px_iadd d_X12_emit_25 ?_
  refine px_val (y := nI (5280 + cd)) (nI_5280 cd) ?_
  refine px_iload_n d_X12_emit_26 rfl rfl ?_
  refine px_iast d_X12_emit_27 (sa49 hL) rfl (by omega) ?_
  refine px_heap (h2 := setM h (a, fl, cd, dp, sw, gw, aw, (upf op (5280 + cd) c), (upf on (5280 + cd) x))) (sM_49 ..) ?_
  refine px_aload_n d_X12_emit_28 rfl rfl ?_
  refine px_dup d_X12_emit_29 rfl ?_
  refine px_getI d_X12_emit_30 fl_X12_203 rfl (so36 hL) ?_
  refine px_val (y := nI cd) rfl ?_
  refine px_iconst (v := 1) d_X12_emit_33 (by decide) ?_
  refine px_iadd d_X12_emit_34 ?_
  refine px_putI d_X12_emit_35 fl_X12_203 rfl (so36 hL) ?_
  refine px_heap (h2 := setM h (emM (a, fl, cd, dp, sw, gw, aw, op, on) c x)) ((congrArg (pI _ _ _) (nI_s1 cd)).trans (sM_cd ..)) ?_
  exact px_return d_X12_emit_38 rfl ⟨rfl, rfl, rfl⟩
theorem c_X12_opens {h : PH} {a : Nat} {fl : Int32} {cd dp : Nat} {sw gw aw op on : Nat → Int32} (hL : px_L h) (hdp : dp < 7) : PM M_X12_opens [.ref 36] (setM h (a, fl, cd, dp, sw, gw, aw, op, on)) none (setM h (opM (a, fl, cd, dp, sw, gw, aw, op, on))) := by
  refine PM.of (by decide +kernel) (by decide +kernel) (Nat.le_refl (hn h)) (Nat.le_refl (hs h)) (Nat.le_of_ble_eq_true rfl) ?_
  refine px_aload_n d_X12_opens_0 rfl rfl ?_
  refine px_getR d_X12_opens_1 fl_X12_69 (by decide) (so36 hL) (sr36_21 hL) ?_
  refine px_aload_n d_X12_opens_4 rfl rfl ?_
  refine px_getI d_X12_opens_5 fl_X12_226 rfl (so36 hL) ?_
  refine px_val (y := nI dp) rfl ?_
  refine px_iconst (v := 0) d_X12_opens_8 (by decide) ?_
  refine px_iast d_X12_opens_9 (sa50 hL) rfl hdp ?_
  refine px_heap (h2 := setM h (a, fl, cd, dp, (upf sw dp 0), gw, aw, op, on)) (sM_50 ..) ?_
  refine px_aload_n d_X12_opens_10 rfl rfl ?_
  refine px_getR d_X12_opens_11 fl_X12_72 (by decide) (so36 hL) (sr36_22 hL) ?_
  refine px_aload_n d_X12_opens_14 rfl rfl ?_
  refine px_getI d_X12_opens_15 fl_X12_226 rfl (so36 hL) ?_
  refine px_val (y := nI dp) rfl ?_
  refine px_iconst (v := 0) d_X12_opens_18 (by decide) ?_
  refine px_iast d_X12_opens_19 (sa51 hL) rfl hdp ?_
  refine px_heap (h2 := setM h (a, fl, cd, dp, (upf sw dp 0), (upf gw dp 0), aw, op, on)) (sM_51 ..) ?_
  refine px_aload_n d_X12_opens_20 rfl rfl ?_
  refine px_getR d_X12_opens_21 fl_X12_75 (by decide) (so36 hL) (sr36_23 hL) ?_
  refine px_aload_n d_X12_opens_24 rfl rfl ?_
  refine px_getI d_X12_opens_25 fl_X12_226 rfl (so36 hL) ?_
  refine px_val (y := nI dp) rfl ?_
  refine px_iconst (v := 0) d_X12_opens_28 (by decide) ?_
  refine px_iast d_X12_opens_29 (sa52 hL) rfl hdp ?_
  refine px_heap (h2 := setM h (opM (a, fl, cd, dp, sw, gw, aw, op, on))) (sM_52 ..) ?_
  exact px_return d_X12_opens_30 rfl ⟨rfl, rfl, rfl⟩
def pwF (fl t : Int32) : Nat → Nat → Int32
  | 0, _ => -1
  | k + 1, j => if fl = 0 ∧ t = -3 - nI (4 + j) then nI j else pwF fl t k (j + 1)
theorem lp_X12_partWord {h : PH} {a : Nat} {fl : Int32} {cd dp : Nat} {sw gw aw op on : Nat → Int32} (hL : px_L h) {N : Nat} {tk : Nat → Int32} {pl : Nat → Nat} (hT : TKs h N tk pl) (ha : fl = 0 → a ≤ N) : ∀ (k j : Nat), j + k = 5 → PW M_X12_partWord (hn h) (hs h) (PMpost (some (.int (pwF fl (tk a) k j))) (setM h (a, fl, cd, dp, sw, gw, aw, op, on))) 2 [(0, .ref 36), (1, .int (nI (j)))] [] (setM h (a, fl, cd, dp, sw, gw, aw, op, on)) := by
  intro k
  induction k with
  | zero =>
    intro j hj
    have e : j = 5 := by omega
    subst e
    refine px_iload_n d_X12_partWord_2 rfl rfl ?_
    refine px_iconst (v := 5) d_X12_partWord_3 (by decide) ?_
    refine px_icmp_ge (tgt := 25) d_X12_partWord_4 (by decide) (fun c4 => ?_) (fun c4 => (c4 (by decide)).elim)
    refine px_iconst (v := (-1)) d_X12_partWord_25 (by decide) ?_
    exact px_ireturn d_X12_partWord_26 rfl rfl ⟨rfl, rfl, rfl⟩
  | succ k ih =>
    intro j hj
    refine px_iload_n d_X12_partWord_2 rfl rfl ?_
    refine px_iconst (v := 5) d_X12_partWord_3 (by decide) ?_
    refine px_icmp_ge (tgt := 25) d_X12_partWord_4 (by decide) (fun c4 => absurd c4 (nI_ge (b := 5) (by omega) (by decide))) (fun c4 => ?_)
    refine px_aload_n d_X12_partWord_7 rfl rfl ?_
    refine px_iconst (v := 4) d_X12_partWord_8 (by decide) ?_
    refine px_iload_n d_X12_partWord_9 rfl rfl ?_
    refine px_iadd d_X12_partWord_10 ?_
    refine px_val (y := nI (4 + j)) (nI_add 4 j) ?_
    refine px_callV (c_X12_isWord (w := 4 + j) hL hT ha (by omega)) d_X12_partWord_11 lk_X12_197 ok_X12_isWord ov_X12_isWord (so36 hL) (by decide) rfl rfl (Nat.le_of_ble_eq_true rfl) (by decide) ⟨Nat.le_refl (hn h), Nat.le_refl (hs h)⟩ ?_
    refine px_if_eq (tgt := 19) d_X12_partWord_14 (by decide) (fun c14 => ?_) (fun c14 => ?_)
    · refine px_inc1 d_X12_partWord_19 rfl (by decide) ?_
      refine px_goto (tgt := 2) d_X12_partWord_22 (by decide) ?_
      rw [show pwF fl (tk a) (k + 1) j = pwF fl (tk a) k (j + 1) from if_neg (bI_0.mp c14)]
      refine px_drop (lv' := [(0, .ref 36), (1, .int (nI (j + 1)))]) ⟨rfl, px_si (nI_s1 _), trivial⟩ ?_
      exact ih (j + 1) (by omega)
    · refine px_iload_n d_X12_partWord_17 rfl rfl ?_
      exact px_ireturn d_X12_partWord_18 rfl rfl ⟨rfl, px_si (if_pos (bI_n.mp c14)).symm, rfl⟩
theorem c_X12_partWord {h : PH} {a : Nat} {fl : Int32} {cd dp : Nat} {sw gw aw op on : Nat → Int32} (hL : px_L h) {N : Nat} {tk : Nat → Int32} {pl : Nat → Nat} (hT : TKs h N tk pl) (ha : fl = 0 → a ≤ N) : PM M_X12_partWord [.ref 36] (setM h (a, fl, cd, dp, sw, gw, aw, op, on)) (some (.int (pwF fl (tk a) 5 0))) (setM h (a, fl, cd, dp, sw, gw, aw, op, on)) := by
  refine PM.of (by decide +kernel) (by decide +kernel) (Nat.le_refl (hn h)) (Nat.le_refl (hs h)) (Nat.le_of_ble_eq_true rfl) ?_
  refine px_iconst (v := 0) d_X12_partWord_0 (by decide) ?_
  refine px_istore_n d_X12_partWord_1 rfl (by decide) ?_
  refine px_drop (lv' := [(0, .ref 36), (1, .int (nI (0)))]) ⟨rfl, rfl, trivial⟩ ?_
  exact lp_X12_partWord hL hT ha 5 0 (by omega)
def pwV (t : Int32) : Int32 := if t = -7 then 0 else if t = -8 then 1 else if t = -9 then 2 else if t = -10 then 3 else if t = -11 then 4 else -1
theorem pwF_V (t : Int32) : pwF 0 t 5 0 = pwV t := by
  unfold pwV
  simp only [pwF, true_and]
  rw [show (-3 : Int32) - nI (4 + 0) = -7 by decide, show (-3 : Int32) - nI (4 + (0 + 1)) = -8 by decide, show (-3 : Int32) - nI (4 + (0 + 1 + 1)) = -9 by decide, show (-3 : Int32) - nI (4 + (0 + 1 + 1 + 1)) = -10 by decide, show (-3 : Int32) - nI (4 + (0 + 1 + 1 + 1 + 1)) = -11 by decide]
  rfl
theorem pwV_neg {t : Int32} : pwV t < 0 ↔ ¬ (t = -7 ∨ t = -8 ∨ t = -9 ∨ t = -10 ∨ t = -11) := by
  unfold pwV
  by_cases h1 : t = -7
  · simp [h1]
  by_cases h2 : t = -8
  · simp [h2]
  by_cases h3 : t = -9
  · simp [h3]
  by_cases h4 : t = -10
  · simp [h4]
  by_cases h5 : t = -11
  · simp [h5]
  simp [h1, h2, h3, h4, h5]
theorem fl_pos {w p : Nat} (hw : 0 < w) (hw5 : w ≤ 5) (hp : p ≤ 600) : ¬ nI (w + 16 * p) ≤ 0 := nI_nle (by omega) (by omega)
theorem bg_no {t : Int32} (h : bgT t = false) : ¬ 0 ≤ t ∧ ¬ t = -12 ∧ pwV t < 0 := by
  have q := of_decide_eq_false h
  refine ⟨fun w => q (Or.inl w), fun w => q (Or.inr (Or.inl w)), pwV_neg.mpr fun w => q (Or.inr (Or.inr w))⟩
theorem bg_yes {t : Int32} (h : bgT t = true) (h0 : ¬ 0 ≤ t) (h12 : ¬ t = -12) : ¬ pwV t < 0 := fun w => by
  rcases of_decide_eq_true h with q | q | q
  · exact h0 q
  · exact h12 q
  · exact pwV_neg.mp w q
theorem pw_num {t : Int32} (h : 0 ≤ t) : pwV t < 0 := pwV_neg.mpr fun q => by
  rcases q with q | q | q | q | q <;> (rw [q] at h; exact absurd h (by decide))
theorem sg12 {t : Int32} (h : 0 ≤ t) : ¬ t = -12 := fun q => by rw [q] at h; exact absurd h (by decide)
theorem n1_X12_part {h : PH} {a : Nat} {cd dp : Nat} {sw gw aw op on : Nat → Int32} (hL : px_L h) {N : Nat} {tk : Nat → Int32} {pl : Nat → Nat} (hT : TKs h N tk pl) (ha : a ≤ N) (hb : bgT (tk a) = false) : PM M_X12_part [.ref 36] (setM h (a, 0, cd, dp, sw, gw, aw, op, on)) (some (.int 0)) (setM h (a, nI (1 + 16 * pl a), cd, dp, sw, gw, aw, op, on)) := by
  refine PM.of (by decide +kernel) (by decide +kernel) (Nat.le_refl (hn h)) (Nat.le_refl (hs h)) (Nat.le_of_ble_eq_true rfl) ?_
  have hN6 := hT.1
  have hTa := hT.2 a ha
  refine px_aload_n d_X12_part_0 rfl rfl ?_
  refine px_callV (c_X12_partWord hL hT (fun _ => ha)) d_X12_part_1 lk_X12_246 ok_X12_partWord ov_X12_partWord (so36 hL) (by decide) rfl rfl (Nat.le_of_ble_eq_true rfl) (by decide) ⟨Nat.le_refl (hn h), Nat.le_refl (hs h)⟩ ?_
  refine px_val (y := pwV (tk a)) (pwF_V _) ?_
  refine px_istore_n d_X12_part_4 rfl (by decide) ?_
  refine px_aload_n d_X12_part_5 rfl rfl ?_
  refine px_getI d_X12_part_6 fl_X12_187 rfl (so36 hL) ?_
  refine px_val (y := 0) rfl ?_
  refine px_if_ne (tgt := 46) d_X12_part_9 (by decide) (fun c9 => absurd rfl c9) (fun c9 => ?_)
  refine px_aload_n d_X12_part_12 rfl rfl ?_
  refine px_getR d_X12_part_13 fl_X12_13 (by decide) (so36 hL) (sr36_4 hL) ?_
  refine px_aload_n d_X12_part_16 rfl rfl ?_
  refine px_getI d_X12_part_17 fl_X12_184 rfl (so36 hL) ?_
  refine px_val (y := nI a) rfl ?_
  refine px_iald d_X12_part_20 (sa38 hL) rfl (by omega) ?_
  refine px_val (y := hI h 38 a) rfl ?_
  refine px_iconst (v := 2) d_X12_part_21 (by decide) ?_
  refine px_icmp_eq (tgt := 46) d_X12_part_22 (by decide) (fun c22 => absurd (hTa.2.1.mp c22) (bg_no hb).1) (fun c22 => ?_)
  refine px_aload_n d_X12_part_25 rfl rfl ?_
  refine px_bipush (v := 40) d_X12_part_26 (by decide) ?_
  refine px_callV (c_X12_isSign (c := 40) hL hT (fun _ => ha) (by decide)) d_X12_part_28 lk_X12_190 ok_X12_isSign ov_X12_isSign (so36 hL) (by decide) rfl rfl (Nat.le_of_ble_eq_true rfl) (by decide) ⟨Nat.le_refl (hn h), Nat.le_refl (hs h)⟩ ?_
  refine px_if_ne (tgt := 46) d_X12_part_31 (by decide) (fun c31 => absurd (bI_n.mp c31).2 (bg_no hb).2.1) (fun c31 => ?_)
  refine px_iload_n d_X12_part_34 rfl rfl ?_
  refine px_if_ge (tgt := 46) d_X12_part_35 (by decide) (fun c35 => absurd (bg_no hb).2.2 (Int32.not_lt.mpr c35)) (fun c35 => ?_)
  refine px_aload_n d_X12_part_38 rfl rfl ?_
  refine px_iconst (v := 1) d_X12_part_39 (by decide) ?_
  refine px_callV (c_X12_wrong (w := 1) hL hT (fun _ => ha) rfl) d_X12_part_40 lk_X12_193 ok_X12_wrong ov_X12_wrong (so36 hL) (by decide) rfl rfl (Nat.le_of_ble_eq_true rfl) (by decide) ⟨Nat.le_refl (hn h), Nat.le_refl (hs h)⟩ ?_
  refine px_heap (h2 := setM h (a, nI (1 + 16 * pl a), cd, dp, sw, gw, aw, op, on)) (congrArg (setM h) (if_pos rfl)) ?_
  refine px_goto (tgt := 59) d_X12_part_43 (by decide) ?_
  refine px_aload_n d_X12_part_59 rfl rfl ?_
  refine px_getI d_X12_part_60 fl_X12_187 rfl (so36 hL) ?_
  refine px_val (y := nI (1 + 16 * pl a)) rfl ?_
  refine px_if_le (tgt := 68) d_X12_part_63 (by decide) (fun c63 => absurd c63 (fl_pos (by decide) (by decide) hTa.2.2.2.2.2.2)) (fun c63 => ?_)
  refine px_iconst (v := 0) d_X12_part_66 (by decide) ?_
  exact px_ireturn d_X12_part_67 rfl rfl ⟨rfl, rfl, rfl⟩
theorem to46_X12_part {h : PH} {N0 S0 : Nat} {Post : Nat → Option Value → PH → Prop} {a : Nat} {cd dp : Nat} {sw gw aw op on : Nat → Int32} (hL : px_L h) (hN0 : hn h ≤ N0 ∧ hs h ≤ S0) {N : Nat} {tk : Nat → Int32} {pl : Nat → Nat} (hT : TKs h N tk pl) (ha : a ≤ N) (hb : bgT (tk a) = true) (kk : PW M_X12_part N0 S0 Post 46 [(0, .ref 36), (1, .int (pwV (tk a)))] [] (setM h (a, 0, cd, dp, sw, gw, aw, op, on))) : PW M_X12_part N0 S0 Post 5 [(0, .ref 36), (1, .int (pwV (tk a)))] [] (setM h (a, 0, cd, dp, sw, gw, aw, op, on)) := by
  have hN6 := hT.1
  have hTa := hT.2 a ha
  refine px_aload_n d_X12_part_5 rfl rfl ?_
  refine px_getI d_X12_part_6 fl_X12_187 rfl (so36 hL) ?_
  refine px_val (y := 0) rfl ?_
  refine px_if_ne (tgt := 46) d_X12_part_9 (by decide) (fun c9 => absurd rfl c9) (fun c9 => ?_)
  refine px_aload_n d_X12_part_12 rfl rfl ?_
  refine px_getR d_X12_part_13 fl_X12_13 (by decide) (so36 hL) (sr36_4 hL) ?_
  refine px_aload_n d_X12_part_16 rfl rfl ?_
  refine px_getI d_X12_part_17 fl_X12_184 rfl (so36 hL) ?_
  refine px_val (y := nI a) rfl ?_
  refine px_iald d_X12_part_20 (sa38 hL) rfl (by omega) ?_
  refine px_val (y := hI h 38 a) rfl ?_
  refine px_iconst (v := 2) d_X12_part_21 (by decide) ?_
  refine px_icmp_eq (tgt := 46) d_X12_part_22 (by decide) (fun c22 => ?_) (fun c22 => ?_)
  · exact kk
  · refine px_aload_n d_X12_part_25 rfl rfl ?_
    refine px_bipush (v := 40) d_X12_part_26 (by decide) ?_
    refine px_callV (c_X12_isSign (c := 40) hL hT (fun _ => ha) (by decide)) d_X12_part_28 lk_X12_190 ok_X12_isSign ov_X12_isSign (so36 hL) (by decide) rfl rfl (Nat.le_of_ble_eq_true rfl) (by decide) hN0 ?_
    refine px_if_ne (tgt := 46) d_X12_part_31 (by decide) (fun c31 => ?_) (fun c31 => ?_)
    · exact kk
    · refine px_iload_n d_X12_part_34 rfl rfl ?_
      refine px_if_ge (tgt := 46) d_X12_part_35 (by decide) (fun c35 => ?_) (fun c35 => absurd (bg_yes hb (fun q => c22 (hTa.2.1.mpr q)) (fun q => (bI_0.mp c31) ⟨rfl, q⟩)) (fun q => q (Int32.not_le.mp c35)))
      exact kk
theorem n5_X12_part {h : PH} {a : Nat} {cd dp : Nat} {sw gw aw op on : Nat → Int32} (hL : px_L h) {N : Nat} {tk : Nat → Int32} {pl : Nat → Nat} (hT : TKs h N tk pl) (ha : a ≤ N) (hb : bgT (tk a) = true) (h5 : dp = 5) : PM M_X12_part [.ref 36] (setM h (a, 0, cd, dp, sw, gw, aw, op, on)) (some (.int 0)) (setM h (a, nI (5 + 16 * pl a), cd, dp, sw, gw, aw, op, on)) := by
  refine PM.of (by decide +kernel) (by decide +kernel) (Nat.le_refl (hn h)) (Nat.le_refl (hs h)) (Nat.le_of_ble_eq_true rfl) ?_
  have hN6 := hT.1
  have hTa := hT.2 a ha
  refine px_aload_n d_X12_part_0 rfl rfl ?_
  refine px_callV (c_X12_partWord hL hT (fun _ => ha)) d_X12_part_1 lk_X12_246 ok_X12_partWord ov_X12_partWord (so36 hL) (by decide) rfl rfl (Nat.le_of_ble_eq_true rfl) (by decide) ⟨Nat.le_refl (hn h), Nat.le_refl (hs h)⟩ ?_
  refine px_val (y := pwV (tk a)) (pwF_V _) ?_
  refine px_istore_n d_X12_part_4 rfl (by decide) ?_
  refine px_drop (lv' := [(0, .ref 36), (1, .int (pwV (tk a)))]) ⟨rfl, rfl, trivial⟩ ?_
  refine to46_X12_part hL ⟨Nat.le_refl (hn h), Nat.le_refl (hs h)⟩ hT ha hb ?_
  refine px_aload_n d_X12_part_46 rfl rfl ?_
  refine px_getI d_X12_part_47 fl_X12_226 rfl (so36 hL) ?_
  refine px_val (y := nI dp) rfl ?_
  refine px_iconst (v := 5) d_X12_part_50 (by decide) ?_
  refine px_icmp_ne (tgt := 59) d_X12_part_51 (by decide) (fun c51 => absurd (show nI dp = 5 by rw [h5]; rfl) c51) (fun c51 => ?_)
  refine px_aload_n d_X12_part_54 rfl rfl ?_
  refine px_iconst (v := 5) d_X12_part_55 (by decide) ?_
  refine px_callV (c_X12_wrong (w := 5) hL hT (fun _ => ha) rfl) d_X12_part_56 lk_X12_193 ok_X12_wrong ov_X12_wrong (so36 hL) (by decide) rfl rfl (Nat.le_of_ble_eq_true rfl) (by decide) ⟨Nat.le_refl (hn h), Nat.le_refl (hs h)⟩ ?_
  refine px_heap (h2 := setM h (a, nI (5 + 16 * pl a), cd, dp, sw, gw, aw, op, on)) (congrArg (setM h) (if_pos rfl)) ?_
  refine px_aload_n d_X12_part_59 rfl rfl ?_
  refine px_getI d_X12_part_60 fl_X12_187 rfl (so36 hL) ?_
  refine px_val (y := nI (5 + 16 * pl a)) rfl ?_
  refine px_if_le (tgt := 68) d_X12_part_63 (by decide) (fun c63 => absurd c63 (fl_pos (by decide) (by decide) hTa.2.2.2.2.2.2)) (fun c63 => ?_)
  refine px_iconst (v := 0) d_X12_part_66 (by decide) ?_
  exact px_ireturn d_X12_part_67 rfl rfl ⟨rfl, rfl, rfl⟩
theorem o_X12_part {h : PH} {a : Nat} {cd dp : Nat} {sw gw aw op on : Nat → Int32} (hL : px_L h) {N : Nat} {tk : Nat → Int32} {pl : Nat → Nat} (hT : TKs h N tk pl) (ha : a ≤ N) (hb : bgT (tk a) = true) (h5 : dp < 5) (h12 : tk a = -12) : PM M_X12_part [.ref 36] (setM h (a, 0, cd, dp, sw, gw, aw, op, on)) (some (.int 1)) (setM h (opM (a + 1, 0, cd, dp + 1, sw, gw, aw, op, on))) := by
  refine PM.of (by decide +kernel) (by decide +kernel) (Nat.le_refl (hn h)) (Nat.le_refl (hs h)) (Nat.le_of_ble_eq_true rfl) ?_
  have hN6 := hT.1
  have hTa := hT.2 a ha
  refine px_aload_n d_X12_part_0 rfl rfl ?_
  refine px_callV (c_X12_partWord hL hT (fun _ => ha)) d_X12_part_1 lk_X12_246 ok_X12_partWord ov_X12_partWord (so36 hL) (by decide) rfl rfl (Nat.le_of_ble_eq_true rfl) (by decide) ⟨Nat.le_refl (hn h), Nat.le_refl (hs h)⟩ ?_
  refine px_val (y := pwV (tk a)) (pwF_V _) ?_
  refine px_istore_n d_X12_part_4 rfl (by decide) ?_
  refine px_drop (lv' := [(0, .ref 36), (1, .int (pwV (tk a)))]) ⟨rfl, rfl, trivial⟩ ?_
  refine to46_X12_part hL ⟨Nat.le_refl (hn h), Nat.le_refl (hs h)⟩ hT ha hb ?_
  refine px_aload_n d_X12_part_46 rfl rfl ?_
  refine px_getI d_X12_part_47 fl_X12_226 rfl (so36 hL) ?_
  refine px_val (y := nI dp) rfl ?_
  refine px_iconst (v := 5) d_X12_part_50 (by decide) ?_
  refine px_icmp_ne (tgt := 59) d_X12_part_51 (by decide) (fun c51 => ?_) (fun c51 => absurd ((nI_eq (a := dp) (b := 5) (by omega) (by decide)).mp (by first | exact c51 | exact Classical.not_not.mp c51)) (by omega))
  refine px_aload_n d_X12_part_59 rfl rfl ?_
  refine px_getI d_X12_part_60 fl_X12_187 rfl (so36 hL) ?_
  refine px_val (y := 0) rfl ?_
  refine px_if_le (tgt := 68) d_X12_part_63 (by decide) (fun c63 => ?_) (fun c63 => absurd (by decide) c63)
  refine px_aload_n d_X12_part_68 rfl rfl ?_
  refine px_bipush (v := 40) d_X12_part_69 (by decide) ?_
  refine px_callV (c_X12_hasSign (c := 40) hL hT (fun _ => ha) (by decide)) d_X12_part_71 lk_X12_250 ok_X12_hasSign ov_X12_hasSign (so36 hL) (by decide) rfl rfl (Nat.le_of_ble_eq_true rfl) (by decide) ⟨Nat.le_refl (hn h), Nat.le_refl (hs h)⟩ ?_
  refine px_heap (h2 := setM h (a + 1, 0, cd, dp, sw, gw, aw, op, on)) (congrArg (setM h) (if_pos ⟨rfl, h12⟩)) ?_
  refine px_if_eq (tgt := 93) d_X12_part_74 (by decide) (fun c74 => absurd ⟨rfl, h12⟩ (bI_0.mp c74)) (fun c74 => ?_)
  refine px_aload_n d_X12_part_77 rfl rfl ?_
  refine px_dup d_X12_part_78 rfl ?_
  refine px_getI d_X12_part_79 fl_X12_226 rfl (so36 hL) ?_
  refine px_val (y := nI dp) rfl ?_
  refine px_iconst (v := 1) d_X12_part_82 (by decide) ?_
  refine px_iadd d_X12_part_83 ?_
  refine px_putI d_X12_part_84 fl_X12_226 rfl (so36 hL) ?_
  refine px_heap (h2 := setM h (a + 1, 0, cd, dp + 1, sw, gw, aw, op, on)) ((congrArg (pI _ _ _) (nI_s1 dp)).trans (sM_dp ..)) ?_
  refine px_aload_n d_X12_part_87 rfl rfl ?_
  refine px_callV (c_X12_opens hL (by omega)) d_X12_part_88 lk_X12_229 ok_X12_opens ov_X12_opens (so36 hL) (by decide) rfl rfl (Nat.le_of_ble_eq_true rfl) (by decide) ⟨Nat.le_refl (hn h), Nat.le_refl (hs h)⟩ ?_
  refine px_iconst (v := 1) d_X12_part_91 (by decide) ?_
  exact px_ireturn d_X12_part_92 rfl rfl ⟨rfl, rfl, rfl⟩
theorem v_X12_part {h : PH} {a : Nat} {cd dp : Nat} {sw gw aw op on : Nat → Int32} (hL : px_L h) {N : Nat} {tk : Nat → Int32} {pl : Nat → Nat} (hT : TKs h N tk pl) (ha : a ≤ N) (hb : bgT (tk a) = true) (h5 : dp < 5) (hcd : cd < 660) (h0 : 0 ≤ tk a) : PM M_X12_part [.ref 36] (setM h (a, 0, cd, dp, sw, gw, aw, op, on)) (some (.int 0)) (setM h (emM (a + 1, 0, cd, dp, sw, gw, aw, op, on) 1 (tk a))) := by
  refine PM.of (by decide +kernel) (by decide +kernel) (Nat.le_refl (hn h)) (Nat.le_refl (hs h)) (Nat.le_of_ble_eq_true rfl) ?_
  have hN6 := hT.1
  have hTa := hT.2 a ha
  refine px_aload_n d_X12_part_0 rfl rfl ?_
  refine px_callV (c_X12_partWord hL hT (fun _ => ha)) d_X12_part_1 lk_X12_246 ok_X12_partWord ov_X12_partWord (so36 hL) (by decide) rfl rfl (Nat.le_of_ble_eq_true rfl) (by decide) ⟨Nat.le_refl (hn h), Nat.le_refl (hs h)⟩ ?_
  refine px_val (y := pwV (tk a)) (pwF_V _) ?_
  refine px_istore_n d_X12_part_4 rfl (by decide) ?_
  refine px_drop (lv' := [(0, .ref 36), (1, .int (pwV (tk a)))]) ⟨rfl, rfl, trivial⟩ ?_
  refine to46_X12_part hL ⟨Nat.le_refl (hn h), Nat.le_refl (hs h)⟩ hT ha hb ?_
  refine px_aload_n d_X12_part_46 rfl rfl ?_
  refine px_getI d_X12_part_47 fl_X12_226 rfl (so36 hL) ?_
  refine px_val (y := nI dp) rfl ?_
  refine px_iconst (v := 5) d_X12_part_50 (by decide) ?_
  refine px_icmp_ne (tgt := 59) d_X12_part_51 (by decide) (fun c51 => ?_) (fun c51 => absurd ((nI_eq (a := dp) (b := 5) (by omega) (by decide)).mp (by first | exact c51 | exact Classical.not_not.mp c51)) (by omega))
  refine px_aload_n d_X12_part_59 rfl rfl ?_
  refine px_getI d_X12_part_60 fl_X12_187 rfl (so36 hL) ?_
  refine px_val (y := 0) rfl ?_
  refine px_if_le (tgt := 68) d_X12_part_63 (by decide) (fun c63 => ?_) (fun c63 => absurd (by decide) c63)
  refine px_aload_n d_X12_part_68 rfl rfl ?_
  refine px_bipush (v := 40) d_X12_part_69 (by decide) ?_
  have h12 := sg12 h0
  refine px_callV (c_X12_hasSign (c := 40) hL hT (fun _ => ha) (by decide)) d_X12_part_71 lk_X12_250 ok_X12_hasSign ov_X12_hasSign (so36 hL) (by decide) rfl rfl (Nat.le_of_ble_eq_true rfl) (by decide) ⟨Nat.le_refl (hn h), Nat.le_refl (hs h)⟩ ?_
  refine px_heap (h2 := setM h (a, 0, cd, dp, sw, gw, aw, op, on)) (congrArg (setM h) (if_neg (fun q => h12 q.2))) ?_
  refine px_if_eq (tgt := 93) d_X12_part_74 (by decide) (fun c74 => ?_) (fun c74 => absurd (bI_n.mp c74).2 h12)
  refine px_aload_n d_X12_part_93 rfl rfl ?_
  refine px_iload_n d_X12_part_94 rfl rfl ?_
  refine px_if_ge (tgt := 102) d_X12_part_95 (by decide) (fun c95 => absurd (pw_num h0) (Int32.not_lt.mpr c95)) (fun c95 => ?_)
  refine px_iconst (v := 1) d_X12_part_98 (by decide) ?_
  refine px_goto (tgt := 103) d_X12_part_99 (by decide) ?_
  refine px_iload_n d_X12_part_103 rfl rfl ?_
  refine px_if_ge (tgt := 120) d_X12_part_104 (by decide) (fun c104 => absurd (pw_num h0) (Int32.not_lt.mpr c104)) (fun c104 => ?_)
  refine px_aload_n d_X12_part_107 rfl rfl ?_
  refine px_getR d_X12_part_108 fl_X12_19 (by decide) (so36 hL) (sr36_6 hL) ?_
  refine px_aload_n d_X12_part_111 rfl rfl ?_
  refine px_getI d_X12_part_112 fl_X12_184 rfl (so36 hL) ?_
  refine px_val (y := nI a) rfl ?_
  refine px_lald d_X12_part_115 (sa40 hL) rfl (by omega) ?_
  refine px_vall (y := (tk a).toInt64) (hTa.2.2.1 (hTa.2.1.mpr h0)) ?_
  refine px_l2i d_X12_part_116 ?_
  refine px_val (y := tk a) (Int32.toInt32_toInt64 _) ?_
  refine px_goto (tgt := 121) d_X12_part_117 (by decide) ?_
  refine px_callV (c_X12_emit hL hcd) d_X12_part_121 lk_X12_239 ok_X12_emit ov_X12_emit (so36 hL) (by decide) rfl rfl (Nat.le_of_ble_eq_true rfl) (by decide) ⟨Nat.le_refl (hn h), Nat.le_refl (hs h)⟩ ?_
  refine px_aload_n d_X12_part_124 rfl rfl ?_
  refine px_dup d_X12_part_125 rfl ?_
  refine px_getI d_X12_part_126 fl_X12_184 rfl (so36 hL) ?_
  refine px_val (y := nI a) rfl ?_
  refine px_iconst (v := 1) d_X12_part_129 (by decide) ?_
  refine px_iadd d_X12_part_130 ?_
  refine px_putI d_X12_part_131 fl_X12_184 rfl (so36 hL) ?_
  refine px_heap (h2 := setM h (emM (a + 1, 0, cd, dp, sw, gw, aw, op, on) 1 (tk a))) ((congrArg (pI _ _ _) (nI_s1 a)).trans (sM_at ..)) ?_
  refine px_iconst (v := 0) d_X12_part_134 (by decide) ?_
  exact px_ireturn d_X12_part_135 rfl rfl ⟨rfl, rfl, rfl⟩
theorem w_X12_part {h : PH} {a : Nat} {cd dp : Nat} {sw gw aw op on : Nat → Int32} (hL : px_L h) {N : Nat} {tk : Nat → Int32} {pl : Nat → Nat} (hT : TKs h N tk pl) (ha : a ≤ N) (hb : bgT (tk a) = true) (h5 : dp < 5) (hcd : cd < 660) (h0 : ¬ 0 ≤ tk a) (h12 : ¬ tk a = -12) : PM M_X12_part [.ref 36] (setM h (a, 0, cd, dp, sw, gw, aw, op, on)) (some (.int 0)) (setM h (emM (a + 1, 0, cd, dp, sw, gw, aw, op, on) 2 (pwV (tk a)))) := by
  refine PM.of (by decide +kernel) (by decide +kernel) (Nat.le_refl (hn h)) (Nat.le_refl (hs h)) (Nat.le_of_ble_eq_true rfl) ?_
  have hN6 := hT.1
  have hTa := hT.2 a ha
  refine px_aload_n d_X12_part_0 rfl rfl ?_
  refine px_callV (c_X12_partWord hL hT (fun _ => ha)) d_X12_part_1 lk_X12_246 ok_X12_partWord ov_X12_partWord (so36 hL) (by decide) rfl rfl (Nat.le_of_ble_eq_true rfl) (by decide) ⟨Nat.le_refl (hn h), Nat.le_refl (hs h)⟩ ?_
  refine px_val (y := pwV (tk a)) (pwF_V _) ?_
  refine px_istore_n d_X12_part_4 rfl (by decide) ?_
  refine px_drop (lv' := [(0, .ref 36), (1, .int (pwV (tk a)))]) ⟨rfl, rfl, trivial⟩ ?_
  refine to46_X12_part hL ⟨Nat.le_refl (hn h), Nat.le_refl (hs h)⟩ hT ha hb ?_
  refine px_aload_n d_X12_part_46 rfl rfl ?_
  refine px_getI d_X12_part_47 fl_X12_226 rfl (so36 hL) ?_
  refine px_val (y := nI dp) rfl ?_
  refine px_iconst (v := 5) d_X12_part_50 (by decide) ?_
  refine px_icmp_ne (tgt := 59) d_X12_part_51 (by decide) (fun c51 => ?_) (fun c51 => absurd ((nI_eq (a := dp) (b := 5) (by omega) (by decide)).mp (by first | exact c51 | exact Classical.not_not.mp c51)) (by omega))
  refine px_aload_n d_X12_part_59 rfl rfl ?_
  refine px_getI d_X12_part_60 fl_X12_187 rfl (so36 hL) ?_
  refine px_val (y := 0) rfl ?_
  refine px_if_le (tgt := 68) d_X12_part_63 (by decide) (fun c63 => ?_) (fun c63 => absurd (by decide) c63)
  refine px_aload_n d_X12_part_68 rfl rfl ?_
  refine px_bipush (v := 40) d_X12_part_69 (by decide) ?_
  refine px_callV (c_X12_hasSign (c := 40) hL hT (fun _ => ha) (by decide)) d_X12_part_71 lk_X12_250 ok_X12_hasSign ov_X12_hasSign (so36 hL) (by decide) rfl rfl (Nat.le_of_ble_eq_true rfl) (by decide) ⟨Nat.le_refl (hn h), Nat.le_refl (hs h)⟩ ?_
  refine px_heap (h2 := setM h (a, 0, cd, dp, sw, gw, aw, op, on)) (congrArg (setM h) (if_neg (fun q => h12 q.2))) ?_
  refine px_if_eq (tgt := 93) d_X12_part_74 (by decide) (fun c74 => ?_) (fun c74 => absurd (bI_n.mp c74).2 h12)
  refine px_aload_n d_X12_part_93 rfl rfl ?_
  refine px_iload_n d_X12_part_94 rfl rfl ?_
  refine px_if_ge (tgt := 102) d_X12_part_95 (by decide) (fun c95 => ?_) (fun c95 => absurd (Int32.not_le.mp c95) (bg_yes hb h0 h12))
  refine px_iconst (v := 2) d_X12_part_102 (by decide) ?_
  refine px_iload_n d_X12_part_103 rfl rfl ?_
  refine px_if_ge (tgt := 120) d_X12_part_104 (by decide) (fun c104 => ?_) (fun c104 => absurd (Int32.not_le.mp c104) (bg_yes hb h0 h12))
  refine px_iload_n d_X12_part_120 rfl rfl ?_
  refine px_callV (c_X12_emit hL hcd) d_X12_part_121 lk_X12_239 ok_X12_emit ov_X12_emit (so36 hL) (by decide) rfl rfl (Nat.le_of_ble_eq_true rfl) (by decide) ⟨Nat.le_refl (hn h), Nat.le_refl (hs h)⟩ ?_
  refine px_aload_n d_X12_part_124 rfl rfl ?_
  refine px_dup d_X12_part_125 rfl ?_
  refine px_getI d_X12_part_126 fl_X12_184 rfl (so36 hL) ?_
  refine px_val (y := nI a) rfl ?_
  refine px_iconst (v := 1) d_X12_part_129 (by decide) ?_
  refine px_iadd d_X12_part_130 ?_
  refine px_putI d_X12_part_131 fl_X12_184 rfl (so36 hL) ?_
  refine px_heap (h2 := setM h (emM (a + 1, 0, cd, dp, sw, gw, aw, op, on) 2 (pwV (tk a)))) ((congrArg (pI _ _ _) (nI_s1 a)).trans (sM_at ..)) ?_
  refine px_iconst (v := 0) d_X12_part_134 (by decide) ?_
  exact px_ireturn d_X12_part_135 rfl rfl ⟨rfl, rfl, rfl⟩
