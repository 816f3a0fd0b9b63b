def goE (tk : Nat → Int32) (pl : Nat → Nat) (k : MS → Option (Bool × MS)) : MS → Option (Bool × MS)
  | (a, fl, cd, dp, sw, gw, aw, op, on) => if tk a = -6 then some (true, (a + 1, fl, cd, dp, sw, gw, upf aw dp 7, op, on)) else if dp = 0 then some (false, (a, fl, cd, dp, sw, gw, aw, op, on)) else if tk a = -13 then k (a + 1, fl, cd, dp - 1, sw, gw, aw, op, on) else some (false, (a, nI (1 + 16 * pl a), cd, dp - 1, sw, gw, aw, op, on))
def goD (tk : Nat → Int32) (pl : Nat → Nat) (k : MS → Option (Bool × MS)) : MS → Option (Bool × MS)
  | (a, fl, cd, dp, sw, gw, aw, op, on) => if aw dp = 0 then goE tk pl k (a, fl, cd, dp, sw, gw, aw, op, on) else if cd < 660 then goE tk pl k (a, fl, cd + 1, dp, sw, gw, upf aw dp 0, upf op (5280 + cd) 7, upf on (5280 + cd) 0) else none
def goC (tk : Nat → Int32) (pl : Nat → Nat) (k : MS → Option (Bool × MS)) : MS → Option (Bool × MS)
  | (a, fl, cd, dp, sw, gw, aw, op, on) => if gw dp = 0 then (if tk a = -14 then some (true, (a + 1, fl, cd, dp, sw, upf gw dp 5, aw, op, on)) else if tk a = -15 then some (true, (a + 1, fl, cd, dp, sw, upf gw dp 6, aw, op, on)) else goD tk pl k (a, fl, cd, dp, sw, gw, aw, op, on)) else if cd < 660 then goD tk pl k (a, fl, cd + 1, dp, sw, upf gw dp 0, aw, upf op (5280 + cd) (gw dp), upf on (5280 + cd) 0) else none
def goB (tk : Nat → Int32) (pl : Nat → Nat) (k : MS → Option (Bool × MS)) : MS → Option (Bool × MS)
  | (a, fl, cd, dp, sw, gw, aw, op, on) => if tk a = -16 then some (true, (a + 1, fl, cd, dp, upf sw dp 3, gw, aw, op, on)) else if tk a = -17 then some (true, (a + 1, fl, cd, dp, upf sw dp 4, gw, aw, op, on)) else goC tk pl k (a, fl, cd, dp, sw, gw, aw, op, on)
def goA (tk : Nat → Int32) (pl : Nat → Nat) (k : MS → Option (Bool × MS)) : MS → Option (Bool × MS)
  | (a, fl, cd, dp, sw, gw, aw, op, on) => if sw dp = 0 then goB tk pl k (a, fl, cd, dp, sw, gw, aw, op, on) else if cd < 660 then goB tk pl k (a, fl, cd + 1, dp, upf sw dp 0, gw, aw, upf op (5280 + cd) (sw dp), upf on (5280 + cd) 0) else none
/-- what stands behind a part -/
def goM (tk : Nat → Int32) (pl : Nat → Nat) : Nat → MS → Option (Bool × MS)
  | 0 => goA tk pl (fun _ => none)
  | d + 1 => goA tk pl (goM tk pl d)
theorem wd3 : (-3 : Int32) - nI 3 = -6 := by decide
theorem gE_X12_goesOnBehind {h : PH} {a cd dp : Nat} {sw gw aw op on : Nat → Int32} (hL : px_L h) {N : Nat} {tk : Nat → Int32} {pl : Nat → Nat} (hT : TKs h N tk pl) (ha : a ≤ N) (hdp : dp ≤ 5) {b : Bool} {m : MS} {k : MS → Option (Bool × MS)} (hk : ∀ cd2 sw2 gw2 aw2 op2 on2, 0 < dp → tk a = -13 → k (a + 1, 0, cd2, dp - 1, sw2, gw2, aw2, op2, on2) = some (b, m) → PW M_X12_goesOnBehind (hn h) (hs h) (PMpost (some (.int (bI (b = true)))) (setM h m)) 0 [(0, .ref 36)] [] (setM h (a + 1, 0, cd2, dp - 1, sw2, gw2, aw2, op2, on2))) (e : goE tk pl k (a, 0, cd, dp, sw, gw, aw, op, on) = some (b, m)) : PW M_X12_goesOnBehind (hn h) (hs h) (PMpost (some (.int (bI (b = true)))) (setM h m)) 218 [(0, .ref 36)] [] (setM h (a, 0, cd, dp, sw, gw, aw, op, on)) := by
  have hN6 := hT.1
  unfold goE at e
  simp only at e
  refine px_aload_n d_X12_goesOnBehind_218 rfl rfl ?_
  refine px_iconst (v := 3) d_X12_goesOnBehind_219 (by decide) ?_
  refine px_callV (c_X12_isWord (w := 3) hL hT (fun _ => ha) (by decide)) d_X12_goesOnBehind_220 lk_X12_197 ok_X12_isWord ov_X12_isWord (so36 hL) (by decide) rfl rfl (Nat.le_of_ble_eq_true rfl) (by decide) ⟨Nat.le_refl (hn h), Nat.le_refl (hs h)⟩ ?_
  refine px_if_eq (tgt := 249) d_X12_goesOnBehind_223 (by decide) (fun c223 => ?_) (fun c223 => ?_)
  · refine px_aload_n d_X12_goesOnBehind_249 rfl rfl ?_
    have q6 : ¬ tk a = -6 := fun q => (bI_0.mp c223) ⟨rfl, wd3 ▸ q⟩
    rw [if_neg q6] at e
    refine px_getI d_X12_goesOnBehind_250 fl_X12_226 rfl (so36 hL) ?_
    refine px_val (y := nI dp) rfl ?_
    refine px_if_ne (tgt := 258) d_X12_goesOnBehind_253 (by decide) (fun c253 => ?_) (fun c253 => ?_)
    · have d0 : ¬ dp = 0 := fun q => c253 (by rw [q]; rfl)
      rw [if_neg d0] at e
      by_cases q13 : tk a = -13
      · rw [if_pos q13] at e
        refine px_aload_n d_X12_goesOnBehind_258 rfl rfl ?_
        refine px_bipush (v := 41) d_X12_goesOnBehind_259 (by decide) ?_
        refine px_callV (c_X12_takeSign (c := 41) hL hT (fun _ => ha) (by decide)) d_X12_goesOnBehind_261 lk_X12_243 ok_X12_takeSign ov_X12_takeSign (so36 hL) (by decide) rfl rfl (Nat.le_of_ble_eq_true rfl) (by decide) ⟨Nat.le_refl (hn h), Nat.le_refl (hs h)⟩ ?_
        refine px_heap (h2 := setM h (a + 1, 0, cd, dp, sw, gw, aw, op, on)) (congrArg (setM h) (if_pos ⟨rfl, q13⟩)) ?_
        refine px_aload_n d_X12_goesOnBehind_264 rfl rfl ?_
        refine px_dup d_X12_goesOnBehind_265 rfl ?_
        refine px_getI d_X12_goesOnBehind_266 fl_X12_226 rfl (so36 hL) ?_
        refine px_val (y := nI dp) rfl ?_
        refine px_iconst (v := 1) d_X12_goesOnBehind_269 (by decide) ?_
        refine px_isub d_X12_goesOnBehind_270 ?_
        refine px_putI d_X12_goesOnBehind_271 fl_X12_226 rfl (so36 hL) ?_
        refine px_heap (h2 := setM h (a + 1, 0, cd, dp - 1, sw, gw, aw, op, on)) ((congrArg (pI _ _ _) (by rw [show (1 : Int32) = nI 1 from rfl, nI_sub (by omega)])).trans (sM_dp ..)) ?_
        refine px_goto (tgt := 0) d_X12_goesOnBehind_274 (by decide) ?_
        exact hk _ _ _ _ _ _ (by omega) q13 e
      · rw [if_neg q13] at e
        cases e
        refine px_aload_n d_X12_goesOnBehind_258 rfl rfl ?_
        refine px_bipush (v := 41) d_X12_goesOnBehind_259 (by decide) ?_
        refine px_callV (c_X12_takeSign (c := 41) hL hT (fun _ => ha) (by decide)) d_X12_goesOnBehind_261 lk_X12_243 ok_X12_takeSign ov_X12_takeSign (so36 hL) (by decide) rfl rfl (Nat.le_of_ble_eq_true rfl) (by decide) ⟨Nat.le_refl (hn h), Nat.le_refl (hs h)⟩ ?_
        refine px_heap (h2 := setM h (a, nI (1 + 16 * pl a), cd, dp, sw, gw, aw, op, on)) (congrArg (setM h) ((if_neg (fun q => q13 q.2)).trans (if_pos rfl))) ?_
        refine px_aload_n d_X12_goesOnBehind_264 rfl rfl ?_
        refine px_dup d_X12_goesOnBehind_265 rfl ?_
        refine px_getI d_X12_goesOnBehind_266 fl_X12_226 rfl (so36 hL) ?_
        refine px_val (y := nI dp) rfl ?_
        refine px_iconst (v := 1) d_X12_goesOnBehind_269 (by decide) ?_
        refine px_isub d_X12_goesOnBehind_270 ?_
        refine px_putI d_X12_goesOnBehind_271 fl_X12_226 rfl (so36 hL) ?_
        refine px_heap (h2 := setM h (a, nI (1 + 16 * pl a), cd, dp - 1, sw, gw, aw, op, on)) ((congrArg (pI _ _ _) (by rw [show (1 : Int32) = nI 1 from rfl, nI_sub (by omega)])).trans (sM_dp ..)) ?_
        refine px_goto (tgt := 0) d_X12_goesOnBehind_274 (by decide) ?_
        refine px_aload_n d_X12_goesOnBehind_0 rfl rfl ?_
        refine px_getI d_X12_goesOnBehind_1 fl_X12_187 rfl (so36 hL) ?_
        refine px_val (y := nI (1 + 16 * pl a)) rfl ?_
        refine px_if_ne (tgt := 277) d_X12_goesOnBehind_4 (by decide) (fun c4 => ?_) (fun c4 => absurd (by rw [c4]; decide) (fl_pos (w := 1) (p := pl a) (by decide) (by decide) (hT.2 a ha).2.2.2.2.2.2))
        refine px_iconst (v := 0) d_X12_goesOnBehind_277 (by decide) ?_
        exact px_ireturn d_X12_goesOnBehind_278 rfl rfl ⟨rfl, rfl, rfl⟩
    · refine px_iconst (v := 0) d_X12_goesOnBehind_256 (by decide) ?_
      exact px_ireturn d_X12_goesOnBehind_257 rfl rfl (by
  rw [if_pos ((nI_eq (b := 0) (by omega) (by decide)).mp c253)] at e
  cases e
  exact ⟨rfl, rfl, rfl⟩)
  · refine px_aload_n d_X12_goesOnBehind_226 rfl rfl ?_
    refine px_getR d_X12_goesOnBehind_227 fl_X12_75 (by decide) (so36 hL) (sr36_23 hL) ?_
    refine px_aload_n d_X12_goesOnBehind_230 rfl rfl ?_
    refine px_getI d_X12_goesOnBehind_231 fl_X12_226 rfl (so36 hL) ?_
    refine px_val (y := nI dp) rfl ?_
    refine px_bipush (v := 7) d_X12_goesOnBehind_234 (by decide) ?_
    refine px_iast d_X12_goesOnBehind_236 (sa52 hL) rfl (by omega) ?_
    refine px_heap (h2 := setM h (a, 0, cd, dp, sw, gw, (upf aw dp 7), op, on)) (sM_52 ..) ?_
    refine px_aload_n d_X12_goesOnBehind_237 rfl rfl ?_
    refine px_dup d_X12_goesOnBehind_238 rfl ?_
    refine px_getI d_X12_goesOnBehind_239 fl_X12_184 rfl (so36 hL) ?_
    refine px_val (y := nI a) rfl ?_
    refine px_iconst (v := 1) d_X12_goesOnBehind_242 (by decide) ?_
    refine px_iadd d_X12_goesOnBehind_243 ?_
    refine px_putI d_X12_goesOnBehind_244 fl_X12_184 rfl (so36 hL) ?_
    refine px_heap (h2 := setM h (a + 1, 0, cd, dp, sw, gw, (upf aw dp 7), op, on)) ((congrArg (pI _ _ _) (nI_s1 a)).trans (sM_at ..)) ?_
    refine px_iconst (v := 1) d_X12_goesOnBehind_247 (by decide) ?_
    exact px_ireturn d_X12_goesOnBehind_248 rfl rfl (by
  rw [if_pos (wd3 ▸ (bI_n.mp c223).2)] at e
  cases e
  exact ⟨rfl, rfl, rfl⟩)
theorem gD_X12_goesOnBehind {h : PH} {a cd dp : Nat} {sw gw aw op on : Nat → Int32} (hL : px_L h) {N : Nat} {tk : Nat → Int32} {pl : Nat → Nat} (hT : TKs h N tk pl) (ha : a ≤ N) (hdp : dp ≤ 5) {b : Bool} {m : MS} {k : MS → Option (Bool × MS)} (hk : ∀ cd2 sw2 gw2 aw2 op2 on2, 0 < dp → tk a = -13 → k (a + 1, 0, cd2, dp - 1, sw2, gw2, aw2, op2, on2) = some (b, m) → PW M_X12_goesOnBehind (hn h) (hs h) (PMpost (some (.int (bI (b = true)))) (setM h m)) 0 [(0, .ref 36)] [] (setM h (a + 1, 0, cd2, dp - 1, sw2, gw2, aw2, op2, on2))) (e : goD tk pl k (a, 0, cd, dp, sw, gw, aw, op, on) = some (b, m)) : PW M_X12_goesOnBehind (hn h) (hs h) (PMpost (some (.int (bI (b = true)))) (setM h m)) 189 [(0, .ref 36)] [] (setM h (a, 0, cd, dp, sw, gw, aw, op, on)) := by
  have hN6 := hT.1
  unfold goD at e
  simp only at e
  by_cases q : aw dp = 0
  · rw [if_pos q] at e
    refine px_aload_n d_X12_goesOnBehind_189 rfl rfl ?_
    refine px_getR d_X12_goesOnBehind_190 fl_X12_75 (by decide) (so36 hL) (sr36_23 hL) ?_
    refine px_aload_n d_X12_goesOnBehind_193 rfl rfl ?_
    refine px_getI d_X12_goesOnBehind_194 fl_X12_226 rfl (so36 hL) ?_
    refine px_val (y := nI dp) rfl ?_
    refine px_iald d_X12_goesOnBehind_197 (sa52 hL) rfl (by omega) ?_
    refine px_val (y := aw dp) rfl ?_
    refine px_if_eq (tgt := 218) d_X12_goesOnBehind_198 (by decide) (fun c198 => ?_) (fun c198 => absurd q c198)
    exact gE_X12_goesOnBehind hL hT ha hdp hk e
  · rw [if_neg q] at e
    by_cases qc : cd < 660
    · rw [if_pos qc] at e
      refine px_aload_n d_X12_goesOnBehind_189 rfl rfl ?_
      refine px_getR d_X12_goesOnBehind_190 fl_X12_75 (by decide) (so36 hL) (sr36_23 hL) ?_
      refine px_aload_n d_X12_goesOnBehind_193 rfl rfl ?_
      refine px_getI d_X12_goesOnBehind_194 fl_X12_226 rfl (so36 hL) ?_
      refine px_val (y := nI dp) rfl ?_
      refine px_iald d_X12_goesOnBehind_197 (sa52 hL) rfl (by omega) ?_
      refine px_val (y := aw dp) rfl ?_
      refine px_if_eq (tgt := 218) d_X12_goesOnBehind_198 (by decide) (fun c198 => absurd c198 q) (fun c198 => ?_)
      refine px_aload_n d_X12_goesOnBehind_201 rfl rfl ?_
      refine px_bipush (v := 7) d_X12_goesOnBehind_202 (by decide) ?_
      refine px_iconst (v := 0) d_X12_goesOnBehind_204 (by decide) ?_
      refine px_callV (c_X12_emit hL qc) d_X12_goesOnBehind_205 lk_X12_239 ok_X12_emit ov_X12_emit (so36 hL) (by decide) rfl rfl (Nat.le_of_ble_eq_true rfl) (by decide) ⟨Nat.le_refl (hn h), Nat.le_refl (hs h)⟩ ?_
      refine px_heap (h2 := setM h (a, 0, cd + 1, dp, sw, gw, aw, (upf op (5280 + cd) 7), (upf on (5280 + cd) 0))) rfl ?_
      refine px_aload_n d_X12_goesOnBehind_208 rfl rfl ?_
      refine px_getR d_X12_goesOnBehind_209 fl_X12_75 (by decide) (so36 hL) (sr36_23 hL) ?_
      refine px_aload_n d_X12_goesOnBehind_212 rfl rfl ?_
      refine px_getI d_X12_goesOnBehind_213 fl_X12_226 rfl (so36 hL) ?_
      refine px_val (y := nI dp) rfl ?_
      refine px_iconst (v := 0) d_X12_goesOnBehind_216 (by decide) ?_
      refine px_iast d_X12_goesOnBehind_217 (sa52 hL) rfl (by omega) ?_
      refine px_heap (h2 := setM h (a, 0, cd + 1, dp, sw, gw, (upf aw dp 0), (upf op (5280 + cd) 7), (upf on (5280 + cd) 0))) (sM_52 ..) ?_
      exact gE_X12_goesOnBehind hL hT ha hdp hk e
    · rw [if_neg qc] at e
      cases e
theorem gC_X12_goesOnBehind {h : PH} {a cd dp : Nat} {sw gw aw op on : Nat → Int32} (hL : px_L h) {N : Nat} {tk : Nat → Int32} {pl : Nat → Nat} (hT : TKs h N tk pl) (ha : a ≤ N) (hdp : dp ≤ 5) {b : Bool} {m : MS} {k : MS → Option (Bool × MS)} (hk : ∀ cd2 sw2 gw2 aw2 op2 on2, 0 < dp → tk a = -13 → k (a + 1, 0, cd2, dp - 1, sw2, gw2, aw2, op2, on2) = some (b, m) → PW M_X12_goesOnBehind (hn h) (hs h) (PMpost (some (.int (bI (b = true)))) (setM h m)) 0 [(0, .ref 36)] [] (setM h (a + 1, 0, cd2, dp - 1, sw2, gw2, aw2, op2, on2))) (e : goC tk pl k (a, 0, cd, dp, sw, gw, aw, op, on) = some (b, m)) : PW M_X12_goesOnBehind (hn h) (hs h) (PMpost (some (.int (bI (b = true)))) (setM h m)) 96 [(0, .ref 36)] [] (setM h (a, 0, cd, dp, sw, gw, aw, op, on)) := by
  have hN6 := hT.1
  unfold goC at e
  simp only at e
  by_cases q : gw dp = 0
  · rw [if_pos q] at e
    by_cases q14 : tk a = -14
    · rw [if_pos q14] at e
      refine px_aload_n d_X12_goesOnBehind_96 rfl rfl ?_
      refine px_getR d_X12_goesOnBehind_97 fl_X12_72 (by decide) (so36 hL) (sr36_22 hL) ?_
      refine px_aload_n d_X12_goesOnBehind_100 rfl rfl ?_
      refine px_getI d_X12_goesOnBehind_101 fl_X12_226 rfl (so36 hL) ?_
      refine px_val (y := nI dp) rfl ?_
      refine px_iald d_X12_goesOnBehind_104 (sa51 hL) rfl (by omega) ?_
      refine px_val (y := gw dp) rfl ?_
      refine px_if_eq (tgt := 135) d_X12_goesOnBehind_105 (by decide) (fun c105 => ?_) (fun c105 => absurd q c105)
      refine px_aload_n d_X12_goesOnBehind_135 rfl rfl ?_
      refine px_bipush (v := 60) d_X12_goesOnBehind_136 (by decide) ?_
      refine px_callV (c_X12_isSign (c := 60) hL hT (fun _ => ha) (by decide)) d_X12_goesOnBehind_138 lk_X12_190 ok_X12_isSign ov_X12_isSign (so36 hL) (by decide) rfl rfl (Nat.le_of_ble_eq_true rfl) (by decide) ⟨Nat.le_refl (hn h), Nat.le_refl (hs h)⟩ ?_
      refine px_if_ne (tgt := 153) d_X12_goesOnBehind_141 (by decide) (fun c141 => ?_) (fun c141 => absurd ⟨rfl, q14⟩ (bI_0.mp c141))
      refine px_aload_n d_X12_goesOnBehind_153 rfl rfl ?_
      refine px_getR d_X12_goesOnBehind_154 fl_X12_72 (by decide) (so36 hL) (sr36_22 hL) ?_
      refine px_aload_n d_X12_goesOnBehind_157 rfl rfl ?_
      refine px_getI d_X12_goesOnBehind_158 fl_X12_226 rfl (so36 hL) ?_
      refine px_val (y := nI dp) rfl ?_
      refine px_aload_n d_X12_goesOnBehind_161 rfl rfl ?_
      refine px_bipush (v := 60) d_X12_goesOnBehind_162 (by decide) ?_
      refine px_callV (c_X12_isSign (c := 60) hL hT (fun _ => ha) (by decide)) d_X12_goesOnBehind_164 lk_X12_190 ok_X12_isSign ov_X12_isSign (so36 hL) (by decide) rfl rfl (Nat.le_of_ble_eq_true rfl) (by decide) ⟨Nat.le_refl (hn h), Nat.le_refl (hs h)⟩ ?_
      refine px_if_eq (tgt := 174) d_X12_goesOnBehind_167 (by decide) (fun c167 => absurd ⟨rfl, q14⟩ (bI_0.mp c167)) (fun c167 => ?_)
      refine px_iconst (v := 5) d_X12_goesOnBehind_170 (by decide) ?_
      refine px_goto (tgt := 176) d_X12_goesOnBehind_171 (by decide) ?_
      refine px_iast d_X12_goesOnBehind_176 (sa51 hL) rfl (by omega) ?_
      refine px_heap (h2 := setM h (a, 0, cd, dp, sw, (upf gw dp 5), aw, op, on)) (sM_51 ..) ?_
      refine px_aload_n d_X12_goesOnBehind_177 rfl rfl ?_
      refine px_dup d_X12_goesOnBehind_178 rfl ?_
      refine px_getI d_X12_goesOnBehind_179 fl_X12_184 rfl (so36 hL) ?_
      refine px_val (y := nI a) rfl ?_
      refine px_iconst (v := 1) d_X12_goesOnBehind_182 (by decide) ?_
      refine px_iadd d_X12_goesOnBehind_183 ?_
      refine px_putI d_X12_goesOnBehind_184 fl_X12_184 rfl (so36 hL) ?_
      refine px_heap (h2 := setM h (a + 1, 0, cd, dp, sw, (upf gw dp 5), aw, op, on)) ((congrArg (pI _ _ _) (nI_s1 a)).trans (sM_at ..)) ?_
      refine px_iconst (v := 1) d_X12_goesOnBehind_187 (by decide) ?_
      exact px_ireturn d_X12_goesOnBehind_188 rfl rfl (by
  cases e
  exact ⟨rfl, rfl, rfl⟩)
    · rw [if_neg q14] at e
      by_cases q15 : tk a = -15
      · rw [if_pos q15] at e
        refine px_aload_n d_X12_goesOnBehind_96 rfl rfl ?_
        refine px_getR d_X12_goesOnBehind_97 fl_X12_72 (by decide) (so36 hL) (sr36_22 hL) ?_
        refine px_aload_n d_X12_goesOnBehind_100 rfl rfl ?_
        refine px_getI d_X12_goesOnBehind_101 fl_X12_226 rfl (so36 hL) ?_
        refine px_val (y := nI dp) rfl ?_
        refine px_iald d_X12_goesOnBehind_104 (sa51 hL) rfl (by omega) ?_
        refine px_val (y := gw dp) rfl ?_
        refine px_if_eq (tgt := 135) d_X12_goesOnBehind_105 (by decide) (fun c105 => ?_) (fun c105 => absurd q c105)
        refine px_aload_n d_X12_goesOnBehind_135 rfl rfl ?_
        refine px_bipush (v := 60) d_X12_goesOnBehind_136 (by decide) ?_
        refine px_callV (c_X12_isSign (c := 60) hL hT (fun _ => ha) (by decide)) d_X12_goesOnBehind_138 lk_X12_190 ok_X12_isSign ov_X12_isSign (so36 hL) (by decide) rfl rfl (Nat.le_of_ble_eq_true rfl) (by decide) ⟨Nat.le_refl (hn h), Nat.le_refl (hs h)⟩ ?_
        refine px_if_ne (tgt := 153) d_X12_goesOnBehind_141 (by decide) (fun c141 => absurd (bI_n.mp c141).2 q14) (fun c141 => ?_)
        refine px_aload_n d_X12_goesOnBehind_144 rfl rfl ?_
        refine px_bipush (v := 61) d_X12_goesOnBehind_145 (by decide) ?_
        refine px_callV (c_X12_isSign (c := 61) hL hT (fun _ => ha) (by decide)) d_X12_goesOnBehind_147 lk_X12_190 ok_X12_isSign ov_X12_isSign (so36 hL) (by decide) rfl rfl (Nat.le_of_ble_eq_true rfl) (by decide) ⟨Nat.le_refl (hn h), Nat.le_refl (hs h)⟩ ?_
        refine px_if_eq (tgt := 189) d_X12_goesOnBehind_150 (by decide) (fun c150 => absurd ⟨rfl, q15⟩ (bI_0.mp c150)) (fun c150 => ?_)
        refine px_aload_n d_X12_goesOnBehind_153 rfl rfl ?_
        refine px_getR d_X12_goesOnBehind_154 fl_X12_72 (by decide) (so36 hL) (sr36_22 hL) ?_
        refine px_aload_n d_X12_goesOnBehind_157 rfl rfl ?_
        refine px_getI d_X12_goesOnBehind_158 fl_X12_226 rfl (so36 hL) ?_
        refine px_val (y := nI dp) rfl ?_
        refine px_aload_n d_X12_goesOnBehind_161 rfl rfl ?_
        refine px_bipush (v := 60) d_X12_goesOnBehind_162 (by decide) ?_
        refine px_callV (c_X12_isSign (c := 60) hL hT (fun _ => ha) (by decide)) d_X12_goesOnBehind_164 lk_X12_190 ok_X12_isSign ov_X12_isSign (so36 hL) (by decide) rfl rfl (Nat.le_of_ble_eq_true rfl) (by decide) ⟨Nat.le_refl (hn h), Nat.le_refl (hs h)⟩ ?_
        refine px_if_eq (tgt := 174) d_X12_goesOnBehind_167 (by decide) (fun c167 => ?_) (fun c167 => absurd (bI_n.mp c167).2 q14)
        refine px_bipush (v := 6) d_X12_goesOnBehind_174 (by decide) ?_
        refine px_iast d_X12_goesOnBehind_176 (sa51 hL) rfl (by omega) ?_
        refine px_heap (h2 := setM h (a, 0, cd, dp, sw, (upf gw dp 6), aw, op, on)) (sM_51 ..) ?_
        refine px_aload_n d_X12_goesOnBehind_177 rfl rfl ?_
        refine px_dup d_X12_goesOnBehind_178 rfl ?_
        refine px_getI d_X12_goesOnBehind_179 fl_X12_184 rfl (so36 hL) ?_
        refine px_val (y := nI a) rfl ?_
        refine px_iconst (v := 1) d_X12_goesOnBehind_182 (by decide) ?_
        refine px_iadd d_X12_goesOnBehind_183 ?_
        refine px_putI d_X12_goesOnBehind_184 fl_X12_184 rfl (so36 hL) ?_
        refine px_heap (h2 := setM h (a + 1, 0, cd, dp, sw, (upf gw dp 6), aw, op, on)) ((congrArg (pI _ _ _) (nI_s1 a)).trans (sM_at ..)) ?_
        refine px_iconst (v := 1) d_X12_goesOnBehind_187 (by decide) ?_
        exact px_ireturn d_X12_goesOnBehind_188 rfl rfl (by
  cases e
  exact ⟨rfl, rfl, rfl⟩)
      · rw [if_neg q15] at e
        refine px_aload_n d_X12_goesOnBehind_96 rfl rfl ?_
        refine px_getR d_X12_goesOnBehind_97 fl_X12_72 (by decide) (so36 hL) (sr36_22 hL) ?_
        refine px_aload_n d_X12_goesOnBehind_100 rfl rfl ?_
        refine px_getI d_X12_goesOnBehind_101 fl_X12_226 rfl (so36 hL) ?_
        refine px_val (y := nI dp) rfl ?_
        refine px_iald d_X12_goesOnBehind_104 (sa51 hL) rfl (by omega) ?_
        refine px_val (y := gw dp) rfl ?_
        refine px_if_eq (tgt := 135) d_X12_goesOnBehind_105 (by decide) (fun c105 => ?_) (fun c105 => absurd q c105)
        refine px_aload_n d_X12_goesOnBehind_135 rfl rfl ?_
        refine px_bipush (v := 60) d_X12_goesOnBehind_136 (by decide) ?_
        refine px_callV (c_X12_isSign (c := 60) hL hT (fun _ => ha) (by decide)) d_X12_goesOnBehind_138 lk_X12_190 ok_X12_isSign ov_X12_isSign (so36 hL) (by decide) rfl rfl (Nat.le_of_ble_eq_true rfl) (by decide) ⟨Nat.le_refl (hn h), Nat.le_refl (hs h)⟩ ?_
        refine px_if_ne (tgt := 153) d_X12_goesOnBehind_141 (by decide) (fun c141 => absurd (bI_n.mp c141).2 q14) (fun c141 => ?_)
        refine px_aload_n d_X12_goesOnBehind_144 rfl rfl ?_
        refine px_bipush (v := 61) d_X12_goesOnBehind_145 (by decide) ?_
        refine px_callV (c_X12_isSign (c := 61) hL hT (fun _ => ha) (by decide)) d_X12_goesOnBehind_147 lk_X12_190 ok_X12_isSign ov_X12_isSign (so36 hL) (by decide) rfl rfl (Nat.le_of_ble_eq_true rfl) (by decide) ⟨Nat.le_refl (hn h), Nat.le_refl (hs h)⟩ ?_
        refine px_if_eq (tgt := 189) d_X12_goesOnBehind_150 (by decide) (fun c150 => ?_) (fun c150 => absurd (bI_n.mp c150).2 q15)
        exact gD_X12_goesOnBehind hL hT ha hdp hk e
  · rw [if_neg q] at e
    by_cases qc : cd < 660
    · rw [if_pos qc] at e
      refine px_aload_n d_X12_goesOnBehind_96 rfl rfl ?_
      refine px_getR d_X12_goesOnBehind_97 fl_X12_72 (by decide) (so36 hL) (sr36_22 hL) ?_
      refine px_aload_n d_X12_goesOnBehind_100 rfl rfl ?_
      refine px_getI d_X12_goesOnBehind_101 fl_X12_226 rfl (so36 hL) ?_
      refine px_val (y := nI dp) rfl ?_
      refine px_iald d_X12_goesOnBehind_104 (sa51 hL) rfl (by omega) ?_
      refine px_val (y := gw dp) rfl ?_
      refine px_if_eq (tgt := 135) d_X12_goesOnBehind_105 (by decide) (fun c105 => absurd c105 q) (fun c105 => ?_)
      refine px_aload_n d_X12_goesOnBehind_108 rfl rfl ?_
      refine px_aload_n d_X12_goesOnBehind_109 rfl rfl ?_
      refine px_getR d_X12_goesOnBehind_110 fl_X12_72 (by decide) (so36 hL) (sr36_22 hL) ?_
      refine px_aload_n d_X12_goesOnBehind_113 rfl rfl ?_
      refine px_getI d_X12_goesOnBehind_114 fl_X12_226 rfl (so36 hL) ?_
      refine px_val (y := nI dp) rfl ?_
      refine px_iald d_X12_goesOnBehind_117 (sa51 hL) rfl (by omega) ?_
      refine px_val (y := gw dp) rfl ?_
      refine px_iconst (v := 0) d_X12_goesOnBehind_118 (by decide) ?_
      refine px_callV (c_X12_emit hL qc) d_X12_goesOnBehind_119 lk_X12_239 ok_X12_emit ov_X12_emit (so36 hL) (by decide) rfl rfl (Nat.le_of_ble_eq_true rfl) (by decide) ⟨Nat.le_refl (hn h), Nat.le_refl (hs h)⟩ ?_
      refine px_heap (h2 := setM h (a, 0, cd + 1, dp, sw, gw, aw, (upf op (5280 + cd) (gw dp)), (upf on (5280 + cd) 0))) rfl ?_
      refine px_aload_n d_X12_goesOnBehind_122 rfl rfl ?_
      refine px_getR d_X12_goesOnBehind_123 fl_X12_72 (by decide) (so36 hL) (sr36_22 hL) ?_
      refine px_aload_n d_X12_goesOnBehind_126 rfl rfl ?_
      refine px_getI d_X12_goesOnBehind_127 fl_X12_226 rfl (so36 hL) ?_
      refine px_val (y := nI dp) rfl ?_
      refine px_iconst (v := 0) d_X12_goesOnBehind_130 (by decide) ?_
      refine px_iast d_X12_goesOnBehind_131 (sa51 hL) rfl (by omega) ?_
      refine px_heap (h2 := setM h (a, 0, cd + 1, dp, sw, (upf gw dp 0), aw, (upf op (5280 + cd) (gw dp)), (upf on (5280 + cd) 0))) (sM_51 ..) ?_
      refine px_goto (tgt := 189) d_X12_goesOnBehind_132 (by decide) ?_
      exact gD_X12_goesOnBehind hL hT ha hdp hk e
    · rw [if_neg qc] at e
      cases e
theorem gB_X12_goesOnBehind {h : PH} {a cd dp : Nat} {sw gw aw op on : Nat → Int32} (hL : px_L h) {N : Nat} {tk : Nat → Int32} {pl : Nat → Nat} (hT : TKs h N tk pl) (ha : a ≤ N) (hdp : dp ≤ 5) {b : Bool} {m : MS} {k : MS → Option (Bool × MS)} (hk : ∀ cd2 sw2 gw2 aw2 op2 on2, 0 < dp → tk a = -13 → k (a + 1, 0, cd2, dp - 1, sw2, gw2, aw2, op2, on2) = some (b, m) → PW M_X12_goesOnBehind (hn h) (hs h) (PMpost (some (.int (bI (b = true)))) (setM h m)) 0 [(0, .ref 36)] [] (setM h (a + 1, 0, cd2, dp - 1, sw2, gw2, aw2, op2, on2))) (e : goB tk pl k (a, 0, cd, dp, sw, gw, aw, op, on) = some (b, m)) : PW M_X12_goesOnBehind (hn h) (hs h) (PMpost (some (.int (bI (b = true)))) (setM h m)) 43 [(0, .ref 36)] [] (setM h (a, 0, cd, dp, sw, gw, aw, op, on)) := by
  have hN6 := hT.1
  unfold goB at e
  simp only at e
  by_cases q16 : tk a = -16
  · rw [if_pos q16] at e
    refine px_aload_n d_X12_goesOnBehind_43 rfl rfl ?_
    refine px_bipush (v := 43) d_X12_goesOnBehind_44 (by decide) ?_
    refine px_callV (c_X12_isSign (c := 43) hL hT (fun _ => ha) (by decide)) d_X12_goesOnBehind_46 lk_X12_190 ok_X12_isSign ov_X12_isSign (so36 hL) (by decide) rfl rfl (Nat.le_of_ble_eq_true rfl) (by decide) ⟨Nat.le_refl (hn h), Nat.le_refl (hs h)⟩ ?_
    refine px_if_ne (tgt := 61) d_X12_goesOnBehind_49 (by decide) (fun c49 => ?_) (fun c49 => absurd ⟨rfl, q16⟩ (bI_0.mp c49))
    refine px_aload_n d_X12_goesOnBehind_61 rfl rfl ?_
    refine px_getR d_X12_goesOnBehind_62 fl_X12_69 (by decide) (so36 hL) (sr36_21 hL) ?_
    refine px_aload_n d_X12_goesOnBehind_65 rfl rfl ?_
    refine px_getI d_X12_goesOnBehind_66 fl_X12_226 rfl (so36 hL) ?_
    refine px_val (y := nI dp) rfl ?_
    refine px_aload_n d_X12_goesOnBehind_69 rfl rfl ?_
    refine px_bipush (v := 43) d_X12_goesOnBehind_70 (by decide) ?_
    refine px_callV (c_X12_isSign (c := 43) hL hT (fun _ => ha) (by decide)) d_X12_goesOnBehind_72 lk_X12_190 ok_X12_isSign ov_X12_isSign (so36 hL) (by decide) rfl rfl (Nat.le_of_ble_eq_true rfl) (by decide) ⟨Nat.le_refl (hn h), Nat.le_refl (hs h)⟩ ?_
    refine px_if_eq (tgt := 82) d_X12_goesOnBehind_75 (by decide) (fun c75 => absurd ⟨rfl, q16⟩ (bI_0.mp c75)) (fun c75 => ?_)
    refine px_iconst (v := 3) d_X12_goesOnBehind_78 (by decide) ?_
    refine px_goto (tgt := 83) d_X12_goesOnBehind_79 (by decide) ?_
    refine px_iast d_X12_goesOnBehind_83 (sa50 hL) rfl (by omega) ?_
    refine px_heap (h2 := setM h (a, 0, cd, dp, (upf sw dp 3), gw, aw, op, on)) (sM_50 ..) ?_
    refine px_aload_n d_X12_goesOnBehind_84 rfl rfl ?_
    refine px_dup d_X12_goesOnBehind_85 rfl ?_
    refine px_getI d_X12_goesOnBehind_86 fl_X12_184 rfl (so36 hL) ?_
    refine px_val (y := nI a) rfl ?_
    refine px_iconst (v := 1) d_X12_goesOnBehind_89 (by decide) ?_
    refine px_iadd d_X12_goesOnBehind_90 ?_
    refine px_putI d_X12_goesOnBehind_91 fl_X12_184 rfl (so36 hL) ?_
    refine px_heap (h2 := setM h (a + 1, 0, cd, dp, (upf sw dp 3), gw, aw, op, on)) ((congrArg (pI _ _ _) (nI_s1 a)).trans (sM_at ..)) ?_
    refine px_iconst (v := 1) d_X12_goesOnBehind_94 (by decide) ?_
    exact px_ireturn d_X12_goesOnBehind_95 rfl rfl (by
  cases e
  exact ⟨rfl, rfl, rfl⟩)
  · rw [if_neg q16] at e
    by_cases q17 : tk a = -17
    · rw [if_pos q17] at e
      refine px_aload_n d_X12_goesOnBehind_43 rfl rfl ?_
      refine px_bipush (v := 43) d_X12_goesOnBehind_44 (by decide) ?_
      refine px_callV (c_X12_isSign (c := 43) hL hT (fun _ => ha) (by decide)) d_X12_goesOnBehind_46 lk_X12_190 ok_X12_isSign ov_X12_isSign (so36 hL) (by decide) rfl rfl (Nat.le_of_ble_eq_true rfl) (by decide) ⟨Nat.le_refl (hn h), Nat.le_refl (hs h)⟩ ?_
      refine px_if_ne (tgt := 61) d_X12_goesOnBehind_49 (by decide) (fun c49 => absurd (bI_n.mp c49).2 q16) (fun c49 => ?_)
      refine px_aload_n d_X12_goesOnBehind_52 rfl rfl ?_
      refine px_bipush (v := 45) d_X12_goesOnBehind_53 (by decide) ?_
      refine px_callV (c_X12_isSign (c := 45) hL hT (fun _ => ha) (by decide)) d_X12_goesOnBehind_55 lk_X12_190 ok_X12_isSign ov_X12_isSign (so36 hL) (by decide) rfl rfl (Nat.le_of_ble_eq_true rfl) (by decide) ⟨Nat.le_refl (hn h), Nat.le_refl (hs h)⟩ ?_
      refine px_if_eq (tgt := 96) d_X12_goesOnBehind_58 (by decide) (fun c58 => absurd ⟨rfl, q17⟩ (bI_0.mp c58)) (fun c58 => ?_)
      refine px_aload_n d_X12_goesOnBehind_61 rfl rfl ?_
      refine px_getR d_X12_goesOnBehind_62 fl_X12_69 (by decide) (so36 hL) (sr36_21 hL) ?_
      refine px_aload_n d_X12_goesOnBehind_65 rfl rfl ?_
      refine px_getI d_X12_goesOnBehind_66 fl_X12_226 rfl (so36 hL) ?_
      refine px_val (y := nI dp) rfl ?_
      refine px_aload_n d_X12_goesOnBehind_69 rfl rfl ?_
      refine px_bipush (v := 43) d_X12_goesOnBehind_70 (by decide) ?_
      refine px_callV (c_X12_isSign (c := 43) hL hT (fun _ => ha) (by decide)) d_X12_goesOnBehind_72 lk_X12_190 ok_X12_isSign ov_X12_isSign (so36 hL) (by decide) rfl rfl (Nat.le_of_ble_eq_true rfl) (by decide) ⟨Nat.le_refl (hn h), Nat.le_refl (hs h)⟩ ?_
      refine px_if_eq (tgt := 82) d_X12_goesOnBehind_75 (by decide) (fun c75 => ?_) (fun c75 => absurd (bI_n.mp c75).2 q16)
      refine px_iconst (v := 4) d_X12_goesOnBehind_82 (by decide) ?_
      refine px_iast d_X12_goesOnBehind_83 (sa50 hL) rfl (by omega) ?_
      refine px_heap (h2 := setM h (a, 0, cd, dp, (upf sw dp 4), gw, aw, op, on)) (sM_50 ..) ?_
      refine px_aload_n d_X12_goesOnBehind_84 rfl rfl ?_
      refine px_dup d_X12_goesOnBehind_85 rfl ?_
      refine px_getI d_X12_goesOnBehind_86 fl_X12_184 rfl (so36 hL) ?_
      refine px_val (y := nI a) rfl ?_
      refine px_iconst (v := 1) d_X12_goesOnBehind_89 (by decide) ?_
      refine px_iadd d_X12_goesOnBehind_90 ?_
      refine px_putI d_X12_goesOnBehind_91 fl_X12_184 rfl (so36 hL) ?_
      refine px_heap (h2 := setM h (a + 1, 0, cd, dp, (upf sw dp 4), gw, aw, op, on)) ((congrArg (pI _ _ _) (nI_s1 a)).trans (sM_at ..)) ?_
      refine px_iconst (v := 1) d_X12_goesOnBehind_94 (by decide) ?_
      exact px_ireturn d_X12_goesOnBehind_95 rfl rfl (by
  cases e
  exact ⟨rfl, rfl, rfl⟩)
    · rw [if_neg q17] at e
      refine px_aload_n d_X12_goesOnBehind_43 rfl rfl ?_
      refine px_bipush (v := 43) d_X12_goesOnBehind_44 (by decide) ?_
      refine px_callV (c_X12_isSign (c := 43) hL hT (fun _ => ha) (by decide)) d_X12_goesOnBehind_46 lk_X12_190 ok_X12_isSign ov_X12_isSign (so36 hL) (by decide) rfl rfl (Nat.le_of_ble_eq_true rfl) (by decide) ⟨Nat.le_refl (hn h), Nat.le_refl (hs h)⟩ ?_
      refine px_if_ne (tgt := 61) d_X12_goesOnBehind_49 (by decide) (fun c49 => absurd (bI_n.mp c49).2 q16) (fun c49 => ?_)
      refine px_aload_n d_X12_goesOnBehind_52 rfl rfl ?_
      refine px_bipush (v := 45) d_X12_goesOnBehind_53 (by decide) ?_
      refine px_callV (c_X12_isSign (c := 45) hL hT (fun _ => ha) (by decide)) d_X12_goesOnBehind_55 lk_X12_190 ok_X12_isSign ov_X12_isSign (so36 hL) (by decide) rfl rfl (Nat.le_of_ble_eq_true rfl) (by decide) ⟨Nat.le_refl (hn h), Nat.le_refl (hs h)⟩ ?_
      refine px_if_eq (tgt := 96) d_X12_goesOnBehind_58 (by decide) (fun c58 => ?_) (fun c58 => absurd (bI_n.mp c58).2 q17)
      exact gC_X12_goesOnBehind hL hT ha hdp hk e
theorem gA_X12_goesOnBehind {h : PH} {a cd dp : Nat} {sw gw aw op on : Nat → Int32} (hL : px_L h) {N : Nat} {tk : Nat → Int32} {pl : Nat → Nat} (hT : TKs h N tk pl) (ha : a ≤ N) (hdp : dp ≤ 5) {b : Bool} {m : MS} {k : MS → Option (Bool × MS)} (hk : ∀ cd2 sw2 gw2 aw2 op2 on2, 0 < dp → tk a = -13 → k (a + 1, 0, cd2, dp - 1, sw2, gw2, aw2, op2, on2) = some (b, m) → PW M_X12_goesOnBehind (hn h) (hs h) (PMpost (some (.int (bI (b = true)))) (setM h m)) 0 [(0, .ref 36)] [] (setM h (a + 1, 0, cd2, dp - 1, sw2, gw2, aw2, op2, on2))) (e : goA tk pl k (a, 0, cd, dp, sw, gw, aw, op, on) = some (b, m)) : PW M_X12_goesOnBehind (hn h) (hs h) (PMpost (some (.int (bI (b = true)))) (setM h m)) 0 [(0, .ref 36)] [] (setM h (a, 0, cd, dp, sw, gw, aw, op, on)) := by
  have hN6 := hT.1
  unfold goA at e
  simp only at e
  by_cases q : sw dp = 0
  · rw [if_pos q] at e
    refine px_aload_n d_X12_goesOnBehind_0 rfl rfl ?_
    refine px_getI d_X12_goesOnBehind_1 fl_X12_187 rfl (so36 hL) ?_
    refine px_val (y := 0) rfl ?_
    refine px_if_ne (tgt := 277) d_X12_goesOnBehind_4 (by decide) (fun c4 => absurd rfl c4) (fun c4 => ?_)
    refine px_aload_n d_X12_goesOnBehind_7 rfl rfl ?_
    refine px_getR d_X12_goesOnBehind_8 fl_X12_69 (by decide) (so36 hL) (sr36_21 hL) ?_
    refine px_aload_n d_X12_goesOnBehind_11 rfl rfl ?_
    refine px_getI d_X12_goesOnBehind_12 fl_X12_226 rfl (so36 hL) ?_
    refine px_val (y := nI dp) rfl ?_
    refine px_iald d_X12_goesOnBehind_15 (sa50 hL) rfl (by omega) ?_
    refine px_val (y := sw dp) rfl ?_
    refine px_if_eq (tgt := 43) d_X12_goesOnBehind_16 (by decide) (fun c16 => ?_) (fun c16 => absurd q c16)
    exact gB_X12_goesOnBehind hL hT ha hdp hk e
  · rw [if_neg q] at e
    by_cases qc : cd < 660
    · rw [if_pos qc] at e
      refine px_aload_n d_X12_goesOnBehind_0 rfl rfl ?_
      refine px_getI d_X12_goesOnBehind_1 fl_X12_187 rfl (so36 hL) ?_
      refine px_val (y := 0) rfl ?_
      refine px_if_ne (tgt := 277) d_X12_goesOnBehind_4 (by decide) (fun c4 => absurd rfl c4) (fun c4 => ?_)
      refine px_aload_n d_X12_goesOnBehind_7 rfl rfl ?_
      refine px_getR d_X12_goesOnBehind_8 fl_X12_69 (by decide) (so36 hL) (sr36_21 hL) ?_
      refine px_aload_n d_X12_goesOnBehind_11 rfl rfl ?_
      refine px_getI d_X12_goesOnBehind_12 fl_X12_226 rfl (so36 hL) ?_
      refine px_val (y := nI dp) rfl ?_
      refine px_iald d_X12_goesOnBehind_15 (sa50 hL) rfl (by omega) ?_
      refine px_val (y := sw dp) rfl ?_
      refine px_if_eq (tgt := 43) d_X12_goesOnBehind_16 (by decide) (fun c16 => absurd c16 q) (fun c16 => ?_)
      refine px_aload_n d_X12_goesOnBehind_19 rfl rfl ?_
      refine px_aload_n d_X12_goesOnBehind_20 rfl rfl ?_
      refine px_getR d_X12_goesOnBehind_21 fl_X12_69 (by decide) (so36 hL) (sr36_21 hL) ?_
      refine px_aload_n d_X12_goesOnBehind_24 rfl rfl ?_
      refine px_getI d_X12_goesOnBehind_25 fl_X12_226 rfl (so36 hL) ?_
      refine px_val (y := nI dp) rfl ?_
      refine px_iald d_X12_goesOnBehind_28 (sa50 hL) rfl (by omega) ?_
      refine px_val (y := sw dp) rfl ?_
      refine px_iconst (v := 0) d_X12_goesOnBehind_29 (by decide) ?_
      refine px_callV (c_X12_emit hL qc) d_X12_goesOnBehind_30 lk_X12_239 ok_X12_emit ov_X12_emit (so36 hL) (by decide) rfl rfl (Nat.le_of_ble_eq_true rfl) (by decide) ⟨Nat.le_refl (hn h), Nat.le_refl (hs h)⟩ ?_
      refine px_heap (h2 := setM h (a, 0, cd + 1, dp, sw, gw, aw, (upf op (5280 + cd) (sw dp)), (upf on (5280 + cd) 0))) rfl ?_
      refine px_aload_n d_X12_goesOnBehind_33 rfl rfl ?_
      refine px_getR d_X12_goesOnBehind_34 fl_X12_69 (by decide) (so36 hL) (sr36_21 hL) ?_
      refine px_aload_n d_X12_goesOnBehind_37 rfl rfl ?_
      refine px_getI d_X12_goesOnBehind_38 fl_X12_226 rfl (so36 hL) ?_
      refine px_val (y := nI dp) rfl ?_
      refine px_iconst (v := 0) d_X12_goesOnBehind_41 (by decide) ?_
      refine px_iast d_X12_goesOnBehind_42 (sa50 hL) rfl (by omega) ?_
      refine px_heap (h2 := setM h (a, 0, cd + 1, dp, (upf sw dp 0), gw, aw, (upf op (5280 + cd) (sw dp)), (upf on (5280 + cd) 0))) (sM_50 ..) ?_
      exact gB_X12_goesOnBehind hL hT ha hdp hk e
    · rw [if_neg qc] at e
      cases e
theorem lp_X12_goesOnBehind {h : PH} (hL : px_L h) {N : Nat} {tk : Nat → Int32} {pl : Nat → Nat} (hT : TKs h N tk pl) (hE : ∀ i, i < N → ¬ tk i = -1) (hEN : tk N = -1) {b : Bool} {m : MS} : ∀ (dp a cd : Nat) (sw gw aw op on : Nat → Int32), a ≤ N → dp ≤ 5 → goM tk pl dp (a, 0, cd, dp, sw, gw, aw, op, on) = some (b, m) → PW M_X12_goesOnBehind (hn h) (hs h) (PMpost (some (.int (bI (b = true)))) (setM h m)) 0 [(0, .ref 36)] [] (setM h (a, 0, cd, dp, sw, gw, aw, op, on)) := by
  intro dp
  induction dp with
  | zero =>
    intro a cd sw gw aw op on ha hd e
    exact gA_X12_goesOnBehind hL hT ha hd (fun _ _ _ _ _ _ q => absurd q (Nat.lt_irrefl 0)) e
  | succ d ih =>
    intro a cd sw gw aw op on ha hd e
    refine gA_X12_goesOnBehind hL hT ha hd (fun cd2 sw2 gw2 aw2 op2 on2 q0 q13 e2 => ?_) e
    have hlt : a < N := by
      rcases Nat.lt_or_ge a N with w | w
      · exact w
      · rw [show a = N by omega, hEN] at q13
        exact absurd q13 (by decide)
    exact ih (a + 1) cd2 sw2 gw2 aw2 op2 on2 hlt (by omega) e2
theorem c_X12_goesOnBehind {h : PH} (hL : px_L h) {N : Nat} {tk : Nat → Int32} {pl : Nat → Nat} (hT : TKs h N tk pl) (hE : ∀ i, i < N → ¬ tk i = -1) (hEN : tk N = -1) {b : Bool} {m : MS} {a cd dp : Nat} {sw gw aw op on : Nat → Int32} (ha : a ≤ N) (hd : dp ≤ 5) (e : goM tk pl dp (a, 0, cd, dp, sw, gw, aw, op, on) = some (b, m)) : PM M_X12_goesOnBehind [.ref 36] (setM h (a, 0, cd, dp, sw, gw, aw, op, on)) (some (.int (bI (b = true)))) (setM h m) := by
  refine PM.of (by decide +kernel) (by decide +kernel) (Nat.le_refl (hn h)) (Nat.le_refl (hs h)) (Nat.le_of_ble_eq_true rfl) ?_
  exact lp_X12_goesOnBehind hL hT hE hEN dp a cd sw gw aw op on ha hd e
theorem n_X12_goesOnBehind {h : PH} {a : Nat} {fl : Int32} {cd dp : Nat} {sw gw aw op on : Nat → Int32} (hL : px_L h) (hf : ¬ fl = 0) : PM M_X12_goesOnBehind [.ref 36] (setM h (a, fl, cd, dp, sw, gw, aw, op, on)) (some (.int 0)) (setM h (a, fl, cd, dp, sw, gw, aw, op, on)) := by
  refine PM.of (by decide +kernel) (by decide +kernel) (Nat.le_refl (hn h)) (Nat.le_refl (hs h)) (Nat.le_of_ble_eq_true rfl) ?_
  refine px_aload_n d_X12_goesOnBehind_0 rfl rfl ?_
  refine px_getI d_X12_goesOnBehind_1 fl_X12_187 rfl (so36 hL) ?_
  refine px_val (y := fl) rfl ?_
  refine px_if_ne (tgt := 277) d_X12_goesOnBehind_4 (by decide) (fun c4 => ?_) (fun c4 => absurd c4 hf)
  refine px_iconst (v := 0) d_X12_goesOnBehind_277 (by decide) ?_
  exact px_ireturn d_X12_goesOnBehind_278 rfl rfl ⟨rfl, rfl, rfl⟩
