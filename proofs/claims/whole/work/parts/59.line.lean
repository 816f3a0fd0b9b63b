abbrev LiS : Type := Nat × (Nat → Int32) × (Nat → Int32) × (Nat → Int32)
/-- the draft's lines: how many; whether limits; their numbers; where their codes are -/
def setL (h : PH) (l : LiS) : PH := rI (rI (rI (pI h 44 8 (nI l.1)) 45 l.2.1) 46 l.2.2.1) 47 l.2.2.2
theorem setL_self {h : PH} {n : Nat} (h1 : hI h 44 8 = nI n) : setL h (n, hI h 45, hI h 46, hI h 47) = h := by
  unfold setL
  show rI (rI (rI (pI h 44 8 (nI n)) 45 (hI h 45)) 46 (hI h 46)) 47 (hI h 47) = h
  rw [← h1, pI_self, rI_self, rI_self, rI_self]
theorem sL_45 (h : PH) (li : Nat) (il lN lA : Nat → Int32) (m : MS) (i : Nat) (v : Int32) : pI (setM (setL h (li, il, lN, lA)) m) 45 i v = setM (setL h (li, upf il i v, lN, lA)) m := by
  refine PH.ext (fun x j => ?_) rfl
  unfold setM setL upf
  simp only [gI, hI_rI]
  by_cases h44 : x = 44
  · simp [h44, gI, hI_rI]
  by_cases h45 : x = 45
  · simp [h45, gI, hI_rI]
  by_cases h46 : x = 46
  · simp [h46, gI, hI_rI]
  by_cases h47 : x = 47
  · simp [h47, gI, hI_rI]
  by_cases h48 : x = 48
  · simp [h48, gI, hI_rI]
  by_cases h49 : x = 49
  · simp [h49, gI, hI_rI]
  by_cases h50 : x = 50
  · simp [h50, gI, hI_rI]
  by_cases h51 : x = 51
  · simp [h51, gI, hI_rI]
  by_cases h52 : x = 52
  · simp [h52, gI, hI_rI]
  by_cases h36 : x = 36
  · simp [h36, gI, hI_rI]
  simp [gI, hI_rI, h44, h45, h46, h47, h48, h49, h50, h51, h52, h36]
theorem sL_46 (h : PH) (li : Nat) (il lN lA : Nat → Int32) (m : MS) (i : Nat) (v : Int32) : pI (setM (setL h (li, il, lN, lA)) m) 46 i v = setM (setL h (li, il, upf lN i v, lA)) m := by
  refine PH.ext (fun x j => ?_) rfl
  unfold setM setL upf
  simp only [gI, hI_rI]
  by_cases h44 : x = 44
  · simp [h44, gI, hI_rI]
  by_cases h45 : x = 45
  · simp [h45, gI, hI_rI]
  by_cases h46 : x = 46
  · simp [h46, gI, hI_rI]
  by_cases h47 : x = 47
  · simp [h47, gI, hI_rI]
  by_cases h48 : x = 48
  · simp [h48, gI, hI_rI]
  by_cases h49 : x = 49
  · simp [h49, gI, hI_rI]
  by_cases h50 : x = 50
  · simp [h50, gI, hI_rI]
  by_cases h51 : x = 51
  · simp [h51, gI, hI_rI]
  by_cases h52 : x = 52
  · simp [h52, gI, hI_rI]
  by_cases h36 : x = 36
  · simp [h36, gI, hI_rI]
  simp [gI, hI_rI, h44, h45, h46, h47, h48, h49, h50, h51, h52, h36]
theorem sL_47 (h : PH) (li : Nat) (il lN lA : Nat → Int32) (m : MS) (i : Nat) (v : Int32) : pI (setM (setL h (li, il, lN, lA)) m) 47 i v = setM (setL h (li, il, lN, upf lA i v)) m := by
  refine PH.ext (fun x j => ?_) rfl
  unfold setM setL upf
  simp only [gI, hI_rI]
  by_cases h44 : x = 44
  · simp [h44, gI, hI_rI]
  by_cases h45 : x = 45
  · simp [h45, gI, hI_rI]
  by_cases h46 : x = 46
  · simp [h46, gI, hI_rI]
  by_cases h47 : x = 47
  · simp [h47, gI, hI_rI]
  by_cases h48 : x = 48
  · simp [h48, gI, hI_rI]
  by_cases h49 : x = 49
  · simp [h49, gI, hI_rI]
  by_cases h50 : x = 50
  · simp [h50, gI, hI_rI]
  by_cases h51 : x = 51
  · simp [h51, gI, hI_rI]
  by_cases h52 : x = 52
  · simp [h52, gI, hI_rI]
  by_cases h36 : x = 36
  · simp [h36, gI, hI_rI]
  simp [gI, hI_rI, h44, h45, h46, h47, h48, h49, h50, h51, h52, h36]
theorem sL_44 (h : PH) (li v : Nat) (il lN lA : Nat → Int32) (m : MS) : pI (setM (setL h (li, il, lN, lA)) m) 44 8 (nI v) = setM (setL h (v, il, lN, lA)) m := by
  refine PH.ext (fun x j => ?_) rfl
  unfold setM setL
  simp only [gI, hI_rI]
  by_cases h44 : x = 44
  · by_cases hj : j = 8 <;> simp [h44, hj, gI, hI_rI]
  by_cases h45 : x = 45
  · simp [h45, gI, hI_rI]
  by_cases h46 : x = 46
  · simp [h46, gI, hI_rI]
  by_cases h47 : x = 47
  · simp [h47, gI, hI_rI]
  by_cases h48 : x = 48
  · simp [h48, gI, hI_rI]
  by_cases h49 : x = 49
  · simp [h49, gI, hI_rI]
  by_cases h50 : x = 50
  · simp [h50, gI, hI_rI]
  by_cases h51 : x = 51
  · simp [h51, gI, hI_rI]
  by_cases h52 : x = 52
  · simp [h52, gI, hI_rI]
  by_cases h36 : x = 36
  · simp [h36, gI, hI_rI]
  simp [gI, hI_rI, h44, h45, h46, h47, h48, h49, h50, h51, h52, h36]
/-- a line's body: parts and what stands behind them -/
def boM (tk : Nat → Int32) (pl : Nat → Nat) : Nat → MS → Option MS
  | 0, _ => none
  | f + 1, (a, fl, cd, dp, sw, gw, aw, op, on) => if fl = 0 then
      (if bgT (tk a) = true then
        (if dp = 5 then some (a, nI (5 + 16 * pl a), cd, dp, sw, gw, aw, op, on) else
          if tk a = -12 then boM tk pl f (opM (a + 1, 0, cd, dp + 1, sw, gw, aw, op, on)) else
          if cd < 660 then
            (match goM tk pl dp (emM (a + 1, 0, cd, dp, sw, gw, aw, op, on) (if 0 ≤ tk a then 1 else 2) (if 0 ≤ tk a then tk a else pwV (tk a))) with
            | none => none
            | some (true, m2) => boM tk pl f m2
            | some (false, m2) => some m2)
          else none)
      else some (a, nI (1 + 16 * pl a), cd, dp, sw, gw, aw, op, on))
    else some (a, fl, cd, dp, sw, gw, aw, op, on)
theorem goE_ok {tk : Nat → Int32} {pl : Nat → Nat} {N : Nat} (hE : tk N = -1) {k : MS → Option (Bool × MS)} {a cd dp : Nat} {sw gw aw op on : Nat → Int32} {b : Bool} {m : MS} (ha : a ≤ N) (hd : dp ≤ 5) (hpl : pl a ≤ 600) (hk : ∀ cd2 sw2 gw2 aw2 op2 on2, a + 1 ≤ N → 0 < dp → k (a + 1, 0, cd2, dp - 1, sw2, gw2, aw2, op2, on2) = some (b, m) → (m.2.1 = 0 → m.1 ≤ N) ∧ m.2.2.2.1 ≤ 5 ∧ (b = true → m.2.1 = 0)) (e : goE tk pl k (a, 0, cd, dp, sw, gw, aw, op, on) = some (b, m)) : (m.2.1 = 0 → m.1 ≤ N) ∧ m.2.2.2.1 ≤ 5 ∧ (b = true → m.2.1 = 0) := by
  have lt : ∀ x : Int32, ¬ x = -1 → tk a = x → a + 1 ≤ N := fun x hx q => by
    rcases Nat.lt_or_ge a N with w | w
    · exact w
    · rw [show a = N by omega, hE] at q; exact absurd q.symm hx
  unfold goE at e
  simp only at e
  split at e
  · rename_i q; cases e; exact ⟨fun _ => lt (-6) (by decide) q, hd, fun _ => rfl⟩
  split at e
  · cases e; exact ⟨fun _ => ha, hd, fun w => by cases w⟩
  split at e
  · rename_i q; exact hk _ _ _ _ _ _ (lt (-13) (by decide) q) (by omega) e
  · cases e
    refine ⟨fun w => absurd w (nI_ne0 (by omega) (by omega)), by show dp - 1 ≤ 5; omega, fun w => by cases w⟩
theorem goA_ok {tk : Nat → Int32} {pl : Nat → Nat} {N : Nat} (hE : tk N = -1) {k : MS → Option (Bool × MS)} {a cd dp : Nat} {sw gw aw op on : Nat → Int32} {b : Bool} {m : MS} (ha : a ≤ N) (hd : dp ≤ 5) (hpl : pl a ≤ 600) (hk : ∀ cd2 sw2 gw2 aw2 op2 on2, a + 1 ≤ N → 0 < dp → k (a + 1, 0, cd2, dp - 1, sw2, gw2, aw2, op2, on2) = some (b, m) → (m.2.1 = 0 → m.1 ≤ N) ∧ m.2.2.2.1 ≤ 5 ∧ (b = true → m.2.1 = 0)) (e : goA tk pl k (a, 0, cd, dp, sw, gw, aw, op, on) = some (b, m)) : (m.2.1 = 0 → m.1 ≤ N) ∧ m.2.2.2.1 ≤ 5 ∧ (b = true → m.2.1 = 0) := by
  have lt : ∀ x : Int32, ¬ x = -1 → tk a = x → a + 1 ≤ N := fun x hx q => by
    rcases Nat.lt_or_ge a N with w | w
    · exact w
    · rw [show a = N by omega, hE] at q; exact absurd q.symm hx
  have hD : ∀ cd2 gw2 op2 on2 sw2, goD tk pl k (a, 0, cd2, dp, sw2, gw2, aw, op2, on2) = some (b, m) → (m.2.1 = 0 → m.1 ≤ N) ∧ m.2.2.2.1 ≤ 5 ∧ (b = true → m.2.1 = 0) := by
    intro cd2 gw2 op2 on2 sw2 e
    unfold goD at e
    simp only at e
    split at e
    · exact goE_ok hE ha hd hpl hk e
    split at e
    · exact goE_ok hE ha hd hpl hk e
    · cases e
  have hC : ∀ cd2 op2 on2 sw2, goC tk pl k (a, 0, cd2, dp, sw2, gw, aw, op2, on2) = some (b, m) → (m.2.1 = 0 → m.1 ≤ N) ∧ m.2.2.2.1 ≤ 5 ∧ (b = true → m.2.1 = 0) := by
    intro cd2 op2 on2 sw2 e
    unfold goC at e
    simp only at e
    split at e
    · split at e
      · rename_i q; cases e; exact ⟨fun _ => lt (-14) (by decide) q, hd, fun _ => rfl⟩
      split at e
      · rename_i q; cases e; exact ⟨fun _ => lt (-15) (by decide) q, hd, fun _ => rfl⟩
      · exact hD _ _ _ _ _ e
    split at e
    · exact hD _ _ _ _ _ e
    · cases e
  have hB : ∀ cd2 op2 on2 sw2, goB tk pl k (a, 0, cd2, dp, sw2, gw, aw, op2, on2) = some (b, m) → (m.2.1 = 0 → m.1 ≤ N) ∧ m.2.2.2.1 ≤ 5 ∧ (b = true → m.2.1 = 0) := by
    intro cd2 op2 on2 sw2 e
    unfold goB at e
    simp only at e
    split at e
    · rename_i q; cases e; exact ⟨fun _ => lt (-16) (by decide) q, hd, fun _ => rfl⟩
    split at e
    · rename_i q; cases e; exact ⟨fun _ => lt (-17) (by decide) q, hd, fun _ => rfl⟩
    · exact hC _ _ _ _ e
  unfold goA at e
  simp only at e
  split at e
  · exact hB _ _ _ _ e
  split at e
  · exact hB _ _ _ _ e
  · cases e
theorem goM_ok {tk : Nat → Int32} {pl : Nat → Nat} {N : Nat} (hE : tk N = -1) (hpl : ∀ i, i ≤ N → pl i ≤ 600) {b : Bool} {m : MS} : ∀ (dp a cd : Nat) (sw gw aw op on : Nat → Int32), a ≤ N → dp ≤ 5 → goM tk pl dp (a, 0, cd, dp, sw, gw, aw, op, on) = some (b, m) → (m.2.1 = 0 → m.1 ≤ N) ∧ m.2.2.2.1 ≤ 5 ∧ (b = true → m.2.1 = 0)
  | 0, a, cd, sw, gw, aw, op, on, ha, hd, e => goA_ok hE ha hd (hpl a ha) (fun _ _ _ _ _ _ _ w => absurd w (Nat.lt_irrefl 0)) e
  | d + 1, a, cd, sw, gw, aw, op, on, ha, hd, e => goA_ok hE ha hd (hpl a ha) (fun cd2 sw2 gw2 aw2 op2 on2 w _ e2 => goM_ok hE hpl d (a + 1) cd2 sw2 gw2 aw2 op2 on2 w (by omega) e2) e
theorem bg_lt {tk : Nat → Int32} {N a : Nat} (hE : tk N = -1) (ha : a ≤ N) (hb : bgT (tk a) = true) : a + 1 ≤ N := by
  rcases Nat.lt_or_ge a N with w | w
  · exact w
  · rw [show a = N by omega, hE] at hb; exact absurd hb (by decide)
theorem lp_X12_line {h : PH} {N0 S0 : Nat} {Post : Nat → Option Value → PH → Prop} {l1 l2 : Int32} (hL : px_L h) (hN0 : hn h ≤ N0 ∧ hs h ≤ S0) {N : Nat} {tk : Nat → Int32} {pl : Nat → Nat} (hT : TKs h N tk pl) (hE : ∀ i, i < N → ¬ tk i = -1) (hEN : tk N = -1) {m' : MS} : ∀ (f a : Nat) (fl : Int32) (cd dp : Nat) (sw gw aw op on : Nat → Int32), (fl = 0 → a ≤ N) → dp ≤ 5 → boM tk pl f (a, fl, cd, dp, sw, gw, aw, op, on) = some m' → PW M_X12_line N0 S0 Post 223 [(0, .ref 36), (1, .int l1), (2, .int l2)] [] (setM h m') → PW M_X12_line N0 S0 Post 189 [(0, .ref 36), (1, .int l1), (2, .int l2), (3, .int 1)] [] (setM h (a, fl, cd, dp, sw, gw, aw, op, on)) := by
  intro f
  induction f with
  | zero =>
    intro a fl cd dp sw gw aw op on ha hd e kk
    cases e
  | succ f ih =>
    intro a fl cd dp sw gw aw op on ha hd e kk
    unfold boM at e
    by_cases q0 : fl = 0
    · subst q0
      have ha := ha rfl
      rw [if_pos rfl] at e
      by_cases qb : bgT (tk a) = true
      · rw [if_pos qb] at e
        by_cases q5 : dp = 5
        · rw [if_pos q5] at e
          cases e
          refine px_iload_n d_X12_line_189 rfl rfl ?_
          refine px_if_eq (tgt := 223) d_X12_line_190 (by decide) (fun c190 => absurd c190 (by decide)) (fun c190 => ?_)
          refine px_aload_n d_X12_line_193 rfl rfl ?_
          refine px_getI d_X12_line_194 fl_X12_187 rfl (so36 hL) ?_
          refine px_val (y := 0) rfl ?_
          refine px_if_ne (tgt := 223) d_X12_line_197 (by decide) (fun c197 => absurd rfl c197) (fun c197 => ?_)
          refine px_aload_n d_X12_line_200 rfl rfl ?_
          refine px_callV (n5_X12_part hL hT ha qb q5) d_X12_line_201 lk_X12_232 ok_X12_part ov_X12_part (so36 hL) (by decide) rfl rfl (Nat.le_of_ble_eq_true rfl) (by decide) hN0 ?_
          refine px_if_ne (tgt := 214) d_X12_line_204 (by decide) (fun c204 => absurd rfl c204) (fun c204 => ?_)
          refine px_aload_n d_X12_line_207 rfl rfl ?_
          refine px_callV (n_X12_goesOnBehind hL (nI_ne0 (by omega) (by have := (hT.2 a ha).2.2.2.2.2.2; omega))) d_X12_line_208 lk_X12_236 ok_X12_goesOnBehind ov_X12_goesOnBehind (so36 hL) (by decide) rfl rfl (Nat.le_of_ble_eq_true rfl) (by decide) hN0 ?_
          refine px_if_eq (tgt := 218) d_X12_line_211 (by decide) (fun c211 => ?_) (fun c211 => absurd rfl c211)
          refine px_iconst (v := 0) d_X12_line_218 (by decide) ?_
          refine px_istore_n d_X12_line_219 rfl (by decide) ?_
          refine px_goto (tgt := 189) d_X12_line_220 (by decide) ?_
          refine px_iload_n d_X12_line_189 rfl rfl ?_
          refine px_if_eq (tgt := 223) d_X12_line_190 (by decide) (fun c190 => ?_) (fun c190 => absurd rfl c190)
          refine px_drop (lv' := [(0, .ref 36), (1, .int l1), (2, .int l2)]) ⟨rfl, rfl, rfl, trivial⟩ ?_
          exact kk
        · rw [if_neg q5] at e
          by_cases q12 : tk a = -12
          · rw [if_pos q12] at e
            refine px_iload_n d_X12_line_189 rfl rfl ?_
            refine px_if_eq (tgt := 223) d_X12_line_190 (by decide) (fun c190 => absurd c190 (by decide)) (fun c190 => ?_)
            refine px_aload_n d_X12_line_193 rfl rfl ?_
            refine px_getI d_X12_line_194 fl_X12_187 rfl (so36 hL) ?_
            refine px_val (y := 0) rfl ?_
            refine px_if_ne (tgt := 223) d_X12_line_197 (by decide) (fun c197 => absurd rfl c197) (fun c197 => ?_)
            refine px_aload_n d_X12_line_200 rfl rfl ?_
            refine px_callV (o_X12_part hL hT ha qb (by omega) q12) d_X12_line_201 lk_X12_232 ok_X12_part ov_X12_part (so36 hL) (by decide) rfl rfl (Nat.le_of_ble_eq_true rfl) (by decide) hN0 ?_
            refine px_if_ne (tgt := 214) d_X12_line_204 (by decide) (fun c204 => ?_) (fun c204 => absurd c204 (by decide))
            refine px_iconst (v := 1) d_X12_line_214 (by decide) ?_
            refine px_goto (tgt := 219) d_X12_line_215 (by decide) ?_
            refine px_istore_n d_X12_line_219 rfl (by decide) ?_
            refine px_goto (tgt := 189) d_X12_line_220 (by decide) ?_
            refine px_drop (lv' := [(0, .ref 36), (1, .int l1), (2, .int l2), (3, .int 1)]) ⟨rfl, rfl, rfl, rfl, trivial⟩ ?_
            exact ih _ _ _ _ _ _ _ _ _ (fun _ => bg_lt hEN ha qb) (by show dp + 1 ≤ 5; omega) e kk
          · rw [if_neg q12] at e
            by_cases qc : cd < 660
            · rw [if_pos qc] at e
              have key : ∀ (c x : Int32), goM tk pl dp (emM (a + 1, 0, cd, dp, sw, gw, aw, op, on) c x) = goM tk pl dp (emM (a + 1, 0, cd, dp, sw, gw, aw, op, on) (if 0 ≤ tk a then 1 else 2) (if 0 ≤ tk a then tk a else pwV (tk a))) → PM M_X12_part [.ref 36] (setM h (a, 0, cd, dp, sw, gw, aw, op, on)) (some (.int 0)) (setM h (emM (a + 1, 0, cd, dp, sw, gw, aw, op, on) c x)) → PW M_X12_line N0 S0 Post 189 [(0, .ref 36), (1, .int l1), (2, .int l2), (3, .int 1)] [] (setM h (a, 0, cd, dp, sw, gw, aw, op, on)) := by
                intro c x eg cP
                rcases hg : goM tk pl dp (emM (a + 1, 0, cd, dp, sw, gw, aw, op, on) c x) with _ | ⟨b, m2⟩
                · rw [← eg, hg] at e
                  cases e
                · rw [← eg, hg] at e
                  have ok := goM_ok hEN (fun i hi => (hT.2 i hi).2.2.2.2.2.2) dp (a + 1) (cd + 1) sw gw aw (upf op (5280 + cd) c) (upf on (5280 + cd) x) (bg_lt hEN ha qb) hd hg
                  have cG := c_X12_goesOnBehind (b := b) (m := m2) hL hT hE hEN (bg_lt hEN ha qb) hd hg
                  cases b with
                  | true =>
                    have e : boM tk pl f m2 = some m' := e
                    refine px_iload_n d_X12_line_189 rfl rfl ?_
                    refine px_if_eq (tgt := 223) d_X12_line_190 (by decide) (fun c190 => absurd c190 (by decide)) (fun c190 => ?_)
                    refine px_aload_n d_X12_line_193 rfl rfl ?_
                    refine px_getI d_X12_line_194 fl_X12_187 rfl (so36 hL) ?_
                    refine px_val (y := 0) rfl ?_
                    refine px_if_ne (tgt := 223) d_X12_line_197 (by decide) (fun c197 => absurd rfl c197) (fun c197 => ?_)
                    refine px_aload_n d_X12_line_200 rfl rfl ?_
                    refine px_callV (cP) d_X12_line_201 lk_X12_232 ok_X12_part ov_X12_part (so36 hL) (by decide) rfl rfl (Nat.le_of_ble_eq_true rfl) (by decide) hN0 ?_
                    refine px_if_ne (tgt := 214) d_X12_line_204 (by decide) (fun c204 => absurd rfl c204) (fun c204 => ?_)
                    refine px_aload_n d_X12_line_207 rfl rfl ?_
                    refine px_callV (cG) d_X12_line_208 lk_X12_236 ok_X12_goesOnBehind ov_X12_goesOnBehind (so36 hL) (by decide) rfl rfl (Nat.le_of_ble_eq_true rfl) (by decide) hN0 ?_
                    refine px_if_eq (tgt := 218) d_X12_line_211 (by decide) (fun c211 => absurd c211 (by decide)) (fun c211 => ?_)
                    refine px_iconst (v := 1) d_X12_line_214 (by decide) ?_
                    refine px_goto (tgt := 219) d_X12_line_215 (by decide) ?_
                    refine px_istore_n d_X12_line_219 rfl (by decide) ?_
                    refine px_goto (tgt := 189) d_X12_line_220 (by decide) ?_
                    obtain ⟨a2, fl2, cd2, dp2, sw2, gw2, aw2, op2, on2⟩ := m2
                    refine px_drop (lv' := [(0, .ref 36), (1, .int l1), (2, .int l2), (3, .int 1)]) ⟨rfl, rfl, rfl, rfl, trivial⟩ ?_
                    exact ih _ _ _ _ _ _ _ _ _ ok.1 ok.2.1 e kk
                  | false =>
                    have e : some m2 = some m' := e
                    cases e
                    refine px_iload_n d_X12_line_189 rfl rfl ?_
                    refine px_if_eq (tgt := 223) d_X12_line_190 (by decide) (fun c190 => absurd c190 (by decide)) (fun c190 => ?_)
                    refine px_aload_n d_X12_line_193 rfl rfl ?_
                    refine px_getI d_X12_line_194 fl_X12_187 rfl (so36 hL) ?_
                    refine px_val (y := 0) rfl ?_
                    refine px_if_ne (tgt := 223) d_X12_line_197 (by decide) (fun c197 => absurd rfl c197) (fun c197 => ?_)
                    refine px_aload_n d_X12_line_200 rfl rfl ?_
                    refine px_callV (cP) d_X12_line_201 lk_X12_232 ok_X12_part ov_X12_part (so36 hL) (by decide) rfl rfl (Nat.le_of_ble_eq_true rfl) (by decide) hN0 ?_
                    refine px_if_ne (tgt := 214) d_X12_line_204 (by decide) (fun c204 => absurd rfl c204) (fun c204 => ?_)
                    refine px_aload_n d_X12_line_207 rfl rfl ?_
                    refine px_callV (cG) d_X12_line_208 lk_X12_236 ok_X12_goesOnBehind ov_X12_goesOnBehind (so36 hL) (by decide) rfl rfl (Nat.le_of_ble_eq_true rfl) (by decide) hN0 ?_
                    refine px_if_eq (tgt := 218) d_X12_line_211 (by decide) (fun c211 => ?_) (fun c211 => absurd (by decide) c211)
                    refine px_iconst (v := 0) d_X12_line_218 (by decide) ?_
                    refine px_istore_n d_X12_line_219 rfl (by decide) ?_
                    refine px_goto (tgt := 189) d_X12_line_220 (by decide) ?_
                    refine px_iload_n d_X12_line_189 rfl rfl ?_
                    refine px_if_eq (tgt := 223) d_X12_line_190 (by decide) (fun c190 => ?_) (fun c190 => absurd rfl c190)
                    refine px_drop (lv' := [(0, .ref 36), (1, .int l1), (2, .int l2)]) ⟨rfl, rfl, rfl, trivial⟩ ?_
                    exact kk
              by_cases qn : 0 ≤ tk a
              · exact key 1 (tk a) (by rw [if_pos qn, if_pos qn]) (v_X12_part hL hT ha qb (by omega) qc qn)
              · exact key 2 (pwV (tk a)) (by rw [if_neg qn, if_neg qn]) (w_X12_part hL hT ha qb (by omega) qc qn q12)
            · rw [if_neg qc] at e
              cases e
      · rw [if_neg qb] at e
        cases e
        have qb : bgT (tk a) = false := by cases w : bgT (tk a); rfl; exact absurd w qb
        refine px_iload_n d_X12_line_189 rfl rfl ?_
        refine px_if_eq (tgt := 223) d_X12_line_190 (by decide) (fun c190 => absurd c190 (by decide)) (fun c190 => ?_)
        refine px_aload_n d_X12_line_193 rfl rfl ?_
        refine px_getI d_X12_line_194 fl_X12_187 rfl (so36 hL) ?_
        refine px_val (y := 0) rfl ?_
        refine px_if_ne (tgt := 223) d_X12_line_197 (by decide) (fun c197 => absurd rfl c197) (fun c197 => ?_)
        refine px_aload_n d_X12_line_200 rfl rfl ?_
        refine px_callV (n1_X12_part hL hT ha qb) d_X12_line_201 lk_X12_232 ok_X12_part ov_X12_part (so36 hL) (by decide) rfl rfl (Nat.le_of_ble_eq_true rfl) (by decide) hN0 ?_
        refine px_if_ne (tgt := 214) d_X12_line_204 (by decide) (fun c204 => absurd rfl c204) (fun c204 => ?_)
        refine px_aload_n d_X12_line_207 rfl rfl ?_
        refine px_callV (n_X12_goesOnBehind hL (nI_ne0 (by omega) (by have := (hT.2 a ha).2.2.2.2.2.2; omega))) d_X12_line_208 lk_X12_236 ok_X12_goesOnBehind ov_X12_goesOnBehind (so36 hL) (by decide) rfl rfl (Nat.le_of_ble_eq_true rfl) (by decide) hN0 ?_
        refine px_if_eq (tgt := 218) d_X12_line_211 (by decide) (fun c211 => ?_) (fun c211 => absurd rfl c211)
        refine px_iconst (v := 0) d_X12_line_218 (by decide) ?_
        refine px_istore_n d_X12_line_219 rfl (by decide) ?_
        refine px_goto (tgt := 189) d_X12_line_220 (by decide) ?_
        refine px_iload_n d_X12_line_189 rfl rfl ?_
        refine px_if_eq (tgt := 223) d_X12_line_190 (by decide) (fun c190 => ?_) (fun c190 => absurd rfl c190)
        refine px_drop (lv' := [(0, .ref 36), (1, .int l1), (2, .int l2)]) ⟨rfl, rfl, rfl, trivial⟩ ?_
        exact kk
    · rw [if_neg q0] at e
      cases e
      refine px_iload_n d_X12_line_189 rfl rfl ?_
      refine px_if_eq (tgt := 223) d_X12_line_190 (by decide) (fun c190 => absurd c190 (by decide)) (fun c190 => ?_)
      refine px_aload_n d_X12_line_193 rfl rfl ?_
      refine px_getI d_X12_line_194 fl_X12_187 rfl (so36 hL) ?_
      refine px_val (y := fl) rfl ?_
      refine px_if_ne (tgt := 223) d_X12_line_197 (by decide) (fun c197 => ?_) (fun c197 => absurd c197 q0)
      refine px_drop (lv' := [(0, .ref 36), (1, .int l1), (2, .int l2)]) ⟨rfl, rfl, rfl, trivial⟩ ?_
      exact kk
def f1M (tk : Nat → Int32) (pl : Nat → Nat) (a : Nat) : Int32 := if 0 ≤ tk (a + 1) then (if tk a = -3 ∧ ¬ tk (a + 1) ≤ 100 then nI (4 + 16 * pl (a + 1)) else 0) else nI (1 + 16 * pl (a + 1))
/-- a line -/
def liM (tk : Nat → Int32) (pl : Nat → Nat) (fu : Nat) : LiS → MS → Option (LiS × MS)
  | (li, il, lN, lA), (a, fl, cd, dp, sw, gw, aw, op, on) => if tk a = -3 ∨ tk a = -4 then
      (if li = 16 then some ((li, il, lN, lA), (a, nI (5 + 16 * pl a), cd, dp, sw, gw, aw, op, on)) else
        (match boM tk pl fu (opM ((tkM tk pl (a + 2, f1M tk pl a, cd, dp, sw, gw, aw, op, on) (-5)).1, (tkM tk pl (a + 2, f1M tk pl a, cd, dp, sw, gw, aw, op, on) (-5)).2.1, cd, 0, sw, gw, aw, op, on)) with
        | none => none
        | some m5 => if m5.2.2.1 < 660 then some ((li + 1, upf il (128 + li) (if tk a = -4 then 1 else 0), upf lN (128 + li) (if f1M tk pl a = 0 then tk (a + 1) else 0), upf lA (128 + li) (nI cd)), tkM tk pl (emM m5 0 0) (-18)) else none))
    else some ((li, il, lN, lA), (a, nI (1 + 16 * pl a), cd, dp, sw, gw, aw, op, on))
theorem wd0 : (-3 : Int32) - nI 0 = -3 := by decide
theorem wd1 : (-3 : Int32) - nI 1 = -4 := by decide
theorem wd2 : (-3 : Int32) - nI 2 = -5 := by decide
theorem n1_X12_line {h : PH} {a cd dp : Nat} {sw gw aw op on : Nat → Int32} {li : Nat} {il lN lA : Nat → Int32} (hL : px_L h) {N : Nat} {tk : Nat → Int32} {pl : Nat → Nat} (hT : TKs h N tk pl) (hE : ∀ i, i < N → ¬ tk i = -1) (hEN : tk N = -1) (ha : a < N) (hli : li ≤ 16) (hv : ¬ (tk a = -3 ∨ tk a = -4)) : PM M_X12_line [.ref 36] (setM (setL h (li, il, lN, lA)) (a, 0, cd, dp, sw, gw, aw, op, on)) none (setM (setL h (li, il, lN, lA)) (a, nI (1 + 16 * pl a), cd, dp, sw, gw, aw, op, on)) := by
  refine PM.of (by decide +kernel) (by decide +kernel) (Nat.le_refl (hn h)) (Nat.le_refl (hs h)) (Nat.le_of_ble_eq_true rfl) ?_
  have hN6 := hT.1
  have hTa := hT.2 a (Nat.le_of_lt ha)
  refine px_aload_n d_X12_line_0 rfl rfl ?_
  refine px_iconst (v := 1) d_X12_line_1 (by decide) ?_
  refine px_callV (c_X12_isWord (h := (setL h (li, il, lN, lA))) (w := 1) hL (show TKs (setL h (li, il, lN, lA)) N tk pl from hT) (fun _ => Nat.le_of_lt ha) (by decide)) d_X12_line_2 lk_X12_197 ok_X12_isWord ov_X12_isWord (so36 hL) (by decide) rfl rfl (Nat.le_of_ble_eq_true rfl) (by decide) ⟨Nat.le_refl (hn h), Nat.le_refl (hs h)⟩ ?_
  refine px_val (y := (if tk a = -4 then (1 : Int32) else 0)) (by unfold bI; simp only [wd1, true_and]) ?_
  refine px_istore_n d_X12_line_5 rfl (by decide) ?_
  refine px_iload_n d_X12_line_6 rfl rfl ?_
  refine px_if_ne (tgt := 26) d_X12_line_7 (by decide) (fun c7 => absurd (if_neg (fun q => hv (Or.inr q))) c7) (fun c7 => ?_)
  refine px_aload_n d_X12_line_10 rfl rfl ?_
  refine px_iconst (v := 0) d_X12_line_11 (by decide) ?_
  refine px_callV (c_X12_isWord (h := (setL h (li, il, lN, lA))) (w := 0) hL (show TKs (setL h (li, il, lN, lA)) N tk pl from hT) (fun _ => Nat.le_of_lt ha) (by decide)) d_X12_line_12 lk_X12_197 ok_X12_isWord ov_X12_isWord (so36 hL) (by decide) rfl rfl (Nat.le_of_ble_eq_true rfl) (by decide) ⟨Nat.le_refl (hn h), Nat.le_refl (hs h)⟩ ?_
  refine px_if_ne (tgt := 26) d_X12_line_15 (by decide) (fun c15 => absurd (Or.inl (wd0 ▸ (bI_n.mp c15).2)) hv) (fun c15 => ?_)
  refine px_aload_n d_X12_line_18 rfl rfl ?_
  refine px_iconst (v := 1) d_X12_line_19 (by decide) ?_
  refine px_callV (c_X12_wrong (h := (setL h (li, il, lN, lA))) (w := 1) hL (show TKs (setL h (li, il, lN, lA)) N tk pl from hT) (fun _ => Nat.le_of_lt ha) rfl) d_X12_line_20 lk_X12_193 ok_X12_wrong ov_X12_wrong (so36 hL) (by decide) rfl rfl (Nat.le_of_ble_eq_true rfl) (by decide) ⟨Nat.le_refl (hn h), Nat.le_refl (hs h)⟩ ?_
  refine px_heap (h2 := setM (setL h (li, il, lN, lA)) (a, nI (1 + 16 * pl a), cd, dp, sw, gw, aw, op, on)) (congrArg (setM (setL h (li, il, lN, lA))) (if_pos rfl)) ?_
  refine px_goto (tgt := 43) d_X12_line_23 (by decide) ?_
  refine px_aload_n d_X12_line_43 rfl rfl ?_
  refine px_getI d_X12_line_44 fl_X12_187 rfl (so36 hL) ?_
  refine px_val (y := nI (1 + 16 * pl a)) rfl ?_
  refine px_if_le (tgt := 51) d_X12_line_47 (by decide) (fun c47 => absurd c47 (fl_pos (by decide) (by decide) hTa.2.2.2.2.2.2)) (fun c47 => ?_)
  exact px_return d_X12_line_50 rfl ⟨rfl, rfl, rfl⟩
theorem to26_X12_line {h : PH} {a cd dp : Nat} {sw gw aw op on : Nat → Int32} {li : Nat} {il lN lA : Nat → Int32} {N0 S0 : Nat} {Post : Nat → Option Value → PH → Prop} (hL : px_L h) {N : Nat} {tk : Nat → Int32} {pl : Nat → Nat} (hT : TKs h N tk pl) (hE : ∀ i, i < N → ¬ tk i = -1) (hEN : tk N = -1) (ha : a < N) (hli : li ≤ 16) (hN0 : hn h ≤ N0 ∧ hs h ≤ S0) (hv : tk a = -3 ∨ tk a = -4) (kk : PW M_X12_line N0 S0 Post 26 [(0, .ref 36), (1, .int (if tk a = -4 then (1 : Int32) else 0))] [] (setM (setL h (li, il, lN, lA)) (a, 0, cd, dp, sw, gw, aw, op, on))) : PW M_X12_line N0 S0 Post 0 [(0, .ref 36)] [] (setM (setL h (li, il, lN, lA)) (a, 0, cd, dp, sw, gw, aw, op, on)) := by
  refine px_aload_n d_X12_line_0 rfl rfl ?_
  refine px_iconst (v := 1) d_X12_line_1 (by decide) ?_
  refine px_callV (c_X12_isWord (h := (setL h (li, il, lN, lA))) (w := 1) hL (show TKs (setL h (li, il, lN, lA)) N tk pl from hT) (fun _ => Nat.le_of_lt ha) (by decide)) d_X12_line_2 lk_X12_197 ok_X12_isWord ov_X12_isWord (so36 hL) (by decide) rfl rfl (Nat.le_of_ble_eq_true rfl) (by decide) hN0 ?_
  refine px_val (y := (if tk a = -4 then (1 : Int32) else 0)) (by unfold bI; simp only [wd1, true_and]) ?_
  refine px_istore_n d_X12_line_5 rfl (by decide) ?_
  refine px_iload_n d_X12_line_6 rfl rfl ?_
  refine px_if_ne (tgt := 26) d_X12_line_7 (by decide) (fun c7 => ?_) (fun c7 => ?_)
  · refine px_drop (lv' := [(0, .ref 36), (1, .int (if tk a = -4 then (1 : Int32) else 0))]) ⟨rfl, rfl, trivial⟩ ?_
    exact kk
  · refine px_aload_n d_X12_line_10 rfl rfl ?_
    refine px_iconst (v := 0) d_X12_line_11 (by decide) ?_
    refine px_callV (c_X12_isWord (h := (setL h (li, il, lN, lA))) (w := 0) hL (show TKs (setL h (li, il, lN, lA)) N tk pl from hT) (fun _ => Nat.le_of_lt ha) (by decide)) d_X12_line_12 lk_X12_197 ok_X12_isWord ov_X12_isWord (so36 hL) (by decide) rfl rfl (Nat.le_of_ble_eq_true rfl) (by decide) hN0 ?_
    refine px_if_ne (tgt := 26) d_X12_line_15 (by decide) (fun c15 => ?_) (fun c15 => absurd ⟨rfl, hv.resolve_right (fun q => absurd (c7.symm.trans (if_pos q)) (by decide))⟩ (bI_0.mp c15))
    refine px_drop (lv' := [(0, .ref 36), (1, .int (if tk a = -4 then (1 : Int32) else 0))]) ⟨rfl, rfl, trivial⟩ ?_
    exact kk
theorem n5_X12_line {h : PH} {a cd dp : Nat} {sw gw aw op on : Nat → Int32} {li : Nat} {il lN lA : Nat → Int32} (hL : px_L h) {N : Nat} {tk : Nat → Int32} {pl : Nat → Nat} (hT : TKs h N tk pl) (hE : ∀ i, i < N → ¬ tk i = -1) (hEN : tk N = -1) (ha : a < N) (hli : li ≤ 16) (hv : tk a = -3 ∨ tk a = -4) (h16 : li = 16) : PM M_X12_line [.ref 36] (setM (setL h (li, il, lN, lA)) (a, 0, cd, dp, sw, gw, aw, op, on)) none (setM (setL h (li, il, lN, lA)) (a, nI (5 + 16 * pl a), cd, dp, sw, gw, aw, op, on)) := by
  refine PM.of (by decide +kernel) (by decide +kernel) (Nat.le_refl (hn h)) (Nat.le_refl (hs h)) (Nat.le_of_ble_eq_true rfl) ?_
  have hN6 := hT.1
  have hTa := hT.2 a (Nat.le_of_lt ha)
  refine to26_X12_line hL hT hE hEN ha hli ⟨Nat.le_refl (hn h), Nat.le_refl (hs h)⟩ hv ?_
  refine px_aload_n d_X12_line_26 rfl rfl ?_
  refine px_getR d_X12_line_27 fl_X12_50 (by decide) (so36 hL) (sr36_13 hL) ?_
  refine px_bipush (v := 8) d_X12_line_30 (by decide) ?_
  refine px_iald (j := 8) d_X12_line_32 (sa44 hL) rfl (by decide) ?_
  refine px_val (y := nI li) rfl ?_
  refine px_bipush (v := 16) d_X12_line_33 (by decide) ?_
  refine px_icmp_ne (tgt := 43) d_X12_line_35 (by decide) (fun c35 => absurd (show nI li = 16 by rw [h16]; rfl) c35) (fun c35 => ?_)
  refine px_aload_n d_X12_line_38 rfl rfl ?_
  refine px_iconst (v := 5) d_X12_line_39 (by decide) ?_
  refine px_callV (c_X12_wrong (h := (setL h (li, il, lN, lA))) (w := 5) hL (show TKs (setL h (li, il, lN, lA)) N tk pl from hT) (fun _ => Nat.le_of_lt ha) rfl) d_X12_line_40 lk_X12_193 ok_X12_wrong ov_X12_wrong (so36 hL) (by decide) rfl rfl (Nat.le_of_ble_eq_true rfl) (by decide) ⟨Nat.le_refl (hn h), Nat.le_refl (hs h)⟩ ?_
  refine px_heap (h2 := setM (setL h (li, il, lN, lA)) (a, nI (5 + 16 * pl a), cd, dp, sw, gw, aw, op, on)) (congrArg (setM (setL h (li, il, lN, lA))) (if_pos rfl)) ?_
  refine px_aload_n d_X12_line_43 rfl rfl ?_
  refine px_getI d_X12_line_44 fl_X12_187 rfl (so36 hL) ?_
  refine px_val (y := nI (5 + 16 * pl a)) rfl ?_
  refine px_if_le (tgt := 51) d_X12_line_47 (by decide) (fun c47 => absurd c47 (fl_pos (by decide) (by decide) hTa.2.2.2.2.2.2)) (fun c47 => ?_)
  exact px_return d_X12_line_50 rfl ⟨rfl, rfl, rfl⟩
theorem tkM_ok {tk : Nat → Int32} {pl : Nat → Nat} {N : Nat} (hEN : tk N = -1) (hpl : ∀ i, i ≤ N → pl i ≤ 600) {m : MS} {x : Int32} (hx : ¬ x = -1) (ha : m.2.1 = 0 → m.1 ≤ N) : (tkM tk pl m x).2.1 = 0 → (tkM tk pl m x).1 ≤ N := by
  unfold tkM
  split
  · rename_i q
    intro w
    have := ha q.1
    rcases Nat.lt_or_ge m.1 N with z | z
    · exact z
    · rw [show m.1 = N by omega, hEN] at q; exact absurd q.2.symm hx
  · unfold wrM
    split
    · rename_i q
      intro w
      have := hpl m.1 (ha q)
      exact absurd w (nI_ne0 (by omega) (by omega))
    · exact ha
theorem tkM_t (tk : Nat → Int32) (pl : Nat → Nat) (m : MS) (x : Int32) : tkM tk pl m x = ((tkM tk pl m x).1, (tkM tk pl m x).2.1, m.2.2) := by
  unfold tkM wrM
  split
  · rfl
  split <;> rfl
theorem f1M_v {tk : Nat → Int32} {pl : Nat → Nat} {N a : Nat} (hpl : ∀ i, i ≤ N → pl i ≤ 600) (ha : a < N) : f1M tk pl a = 0 ∨ ¬ f1M tk pl a ≤ 0 := by
  have := hpl (a + 1) ha
  unfold f1M
  split
  · split
    · exact Or.inr (fl_pos (by decide) (by decide) this)
    · exact Or.inl rfl
  · exact Or.inr (fl_pos (by decide) (by decide) this)
theorem f1M_N {tk : Nat → Int32} {pl : Nat → Nat} {N a : Nat} (hEN : tk N = -1) (hpl : ∀ i, i ≤ N → pl i ≤ 600) (ha : a < N) (h : f1M tk pl a = 0) : 0 ≤ tk (a + 1) ∧ a + 2 ≤ N := by
  have hp := hpl (a + 1) ha
  have h0 : 0 ≤ tk (a + 1) := by
    refine Classical.byContradiction fun q => ?_
    unfold f1M at h
    rw [if_neg q] at h
    exact nI_ne0 (by omega) (by omega) h
  refine ⟨h0, ?_⟩
  rcases Nat.lt_or_ge (a + 1) N with z | z
  · exact z
  · rw [show a + 1 = N by omega, hEN] at h0; exact absurd h0 (by decide)
theorem boM_ok {tk : Nat → Int32} {pl : Nat → Nat} {N : Nat} (hEN : tk N = -1) (hpl : ∀ i, i ≤ N → pl i ≤ 600) {m : MS} : ∀ (f a : Nat) (fl : Int32) (cd dp : Nat) (sw gw aw op on : Nat → Int32), (fl = 0 → a ≤ N) → dp ≤ 5 → boM tk pl f (a, fl, cd, dp, sw, gw, aw, op, on) = some m → (m.2.1 = 0 → m.1 ≤ N) ∧ m.2.2.2.1 ≤ 5
  | 0, _, _, _, _, _, _, _, _, _, _, _, e => by cases e
  | f + 1, a, fl, cd, dp, sw, gw, aw, op, on, ha, hd, e => by
    unfold boM at e
    split at e
    · rename_i q0
      have ha := ha q0
      have hp := hpl a ha
      split at e
      · rename_i qb
        have ha1 := bg_lt hEN ha qb
        split at e
        · cases e; exact ⟨fun w => absurd w (nI_ne0 (by omega) (by omega)), hd⟩
        split at e
        · exact boM_ok hEN hpl f _ _ _ _ _ _ _ _ _ (fun _ => ha1) (by show dp + 1 ≤ 5; omega) e
        split at e
        · split at e
          · cases e
          · rename_i m2 hg
            obtain ⟨a2, fl2, cd2, dp2, sw2, gw2, aw2, op2, on2⟩ := m2
            have ok := goM_ok hEN hpl dp (a + 1) (cd + 1) _ _ _ _ _ ha1 hd hg
            exact boM_ok hEN hpl f _ _ _ _ _ _ _ _ _ ok.1 ok.2.1 e
          · rename_i m2 hg
            cases e
            have ok := goM_ok hEN hpl dp (a + 1) (cd + 1) _ _ _ _ _ ha1 hd hg
            exact ⟨ok.1, ok.2.1⟩
        · cases e
      · cases e; exact ⟨fun w => absurd w (nI_ne0 (by omega) (by omega)), hd⟩
    · rename_i q0
      cases e; exact ⟨fun w => absurd w q0, hd⟩
theorem t153_X12_line {h : PH} {a cd dp : Nat} {sw gw aw op on : Nat → Int32} {li : Nat} {il lN lA : Nat → Int32} {fu : Nat} (hL : px_L h) {N : Nat} {tk : Nat → Int32} {pl : Nat → Nat} (hT : TKs h N tk pl) (hE : ∀ i, i < N → ¬ tk i = -1) (hEN : tk N = -1) (ha : a < N) (hli : li ≤ 16) (hl6 : li < 16) {m5 : MS} (e5 : boM tk pl fu (opM ((tkM tk pl (a + 2, (f1M tk pl a), cd, dp, sw, gw, aw, op, on) (-5)).1, (tkM tk pl (a + 2, (f1M tk pl a), cd, dp, sw, gw, aw, op, on) (-5)).2.1, cd, 0, sw, gw, aw, op, on)) = some m5) (h5 : m5.2.2.1 < 660) : PW M_X12_line (hn h) (hs h) (PMpost none (setM (setL h (li + 1, (upf il (128 + li) (if tk a = -4 then (1 : Int32) else 0)), (upf lN (128 + li) (if (f1M tk pl a) = 0 then tk (a + 1) else 0)), (upf lA (128 + li) (nI cd)))) (tkM tk pl (emM m5 0 0) (-18)))) 153 [(0, .ref 36), (1, .int (if tk a = -4 then (1 : Int32) else 0)), (2, .int (nI (128 + li)))] [] (setM (setL h (li, (upf il (128 + li) (if tk a = -4 then (1 : Int32) else 0)), (upf lN (128 + li) (if (f1M tk pl a) = 0 then tk (a + 1) else 0)), lA)) (a + 1, (f1M tk pl a), cd, dp, sw, gw, aw, op, on)) := by
  have hN6 := hT.1
  have hTa := hT.2 a (Nat.le_of_lt ha)
  have hok : (f1M tk pl a) = 0 → a + 2 ≤ N := fun q => (f1M_N hEN (fun i hi => (hT.2 i hi).2.2.2.2.2.2) ha q).2
  refine px_aload_n d_X12_line_153 rfl rfl ?_
  refine px_dup d_X12_line_154 rfl ?_
  refine px_getI d_X12_line_155 fl_X12_184 rfl (so36 hL) ?_
  refine px_val (y := nI (a + 1)) rfl ?_
  refine px_iconst (v := 1) d_X12_line_158 (by decide) ?_
  refine px_iadd d_X12_line_159 ?_
  refine px_putI d_X12_line_160 fl_X12_184 rfl (so36 hL) ?_
  refine px_heap (h2 := setM (setL h (li, (upf il (128 + li) (if tk a = -4 then (1 : Int32) else 0)), (upf lN (128 + li) (if (f1M tk pl a) = 0 then tk (a + 1) else 0)), lA)) (a + 2, (f1M tk pl a), cd, dp, sw, gw, aw, op, on)) ((congrArg (pI _ _ _) (nI_s1 (a + 1))).trans (sM_at ..)) ?_
  refine px_aload_n d_X12_line_163 rfl rfl ?_
  refine px_iconst (v := 2) d_X12_line_164 (by decide) ?_
  refine px_callV (c_X12_takeWord (h := (setL h (li, (upf il (128 + li) (if tk a = -4 then (1 : Int32) else 0)), (upf lN (128 + li) (if (f1M tk pl a) = 0 then tk (a + 1) else 0)), lA))) (w := 2) hL (show TKs (setL h (li, (upf il (128 + li) (if tk a = -4 then (1 : Int32) else 0)), (upf lN (128 + li) (if (f1M tk pl a) = 0 then tk (a + 1) else 0)), lA)) N tk pl from hT) hok (by decide)) d_X12_line_165 lk_X12_223 ok_X12_takeWord ov_X12_takeWord (so36 hL) (by decide) rfl rfl (Nat.le_of_ble_eq_true rfl) (by decide) ⟨Nat.le_refl (hn h), Nat.le_refl (hs h)⟩ ?_
  refine px_heap (h2 := setM (setL h (li, (upf il (128 + li) (if tk a = -4 then (1 : Int32) else 0)), (upf lN (128 + li) (if (f1M tk pl a) = 0 then tk (a + 1) else 0)), lA)) ((tkM tk pl (a + 2, (f1M tk pl a), cd, dp, sw, gw, aw, op, on) (-5)).1, (tkM tk pl (a + 2, (f1M tk pl a), cd, dp, sw, gw, aw, op, on) (-5)).2.1, cd, dp, sw, gw, aw, op, on)) (congrArg (setM (setL h (li, (upf il (128 + li) (if tk a = -4 then (1 : Int32) else 0)), (upf lN (128 + li) (if (f1M tk pl a) = 0 then tk (a + 1) else 0)), lA))) ((congrArg (tkM tk pl _) wd2).trans (tkM_t ..))) ?_
  refine px_aload_n d_X12_line_168 rfl rfl ?_
  refine px_getR d_X12_line_169 fl_X12_60 (by decide) (so36 hL) (sr36_16 hL) ?_
  refine px_iload_n d_X12_line_172 rfl rfl ?_
  refine px_aload_n d_X12_line_173 rfl rfl ?_
  refine px_getI d_X12_line_174 fl_X12_203 rfl (so36 hL) ?_
  refine px_val (y := nI cd) rfl ?_
  refine px_iast d_X12_line_177 (sa47 hL) rfl (by omega) ?_
  refine px_heap (h2 := setM (setL h (li, (upf il (128 + li) (if tk a = -4 then (1 : Int32) else 0)), (upf lN (128 + li) (if (f1M tk pl a) = 0 then tk (a + 1) else 0)), (upf lA (128 + li) (nI cd)))) ((tkM tk pl (a + 2, (f1M tk pl a), cd, dp, sw, gw, aw, op, on) (-5)).1, (tkM tk pl (a + 2, (f1M tk pl a), cd, dp, sw, gw, aw, op, on) (-5)).2.1, cd, dp, sw, gw, aw, op, on)) (sL_47 ..) ?_
  refine px_aload_n d_X12_line_178 rfl rfl ?_
  refine px_iconst (v := 0) d_X12_line_179 (by decide) ?_
  refine px_putI d_X12_line_180 fl_X12_226 rfl (so36 hL) ?_
  refine px_heap (h2 := setM (setL h (li, (upf il (128 + li) (if tk a = -4 then (1 : Int32) else 0)), (upf lN (128 + li) (if (f1M tk pl a) = 0 then tk (a + 1) else 0)), (upf lA (128 + li) (nI cd)))) ((tkM tk pl (a + 2, (f1M tk pl a), cd, dp, sw, gw, aw, op, on) (-5)).1, (tkM tk pl (a + 2, (f1M tk pl a), cd, dp, sw, gw, aw, op, on) (-5)).2.1, cd, 0, sw, gw, aw, op, on)) (sM_dp (v := 0) ..) ?_
  refine px_aload_n d_X12_line_183 rfl rfl ?_
  refine px_callV (c_X12_opens (h := (setL h (li, (upf il (128 + li) (if tk a = -4 then (1 : Int32) else 0)), (upf lN (128 + li) (if (f1M tk pl a) = 0 then tk (a + 1) else 0)), (upf lA (128 + li) (nI cd))))) hL (by decide)) d_X12_line_184 lk_X12_229 ok_X12_opens ov_X12_opens (so36 hL) (by decide) rfl rfl (Nat.le_of_ble_eq_true rfl) (by decide) ⟨Nat.le_refl (hn h), Nat.le_refl (hs h)⟩ ?_
  refine px_iconst (v := 1) d_X12_line_187 (by decide) ?_
  refine px_istore_n d_X12_line_188 rfl (by decide) ?_
  refine px_drop (lv' := [(0, .ref 36), (1, .int (if tk a = -4 then (1 : Int32) else 0)), (2, .int (nI (128 + li))), (3, .int 1)]) ⟨rfl, rfl, rfl, rfl, trivial⟩ ?_
  obtain ⟨a5, fl5, cd5, dp5, sw5, gw5, aw5, op5, on5⟩ := m5
  have b5 := boM_ok hEN (fun i hi => (hT.2 i hi).2.2.2.2.2.2) fu _ _ _ _ _ _ _ _ _ (tkM_ok hEN (fun i hi => (hT.2 i hi).2.2.2.2.2.2) (by decide) hok) (Nat.zero_le 5) e5
  refine lp_X12_line (h := (setL h (li, (upf il (128 + li) (if tk a = -4 then (1 : Int32) else 0)), (upf lN (128 + li) (if (f1M tk pl a) = 0 then tk (a + 1) else 0)), (upf lA (128 + li) (nI cd))))) hL ⟨Nat.le_refl (hn h), Nat.le_refl (hs h)⟩ (show TKs (setL h (li, (upf il (128 + li) (if tk a = -4 then (1 : Int32) else 0)), (upf lN (128 + li) (if (f1M tk pl a) = 0 then tk (a + 1) else 0)), (upf lA (128 + li) (nI cd)))) N tk pl from hT) hE hEN fu _ _ _ _ _ _ _ _ _ (tkM_ok hEN (fun i hi => (hT.2 i hi).2.2.2.2.2.2) (by decide) hok) (Nat.zero_le 5) e5 ?_
  refine px_aload_n d_X12_line_223 rfl rfl ?_
  refine px_iconst (v := 0) d_X12_line_224 (by decide) ?_
  refine px_iconst (v := 0) d_X12_line_225 (by decide) ?_
  refine px_callV (c_X12_emit (h := (setL h (li, (upf il (128 + li) (if tk a = -4 then (1 : Int32) else 0)), (upf lN (128 + li) (if (f1M tk pl a) = 0 then tk (a + 1) else 0)), (upf lA (128 + li) (nI cd))))) hL h5) d_X12_line_226 lk_X12_239 ok_X12_emit ov_X12_emit (so36 hL) (by decide) rfl rfl (Nat.le_of_ble_eq_true rfl) (by decide) ⟨Nat.le_refl (hn h), Nat.le_refl (hs h)⟩ ?_
  refine px_aload_n d_X12_line_229 rfl rfl ?_
  refine px_bipush (v := 59) d_X12_line_230 (by decide) ?_
  refine px_callV (c_X12_takeSign (h := (setL h (li, (upf il (128 + li) (if tk a = -4 then (1 : Int32) else 0)), (upf lN (128 + li) (if (f1M tk pl a) = 0 then tk (a + 1) else 0)), (upf lA (128 + li) (nI cd))))) (c := 59) hL (show TKs (setL h (li, (upf il (128 + li) (if tk a = -4 then (1 : Int32) else 0)), (upf lN (128 + li) (if (f1M tk pl a) = 0 then tk (a + 1) else 0)), (upf lA (128 + li) (nI cd)))) N tk pl from hT) b5.1 (by decide)) d_X12_line_232 lk_X12_243 ok_X12_takeSign ov_X12_takeSign (so36 hL) (by decide) rfl rfl (Nat.le_of_ble_eq_true rfl) (by decide) ⟨Nat.le_refl (hn h), Nat.le_refl (hs h)⟩ ?_
  refine px_aload_n d_X12_line_235 rfl rfl ?_
  refine px_getR d_X12_line_236 fl_X12_50 (by decide) (so36 hL) (sr36_13 hL) ?_
  refine px_bipush (v := 8) d_X12_line_239 (by decide) ?_
  refine px_dup2 d_X12_line_241 rfl rfl ?_
  refine px_iald (j := 8) d_X12_line_242 (sa44 hL) rfl (by decide) ?_
  refine px_val (y := nI li) rfl ?_
  refine px_iconst (v := 1) d_X12_line_243 (by decide) ?_
  refine px_iadd d_X12_line_244 ?_
  refine px_iast (j := 8) d_X12_line_245 (sa44 hL) rfl (by decide) ?_
  refine px_heap (h2 := setM (setL h (li + 1, (upf il (128 + li) (if tk a = -4 then (1 : Int32) else 0)), (upf lN (128 + li) (if (f1M tk pl a) = 0 then tk (a + 1) else 0)), (upf lA (128 + li) (nI cd)))) (tkM tk pl (emM (a5, fl5, cd5, dp5, sw5, gw5, aw5, op5, on5) 0 0) (-18))) ((congrArg (pI _ _ _) (nI_s1 li)).trans (sL_44 ..)) ?_
  exact px_return d_X12_line_246 rfl ⟨rfl, rfl, rfl⟩
theorem t119_X12_line {h : PH} {a cd dp : Nat} {sw gw aw op on : Nat → Int32} {li : Nat} {il lN lA : Nat → Int32} {fu : Nat} (hL : px_L h) {N : Nat} {tk : Nat → Int32} {pl : Nat → Nat} (hT : TKs h N tk pl) (hE : ∀ i, i < N → ¬ tk i = -1) (hEN : tk N = -1) (ha : a < N) (hli : li ≤ 16) (hl6 : li < 16) {m5 : MS} (e5 : boM tk pl fu (opM ((tkM tk pl (a + 2, (f1M tk pl a), cd, dp, sw, gw, aw, op, on) (-5)).1, (tkM tk pl (a + 2, (f1M tk pl a), cd, dp, sw, gw, aw, op, on) (-5)).2.1, cd, 0, sw, gw, aw, op, on)) = some m5) (h5 : m5.2.2.1 < 660) : PW M_X12_line (hn h) (hs h) (PMpost none (setM (setL h (li + 1, (upf il (128 + li) (if tk a = -4 then (1 : Int32) else 0)), (upf lN (128 + li) (if (f1M tk pl a) = 0 then tk (a + 1) else 0)), (upf lA (128 + li) (nI cd)))) (tkM tk pl (emM m5 0 0) (-18)))) 119 [(0, .ref 36), (1, .int (if tk a = -4 then (1 : Int32) else 0)), (2, .int (nI (128 + li)))] [] (setM (setL h (li, il, lN, lA)) (a + 1, (f1M tk pl a), cd, dp, sw, gw, aw, op, on)) := by
  have hN6 := hT.1
  have hTa := hT.2 a (Nat.le_of_lt ha)
  refine px_aload_n d_X12_line_119 rfl rfl ?_
  refine px_getR d_X12_line_120 fl_X12_53 (by decide) (so36 hL) (sr36_14 hL) ?_
  refine px_iload_n d_X12_line_123 rfl rfl ?_
  refine px_iload_n d_X12_line_124 rfl rfl ?_
  refine px_zast d_X12_line_125 (sa45 hL) rfl (by omega) (by by_cases q : tk a = -4 <;> simp [q] <;> rfl) ?_
  refine px_heap (h2 := setM (setL h (li, (upf il (128 + li) (if tk a = -4 then (1 : Int32) else 0)), lN, lA)) (a + 1, (f1M tk pl a), cd, dp, sw, gw, aw, op, on)) (sL_45 ..) ?_
  refine px_aload_n d_X12_line_126 rfl rfl ?_
  refine px_getR d_X12_line_127 fl_X12_57 (by decide) (so36 hL) (sr36_15 hL) ?_
  refine px_iload_n d_X12_line_130 rfl rfl ?_
  refine px_aload_n d_X12_line_131 rfl rfl ?_
  refine px_getI d_X12_line_132 fl_X12_187 rfl (so36 hL) ?_
  refine px_val (y := (f1M tk pl a)) rfl ?_
  refine px_if_le (tgt := 142) d_X12_line_135 (by decide) (fun c135 => ?_) (fun c135 => ?_)
  · refine px_aload_n d_X12_line_142 rfl rfl ?_
    refine px_getR d_X12_line_143 fl_X12_19 (by decide) (so36 hL) (sr36_6 hL) ?_
    refine px_aload_n d_X12_line_146 rfl rfl ?_
    refine px_getI d_X12_line_147 fl_X12_184 rfl (so36 hL) ?_
    refine px_val (y := nI (a + 1)) rfl ?_
    have hz : (f1M tk pl a) = 0 := (f1M_v (fun i hi => (hT.2 i hi).2.2.2.2.2.2) ha).resolve_right (fun q => q c135)
    refine px_lald d_X12_line_150 (sa40 hL) rfl (by omega) ?_
    refine px_vall (y := (tk (a + 1)).toInt64) ((hT.2 (a + 1) ha).2.2.1 ((hT.2 (a + 1) ha).2.1.mpr (f1M_N hEN (fun i hi => (hT.2 i hi).2.2.2.2.2.2) ha hz).1)) ?_
    refine px_l2i d_X12_line_151 ?_
    refine px_val (y := tk (a + 1)) (Int32.toInt32_toInt64 _) ?_
    refine px_val (y := (if (f1M tk pl a) = 0 then tk (a + 1) else 0)) (by first | exact (if_pos hz).symm | exact (if_neg (fun q => c135 (by rw [q]; decide))).symm) ?_
    refine px_iast d_X12_line_152 (sa46 hL) rfl (by omega) ?_
    refine px_heap (h2 := setM (setL h (li, (upf il (128 + li) (if tk a = -4 then (1 : Int32) else 0)), (upf lN (128 + li) (if (f1M tk pl a) = 0 then tk (a + 1) else 0)), lA)) (a + 1, (f1M tk pl a), cd, dp, sw, gw, aw, op, on)) (sL_46 ..) ?_
    exact t153_X12_line hL hT hE hEN ha hli hl6 e5 h5
  · refine px_iconst (v := 0) d_X12_line_138 (by decide) ?_
    refine px_goto (tgt := 152) d_X12_line_139 (by decide) ?_
    refine px_val (y := (if (f1M tk pl a) = 0 then tk (a + 1) else 0)) (by first | exact (if_pos hz).symm | exact (if_neg (fun q => c135 (by rw [q]; decide))).symm) ?_
    refine px_iast d_X12_line_152 (sa46 hL) rfl (by omega) ?_
    refine px_heap (h2 := setM (setL h (li, (upf il (128 + li) (if tk a = -4 then (1 : Int32) else 0)), (upf lN (128 + li) (if (f1M tk pl a) = 0 then tk (a + 1) else 0)), lA)) (a + 1, (f1M tk pl a), cd, dp, sw, gw, aw, op, on)) (sL_46 ..) ?_
    exact t153_X12_line hL hT hE hEN ha hli hl6 e5 h5
theorem lg_le100 (x : Int32) : lg_cmp x.toInt64 100 ≤ 0 ↔ x ≤ 100 := by
  rw [← Int32.not_lt, lg_gt, Int64.not_lt, show (100 : Int64) = (100 : Int32).toInt64 from by decide, Int32.toInt64_le]
theorem c_X12_line {h : PH} {a cd dp : Nat} {sw gw aw op on : Nat → Int32} {li : Nat} {il lN lA : Nat → Int32} {fu : Nat} (hL : px_L h) {N : Nat} {tk : Nat → Int32} {pl : Nat → Nat} (hT : TKs h N tk pl) (hE : ∀ i, i < N → ¬ tk i = -1) (hEN : tk N = -1) (ha : a < N) (hli : li ≤ 16) (hv : tk a = -3 ∨ tk a = -4) (hl6 : li < 16) {m5 : MS} (e5 : boM tk pl fu (opM ((tkM tk pl (a + 2, (f1M tk pl a), cd, dp, sw, gw, aw, op, on) (-5)).1, (tkM tk pl (a + 2, (f1M tk pl a), cd, dp, sw, gw, aw, op, on) (-5)).2.1, cd, 0, sw, gw, aw, op, on)) = some m5) (h5 : m5.2.2.1 < 660) : PM M_X12_line [.ref 36] (setM (setL h (li, il, lN, lA)) (a, 0, cd, dp, sw, gw, aw, op, on)) none (setM (setL h (li + 1, (upf il (128 + li) (if tk a = -4 then (1 : Int32) else 0)), (upf lN (128 + li) (if (f1M tk pl a) = 0 then tk (a + 1) else 0)), (upf lA (128 + li) (nI cd)))) (tkM tk pl (emM m5 0 0) (-18))) := by
  refine PM.of (by decide +kernel) (by decide +kernel) (Nat.le_refl (hn h)) (Nat.le_refl (hs h)) (Nat.le_of_ble_eq_true rfl) ?_
  have hN6 := hT.1
  have hTa := hT.2 a (Nat.le_of_lt ha)
  have hT1 := hT.2 (a + 1) ha
  refine to26_X12_line hL hT hE hEN ha hli ⟨Nat.le_refl (hn h), Nat.le_refl (hs h)⟩ hv ?_
  refine px_aload_n d_X12_line_26 rfl rfl ?_
  refine px_getR d_X12_line_27 fl_X12_50 (by decide) (so36 hL) (sr36_13 hL) ?_
  refine px_bipush (v := 8) d_X12_line_30 (by decide) ?_
  refine px_iald (j := 8) d_X12_line_32 (sa44 hL) rfl (by decide) ?_
  refine px_val (y := nI li) rfl ?_
  refine px_bipush (v := 16) d_X12_line_33 (by decide) ?_
  refine px_icmp_ne (tgt := 43) d_X12_line_35 (by decide) (fun c35 => ?_) (fun c35 => absurd ((nI_eq (a := li) (b := 16) (by omega) (by decide)).mp (by first | exact c35 | exact Classical.not_not.mp c35)) (by omega))
  refine px_aload_n d_X12_line_43 rfl rfl ?_
  refine px_getI d_X12_line_44 fl_X12_187 rfl (so36 hL) ?_
  refine px_val (y := 0) rfl ?_
  refine px_if_le (tgt := 51) d_X12_line_47 (by decide) (fun c47 => ?_) (fun c47 => absurd (by decide) c47)
  refine px_aload_n d_X12_line_51 rfl rfl ?_
  refine px_dup d_X12_line_52 rfl ?_
  refine px_getI d_X12_line_53 fl_X12_184 rfl (so36 hL) ?_
  refine px_val (y := nI a) rfl ?_
  refine px_iconst (v := 1) d_X12_line_56 (by decide) ?_
  refine px_iadd d_X12_line_57 ?_
  refine px_putI d_X12_line_58 fl_X12_184 rfl (so36 hL) ?_
  refine px_heap (h2 := setM (setL h (li, il, lN, lA)) (a + 1, 0, cd, dp, sw, gw, aw, op, on)) ((congrArg (pI _ _ _) (nI_s1 a)).trans (sM_at ..)) ?_
  refine px_sipush (v := 128) d_X12_line_61 (by decide) ?_
  refine px_aload_n d_X12_line_64 rfl rfl ?_
  refine px_getR d_X12_line_65 fl_X12_50 (by decide) (so36 hL) (sr36_13 hL) ?_
  refine px_bipush (v := 8) d_X12_line_68 (by decide) ?_
  refine px_iald (j := 8) d_X12_line_70 (sa44 hL) rfl (by decide) ?_
  refine px_val (y := nI li) rfl ?_
  refine px_iadd d_X12_line_71 ?_
  refine px_val (y := nI (128 + li)) (nI_add 128 li) ?_
  refine px_istore_n d_X12_line_72 rfl (by decide) ?_
  refine px_aload_n d_X12_line_73 rfl rfl ?_
  refine px_getR d_X12_line_74 fl_X12_13 (by decide) (so36 hL) (sr36_4 hL) ?_
  refine px_aload_n d_X12_line_77 rfl rfl ?_
  refine px_getI d_X12_line_78 fl_X12_184 rfl (so36 hL) ?_
  refine px_val (y := nI (a + 1)) rfl ?_
  refine px_iald d_X12_line_81 (sa38 hL) rfl (by omega) ?_
  refine px_val (y := hI h 38 (a + 1)) rfl ?_
  refine px_iconst (v := 2) d_X12_line_82 (by decide) ?_
  refine px_icmp_eq (tgt := 94) d_X12_line_83 (by decide) (fun c83 => ?_) (fun c83 => ?_)
  · refine px_iload_n d_X12_line_94 rfl rfl ?_
    refine px_if_ne (tgt := 119) d_X12_line_95 (by decide) (fun c95 => ?_) (fun c95 => ?_)
    · first
        | (have hq0 : f1M tk pl a = 0 := (if_pos (hT1.2.1.mp c83)).trans (if_neg (fun w => by first | exact c95 (if_neg (fun q4 => absurd (w.1.symm.trans q4) (by decide))) | exact w.2 ((lg_le100 _).mp c111)))
           refine px_heap (h2 := (setM (setL h (li, il, lN, lA)) (a + 1, (f1M tk pl a), cd, dp, sw, gw, aw, op, on))) (congrArg (setM (setL h (li, il, lN, lA))) (by rw [hq0])) ?_
           exact t119_X12_line hL hT hE hEN ha hli hl6 e5 h5)
        | exact t119_X12_line hL hT hE hEN ha hli hl6 e5 h5
    · refine px_aload_n d_X12_line_98 rfl rfl ?_
      refine px_getR d_X12_line_99 fl_X12_19 (by decide) (so36 hL) (sr36_6 hL) ?_
      refine px_aload_n d_X12_line_102 rfl rfl ?_
      refine px_getI d_X12_line_103 fl_X12_184 rfl (so36 hL) ?_
      refine px_val (y := nI (a + 1)) rfl ?_
      refine px_lald d_X12_line_106 (sa40 hL) rfl (by omega) ?_
      refine px_vall (y := (tk (a + 1)).toInt64) (hT1.2.2.1 c83) ?_
      refine px_ldc2 d_X12_line_107 cl_X12_221 ?_
      refine px_lcmp d_X12_line_110 ?_
      refine px_if_le (tgt := 119) d_X12_line_111 (by decide) (fun c111 => ?_) (fun c111 => ?_)
      · first
          | (have hq0 : f1M tk pl a = 0 := (if_pos (hT1.2.1.mp c83)).trans (if_neg (fun w => by first | exact c95 (if_neg (fun q4 => absurd (w.1.symm.trans q4) (by decide))) | exact w.2 ((lg_le100 _).mp c111)))
             refine px_heap (h2 := (setM (setL h (li, il, lN, lA)) (a + 1, (f1M tk pl a), cd, dp, sw, gw, aw, op, on))) (congrArg (setM (setL h (li, il, lN, lA))) (by rw [hq0])) ?_
             exact t119_X12_line hL hT hE hEN ha hli hl6 e5 h5)
          | exact t119_X12_line hL hT hE hEN ha hli hl6 e5 h5
      · refine px_aload_n d_X12_line_114 rfl rfl ?_
        refine px_iconst (v := 4) d_X12_line_115 (by decide) ?_
        refine px_callV (c_X12_wrong (h := (setL h (li, il, lN, lA))) (w := 4) hL (show TKs (setL h (li, il, lN, lA)) N tk pl from hT) (fun _ => ha) rfl) d_X12_line_116 lk_X12_193 ok_X12_wrong ov_X12_wrong (so36 hL) (by decide) rfl rfl (Nat.le_of_ble_eq_true rfl) (by decide) ⟨Nat.le_refl (hn h), Nat.le_refl (hs h)⟩ ?_
        have hq4 : f1M tk pl a = nI (4 + 16 * pl (a + 1)) := (if_pos (hT1.2.1.mp c83)).trans (if_pos ⟨hv.resolve_right (fun q => absurd (c95.symm.trans (if_pos q)) (by decide)), fun q => c111 ((lg_le100 _).mpr q)⟩)
        refine px_heap (h2 := (setM (setL h (li, il, lN, lA)) (a + 1, (f1M tk pl a), cd, dp, sw, gw, aw, op, on))) (congrArg (setM (setL h (li, il, lN, lA))) ((if_pos rfl).trans (by rw [hq4]))) ?_
        first
          | (have hq0 : f1M tk pl a = 0 := (if_pos (hT1.2.1.mp c83)).trans (if_neg (fun w => by first | exact c95 (if_neg (fun q4 => absurd (w.1.symm.trans q4) (by decide))) | exact w.2 ((lg_le100 _).mp c111)))
             refine px_heap (h2 := (setM (setL h (li, il, lN, lA)) (a + 1, (f1M tk pl a), cd, dp, sw, gw, aw, op, on))) (congrArg (setM (setL h (li, il, lN, lA))) (by rw [hq0])) ?_
             exact t119_X12_line hL hT hE hEN ha hli hl6 e5 h5)
          | exact t119_X12_line hL hT hE hEN ha hli hl6 e5 h5
  · refine px_aload_n d_X12_line_86 rfl rfl ?_
    refine px_iconst (v := 1) d_X12_line_87 (by decide) ?_
    refine px_callV (c_X12_wrong (h := (setL h (li, il, lN, lA))) (w := 1) hL (show TKs (setL h (li, il, lN, lA)) N tk pl from hT) (fun _ => ha) rfl) d_X12_line_88 lk_X12_193 ok_X12_wrong ov_X12_wrong (so36 hL) (by decide) rfl rfl (Nat.le_of_ble_eq_true rfl) (by decide) ⟨Nat.le_refl (hn h), Nat.le_refl (hs h)⟩ ?_
    have hq : ¬ 0 ≤ tk (a + 1) := fun q => c83 (hT1.2.1.mpr q)
    refine px_heap (h2 := (setM (setL h (li, il, lN, lA)) (a + 1, (f1M tk pl a), cd, dp, sw, gw, aw, op, on))) (congrArg (setM (setL h (li, il, lN, lA))) ((if_pos rfl).trans (by unfold f1M; rw [if_neg hq]))) ?_
    refine px_goto (tgt := 119) d_X12_line_91 (by decide) ?_
    first
      | (have hq0 : f1M tk pl a = 0 := (if_pos (hT1.2.1.mp c83)).trans (if_neg (fun w => by first | exact c95 (if_neg (fun q4 => absurd (w.1.symm.trans q4) (by decide))) | exact w.2 ((lg_le100 _).mp c111)))
         refine px_heap (h2 := (setM (setL h (li, il, lN, lA)) (a + 1, (f1M tk pl a), cd, dp, sw, gw, aw, op, on))) (congrArg (setM (setL h (li, il, lN, lA))) (by rw [hq0])) ?_
         exact t119_X12_line hL hT hE hEN ha hli hl6 e5 h5)
      | exact t119_X12_line hL hT hE hEN ha hli hl6 e5 h5
