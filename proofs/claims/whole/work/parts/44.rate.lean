/-- the last place below n where p holds -/
def lastT (p : Nat → Bool) : Nat → Option Nat
  | 0 => none
  | n + 1 => if p n then some n else lastT p n
theorem lastT_lt {p : Nat → Bool} : ∀ {n i : Nat}, lastT p n = some i → i < n
  | n + 1, i, e => by
    unfold lastT at e
    by_cases q : p n = true
    · rw [if_pos q] at e; cases e; exact Nat.lt_succ_self _
    · rw [if_neg q] at e; exact Nat.lt_succ_of_lt (lastT_lt e)
/-- the class's texts: where they lie, and what they tell -/
def TX (h : PH) (n : Nat) (ro to ln : Nat → Nat) (fr kf : Nat → Int32) (ev : Nat → (Nat → Int32) → Int32 → Int32) : Prop := n ≤ 8 ∧ hI h 12 1 = nI n ∧ ∀ i, i < n → (hR h 13 i = some (ro i) ∧ px_ob h (ro i) 8 ∧ hR h (ro i) 2 = some (to i) ∧ px_ar h (to i) 20 (ln i)) ∧ (78 ≤ ro i ∧ 78 ≤ to i ∧ hI h (ro i) 0 = fr i ∧ hI h (ro i) 1 = kf i) ∧ ∀ (F : Nat → Int32) (rule : Int32) (J : JS), nOf F (hI h (to i)) rule (ln i) 0 0 J = ev i F rule
def SJ (a : Nat) : Bool := decide (14 ≤ a) && decide (a ≤ 20)
def SC (a : Nat) : Bool := decide (14 ≤ a) && decide (a ≤ 22)
theorem SJ_C {a : Nat} (h : SC a = false) : SJ a = false := by
  unfold SC SJ at *
  simp only [Bool.and_eq_false_iff, decide_eq_false_iff_not] at *
  omega
theorem SC_hi {a : Nat} (h : 78 ≤ a) : SC a = false := by
  unfold SC
  simp only [Bool.and_eq_false_iff, decide_eq_false_iff_not]
  omega
theorem TX.same {S : Nat → Bool} {h g : PH} {n : Nat} {ro to ln : Nat → Nat} {fr kf : Nat → Int32} {ev : Nat → (Nat → Int32) → Int32 → Int32} (t : TX h n ro to ln fr kf ev) (a : px_same S h g) (h12 : S 12 = false) (hi : ∀ x, 78 ≤ x → S x = false) : TX g n ro to ln fr kf ev := by
  obtain ⟨t1, t2, t3⟩ := t
  refine ⟨t1, (congrFun (a.2 12 h12) _).trans t2, fun i hi1 => ?_⟩
  obtain ⟨⟨u1, u2, u3, u4⟩, ⟨u5, u6, u8, u9⟩, u7⟩ := t3 i hi1
  obtain ⟨⟨a1, a2, a3, a4, a5⟩, a6⟩ := a
  refine ⟨⟨by rw [a2]; exact u1, ⟨by rw [a4]; exact u2.1, by rw [a3]; exact u2.2⟩, by rw [a2]; exact u3, ⟨by rw [a4]; exact u4.1, by rw [a3]; exact u4.2.1, u4.2.2⟩⟩, ⟨u5, u6, (congrFun (a6 _ (hi _ u5)) _).trans u8, (congrFun (a6 _ (hi _ u5)) _).trans u9⟩, fun F rule J => ?_⟩
  rw [a6 _ (hi _ u6)]
  exact u7 F rule J
theorem px_acc.same {S : Nat → Bool} {h g : PH} {r r1 r2 : Nat} (t : px_acc h r r1 r2) (a : px_same S h g) : px_acc g r r1 r2 := by
  obtain ⟨t1, ⟨t2, t3⟩, ⟨t4, t5⟩, t6⟩ := t
  obtain ⟨⟨a1, a2, a3, a4, a5⟩, a6⟩ := a
  exact ⟨⟨by rw [a4]; exact t1.1, by rw [a3]; exact t1.2⟩, ⟨by rw [a2]; exact t2, by rw [a2]; exact t3⟩, ⟨⟨by rw [a4]; exact t4.1, by rw [a3]; exact t4.2.1, t4.2.2⟩, ⟨by rw [a4]; exact t5.1, by rw [a3]; exact t5.2.1, t5.2.2⟩⟩, t6⟩
def frcP (fr kf : Nat → Int32) (d k : Int32) : Nat → Bool := fun i => decide (¬ d < fr i) && decide (¬ k < kf i)
def rv (ro : Nat → Nat) : Option Nat → Value
  | none => .null
  | some i => .ref (ro i)
def looked (h : PH) (r : Nat) (p d : Int32) : PH := pI (pI (pI (pI (pI h 14 0 (hI h r 1)) 14 1 p) 14 2 (d - hI h r 3)) 14 3 (d / 30)) 14 4 (d - d / 30 * 30)
theorem looked_s (h : PH) (r : Nat) (p d : Int32) : px_same SJ h (looked h r p d) := ((((px_same.rf.I (by decide) _ _).I (by decide) _ _).I (by decide) _ _).I (by decide) _ _).I (by decide) _ _
theorem setJ_s (h : PH) (J : JS) : px_same SJ h (setJ h J) := ((((((px_same.rf.I (by decide) _ _).r (by decide) _).r (by decide) _).r (by decide) _).r (by decide) _).r (by decide) _).r (by decide) _
theorem lp_X10_inForce {h : PH} {d kn : Int32} (hL : px_L h) {n : Nat} {ro to ln : Nat → Nat} {fr kf : Nat → Int32} {ev : Nat → (Nat → Int32) → Int32 → Int32} (hT : TX h n ro to ln fr kf ev) : ∀ m : Nat, m ≤ n → PW M_X10_inForce (hn h) (hs h) (PMpost (some (rv ro (lastT (frcP fr kf d kn) m))) h) 7 [(0, .ref 12), (1, .int d), (2, .int kn), (3, .int (nI (m) - 1))] [] h := by
  have hn8 := hT.1
  intro m
  induction m with
  | zero =>
    intro hm
    refine px_iload_n d_X10_inForce_7 rfl rfl ?_
    refine px_if_lt (tgt := 51) d_X10_inForce_8 (by decide) (fun c8 => ?_) (fun c8 => (c8 (by decide)).elim)
    refine px_null d_X10_inForce_51 ?_
    exact px_areturnN d_X10_inForce_52 rfl (by first | exact Or.inl ⟨_, rfl⟩ | exact Or.inr ⟨_, rfl⟩) ⟨rfl, rfl, rfl⟩
  | succ m ih =>
    intro hm
    rw [nI_pred]
    refine px_iload_n d_X10_inForce_7 rfl rfl ?_
    refine px_if_lt (tgt := 51) d_X10_inForce_8 (by decide) (fun c8 => absurd c8 (nI_pos (by omega))) (fun c8 => ?_)
    refine px_aload_n d_X10_inForce_11 rfl rfl ?_
    refine px_getR d_X10_inForce_12 fl_X10_11 (by decide) (so12 hL) (sr12_0 hL) ?_
    refine px_iload_n d_X10_inForce_15 rfl rfl ?_
    refine px_aaldB d_X10_inForce_16 (sa13 hL) rfl (by omega) (hT.2.2 m (by omega)).1.1 ?_
    refine px_astore d_X10_inForce_17 (by decide) ?_
    refine px_aload d_X10_inForce_19 rfl ?_
    refine px_ifnull d_X10_inForce_21 ?_
    refine px_aload d_X10_inForce_24 rfl ?_
    refine px_getI d_X10_inForce_26 fl_X10_21 rfl (hT.2.2 m (by omega)).1.2.1 ?_
    refine px_val (y := fr m) (hT.2.2 m (by omega)).2.1.2.2.1 ?_
    refine px_iload_n d_X10_inForce_29 rfl rfl ?_
    refine px_icmp_gt (tgt := 45) d_X10_inForce_30 (by decide) (fun c30 => ?_) (fun c30 => ?_)
    · refine px_iinc d_X10_inForce_45 rfl rfl (by decide) ?_
      refine px_goto (tgt := 7) d_X10_inForce_48 (by decide) ?_
      have e9 : lastT (frcP fr kf d kn) (m + 1) = lastT (frcP fr kf d kn) m := if_neg (by unfold frcP; simp only [Bool.and_eq_true, decide_eq_true_eq]; rintro ⟨w1, w2⟩; first | exact w1 c30 | exact w2 c39)
      rw [e9]
      refine px_drop (lv' := [(0, .ref 12), (1, .int d), (2, .int kn), (3, .int (nI (m) - 1))]) ⟨rfl, rfl, rfl, px_si ((by rw [Int32.sub_eq_add_neg]; rfl)), trivial⟩ ?_
      exact ih (by omega)
    · refine px_aload d_X10_inForce_33 rfl ?_
      refine px_getI d_X10_inForce_35 fl_X10_24 rfl (hT.2.2 m (by omega)).1.2.1 ?_
      refine px_val (y := kf m) (hT.2.2 m (by omega)).2.1.2.2.2 ?_
      refine px_iload_n d_X10_inForce_38 rfl rfl ?_
      refine px_icmp_gt (tgt := 45) d_X10_inForce_39 (by decide) (fun c39 => ?_) (fun c39 => ?_)
      · refine px_iinc d_X10_inForce_45 rfl rfl (by decide) ?_
        refine px_goto (tgt := 7) d_X10_inForce_48 (by decide) ?_
        have e9 : lastT (frcP fr kf d kn) (m + 1) = lastT (frcP fr kf d kn) m := if_neg (by unfold frcP; simp only [Bool.and_eq_true, decide_eq_true_eq]; rintro ⟨w1, w2⟩; first | exact w1 c30 | exact w2 c39)
        rw [e9]
        refine px_drop (lv' := [(0, .ref 12), (1, .int d), (2, .int kn), (3, .int (nI (m) - 1))]) ⟨rfl, rfl, rfl, px_si ((by rw [Int32.sub_eq_add_neg]; rfl)), trivial⟩ ?_
        exact ih (by omega)
      · refine px_aload d_X10_inForce_42 rfl ?_
        exact px_areturn d_X10_inForce_44 rfl (by first | exact Or.inl ⟨_, rfl⟩ | exact Or.inr ⟨_, rfl⟩) (by rw [show lastT (frcP fr kf d kn) (m + 1) = some m from if_pos (by unfold frcP; simp only [Bool.and_eq_true, decide_eq_true_eq]; exact ⟨c30, c39⟩)]; exact ⟨rfl, rfl, rfl⟩)
theorem c_X10_inForce {h : PH} {d kn : Int32} (hL : px_L h) {n : Nat} {ro to ln : Nat → Nat} {fr kf : Nat → Int32} {ev : Nat → (Nat → Int32) → Int32 → Int32} (hT : TX h n ro to ln fr kf ev) : PM M_X10_inForce [.ref 12, .int d, .int kn] h (some (rv ro (lastT (frcP fr kf d kn) n))) h := by
  refine PM.of (by decide +kernel) (by decide +kernel) (Nat.le_refl _) (Nat.le_refl _) (Nat.le_of_ble_eq_true rfl) ?_
  refine px_aload_n d_X10_inForce_0 rfl rfl ?_
  refine px_getI d_X10_inForce_1 fl_X10_17 rfl (so12 hL) ?_
  refine px_iconst (v := 1) d_X10_inForce_4 (by decide) ?_
  refine px_isub d_X10_inForce_5 ?_
  refine px_istore_n d_X10_inForce_6 rfl (by decide) ?_
  refine px_drop (lv' := [(0, .ref 12), (1, .int d), (2, .int kn), (3, .int (nI (n) - 1))]) ⟨rfl, rfl, rfl, px_si (by rw [hT.2.1]), trivial⟩ ?_
  exact lp_X10_inForce hL hT n (Nat.le_refl _)
theorem c_X5_look {h : PH} {p d : Int32} (hL : px_L h) {r r1 r2 : Nat} (hA : px_acc h r r1 r2) (h78 : 78 ≤ r) : PM M_X5_look [.ref 14, .ref r, .int p, .int d] h none (looked h r p d) := by
  refine PM.of (by decide +kernel) (by decide +kernel) (Nat.le_refl _) (Nat.le_refl _) (Nat.le_of_ble_eq_true rfl) ?_
  refine px_aload_n d_X5_look_0 rfl rfl ?_
  refine px_aload_n d_X5_look_1 rfl rfl ?_
  refine px_getI d_X5_look_2 fl_X5_30 rfl hA.1 ?_
  refine px_putI d_X5_look_5 fl_X5_36 rfl (so14 hL) ?_
  refine px_aload_n d_X5_look_8 rfl rfl ?_
  refine px_iload_n d_X5_look_9 rfl rfl ?_
  refine px_putI d_X5_look_10 fl_X5_37 rfl (so14 hL) ?_
  refine px_aload_n d_X5_look_13 rfl rfl ?_
  refine px_iload_n d_X5_look_14 rfl rfl ?_
  refine px_aload_n d_X5_look_15 rfl rfl ?_
  refine px_getI d_X5_look_16 fl_X5_40 rfl hA.1 ?_
  refine px_val (y := hI h r 3) (congrFun ((hI_pI (show r ≠ 14 by omega)).trans (hI_pI (show r ≠ 14 by omega))) _) ?_
  refine px_isub d_X5_look_19 ?_
  refine px_putI d_X5_look_20 fl_X5_43 rfl (so14 hL) ?_
  refine px_aload_n d_X5_look_23 rfl rfl ?_
  refine px_iload_n d_X5_look_24 rfl rfl ?_
  refine px_bipush (v := 30) d_X5_look_25 (by decide) ?_
  refine px_idiv d_X5_look_27 (by decide) ?_
  refine px_putI d_X5_look_28 fl_X5_46 rfl (so14 hL) ?_
  refine px_aload_n d_X5_look_31 rfl rfl ?_
  refine px_iload_n d_X5_look_32 rfl rfl ?_
  refine px_bipush (v := 30) d_X5_look_33 (by decide) ?_
  refine px_irem d_X5_look_35 (by decide) ?_
  refine px_putI d_X5_look_36 fl_X5_49 rfl (so14 hL) ?_
  exact px_return d_X5_look_39 rfl ⟨rfl, rfl, rfl⟩
def fct (a b c d e : Int32) : Nat → Int32 := fun j => if j = 0 then a else if j = 1 then b else if j = 2 then c else if j = 3 then d else e
theorem jTake_cg {F F' : Nat → Int32} (hF : ∀ j, j < 5 → F j = F' j) (J : JS) (x : Int32) : jTake F J x = jTake F' J x := by
  have e : jFact F x = jFact F' x := by
    unfold jFact
    rw [hF 0 (by decide), hF 1 (by decide), hF 2 (by decide), hF 3 (by decide), hF 4 (by decide)]
  unfold jTake
  rw [e]
theorem nOf_cg {F F' tk : Nat → Int32} {rule : Int32} (hF : ∀ j, j < 5 → F j = F' j) : ∀ (k i line : Nat) (J : JS), nOf F tk rule k i line J = nOf F' tk rule k i line J
  | 0, _, _, _ => rfl
  | k + 1, i, line, J => by
    unfold nOf
    rw [jTake_cg hF, nOf_cg hF k, nOf_cg hF k, nOf_cg hF k, nOf_cg hF k, nOf_cg hF k]
theorem TX.cg {h : PH} {n : Nat} {ro to ln : Nat → Nat} {fr kf : Nat → Int32} {ev : Nat → (Nat → Int32) → Int32 → Int32} (hT : TX h n ro to ln fr kf ev) {i : Nat} (hi : i < n) {F F' : Nat → Int32} (hF : ∀ j, j < 5 → F j = F' j) (rule : Int32) : ev i F rule = ev i F' rule := by
  have J : JS := (0, fun _ => 0, fun _ => 0, fun _ => 0, fun _ => 0, fun _ => 0, fun _ => 0)
  rw [← (hT.2.2 i hi).2.2 F rule J, ← (hT.2.2 i hi).2.2 F' rule J]
  exact nOf_cg hF _ _ _ _
def fctD (kd op p d : Int32) : Nat → Int32 := fct kd p (d - op) (d / 30) (d - d / 30 * 30)
theorem looked_F (h : PH) (r : Nat) (p d : Int32) : ∀ j, j < 5 → hI (looked h r p d) 14 j = fctD (hI h r 1) (hI h r 3) p d j := by
  intro j hj
  obtain rfl | rfl | rfl | rfl | rfl : j = 0 ∨ j = 1 ∨ j = 2 ∨ j = 3 ∨ j = 4 := by omega
  all_goals rfl
/-- what the text in force tells: its number, or no text's -/
def txC (ev : Nat → (Nat → Int32) → Int32 → Int32) (F : Nat → Int32) (rule non : Int32) : Option Nat → Int32
  | none => non
  | some i => ev i F rule
def rtC (v : Int32) : Int32 := if 0 < v then v else 0
theorem d30 {m : Nat} (hm : m < 24) : nI m * 30 + 30 - 1 = nI (30 * m + 29) := by
  show Int32.ofNat m * Int32.ofNat 30 + Int32.ofNat 30 - 1 = _
  rw [← Int32.ofNat_mul, ← Int32.ofNat_add, show m * 30 + 30 = (30 * m + 29) + 1 by omega]
  exact nI_pred _
def rtF (ev : Nat → (Nat → Int32) → Int32 → Int32) (fr kf : Nat → Int32) (n : Nat) (kd op kn : Int32) (m : Nat) (p : Int32) : Int32 := rtC (txC ev (fctD kd op p (nI (30 * m + 29))) (-3) 0 (lastT (frcP fr kf (nI (30 * m + 29)) kn) n))
def sQ (S : Nat → Bool) (h : PH) (v : Int32) : Option Value → PH → Prop := fun r h' => r = some (.int v) ∧ px_same S h h'
theorem x_X7_rateOf {h : PH} {p kn : Int32} (hL : px_L h) {n : Nat} {ro to ln : Nat → Nat} {fr kf : Nat → Int32} {ev : Nat → (Nat → Int32) → Int32 → Int32} (hT : TX h n ro to ln fr kf ev) {r r1 r2 : Nat} (hA : px_acc h r r1 r2) (h78 : 78 ≤ r) {kd op : Int32} (hkd : hI h r 1 = kd) (hop : hI h r 3 = op) {m : Nat} (hm : m < 24) : PX M_X7_rateOf [.ref 21, .ref r, .int (nI m), .int p, .int kn] h 0 0 (sQ SJ h (rtF ev fr kf n kd op kn m p)) := by
  have cF := c_X10_inForce (d := nI (30 * m + 29)) (kn := kn) hL hT
  subst hkd hop
  unfold rtF
  rcases hq : lastT (frcP fr kf (nI (30 * m + 29)) kn) n with _ | i
  · rw [hq] at cF
    refine PX.of (by decide +kernel) (by decide +kernel) (Nat.le_of_ble_eq_true rfl) ?_

    refine px_iload_n d_X7_rateOf_0 rfl rfl ?_
    refine px_bipush (v := 30) d_X7_rateOf_1 (by decide) ?_
    refine px_imul d_X7_rateOf_3 ?_
    refine px_bipush (v := 30) d_X7_rateOf_4 (by decide) ?_
    refine px_iadd d_X7_rateOf_6 ?_
    refine px_iconst (v := 1) d_X7_rateOf_7 (by decide) ?_
    refine px_isub d_X7_rateOf_8 ?_
    refine px_val (y := nI (30 * m + 29)) (d30 hm) ?_
    refine px_istore d_X7_rateOf_9 (by decide) ?_
    refine px_aload_n d_X7_rateOf_11 rfl rfl ?_
    refine px_getR d_X7_rateOf_12 fl_X7_19 (by decide) (so21 hL) (sr21_1 hL) ?_
    refine px_iload d_X7_rateOf_15 rfl ?_
    refine px_iload d_X7_rateOf_17 rfl ?_
    refine px_callV (cF) d_X7_rateOf_19 lk_X7_70 ok_X10_inForce ov_X10_inForce (so12 hL) (by decide) rfl rfl (Nat.le_of_ble_eq_true rfl) (by decide) ⟨Nat.le_refl (hn h), Nat.le_refl (hs h)⟩ ?_
    refine px_astoreN d_X7_rateOf_22 (by decide) ?_
    refine px_aloadN d_X7_rateOf_24 rfl ?_
    refine px_ifnonnullN d_X7_rateOf_26 ?_
    refine px_iconst (v := 0) d_X7_rateOf_29 (by decide) ?_
    exact px_ireturn d_X7_rateOf_30 rfl rfl ⟨rfl, ⟨rfl, px_same.rf⟩, rfl, rfl⟩
  · rw [hq] at cF
    have hi : i < n := lastT_lt hq
    have hs9 := looked_s h r p (nI (30 * m + 29))
    have hT9 : TX (looked h r p (nI (30 * m + 29))) n ro to ln fr kf ev := hT.same hs9 (by decide) (fun x hx => SJ_C (SC_hi hx))
    obtain ⟨J, hJ⟩ := setJ_of (looked h r p (nI (30 * m + 29)))
    have cN := x_X5_numberOf (h := (looked h r p (nI (30 * m + 29)))) hL (hT9.2.2 i hi).1.2.2.2 (hT9.2.2 i hi).2.1.2.1 (rule := -3) hJ
    rw [(hT9.2.2 i hi).2.2, hT.cg hi (looked_F h r p (nI (30 * m + 29)))] at cN
    refine PX.of (by decide +kernel) (by decide +kernel) (Nat.le_of_ble_eq_true rfl) ?_

    refine px_iload_n d_X7_rateOf_0 rfl rfl ?_
    refine px_bipush (v := 30) d_X7_rateOf_1 (by decide) ?_
    refine px_imul d_X7_rateOf_3 ?_
    refine px_bipush (v := 30) d_X7_rateOf_4 (by decide) ?_
    refine px_iadd d_X7_rateOf_6 ?_
    refine px_iconst (v := 1) d_X7_rateOf_7 (by decide) ?_
    refine px_isub d_X7_rateOf_8 ?_
    refine px_val (y := nI (30 * m + 29)) (d30 hm) ?_
    refine px_istore d_X7_rateOf_9 (by decide) ?_
    refine px_aload_n d_X7_rateOf_11 rfl rfl ?_
    refine px_getR d_X7_rateOf_12 fl_X7_19 (by decide) (so21 hL) (sr21_1 hL) ?_
    refine px_iload d_X7_rateOf_15 rfl ?_
    refine px_iload d_X7_rateOf_17 rfl ?_
    refine px_callV (cF) d_X7_rateOf_19 lk_X7_70 ok_X10_inForce ov_X10_inForce (so12 hL) (by decide) rfl rfl (Nat.le_of_ble_eq_true rfl) (by decide) ⟨Nat.le_refl (hn h), Nat.le_refl (hs h)⟩ ?_
    refine px_astore d_X7_rateOf_22 (by decide) ?_
    refine px_aload d_X7_rateOf_24 rfl ?_
    refine px_ifnonnull (tgt := 31) d_X7_rateOf_26 (by decide) ?_
    refine px_aload_n d_X7_rateOf_31 rfl rfl ?_
    refine px_getR d_X7_rateOf_32 fl_X7_23 (by decide) (so21 hL) (sr21_2 hL) ?_
    refine px_aload_n d_X7_rateOf_35 rfl rfl ?_
    refine px_iload_n d_X7_rateOf_36 rfl rfl ?_
    refine px_iload d_X7_rateOf_37 rfl ?_
    refine px_callV (c_X5_look hL hA h78) d_X7_rateOf_39 lk_X7_76 ok_X5_look ov_X5_look (so14 hL) (by decide) rfl rfl (Nat.le_of_ble_eq_true rfl) (by decide) ⟨Nat.le_refl (hn h), Nat.le_refl (hs h)⟩ ?_
    refine px_iconst (v := 0) d_X7_rateOf_42 (by decide) ?_
    refine px_aload_n d_X7_rateOf_43 rfl rfl ?_
    refine px_getR d_X7_rateOf_44 fl_X7_23 (by decide) (so21 hL) (sr21_2 hL) ?_
    refine px_aload d_X7_rateOf_47 rfl ?_
    refine px_getR d_X7_rateOf_49 fl_X7_81 (by decide) (hT9.2.2 i hi).1.2.1 (hT9.2.2 i hi).1.2.2.1 ?_
    refine px_bipush (v := (-3)) d_X7_rateOf_52 (by decide) ?_
    refine px_callVX (cN) d_X7_rateOf_54 lk_X7_86 ok_X5_numberOf ov_X5_numberOf (so14 hL) (by decide) rfl rfl (Nat.le_of_ble_eq_true rfl) (by decide) ⟨Nat.le_refl (hn h), Nat.le_refl (hs h)⟩ (fun r1 h1 q1 n1 s1 => ?_)
    obtain ⟨rfl, J2, rfl⟩ := q1
    refine px_mmax d_X7_rateOf_57 lk_X7_90 (by decide) (by decide) ?_
    exact px_ireturn d_X7_rateOf_60 rfl rfl ⟨rfl, ⟨rfl, hs9.tr (setJ_s _ J2)⟩, rfl, rfl⟩
