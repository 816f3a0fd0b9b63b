/-! ===== the reading, token by token ===== -/
def Sm1 (tk : Nat → Int32) (b0 i dp : Nat) (sw gw aw : Nat → Int32) (cs : List (Int32 × Int32)) : Prop := ∀ (F : Nat → Int32) (J0 : JS), ∃ (J1 : JS) (v : Int32), jr F tk b0 (i - b0) (jClear (0, J0.2)) = jAdd J1 v ∧ J1.1 = dp ∧ (∀ d, d ≤ dp → LV J1 sw gw aw i d) ∧ exs F cs [] = some (jxs (jAdd J1 v) dp :: (lv1 J1 gw aw dp ++ pil J1 sw gw aw dp))
def Sm3 (tk : Nat → Int32) (b0 i dp : Nat) (sw gw aw : Nat → Int32) (cs : List (Int32 × Int32)) : Prop := ∀ (F : Nat → Int32) (J0 : JS), ∃ (J1 : JS) (v : Int32), jr F tk b0 (i - b0) (jClear (0, J0.2)) = jAdd J1 v ∧ J1.1 = dp ∧ (∀ d, d ≤ dp → LV J1 sw gw aw i d) ∧ exs F cs [] = some (jW (jAdd J1 v) :: pil J1 sw gw aw dp)
section PSIM2
variable {tk : Nat → Int32} {pl : Nat → Nat} {N la b0 i cd dp : Nat} {op0 on0 cm sw gw aw op on : Nat → Int32} {cs : List (Int32 × Int32)} {ln ru : Int32} {f : Nat}
theorem Sm1.of (S : SmB tk b0 i dp sw gw aw cs) : Sm1 tk b0 i dp sw gw aw (if sw dp = 0 then cs else cs ++ [(sw dp, 0)]) := fun F J0 => by
  obtain ⟨J1, v, e1, e2, e3, e4⟩ := S F J0
  refine ⟨J1, v, e1, e2, e3, sem_s (e3 dp (Nat.le_refl _)) e2 ?_⟩
  rw [e4]
  show some (v :: (lvp J1 sw gw aw dp ++ pil J1 sw gw aw dp)) = _
  rfl
theorem Sm3.of (hi : i ≤ 600) (S : Sm1 tk b0 i dp sw gw aw cs) : Sm3 tk b0 i dp sw gw aw (if aw dp = 0 then (if gw dp = 0 then cs else cs ++ [(gw dp, 0)]) else (if gw dp = 0 then cs else cs ++ [(gw dp, 0)]) ++ [(7, 0)]) := fun F J0 => by
  obtain ⟨J1, v, e1, e2, e3, e4⟩ := S F J0
  refine ⟨J1, v, e1, e2, e3, ?_⟩
  have h := sem_a hi (e3 dp (Nat.le_refl _)).2 (sem_g (e3 dp (Nat.le_refl _)).2 e4)
  rw [h]
  unfold jW
  show _ = some (jWorth (J1.2.2.2.2.2.1 J1.1) (J1.2.2.2.2.2.2 J1.1) (jTest (jxs (jAdd J1 v) J1.1) (J1.2.2.2.1 J1.1) (J1.2.2.2.2.1 J1.1)) :: pil J1 sw gw aw dp)
  rw [e2]
theorem jAdd_s {J1 : JS} {v : Int32} {d : Nat} (h : J1.1 = dp) (hd : d ≠ dp) : jxs (jAdd J1 v) d = jxs J1 d := by
  show upf J1.2.1 J1.1 _ d = _
  rw [h]; exact upf_n _ _ hd
/-- plus or minus -/
theorem ns_pm {c : Int32} (hc : (tk i = -16 ∧ c = 3) ∨ (tk i = -17 ∧ c = 4)) (hb : b0 ≤ i) (S : Sm1 tk b0 i dp sw gw aw cs) : SmP tk b0 (i + 1) dp (upf (upf sw dp 0) dp c) gw aw cs := fun F J0 => by
  obtain ⟨J1, v, e1, e2, e3, e4⟩ := S F J0
  rw [jr_s hb, e1]
  obtain ⟨g, hg, hJ⟩ : ∃ g : Int32, ((c = 3 ∧ g = 1) ∨ (c = 4 ∧ g = -1)) ∧ jTake F (jAdd J1 v) (tk i) = jSgn (jAdd J1 v) g := by
    rcases hc with ⟨a, b⟩ | ⟨a, b⟩
    · exact ⟨1, Or.inl ⟨b, rfl⟩, by rw [a]; rfl⟩
    · exact ⟨-1, Or.inr ⟨b, rfl⟩, by rw [a]; rfl⟩
  have c0 : ¬ c = 0 := by rcases hg with ⟨a, -⟩ | ⟨a, -⟩ <;> (rw [a]; decide)
  rw [hJ]
  have eg : ∀ d, jxg (jSgn (jAdd J1 v) g) d = if d = dp then g else jxg J1 d := fun d => by
    show upf J1.2.2.1 J1.1 g d = _
    rw [e2]; rfl
  refine ⟨e2, fun d hd => ?_, ?_⟩
  · by_cases q : d = dp
    · subst q
      refine ⟨?_, (e3 d (Nat.le_refl _)).2.mono (Nat.le_succ _)⟩
      rw [eg, if_pos rfl, upf_s]
      rcases hg with ⟨a, b⟩ | ⟨a, b⟩
      · exact Or.inr (Or.inl ⟨a, b⟩)
      · exact Or.inr (Or.inr ⟨a, b⟩)
    · exact LV_cg ((e3 d hd).mono (Nat.le_succ _)) ⟨⟨by rw [upf_n _ _ q, upf_n _ _ q], rfl, rfl⟩, (jAdd_s e2 q).symm, by rw [eg, if_neg q], rfl, rfl⟩
  · rw [e4]
    show _ = some (lvp (jSgn (jAdd J1 v) g) (upf (upf sw dp 0) dp c) gw aw dp ++ pil (jSgn (jAdd J1 v) g) (upf (upf sw dp 0) dp c) gw aw dp)
    have ep : pil (jSgn (jAdd J1 v) g) (upf (upf sw dp 0) dp c) gw aw dp = pil J1 sw gw aw dp := pil_cg fun d hd => ⟨⟨by rw [upf_n _ _ (by omega), upf_n _ _ (by omega)], rfl, rfl⟩, jAdd_s e2 (by omega), rfl, rfl⟩
    rw [ep]
    unfold lvp
    rw [upf_s, if_neg c0]
    rfl
/-- less or equal -/
theorem ns_cmp {c : Int32} (hc : (tk i = -14 ∧ c = 5) ∨ (tk i = -15 ∧ c = 6)) (h0 : gw dp = 0) (hb : b0 ≤ i) (S : Sm1 tk b0 i dp sw gw aw cs) : SmP tk b0 (i + 1) dp (upf sw dp 0) (upf gw dp c) aw cs := fun F J0 => by
  obtain ⟨J1, v, e1, e2, e3, e4⟩ := S F J0
  rw [jr_s hb, e1]
  have hJ : jTake F (jAdd J1 v) (tk i) = jCmp (jAdd J1 v) (tk i) := by
    rcases hc with ⟨a, b⟩ | ⟨a, b⟩
    · rw [a]; rfl
    · rw [a]; rfl
  have c0 : ¬ c = 0 := by rcases hc with ⟨-, a⟩ | ⟨-, a⟩ <;> (rw [a]; decide)
  rw [hJ]
  have es : ∀ d, jxs (jCmp (jAdd J1 v) (tk i)) d = if d = dp then 0 else jxs (jAdd J1 v) d := fun d => by
    show upf (jAdd J1 v).2.1 J1.1 0 d = _
    rw [e2]; rfl
  have eg : ∀ d, jxg (jCmp (jAdd J1 v) (tk i)) d = if d = dp then 1 else jxg J1 d := fun d => by
    show upf J1.2.2.1 J1.1 1 d = _
    rw [e2]; rfl
  have el : ∀ d, jxl (jCmp (jAdd J1 v) (tk i)) d = if d = dp then jxs (jAdd J1 v) dp else jxl J1 d := fun d => by
    show upf J1.2.2.2.1 J1.1 ((jAdd J1 v).2.1 J1.1) d = _
    rw [e2]; rfl
  have er : ∀ d, jxr (jCmp (jAdd J1 v) (tk i)) d = if d = dp then tk i else jxr J1 d := fun d => by
    show upf J1.2.2.2.2.1 J1.1 (tk i) d = _
    rw [e2]; rfl
  refine ⟨e2, fun d hd => ?_, ?_⟩
  · by_cases q : d = dp
    · subst q
      refine ⟨Or.inl ⟨upf_s .., by rw [es, if_pos rfl], by rw [eg, if_pos rfl]⟩, ?_, ((e3 d (Nat.le_refl _)).2.mono (Nat.le_succ _)).2⟩
      rw [er, if_pos rfl, upf_s]
      rcases hc with ⟨a, b⟩ | ⟨a, b⟩
      · exact Or.inr (Or.inl ⟨b, a⟩)
      · exact Or.inr (Or.inr ⟨b, a⟩)
    · exact LV_cg ((e3 d hd).mono (Nat.le_succ _)) ⟨⟨by rw [upf_n _ _ q], by rw [upf_n _ _ q], rfl⟩, by rw [es, if_neg q, jAdd_s e2 q], by rw [eg, if_neg q], by rw [er, if_neg q], rfl⟩
  · rw [e4]
    show _ = some (lvp (jCmp (jAdd J1 v) (tk i)) (upf sw dp 0) (upf gw dp c) aw dp ++ pil (jCmp (jAdd J1 v) (tk i)) (upf sw dp 0) (upf gw dp c) aw dp)
    have ep : pil (jCmp (jAdd J1 v) (tk i)) (upf sw dp 0) (upf gw dp c) aw dp = pil J1 sw gw aw dp := pil_cg fun d hd => ⟨⟨by rw [upf_n _ _ (by omega)], by rw [upf_n _ _ (by omega)], rfl⟩, by rw [es, if_neg (by omega), jAdd_s e2 (by omega)], by rw [el, if_neg (by omega)], rfl⟩
    rw [ep]
    unfold lvp lv1
    rw [upf_s, upf_s, if_pos rfl, if_neg c0, el, if_pos rfl, if_pos h0]
    rfl
theorem jEnd_f {J : JS} (e2 : J.1 = dp) : (∀ d, jxs (jEnd J) d = if d = dp then 0 else jxs J d) ∧ (∀ d, jxg (jEnd J) d = if d = dp then 1 else jxg J d) ∧ (∀ d, jxr (jEnd J) d = if d = dp then 0 else jxr J d) ∧ (∀ d, jxt (jEnd J) d = if d = dp then jxt J dp + 1 else jxt J d) ∧ (∀ d, jxw (jEnd J) d = if d = dp then jW J else jxw J d) ∧ ∀ d, jxl (jEnd J) d = jxl J d := by
  refine ⟨fun d => ?_, fun d => ?_, fun d => ?_, fun d => ?_, fun d => ?_, fun d => rfl⟩
  · show upf J.2.1 J.1 0 d = _; rw [e2]; rfl
  · show upf J.2.2.1 J.1 1 d = _; rw [e2]; rfl
  · show upf J.2.2.2.2.1 J.1 0 d = _; rw [e2]; rfl
  · show upf J.2.2.2.2.2.1 J.1 (J.2.2.2.2.2.1 J.1 + 1) d = _; rw [e2]; rfl
  · show upf J.2.2.2.2.2.2 J.1 (jW J) d = _; rw [e2]; rfl
/-- and -/
theorem ns_and (ht : tk i = -6) (hb : b0 ≤ i) (S : Sm3 tk b0 i dp sw gw aw cs) : SmP tk b0 (i + 1) dp (upf sw dp 0) (upf gw dp 0) (upf (upf aw dp 0) dp 7) cs := fun F J0 => by
  obtain ⟨J1, v, e1, e2, e3, e4⟩ := S F J0
  rw [jr_s hb, e1]
  have hJ : jTake F (jAdd J1 v) (tk i) = jEnd (jAdd J1 v) := by rw [ht]; rfl
  rw [hJ]
  obtain ⟨es, eg, er, et, ew, el⟩ := jEnd_f (J := jAdd J1 v) (dp := dp) e2
  refine ⟨e2, fun d hd => ?_, ?_⟩
  · by_cases q : d = dp
    · subst q
      refine ⟨Or.inl ⟨upf_s .., by rw [es, if_pos rfl], by rw [eg, if_pos rfl]⟩, Or.inl ⟨upf_s .., by rw [er, if_pos rfl]⟩, Or.inr ⟨upf_s .., ?_⟩⟩
      rw [et, if_pos rfl]
      rcases (e3 d (Nat.le_refl _)).2.2 with ⟨a, b⟩ | ⟨a, k, k1, k2, b⟩
      · exact ⟨1, Nat.le_refl _, by omega, by rw [show jxt (jAdd J1 v) d = 0 from b]; rfl⟩
      · exact ⟨k + 1, by omega, by omega, by rw [show jxt (jAdd J1 v) d = nI k from b]; exact nI_s1 k⟩
    · exact LV_cg ((e3 d hd).mono (Nat.le_succ _)) ⟨⟨by rw [upf_n _ _ q], by rw [upf_n _ _ q], by rw [upf_n _ _ q, upf_n _ _ q]⟩, by rw [es, if_neg q, jAdd_s e2 q], by rw [eg, if_neg q]; rfl, by rw [er, if_neg q]; rfl, by rw [et, if_neg q]; rfl⟩
  · rw [e4]
    show _ = some (lvp (jEnd (jAdd J1 v)) (upf sw dp 0) (upf gw dp 0) (upf (upf aw dp 0) dp 7) dp ++ pil (jEnd (jAdd J1 v)) (upf sw dp 0) (upf gw dp 0) (upf (upf aw dp 0) dp 7) dp)
    have ep : pil (jEnd (jAdd J1 v)) (upf sw dp 0) (upf gw dp 0) (upf (upf aw dp 0) dp 7) dp = pil J1 sw gw aw dp := pil_cg fun d hd => ⟨⟨by rw [upf_n _ _ (by omega)], by rw [upf_n _ _ (by omega)], by rw [upf_n _ _ (by omega), upf_n _ _ (by omega)]⟩, by rw [es, if_neg (by omega), jAdd_s e2 (by omega)], rfl, by rw [ew, if_neg (by omega)]; rfl⟩
    rw [ep]
    unfold lvp lv1
    rw [upf_s, upf_s, upf_s, if_pos rfl, if_pos rfl, if_neg (by decide), ew, if_pos rfl]
    rfl
/-- a bracket's end -/
theorem ns_cl {d0 : Nat} (ht : tk i = -13) (hb : b0 ≤ i) (S : Sm3 tk b0 i (d0 + 1) sw gw aw cs) : SmB tk b0 (i + 1) d0 (upf sw (d0 + 1) 0) (upf gw (d0 + 1) 0) (upf aw (d0 + 1) 0) cs := fun F J0 => by
  obtain ⟨J1, v, e1, e2, e3, e4⟩ := S F J0
  rw [jr_s hb, e1]
  have hJ : jTake F (jAdd J1 v) (tk i) = jAdd (jPop (jAdd J1 v)) (jW (jAdd J1 v)) := by rw [ht]; rfl
  obtain ⟨es, eg, er, et, ew, el⟩ := jEnd_f (J := jAdd J1 v) (dp := d0 + 1) e2
  refine ⟨jPop (jAdd J1 v), jW (jAdd J1 v), hJ, by show J1.1 - 1 = d0; omega, fun d hd => ?_, ?_⟩
  · have q : d ≠ d0 + 1 := by omega
    exact LV_cg ((e3 d (by omega)).mono (Nat.le_succ _)) ⟨⟨by rw [upf_n _ _ q], by rw [upf_n _ _ q], by rw [upf_n _ _ q]⟩, by show _ = jxs (jEnd (jAdd J1 v)) d; rw [es, if_neg q, jAdd_s e2 q], by show _ = jxg (jEnd (jAdd J1 v)) d; rw [eg, if_neg q]; rfl, by show _ = jxr (jEnd (jAdd J1 v)) d; rw [er, if_neg q]; rfl, by show _ = jxt (jEnd (jAdd J1 v)) d; rw [et, if_neg q]; rfl⟩
  · have ep : pil (jPop (jAdd J1 v)) (upf sw (d0 + 1) 0) (upf gw (d0 + 1) 0) (upf aw (d0 + 1) 0) (d0 + 1) = pil J1 sw gw aw (d0 + 1) := pil_cg fun d hd => ⟨⟨by rw [upf_n _ _ (by omega)], by rw [upf_n _ _ (by omega)], by rw [upf_n _ _ (by omega)]⟩, by show jxs (jEnd (jAdd J1 v)) d = _; rw [es, if_neg (by omega), jAdd_s e2 (by omega)], rfl, by show jxw (jEnd (jAdd J1 v)) d = _; rw [ew, if_neg (by omega)]; rfl⟩
    rw [e4, ep]
/-- a bracket -/
theorem ns_op (ht : tk i = -12) (hd5 : dp < 5) (hb : b0 ≤ i) (S : SmP tk b0 i dp sw gw aw cs) : SmP tk b0 (i + 1) (dp + 1) (upf sw (dp + 1) 0) (upf gw (dp + 1) 0) (upf aw (dp + 1) 0) cs := fun F J0 => by
  obtain ⟨e2, e3, e4⟩ := S F J0
  rw [jr_s hb]
  generalize jr F tk b0 (i - b0) (jClear (0, J0.2)) = J at e2 e3 e4
  have hJ : jTake F J (tk i) = jClear (dp + 1, J.2) := by
    rw [ht]
    show jClear (jUp J) = _
    unfold jUp
    rw [e2, if_pos hd5]
  rw [hJ]
  have q : ∀ (g : Nat → Int32) (x : Int32) d, d ≤ dp → upf g (dp + 1) x d = g d := fun g x d hd => upf_n _ _ (by omega)
  refine ⟨rfl, fun d hd => ?_, ?_⟩
  · by_cases z : d = dp + 1
    · subst z
      exact ⟨Or.inl ⟨upf_s .., upf_s .., upf_s ..⟩, Or.inl ⟨upf_s .., upf_s ..⟩, Or.inl ⟨upf_s .., upf_s ..⟩⟩
    · have hd2 : d ≤ dp := by omega
      exact LV_cg ((e3 d hd2).mono (Nat.le_succ _)) ⟨⟨by rw [q _ _ d hd2], by rw [q _ _ d hd2], by rw [q _ _ d hd2]⟩, (q _ _ d hd2).symm, (q _ _ d hd2).symm, (q _ _ d hd2).symm, (q _ _ d hd2).symm⟩
  · rw [e4]
    show _ = some (lvp _ (upf sw (dp + 1) 0) (upf gw (dp + 1) 0) (upf aw (dp + 1) 0) (dp + 1) ++ pil _ (upf sw (dp + 1) 0) (upf gw (dp + 1) 0) (upf aw (dp + 1) 0) (dp + 1))
    have ep : pil (jClear (dp + 1, J.2)) (upf sw (dp + 1) 0) (upf gw (dp + 1) 0) (upf aw (dp + 1) 0) (dp + 1) = pil J sw gw aw (dp + 1) := pil_cg fun d hd => ⟨⟨q _ _ d (by omega), q _ _ d (by omega), q _ _ d (by omega)⟩, q _ _ d (by omega), rfl, q _ _ d (by omega)⟩
    rw [ep]
    unfold lvp lv1
    rw [upf_s, upf_s, upf_s, if_pos rfl, if_pos rfl, if_pos rfl]
    rfl
theorem jTake_val {F : Nat → Int32} {J : JS} {t : Int32} (hb : bgT t = true) (h12 : ¬ t = -12) : jTake F J t = jAdd J (jFact F t) := by
  have k : ∀ x : Int32, x = -17 ∨ x = -16 ∨ x = -15 ∨ x = -14 ∨ x = -13 ∨ x = -6 → bgT x = false := by
    intro x hx
    rcases hx with rfl | rfl | rfl | rfl | rfl | rfl <;> decide
  have n : ∀ x : Int32, x = -17 ∨ x = -16 ∨ x = -15 ∨ x = -14 ∨ x = -13 ∨ x = -6 → ¬ t = x := fun x hx q => by
    rw [q, k x hx] at hb; exact absurd hb (by decide)
  unfold jTake
  rw [if_neg (n _ (by simp)), if_neg (n _ (by simp)), if_neg (n _ (by simp)), if_neg (n _ (by simp)), if_neg (n _ (by simp)), if_neg h12, if_neg (n _ (by simp))]
theorem val_ex {F : Nat → Int32} {t : Int32} {st : List Int32} (hb : bgT t = true) (h12 : ¬ t = -12) : exc F ((if 0 ≤ t then 1 else 2), (if 0 ≤ t then t else pwV t)) st = some (jFact F t :: st) := by
  unfold exc
  by_cases h0 : 0 ≤ t
  · rw [if_pos h0, if_pos h0, if_pos rfl]
    have n : ∀ x : Int32, ¬ 0 ≤ x → ¬ t = x := fun x hx q => hx (q ▸ h0)
    unfold jFact
    rw [if_neg (n _ (by decide)), if_neg (n _ (by decide)), if_neg (n _ (by decide)), if_neg (n _ (by decide)), if_neg (n _ (by decide))]
  · rw [if_neg h0, if_neg h0, if_neg (show ¬ (2 : Int32) = 1 by decide), if_pos rfl]
    rcases of_decide_eq_true hb with q | q | q | q | q | q | q
    · exact absurd q h0
    · exact absurd q h12
    all_goals
      subst q
      rw [if_pos (by decide)]
      rfl
/-- a number or a word -/
theorem ns_val (hb2 : bgT (tk i) = true) (h12 : ¬ tk i = -12) (hb : b0 ≤ i) (S : SmP tk b0 i dp sw gw aw cs) : SmB tk b0 (i + 1) dp sw gw aw (cs ++ [((if 0 ≤ tk i then 1 else 2), (if 0 ≤ tk i then tk i else pwV (tk i)))]) := fun F J0 => by
  obtain ⟨e2, e3, e4⟩ := S F J0
  rw [jr_s hb]
  exact ⟨_, jFact F (tk i), jTake_val hb2 h12, e2, fun d hd => (e3 d hd).mono (Nat.le_succ _), exs_snoc e4 (val_ex hb2 h12)⟩
end PSIM2
