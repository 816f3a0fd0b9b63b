/-! ===== one account changes ===== -/
def DxA (j r : Nat) : Nat → Nat → Bool := fun a i => DAT a i && !(DA1 j r a i)
theorem DAT_lo {a i : Nat} (ha : a < 78) : DAT a i = (a == 55 || a == 56 || a == 57 || a == 58 || a == 69 || a == 70 || a == 71 || (a == 0 && i == 10) || (a == 36 && i == 27) || (a == 42 || a == 43 || a == 44 || a == 45 || a == 46 || a == 47 || a == 48 || a == 49 || (a == 12 && i == 1) || (a == 36 && (i == 10 || i == 20)))) := by
  unfold DAT DAc DTx
  rw [decide_eq_false (by omega : ¬ 78 ≤ a)]
  simp only [Bool.false_or]
theorem DAT_hi {a i : Nat} (ha : 78 ≤ a) : DAT a i = true := by
  unfold DAT DAc
  rw [decide_eq_true ha]
  simp
theorem DA1_no {j r a i : Nat} (hr : 78 ≤ r) (ha : a < 78) (h1 : a ≠ 55 ∧ a ≠ 56 ∧ a ≠ 57 ∧ a ≠ 58 ∧ a ≠ 69 ∧ a ≠ 70 ∧ a ≠ 71) : DA1 j r a i = false := by
  unfold DA1
  simp only [Bool.or_eq_false_iff, Bool.and_eq_false_iff, decide_eq_false_iff_not, beq_eq_false_iff_ne]
  omega
theorem hi_aA {a i : Nat} (ha : 78 ≤ a) : DaA a i = false := by
  unfold DaA DIc DCk DEn DCo DNt DTa DHl
  simp only [Bool.or_eq_false_iff, Bool.and_eq_false_iff, beq_eq_false_iff_ne]
  omega
theorem IAT.upd {h g : PH} {m n j : Nat} {ra ro ln : Nat → Nat} {fr kf : Nat → Int32} {ev : Nat → (Nat → Int32) → Int32 → Int32} {nl : Nat → Nat} {W : Nat → Nat → (Nat → Int32) → Int32} (hL : px_L h) (cA : ACC h m ra) (cX : TXS h n ro ln fr kf ev nl W) (cS : SEP m n ra ro) (hj : j < m) (p : AG (DxA j (ra j)) E1 h g) (c : AC1 g j (ra j)) : IAT g := by
  have h78 : 78 ≤ hn h := hL.1
  obtain ⟨⟨m2, a1, a2, a4⟩, a3⟩ := cA
  have rj := (a3 j hj).2.1.1
  have lo : ∀ a i, a < 78 → DAT a i = true → (a ≠ 55 ∧ a ≠ 56 ∧ a ≠ 57 ∧ a ≠ 58 ∧ a ≠ 69 ∧ a ≠ 70 ∧ a ≠ 71) → hI g a i = hI h a i := fun a i ha d z => p.i (by omega) (by unfold DxA; rw [d, DA1_no rj ha z]; rfl)
  have hi : ∀ a i, a < hn h → 78 ≤ a → (a + 1 ≤ ra j ∨ ra j + 3 ≤ a) → hI g a i = hI h a i := fun a i ha h8 z => p.i ha (by
    unfold DxA
    rw [DAT_hi h8]
    unfold DA1
    simp only [Bool.true_and, Bool.not_eq_true', Bool.or_eq_false_iff, Bool.and_eq_false_iff, decide_eq_false_iff_not, beq_eq_false_iff_ne]
    omega)
  have un : ∀ a i, (a = 58 ∨ a = 69) → i ≠ j → hI g a i = hI h a i := fun a i z zi => p.i (by omega) (by
    unfold DxA
    rw [DAT_lo (by omega)]
    unfold DA1
    simp only [Bool.or_eq_true, Bool.and_eq_true, decide_eq_true_eq, beq_iff_eq, Bool.not_eq_true', Bool.or_eq_false_iff, Bool.and_eq_false_iff, decide_eq_false_iff_not, beq_eq_false_iff_ne]
    omega)
  have hr : ∀ a i, a < hn h → hR g a i = hR h a i := fun a i ha => p.rr ha rfl
  refine ⟨m, n, ra, ro, ln, fr, kf, ev, nl, W, ⟨⟨m2, (lo 0 10 (by omega) rfl (by omega)).trans a1, (lo 36 27 (by omega) rfl (by omega)).trans a2, fun k hk => ⟨(un 58 k (by omega) (by omega)).trans (a4 k hk).1, (un 69 k (by omega) (by omega)).trans (a4 k hk).2⟩⟩, fun k hk => ⟨(hr 1 k (by omega)).trans (a3 k hk).1, ?_⟩⟩, ?_, cS⟩
  · by_cases e : k = j
    · subst e; exact c
    · have z := (a3 k hk).2
      have rk := z.1.1
      have sp := cS.1 j k hj hk (fun q => e q.symm)
      refine z.ag hL (p.mono (fun a i _ d => ?_) (fun _ _ _ _ => rfl))
      unfold DxA
      unfold DA1 at d ⊢
      rcases Nat.lt_or_ge a 78 with y | y
      · rw [DAT_lo y]
        simp only [Bool.or_eq_true, Bool.and_eq_true, decide_eq_true_eq, beq_iff_eq, Bool.not_eq_true', Bool.or_eq_false_iff, Bool.and_eq_false_iff, decide_eq_false_iff_not, beq_eq_false_iff_ne] at d ⊢
        omega
      · rw [DAT_hi y]
        simp only [Bool.or_eq_true, Bool.and_eq_true, decide_eq_true_eq, beq_iff_eq, Bool.not_eq_true', Bool.or_eq_false_iff, Bool.and_eq_false_iff, decide_eq_false_iff_not, beq_eq_false_iff_ne, true_and] at d ⊢
        omega
  · obtain ⟨⟨x1, x2, x3⟩, ⟨b1, b2, b3⟩, c3, c4, d0, c5⟩ := cX
    have w42 : hI g 42 = hI h 42 := funext fun i => lo 42 i (by omega) rfl (by omega)
    have w43 : hI g 43 = hI h 43 := funext fun i => lo 43 i (by omega) rfl (by omega)
    have w44 : hI g 44 = hI h 44 := funext fun i => lo 44 i (by omega) rfl (by omega)
    have w45 : hI g 45 = hI h 45 := funext fun i => lo 45 i (by omega) rfl (by omega)
    have w46 : hI g 46 = hI h 46 := funext fun i => lo 46 i (by omega) rfl (by omega)
    have w47 : hI g 47 = hI h 47 := funext fun i => lo 47 i (by omega) rfl (by omega)
    have w48 : hI g 48 = hI h 48 := funext fun i => lo 48 i (by omega) rfl (by omega)
    have w49 : hI g 49 = hI h 49 := funext fun i => lo 49 i (by omega) rfl (by omega)
    refine ⟨⟨x1, (lo 12 1 (by omega) rfl (by omega)).trans x2, fun i hi' => ?_⟩, ⟨b1, (lo 36 10 (by omega) rfl (by omega)).trans b2, fun i hi' => ?_⟩, fun i hi' => ?_, fun k => by rw [w45]; exact c4 k, d0, (lo 36 20 (by omega) rfl (by omega)).trans c5⟩
    · obtain ⟨⟨y1, y2, y3, y4⟩, ⟨z1, z2, z3, z4⟩, z5⟩ := x3 i hi'
      have sp := cS.2 j i hj hi'
      have e0 : ∀ q, hI g (ro i) q = hI h (ro i) q := fun q => hi (ro i) q y2.1 z1 (by omega)
      have e1 : hI g (ro i + 1) = hI h (ro i + 1) := funext fun q => hi (ro i + 1) q y4.1 z2 (by omega)
      refine ⟨⟨(hr 13 i (by omega)).trans y1, p.ob y2, (hr (ro i) 2 y2.1).trans y3, p.ar y4⟩, ⟨z1, z2, (e0 0).trans z3, (e0 1).trans z4⟩, fun F rule J => ?_⟩
      show nOf F (hI g (ro i + 1)) rule (ln i) 0 0 J = _
      rw [e1]; exact z5 F rule J
    · rw [w44, w47, w48, w49]; exact b3 i hi'
    · obtain ⟨y1, y2, y3⟩ := c3 i hi'
      unfold RY
      rw [w42, w43, w46, w47, w48, w49]
      refine ⟨y1, y2, fun F => ?_⟩
      unfold fOf
      rw [w45, w46]
      exact y3 F
