/-! ===== balance, interest ===== -/
theorem SC_al {a j : Nat} (z : SC a = true) : Dal a j = false := by
  unfold SC at z
  unfold Dal DIc DCk DEn DCo DNt DTa DHl DAT DAc DTx
  simp only [Bool.and_eq_true, decide_eq_true_eq] at z
  simp only [Bool.or_eq_false_iff, Bool.and_eq_false_iff, beq_eq_false_iff_ne, decide_eq_false_iff_not]
  omega
theorem SI_al {a j : Nat} (z : SI a = true) : Dal a j = false := by
  unfold SI at z
  unfold Dal DIc DCk DEn DCo DNt DTa DHl DAT DAc DTx
  simp only [Bool.or_eq_true, decide_eq_true_eq] at z
  simp only [Bool.or_eq_false_iff, Bool.and_eq_false_iff, beq_eq_false_iff_ne, decide_eq_false_iff_not]
  omega
theorem rfM_same {S : Nat → Bool} {h g : PH} {nl : Nat → Nat} {W : Nat → Nat → (Nat → Int32) → Int32} {n : Nat} {F : Nat → Int32} {lim d kn : Int32} (a : px_same S h g) (s0 : S 42 = false) (s1 : S 43 = false) (s2 : S 45 = false) (s3 : S 46 = false) : rfM g nl W n F lim d kn = rfM h nl W n F lim d kn := by
  unfold rfM
  rw [a.2 42 s0, a.2 43 s1]
  exact fOf_same nl W F lim a s2 s3 _
theorem INV.two {h g1 g2 : PH} {v : Int64} (i : INV h) (s1 : px_same SC h g1) (s2 : px_same SI (th0 (pJ g1 77 0 v)) g2) : INV g2 := by
  refine i.all (((AG.rf.S s1 fun a j z => SC_al z).J.I fun _ => rfl).S s2 fun a j z => SI_al z) (fun w hw => ?_)
  rw [s2.1.1]
  show hJ g1 41 w = _
  rw [s1.1.1]
  exact i.2.1 w hw
theorem INV.two' {h g1 g2 : PH} (i : INV h) (s1 : px_same SC h g1) (s2 : px_same SI (th0 g1) g2) : INV g2 := by
  refine i.all (((AG.rf.S s1 fun a j z => SC_al z).I fun _ => rfl).S s2 fun a j z => SI_al z) (fun w hw => ?_)
  rw [s2.1.1]
  show hJ g1 41 w = _
  rw [s1.1.1]
  exact i.2.1 w hw
theorem STW.q {Mw Mm : px_M} {as bs : List Value} {h : PH} {v : Int32} (i : INV h) (a : PXW Mw bs h 0 0 (wX (sQ SC h v))) (m : ∀ g, px_same SC h g → PX Mm (.ref 36 :: as) (pJ g 77 0 v.toInt64) 0 0 (sQ SI (th0 (pJ g 77 0 v.toInt64)) v)) : STW Mw Mm as bs h := by
  refine ⟨0, 0, _, ⟨by omega, by omega⟩, a, fun r1 h1 q _ _ => ?_⟩
  obtain ⟨rfl, u, g, ⟨q1, q2⟩, rfl⟩ := q
  injection q1 with q1
  injection q1 with q1
  subst q1
  refine ⟨(i.1.same q2 : px_L g), 0, _, rfl, m g q2, fun r2 h2 q3 => ?_⟩
  obtain ⟨rfl, q4⟩ := q3
  refine ⟨u, rfl, (congrFun (q4.2 36 rfl) 0).trans rfl, fun _ => ?_, i.two q2 q4⟩
  rw [q4.1.1]
  rfl
section BAL
variable {h : PH}
def EF (h : PH) (j ne : Nat) (kn : Int32) : Int32 → Int32 := fun d => eTo (hI h 3) (hI h 4) (hI h 5) (hI h 6) (nI j) d kn ne
def RF (h : PH) (nl : Nat → Nat) (W : Nat → Nat → (Nat → Int32) → Int32) (n j : Nat) (kn : Int32) : Nat → Int32 → Int32 := fun m w => rfM h nl W n (fctD (hI h 55 j) (hI h 57 j) w (nI (30 * m + 29))) 0 (nI (30 * m + 29)) kn
theorem EF_g {g : PH} {j ne : Nat} {kn : Int32} (cE : ENT h ne) (s : px_same SC h g) (d : Int32) : eTo (hI g 59) (hI g 60) (hI g 61) (hI g 62) (nI j) d kn ne = EF h j ne kn d := by
  rw [s.2 59 rfl, s.2 60 rfl, s.2 61 rfl, s.2 62 rfl]
  exact (eTo_cg fun i hi => by obtain ⟨⟨a, b, c, d⟩, -⟩ := cE.2.2.2 i hi; exact ⟨⟨a, b, c⟩, d⟩).symm
theorem s_balance (i : INV h) (a d kn : Int32) : STW M_L_balance M_X12_balance [.int a, .int d, .int kn] [.ref 0, .int a, .int d, .int kn, .ref 77] h := by
  obtain ⟨hL, w, ⟨t, ne, nn, nt, cC, cE, cO, cN, cT⟩, hH, ⟨m, n, ra, ro, ln, fr, kf, ev, nl, W, cA, cX, cS⟩⟩ := id i
  obtain ⟨⟨m2, a1, a2, a4⟩, a3⟩ := id cA
  by_cases ha : ¬ a < 0 ∧ ¬ hI h 0 10 ≤ a
  · have ha' : ¬ a < 0 ∧ ¬ hI h 36 27 ≤ a := by rw [a2, ← a1]; exact ha
    rw [a1] at ha
    obtain ⟨j, hj, rfl⟩ := acc_N m2 ha
    obtain ⟨r1, ⟨r2, r3⟩, r4, -⟩ := a3 j hj
    by_cases hv : (¬ d < 0 ∧ ¬ 719 < d) ∧ ¬ kn < 0 ∧ ¬ hI h 0 11 < kn
    · obtain ⟨dd, hdd, rfl⟩ := nI_of hv.1.1
      have d7 : dd < 720 := Nat.lt_of_not_le fun z => hv.1.2 (nI_lt (a := 719) z hdd)
      have X1 := x_X11_balance hL a1 m2 cX.1 r3 r2 r4.2.1 r4.2.2.2.1 cE.2.1 cE.1 (fun i hi => (cE.2.2.2 i hi).2) r4.1 hj r1 d7 hv.2
      have e : balC (gat (hI h 3) (hI h 4) (hI h 5) (hI h 6) (nI j) kn ne) (rtF ev fr kf n (hI h 55 j) (hI h 57 j) kn) dd = balM (EF h j ne kn) (RF h nl W n j kn) (nI dd) := balC_M (fun d hd => cum_eTo (fun i hi => (cE.2.2.2 i hi).2) d hd) (fun m w _ => rate_E cX _ _ _ _ _) d7
      rw [e] at X1
      refine STW.q i (x_L_balance hL X1 (fun r g q => ⟨_, q.1⟩) (fun r g q => hL.same q.2)) (fun g s => ?_)
      have hLg : px_L g := hL.same s
      exact x_X12_balance (h := pJ g 77 0 _) hLg (n := n) (nl := nl) (W := W) (RX.same (S := SC) (h := h) (g := g) cX.2.1 s rfl rfl rfl rfl rfl) (kd := hI h 55 j) (op := hI h 57 j) (congrFun (s.2 55 rfl) j) (congrFun (s.2 57 rfl) j) (by omega) (ne := ne) ((congrFun (s.2 36 rfl) 32).trans cE.2.2.1) cE.1 (E := EF h j ne kn) (fun d => EF_g cE s d) (R := RF h nl W n j kn) (fun m w _ => rfM_same (S := SC) (h := h) (g := g) s rfl rfl rfl rfl) ⟨ha'.1, by
        show ¬ hI g 36 27 ≤ nI j
        rw [s.2 36 rfl]; exact ha'.2⟩ ⟨hv.1.1, hv.1.2, hv.2.1, by
        show ¬ hI g 36 26 < kn
        rw [s.2 36 rfl, cC.2.2, ← cC.2.1]; exact hv.2.2⟩
    · exact STW.t i (t_L_balance hL (t_X11_balance hL a1 m2 hj r1 hv)) (fun g hg e36 _ => n_X12_balance hg (fun q => hv ⟨⟨q.2.1, q.2.2.1⟩, q.2.2.2.1, by have z := q.2.2.2.2; rw [e36, cC.2.2, ← cC.2.1] at z; exact z⟩))
  · exact STW.t i (t_L_balance hL (ti_X11_balance hL ha)) (fun g hg e36 _ => n_X12_balance hg (fun q => ha (by have z := q.1; rw [e36, a2, ← a1] at z; exact z)))
theorem s_interest (i : INV h) (a d kn : Int32) : STW M_L_interest M_X12_interest [.int a, .int d, .int kn] [.ref 0, .int a, .int d, .int kn, .ref 77] h := by
  obtain ⟨hL, w, ⟨t, ne, nn, nt, cC, cE, cO, cN, cT⟩, hH, ⟨m, n, ra, ro, ln, fr, kf, ev, nl, W, cA, cX, cS⟩⟩ := id i
  obtain ⟨⟨m2, a1, a2, a4⟩, a3⟩ := id cA
  by_cases ha : ¬ a < 0 ∧ ¬ hI h 0 10 ≤ a
  · have ha' : ¬ a < 0 ∧ ¬ hI h 36 27 ≤ a := by rw [a2, ← a1]; exact ha
    rw [a1] at ha
    obtain ⟨j, hj, rfl⟩ := acc_N m2 ha
    obtain ⟨r1, ⟨r2, r3⟩, r4, -⟩ := a3 j hj
    by_cases hv : ¬ d < 0 ∧ ¬ 24 ≤ d ∧ ¬ kn < 0 ∧ ¬ hI h 0 11 < kn
    · obtain ⟨dd, hdd, rfl⟩ := nI_of hv.1
      have d7 : dd < 24 := Nat.lt_of_not_le fun z => hv.2.1 (nI_le (a := 24) z hdd)
      have X1 := x_X11_interest hL a1 m2 cX.1 r3 r2 r4.2.1 r4.2.2.2.1 cE.2.1 cE.1 (fun i hi => (cE.2.2.2 i hi).2) r4.1 hj r1 d7 hv.2.2
      have e : (RK (gat (hI h 3) (hI h 4) (hI h 5) (hI h 6) (nI j) kn ne) (rtF ev fr kf n (hI h 55 j) (hI h 57 j) kn) (dd + 1)).2.2 = itM (EF h j ne kn) (RF h nl W n j kn) dd := RK_last (fun d hd => cum_eTo (fun i hi => (cE.2.2.2 i hi).2) d hd) (fun m w _ => rate_E cX _ _ _ _ _) d7
      rw [e] at X1
      refine STW.q i (x_L_interest hL X1 (fun r g q => ⟨_, q.1⟩) (fun r g q => hL.same q.2)) (fun g s => ?_)
      have hLg : px_L g := hL.same s
      exact x_X12_interest (h := pJ g 77 0 _) hLg (n := n) (nl := nl) (W := W) (RX.same (S := SC) (h := h) (g := g) cX.2.1 s rfl rfl rfl rfl rfl) (kd := hI h 55 j) (op := hI h 57 j) (congrFun (s.2 55 rfl) j) (congrFun (s.2 57 rfl) j) (by omega) (ne := ne) ((congrFun (s.2 36 rfl) 32).trans cE.2.2.1) cE.1 (E := EF h j ne kn) (fun d => EF_g cE s d) (R := RF h nl W n j kn) (fun m w _ => rfM_same (S := SC) (h := h) (g := g) s rfl rfl rfl rfl) ⟨ha'.1, by
        show ¬ hI g 36 27 ≤ nI j
        rw [s.2 36 rfl]; exact ha'.2⟩ d7 ⟨hv.2.2.1, by
        show ¬ hI g 36 26 < kn
        rw [s.2 36 rfl, cC.2.2, ← cC.2.1]; exact hv.2.2.2⟩
    · exact STW.t i (t_L_interest hL (t_X11_interest hL a1 m2 hj r1 hv)) (fun g hg e36 _ => n_X12_interest hg (fun q => hv ⟨q.2.1, fun z => q.2.2.1 (Int32.lt_of_lt_of_le (show (23 : Int32) < 24 by decide) z), q.2.2.2.1, by have z := q.2.2.2.2; rw [e36, cC.2.2, ← cC.2.1] at z; exact z⟩))
  · exact STW.t i (t_L_interest hL (ti_X11_interest hL ha)) (fun g hg e36 _ => n_X12_interest hg (fun q => ha (by have z := q.1; rw [e36, a2, ← a1] at z; exact z)))
end BAL
