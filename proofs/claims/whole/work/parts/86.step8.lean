/-! ===== settle ===== -/
section SETTLE
variable {h : PH}
def Dst (r j : Nat) : Nat → Nat → Bool := fun a i => !(SC a) && !(SI a) && !(a == 58 && i == j) && !(a == r && i == 7) && !(a == 36 && i == 0)
theorem Dst_v {r j a i : Nat} (h1 : SC a = false) (h2 : SI a = false) (h3 : ¬ (a = 58 ∧ i = j)) (h4 : ¬ (a = r ∧ i = 7)) (h5 : ¬ (a = 36 ∧ i = 0)) : Dst r j a i = true := by
  unfold Dst
  rw [h1, h2]
  simp only [Bool.not_false, Bool.true_and, Bool.and_eq_true, Bool.not_eq_true', Bool.and_eq_false_iff, beq_eq_false_iff_ne]
  omega
theorem SI_hi {a : Nat} (h : 78 ≤ a) : SI a = false := by
  unfold SI
  simp only [Bool.or_eq_false_iff, decide_eq_false_iff_not]
  omega
def SCr (r : Nat) : Nat → Bool := fun a => SC a || a == r
theorem SCr_v {r a : Nat} (hr : 78 ≤ r) (ha : a < 78) (h1 : SC a = false) : SCr r a = false := by
  unfold SCr
  rw [h1, Bool.false_or, beq_eq_false_iff_ne]
  omega
theorem st_AC {h2 : PH} {j r : Nat} {x : Int32} (hL : px_L h) (cj : AC1 h j r) (p : AG (Dst r j) E1 h h2) (e1 : hI h2 r 7 = x) (e2 : hI h2 58 j = x) : AC1 h2 j r := by
  have h78 : 78 ≤ hn h := hL.1
  obtain ⟨⟨r2, o, ⟨e4, e5⟩, ⟨ar1, ar2⟩, ne⟩, ⟨c2, c3, c5, c6, c7⟩, n, n4, c8, c9, c10⟩ := cj
  have hi : ∀ a i, a < hn h → 78 ≤ a → ¬ (a = r ∧ i = 7) → hI h2 a i = hI h a i := fun a i ha z y => p.i ha (Dst_v (SC_hi z) (SI_hi z) (by omega) y (by omega))
  have lo : ∀ a i, (a = 55 ∨ a = 56 ∨ a = 57 ∨ a = 69 ∨ a = 70 ∨ a = 71) → hI h2 a i = hI h a i := fun a i z => p.i (by omega) (Dst_v (by rcases z with z | z | z | z | z | z <;> rw [z] <;> rfl) (by rcases z with z | z | z | z | z | z <;> rw [z] <;> rfl) (by omega) (by omega) (by omega))
  refine ⟨⟨r2, p.ob o, ⟨(p.rr o.1 rfl).trans e4, (p.rr o.1 rfl).trans e5⟩, ⟨p.ar ar1, p.ar ar2⟩, ne⟩, ⟨?_, ?_, ?_, ?_, e1.trans e2.symm⟩, n, n4, ?_, ?_, fun q hq => ?_⟩
  · rw [hi r 0 o.1 r2 (by omega)]; exact c2
  · rw [hi r 1 o.1 r2 (by omega), lo 55 j (by omega)]; exact c3
  · rw [hi r 2 o.1 r2 (by omega), lo 55 j (by omega), lo 56 j (by omega)]; exact c5
  · rw [hi r 3 o.1 r2 (by omega), lo 57 j (by omega)]; exact c6
  · rw [hi r 6 o.1 r2 (by omega)]; exact c8
  · rw [lo 69 j (by omega)]; exact c9
  · rw [hi (r + 1) q ar1.1 (by omega) (by omega), hi (r + 2) q ar2.1 (by omega) (by omega), lo 70 _ (by omega), lo 71 _ (by omega)]
    exact c10 q hq
theorem st_DxA {r j a i : Nat} (hr : 78 ≤ r) (d : DxA j r a i = true) : Dst r j a i = true := by
  unfold DxA at d
  rw [Bool.and_eq_true] at d
  obtain ⟨d1, d2⟩ := d
  rcases Nat.lt_or_ge a 78 with y | y
  · rw [DAT_lo y] at d1
    unfold DA1 at d2
    unfold Dst SC SI
    simp only [Bool.or_eq_true, Bool.and_eq_true, decide_eq_true_eq, beq_iff_eq, Bool.not_eq_true', Bool.or_eq_false_iff, Bool.and_eq_false_iff, decide_eq_false_iff_not, beq_eq_false_iff_ne] at d1 d2 ⊢
    omega
  · unfold DA1 at d2
    refine Dst_v (SC_hi y) (SI_hi y) (by omega) (fun q => ?_) (by omega)
    simp only [Bool.not_eq_true', Bool.or_eq_false_iff, Bool.and_eq_false_iff, decide_eq_false_iff_not, beq_eq_false_iff_ne] at d2
    omega
theorem st_DaA {r j a i : Nat} (hr : 78 ≤ r) (d : DaA a i = true) : Dst r j a i = true := by
  have y : a < 78 := Nat.lt_of_not_le fun y => by rw [hi_aA y] at d; cases d
  unfold DaA DIc DCk DEn DCo DNt DTa DHl at d
  unfold Dst SC SI
  simp only [Bool.or_eq_true, Bool.and_eq_true, decide_eq_true_eq, beq_iff_eq, Bool.not_eq_true', Bool.or_eq_false_iff, Bool.and_eq_false_iff, decide_eq_false_iff_not, beq_eq_false_iff_ne] at d ⊢
  omega
theorem s_settle (i : INV h) (a : Int32) : STW M_L_settle M_X12_settle [.int a] [.ref 0, .int a, .ref 77] h := by
  obtain ⟨hL, w, ⟨t, ne, nn, nt, cC, cE, cO, cN, cT⟩, hH, ⟨m, n, ra, ro, ln, fr, kf, ev, nl, W, cA, cX, cS⟩⟩ := id i
  obtain ⟨⟨m2, a1, a2, a4⟩, a3⟩ := id cA
  by_cases ha : ¬ a < 0 ∧ ¬ hI h 0 10 ≤ a
  · have ha' : ¬ a < 0 ∧ ¬ hI h 36 27 ≤ a := by rw [a2, ← a1]; exact ha
    rw [a1] at ha
    obtain ⟨j, hj, rfl⟩ := acc_N m2 ha
    obtain ⟨r1, cj⟩ := a3 j hj
    obtain ⟨⟨r2, r3⟩, r4, -⟩ := id cj
    generalize ra j = r at r1 cj r2 r3 r4
    have X1 := x_X11_settle hL a1 m2 cX.1 r3 r2 r4.2.1 r4.2.2.2.1 cE.2.1 cE.1 (fun i hi => (cE.2.2.2 i hi).2) r4.1 hj r1 cC.2.1 cC.1
    have e : (RK (gat (hI h 3) (hI h 4) (hI h 5) (hI h 6) (nI j) (nI t) ne) (rtF ev fr kf n (hI h 55 j) (hI h 57 j) (nI t)) (t / 30)).2.1 - hI h 58 j = blM (EF h j ne (nI t)) (RF h nl W n j (nI t)) (- hI h 58 j) (nI t) 24 := earn_M (fun d hd => cum_eTo (fun i hi => (cE.2.2.2 i hi).2) d hd) (fun m w _ => rate_E cX _ _ _ _ _) cC.1 _
    refine ⟨0, 0, _, ⟨by omega, by omega⟩, x_L_settle hL X1 (fun r g q => ⟨_, q.1⟩) (fun r g q => ?_), fun rr h1 q _ _ => ?_⟩
    · obtain ⟨-, g0, s, rfl⟩ := q
      exact (hL.same s : px_L g0)
    obtain ⟨rfl, u, g0, ⟨q1, g, s, rfl⟩, rfl⟩ := q
    injection q1 with q1
    injection q1 with q1
    rw [r4.2.2.2.2, e] at q1
    rw [r4.2.2.2.2, e, ← q1]
    have hLg : px_L g := hL.same s
    have s' : px_same (SCr r) h (pI g r 7 (hI h 58 j + u)) := (s.mono (S' := SCr r) fun x hx => by
      unfold SCr at hx
      rw [Bool.or_eq_false_iff] at hx
      exact hx.1).I (by unfold SCr; simp) 7 _
    have z : ∀ x, x < 78 → SC x = false → hI (pI g r 7 (hI h 58 j + u)) x = hI h x := fun x hx hs => s'.2 x (SCr_v r2 hx hs)
    have X2 := x_X12_settle (h := pJ (pI g r 7 (hI h 58 j + u)) 77 0 u.toInt64) (a := j) (t := t) ((congrFun (z 36 (by omega) rfl) 26).trans cC.2.2) hLg (n := n) (nl := nl) (W := W) (RX.same (S := SCr r) (h := h) (g := pI g r 7 (hI h 58 j + u)) cX.2.1 s' (SCr_v r2 (by omega) rfl) (SCr_v r2 (by omega) rfl) (SCr_v r2 (by omega) rfl) (SCr_v r2 (by omega) rfl) (SCr_v r2 (by omega) rfl)) (kd := hI h 55 j) (op := hI h 57 j) (congrFun (z 55 (by omega) rfl) j) (congrFun (z 57 (by omega) rfl) j) (by omega) (ne := ne) ((congrFun (z 36 (by omega) rfl) 32).trans cE.2.2.1) cE.1 (E := EF h j ne (nI t)) (fun d => by
      show eTo (hI (pI g r 7 (hI h 58 j + u)) 59) (hI (pI g r 7 (hI h 58 j + u)) 60) (hI (pI g r 7 (hI h 58 j + u)) 61) (hI (pI g r 7 (hI h 58 j + u)) 62) (nI j) d (nI t) ne = _
      rw [z 59 (by omega) rfl, z 60 (by omega) rfl, z 61 (by omega) rfl, z 62 (by omega) rfl]
      have y := EF_g (g := h) (j := j) (kn := nI t) cE px_same.rf d
      exact y) (R := RF h nl W n j (nI t)) (fun m w _ => rfM_same (S := SCr r) (h := h) (g := pI g r 7 (hI h 58 j + u)) s' (SCr_v r2 (by omega) rfl) (SCr_v r2 (by omega) rfl) (SCr_v r2 (by omega) rfl) (SCr_v r2 (by omega) rfl)) ⟨ha'.1, by
        show ¬ hI (pI g r 7 (hI h 58 j + u)) 36 27 ≤ nI j
        rw [z 36 (by omega) rfl]; exact ha'.2⟩
    have e58 : hI (pJ (pI g r 7 (hI h 58 j + u)) 77 0 u.toInt64) 58 j = hI h 58 j := congrFun (z 58 (by omega) rfl) j
    rw [e58, ← q1] at X2
    refine ⟨hLg, 0, _, rfl, X2, fun r2' h2 q3 => ?_⟩
    obtain ⟨rfl, g2, q4, rfl⟩ := q3
    rw [e58]
    have A : ∀ D E, (∀ a i, D a i = true → Dst r j a i = true) → AG D E h (pI g2 58 j (hI h 58 j + u)) := fun D E d => by
      have n1 : ∀ a i, Dst r j a i = false → D a i = false := fun a i y => by
        cases y2 : D a i with
        | false => rfl
        | true => rw [d a i y2] at y; cases y
      refine (((AG.I (AG.S AG.rf s fun a i y => n1 a i ?_) fun _ => n1 r 7 ?_).J.I fun _ => n1 36 0 ?_).S q4 fun a i y => n1 a i ?_).I fun _ => n1 58 j ?_
      · unfold Dst; rw [y]; rfl
      · unfold Dst; simp
      · unfold Dst; simp
      · unfold Dst; rw [y]; simp
      · unfold Dst; simp
    have hL2 : px_L (pI g2 58 j (hI h 58 j + u)) := hL.ag (A D0 EL (fun a i y => absurd (show false = true from y) (by decide)))
    refine ⟨u, rfl, ?_, fun _ => ?_, i.iat (E := E1) (A _ _ fun a i y => st_DaA r2 y) hL2 (fun w' hw => ?_) ?_⟩
    · show hI g2 36 0 = 0
      rw [q4.2 36 rfl]; rfl
    · show hJ g2 77 0 = _
      rw [q4.1.1]; rfl
    · show hJ g2 41 w' = _
      rw [q4.1.1]
      show hJ g 41 w' = _
      rw [s.1.1]; exact w w' hw
    · have er : ra j = r := by
        have y := (a3 j hj).1
        rw [r1] at y
        injection y with y
        exact y.symm
      refine IAT.upd hL cA cX cS hj (A _ _ fun a i y => ?_) ?_
      · rw [er] at y; exact st_DxA r2 y
      · rw [er]
        refine st_AC hL cj (A _ _ fun a i y => y) (x := hI h 58 j + u) ?_ ?_
        · show hI (pI g2 58 j (hI h 58 j + u)) r 7 = _
          rw [gI, if_neg (by omega), q4.2 r (SI_hi r2)]
          show hI (pI (pJ (pI g r 7 (hI h 58 j + u)) 77 0 u.toInt64) 36 0 0) r 7 = _
          rw [gI, if_neg (by omega)]
          show hI (pI g r 7 (hI h 58 j + u)) r 7 = _
          rw [gI, if_pos ⟨rfl, rfl⟩]
        · rw [gI, if_pos ⟨rfl, rfl⟩]
  · exact STW.t i (t_L_settle hL (t_X11_settle hL ha)) (fun g hg e36 _ => n_X12_settle hg (fun q => ha (by have z := q; rw [e36, a2, ← a1] at z; exact z)))
end SETTLE
