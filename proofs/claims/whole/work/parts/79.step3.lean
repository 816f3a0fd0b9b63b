/-! ===== postings, notices, books ===== -/
def D3 : Nat → Nat → Bool := fun a j => DCk a j || DEn a j || DCo a j
theorem ent2 {g1 g2 : PH} {t ne b : Nat} {a d s : Int32} {E : Nat → Nat → Bool} (hL : px_L g1) (cC : CLK g1 t) (cE : ENT g1 ne) (cO : COI g1) (p : AG D3 E (pbEnt g1 ne a b d s) g2) (hne : ne < 400) (hb : b < 4) (hd : ∃ j, j < 720 ∧ d = nI j) : ENT (moEnt g2 ne a b d s) (ne + 1) ∧ COI (moEnt g2 ne a b d s) := by
  have h78 : 78 ≤ hn (pbEnt g1 ne a b d s) := hL.1
  have q : ∀ x j, x < 78 → D3 x j = true → hI g2 x j = hI (pbEnt g1 ne a b d s) x j := fun x j hx dd => p.i (by omega) dd
  obtain ⟨e1, e2, e3, e4⟩ := cE
  refine ⟨⟨by omega, ?_, ?_, fun i hi => ?_⟩, ?_, fun i hi => ?_⟩
  · show hI g2 2 4 = _
    rw [q 2 4 (by omega) rfl]; rfl
  · rfl
  · have m3 : hI (moEnt g2 ne a b d s) 3 i = if i = ne then a else hI g1 3 i := by
      show hI g2 3 i = _
      rw [q 3 i (by omega) rfl]; simp [pbEnt, entAdd, gI]
    have m4 : hI (moEnt g2 ne a b d s) 4 i = if i = ne then d else hI g1 4 i := by
      show hI g2 4 i = _
      rw [q 4 i (by omega) rfl]; simp [pbEnt, entAdd, gI]
    have m5 : hI (moEnt g2 ne a b d s) 5 i = if i = ne then s else hI g1 5 i := by
      show hI g2 5 i = _
      rw [q 5 i (by omega) rfl]; simp [pbEnt, entAdd, gI]
    have m6 : hI (moEnt g2 ne a b d s) 6 i = if i = ne then hI g1 0 11 else hI g1 6 i := by
      show hI g2 6 i = _
      rw [q 6 i (by omega) rfl]; simp [pbEnt, entAdd, gI]
    have n59 : hI (moEnt g2 ne a b d s) 59 i = if i = ne then a else hI g1 59 i := by
      have z : hI g2 59 i = hI g1 59 i := (q 59 i (by omega) rfl).trans rfl
      simp [moEnt, gI, z]
    have n60 : hI (moEnt g2 ne a b d s) 60 i = if i = ne then d else hI g1 60 i := by
      have z : hI g2 60 i = hI g1 60 i := (q 60 i (by omega) rfl).trans rfl
      simp [moEnt, gI, z]
    have n61 : hI (moEnt g2 ne a b d s) 61 i = if i = ne then s else hI g1 61 i := by
      have z : hI g2 61 i = hI g1 61 i := (q 61 i (by omega) rfl).trans rfl
      simp [moEnt, gI, z]
    have n62 : hI (moEnt g2 ne a b d s) 62 i = if i = ne then hI g1 36 26 else hI g1 62 i := by
      have z : hI g2 62 i = hI g1 62 i := (q 62 i (by omega) rfl).trans rfl
      have z2 : hI g2 36 26 = hI g1 36 26 := (q 36 26 (by omega) rfl).trans rfl
      simp [moEnt, gI, z, z2]
    rw [m3, m4, m5, m6, n59, n60, n61, n62]
    by_cases e : i = ne
    · rw [if_pos e, if_pos e, if_pos e, if_pos e, if_pos e, if_pos e, if_pos e, if_pos e]
      exact ⟨⟨rfl, rfl, rfl, by rw [cC.2.1, cC.2.2]⟩, hd⟩
    · rw [if_neg e, if_neg e, if_neg e, if_neg e, if_neg e, if_neg e, if_neg e, if_neg e]
      exact e4 i (by omega)
  · show hI g2 28 1 = hI g2 36 48
    rw [q 28 1 (by omega) rfl, q 36 48 (by omega) rfl]
    exact cO.1
  · have m29 : hI (moEnt g2 ne a b d s) 29 i = if i = b then hI g1 29 b + s else hI g1 29 i := by
      show hI g2 29 i = _
      rw [q 29 i (by omega) rfl]; simp [pbEnt, entAdd, gI]
    have n63 : hI (moEnt g2 ne a b d s) 63 i = if i = b then hI g1 63 b + s else hI g1 63 i := by
      have z : ∀ j, hI g2 63 j = hI g1 63 j := fun j => (q 63 j (by omega) rfl).trans rfl
      simp [moEnt, gI, z]
    rw [m29, n63]
    by_cases e : i = b
    · rw [if_pos e, if_pos e, cO.2 b hb]
    · rw [if_neg e, if_neg e]; exact cO.2 i hi
section NTCROWS
variable {g : PH} {n x k : Nat} {a s d : Int32}
theorem moN_o (h1 : x ≠ 65) (h2 : x ≠ 66) (h3 : x ≠ 67) (h4 : x ≠ 36) : hI (moNtc g n a s) x k = hI g x k := by unfold moNtc; rw [gI, gI, gI, gI, if_neg (fun q => h4 q.1), if_neg (fun q => h3 q.1), if_neg (fun q => h2 q.1), if_neg (fun q => h1 q.1)]
theorem moN_65 : hI (moNtc g n a s) 65 k = if k = n then a else hI g 65 k := by unfold moNtc; rw [gI, gI, gI, gI]; simp
theorem moN_66 : hI (moNtc g n a s) 66 k = if k = n then hI g 36 26 else hI g 66 k := by unfold moNtc; rw [gI, gI, gI, gI]; simp
theorem moN_67 : hI (moNtc g n a s) 67 k = if k = n then s else hI g 67 k := by unfold moNtc; rw [gI, gI, gI, gI]; simp
theorem moN_36 : hI (moNtc g n a s) 36 39 = nI (n + 1) := by unfold moNtc; rw [gI]; simp
theorem ntA_o (h1 : x ≠ 24) (h2 : x ≠ 25) (h3 : x ≠ 26) (h4 : x ≠ 23) : hI (ntcAdd g n a s d) x k = hI g x k := by unfold ntcAdd; rw [gI, gI, gI, gI, if_neg (fun q => h4 q.1), if_neg (fun q => h3 q.1), if_neg (fun q => h2 q.1), if_neg (fun q => h1 q.1)]
theorem ntA_24 : hI (ntcAdd g n a s d) 24 k = if k = n then a else hI g 24 k := by unfold ntcAdd; rw [gI, gI, gI, gI]; simp
theorem ntA_25 : hI (ntcAdd g n a s d) 25 k = if k = n then s else hI g 25 k := by unfold ntcAdd; rw [gI, gI, gI, gI]; simp
theorem ntA_26 : hI (ntcAdd g n a s d) 26 k = if k = n then d else hI g 26 k := by unfold ntcAdd; rw [gI, gI, gI, gI]; simp
theorem ntA_23 : hI (ntcAdd g n a s d) 23 4 = nI (n + 1) := by unfold ntcAdd; rw [gI]; simp
theorem th0_o (h1 : x ≠ 36) : hI (th0 g) x k = hI g x k := by show hI (pI g 36 0 0) x k = _; rw [gI, if_neg (fun q => h1 q.1)]
theorem th0_j (h1 : k ≠ 0) : hI (th0 g) 36 k = hI g 36 k := by show hI (pI g 36 0 0) 36 k = _; rw [gI, if_neg (fun q => h1 q.2)]
end NTCROWS
theorem ntc2 {h : PH} {t nn : Nat} {a s : Int32} (cC : CLK h t) (cN : NTC h nn) (h6 : nn < 60) : NTC (moNtc (th0 (ntcAdd h nn a s (hI h 0 11))) nn a s) (nn + 1) := by
  obtain ⟨n1, n2, n3, n4, n5⟩ := cN
  obtain ⟨t7, c1, c2⟩ := cC
  rw [c1]
  refine ⟨h6, ?_, moN_36, fun k => ?_, fun k hk => ?_⟩
  · rw [moN_o (by decide) (by decide) (by decide) (by decide), th0_o (by decide), ntA_23]
  · rw [moN_o (by decide) (by decide) (by decide) (by decide), th0_o (by decide), ntA_o (by decide) (by decide) (by decide) (by decide), moN_o (by decide) (by decide) (by decide) (by decide), th0_o (by decide), ntA_o (by decide) (by decide) (by decide) (by decide)]
    exact n4 k
  · rw [moN_o (x := 24) (by decide) (by decide) (by decide) (by decide), moN_o (x := 25) (by decide) (by decide) (by decide) (by decide), moN_o (x := 26) (by decide) (by decide) (by decide) (by decide), moN_65, moN_66, moN_67, th0_o (x := 24) (by decide), th0_o (x := 25) (by decide), th0_o (x := 26) (by decide), th0_o (x := 65) (by decide), th0_o (x := 66) (by decide), th0_o (x := 67) (by decide), th0_j (by decide), ntA_24, ntA_25, ntA_26, ntA_o (x := 65) (by decide) (by decide) (by decide) (by decide), ntA_o (x := 66) (by decide) (by decide) (by decide) (by decide), ntA_o (x := 67) (by decide) (by decide) (by decide) (by decide), ntA_o (x := 36) (by decide) (by decide) (by decide) (by decide), c2]
    by_cases e : k = nn
    · rw [if_pos e, if_pos e, if_pos e, if_pos e, if_pos e, if_pos e]
      exact ⟨rfl, rfl, rfl⟩
    · rw [if_neg e, if_neg e, if_neg e, if_neg e, if_neg e, if_neg e]
      exact n5 k (by omega)
section BOOKS
variable {h : PH}
theorem s_post (i : INV h) (a b d s : Int32) : ST M_X11_post M_X12_post [.int a, .int b, .int d, .int s] h := by
  obtain ⟨hL, w, ⟨t, ne, nn, nt, cC, cE, cO, cN, cT⟩, hH, ⟨m, n', ra, ro, ln, fr, kf, ev, nl, W, cA, cX, cS⟩⟩ := id i
  obtain ⟨⟨m2, a1, a2, a4⟩, a3⟩ := cA
  have hno : ∀ hv : ¬ ((¬ a < 0 ∧ ¬ hI h 36 27 ≤ a) ∧ ¬ b < 0 ∧ ¬ 3 < b ∧ ¬ d < 0 ∧ ¬ hI h 36 26 < d ∧ ¬ s = 0 ∧ ¬ s < -100000 ∧ ¬ 100000 < s ∧ ¬ hI h 36 32 = 400), PM M_X11_post [.ref 0, .int a, .int b, .int d, .int s] h (some (.int (-1))) h → ST M_X11_post M_X12_post [.int a, .int b, .int d, .int s] h := fun hv m1 => ST.m0 m1 rfl rfl hL (n2_X12_post hL hv) rfl rfl (i.all (AG.rf.I fun _ => rfl) w)
  by_cases ha : ¬ a < 0 ∧ ¬ hI h 0 10 ≤ a
  · have ha' : ¬ a < 0 ∧ ¬ hI h 36 27 ≤ a := by rw [a2, ← a1]; exact ha
    rw [a1] at ha
    obtain ⟨j, hj, rfl⟩ := acc_N m2 ha
    obtain ⟨r1, r2⟩ := a3 j hj
    by_cases hv : (¬ b < 0 ∧ b < 4) ∧ (¬ d < 0 ∧ ¬ hI h 0 11 < d) ∧ ¬ s = 0 ∧ ¬ s < -100000 ∧ ¬ 100000 < s ∧ hI h 2 4 < 400
    · obtain ⟨b0, hb, rfl⟩ := brN hv.1
      have h4 : ne < 400 := (nI_ltI (b := 400) (by have := cE.1; omega) (by decide)).mp (by have := hv.2.2.2.2.2; rw [cE.2.1] at this; exact this)
      obtain ⟨dd, hdd, rfl⟩ := nI_of hv.2.1.1
      have t7 := cC.1
      have hd7 : dd ≤ t := Nat.le_of_not_lt fun z => hv.2.1.2 (by rw [cC.2.1]; exact nI_lt z hdd)
      have hb3 := bra_N.mp hv.1
      have hv' : (¬ nI j < 0 ∧ ¬ hI (pbEnt h ne (nI j) b0 (nI dd) s) 36 27 ≤ nI j) ∧ ¬ nI b0 < 0 ∧ ¬ 3 < nI b0 ∧ ¬ nI dd < 0 ∧ ¬ hI (pbEnt h ne (nI j) b0 (nI dd) s) 36 26 < nI dd ∧ ¬ s = 0 ∧ ¬ s < -100000 ∧ ¬ 100000 < s ∧ ¬ hI (pbEnt h ne (nI j) b0 (nI dd) s) 36 32 = 400 := ⟨ha', hb3.1, hb3.2, hv.2.1.1, by
        show ¬ hI h 36 26 < nI dd
        rw [cC.2.2, ← cC.2.1]; exact hv.2.1.2, hv.2.2.1, hv.2.2.2.1, hv.2.2.2.2.1, by
        show ¬ hI h 36 32 = 400
        rw [cE.2.2.1]; exact fun z => absurd ((nI_eq (b := 400) (by omega) (by decide)).mp z) (by omega)⟩
      have mm := c_X12_post (h := pbEnt h ne (nI j) b0 (nI dd) s) hL (n := ne) (show hI h 36 32 = nI ne from cE.2.2.1) cE.1 rfl (fun _ _ => hb) hv'
      obtain ⟨u1, u2⟩ := ent2 (g1 := h) (g2 := th0 (pbEnt h ne (nI j) b0 (nI dd) s)) (E := D0) (a := nI j) (d := nI dd) (s := s) hL cC cE cO (AG.rf.I fun _ => rfl) h4 hb ⟨dd, by omega, rfl⟩
      have A : ∀ D E, D 29 b0 = false → D 3 ne = false → D 4 ne = false → D 5 ne = false → D 6 ne = false → D 2 4 = false → D 36 0 = false → D 59 ne = false → D 60 ne = false → D 61 ne = false → D 62 ne = false → D 63 b0 = false → D 36 32 = false → AG D E h (moEnt (th0 (pbEnt h ne (nI j) b0 (nI dd) s)) ne (nI j) b0 (nI dd) s) := fun D E x1 x2 x3 x4 x5 x6 x7 x8 x9 x10 x11 x12 x13 => ((((((((((((AG.rf.I fun _ => x1).I fun _ => x2).I fun _ => x3).I fun _ => x4).I fun _ => x5).I fun _ => x6).I fun _ => x7).I fun _ => x8).I fun _ => x9).I fun _ => x10).I fun _ => x11).I fun _ => x12).I fun _ => x13
      exact ST.m0 (c_X11_post hL a1 m2 hj r1 cE.2.1 cE.1 rfl (Or.inl hb) hv) rfl rfl hL mm rfl rfl (i.icl (A _ _ rfl rfl rfl rfl rfl rfl rfl rfl rfl rfl rfl rfl rfl) w ⟨t, ne + 1, nn, nt, cC.ag hL (A _ _ rfl rfl rfl rfl rfl rfl rfl rfl rfl rfl rfl rfl rfl), u1, u2, cN.ag hL (A _ _ rfl rfl rfl rfl rfl rfl rfl rfl rfl rfl rfl rfl rfl), cT.ag hL (A _ _ rfl rfl rfl rfl rfl rfl rfl rfl rfl rfl rfl rfl rfl)⟩)
    · refine hno (fun q => hv ⟨bra_N.mpr ⟨q.2.1, q.2.2.1⟩, ⟨q.2.2.2.1, by rw [cC.2.1, ← cC.2.2]; exact q.2.2.2.2.1⟩, q.2.2.2.2.2.1, q.2.2.2.2.2.2.1, q.2.2.2.2.2.2.2.1, ?_⟩) (n2_X11_post hL a1 m2 hj r1 hv)
      have z := q.2.2.2.2.2.2.2.2
      rw [cE.2.2.1] at z
      rw [cE.2.1]
      exact nI_lt (b := 400) (Nat.lt_of_le_of_ne cE.1 fun y => z (by rw [y]; rfl)) (by decide)
  · exact hno (fun q => ha (by rw [a1, ← a2]; exact q.1)) (i_X11_post hL ha)
theorem s_compare (i : INV h) (a x : Int32) : ST M_X11_compare M_X12_compare [.int a, .int x] h := by
  obtain ⟨hL, w, ⟨t, ne, nn, nt, cC, cE, cO, cN, cT⟩, hH, ⟨m, n', ra, ro, ln, fr, kf, ev, nl, W, cA, cX, cS⟩⟩ := id i
  obtain ⟨⟨m2, a1, a2, a4⟩, a3⟩ := cA
  by_cases ha : ¬ a < 0 ∧ ¬ hI h 0 10 ≤ a
  · rw [a1] at ha
    obtain ⟨j, hj, rfl⟩ := acc_N m2 ha
    obtain ⟨r1, ⟨r2, r3⟩, r4, c, c4, c5, c6, c7⟩ := a3 j hj
    by_cases hv : ¬ x < 0 ∧ x ≤ 2
    · have M1 := c_X11_compare hL a1 m2 hj r1 r3 c5 c4 cE.2.1 cE.1 hv
      have M2 := c_X12_compare hL a2 m2 hj cE.2.2.1 cE.1 c6 c4 hv
      rw [(grd_prs cE.1 c c4).2] at M2
      have e1 : prs (fun q => hI h 70 (40 * j + q)) (fun q => hI h 71 (40 * j + q)) (hI h 59) (hI h 60) (hI h 61) (nI j) ne c = prs (hI h (ra j + 1)) (hI h (ra j + 2)) (hI h 3) (hI h 4) (hI h 5) (nI j) ne c := prs_cg (fun i hi => by obtain ⟨⟨z1, z2, z3, z4⟩, -⟩ := cE.2.2.2 i hi; exact ⟨z1.symm, z2.symm, z3.symm⟩) (fun i hi => by obtain ⟨z1, z2⟩ := c7 i hi; exact ⟨z1.symm, z2.symm⟩)
      have e2 : cnt1 (hI h 59) (nI j) ne = cnt1 (hI h 3) (nI j) ne := cnt1_cg fun i hi => (cE.2.2.2 i hi).1.1.symm
      rw [e1, e2, c6] at M2
      rw [r4.1, c5] at M1
      exact ST.m0 M1 rfl rfl hL M2 rfl rfl (i.all ((AG.rf.I fun _ => rfl).r fun _ => rfl) w)
    · exact ST.m0 (n_X11_compare hL a1 m2 hj r1 r3 hv) rfl rfl hL (n_X12_compare hL a2 m2 hj hv) rfl rfl (i.all (AG.rf.I fun _ => rfl) w)
  · exact ST.m0 (i_X11_compare hL ha) rfl rfl hL (i_X12_compare hL (by rw [a2, ← a1]; exact ha)) rfl rfl (i.all (AG.rf.I fun _ => rfl) w)
theorem s_notice (i : INV h) (a s : Int32) : ST M_X11_notice M_X12_notice [.int a, .int s] h := by
  obtain ⟨hL, w, ⟨t, ne, nn, nt, cC, cE, cO, cN, cT⟩, hH, ⟨m, n', ra, ro, ln, fr, kf, ev, nl, W, cA, cX, cS⟩⟩ := id i
  obtain ⟨⟨m2, a1, a2, a4⟩, a3⟩ := cA
  obtain ⟨n1, n2, n3, n4, n5⟩ := id cN
  by_cases ha : ¬ a < 0 ∧ ¬ hI h 0 10 ≤ a
  · rw [a1] at ha
    obtain ⟨j, hj, rfl⟩ := acc_N m2 ha
    obtain ⟨r1, ⟨r2, r3⟩, r4, c, c4, c5, c6, c7⟩ := a3 j hj
    by_cases hv : hI h (ra j) 1 = 3 ∧ ¬ s < 1 ∧ ¬ 100000 < s
    · by_cases h6 : nn = 60
      · subst h6
        exact ST.m0 (f_X11_notice hL a1 m2 hj r1 r3 n2 hv) rfl rfl hL (n_X12_notice hL a2 m2 hj (fun q => q.2.2.2 n3)) rfl rfl (i.all (AG.rf.I fun _ => rfl) w)
      · have hv' : hI (ntcAdd h nn (nI j) s (hI h 0 11)) 55 j = 3 ∧ ¬ s < 1 ∧ ¬ 100000 < s ∧ ¬ hI (ntcAdd h nn (nI j) s (hI h 0 11)) 36 39 = 60 := ⟨r4.2.1.symm.trans hv.1, hv.2.1, hv.2.2, by
          show ¬ hI h 36 39 = 60
          rw [n3]; exact fun z => h6 ((nI_eq (b := 60) (by omega) (by decide)).mp z)⟩
        have mm := c_X12_notice (h := ntcAdd h nn (nI j) s (hI h 0 11)) hL (m := m) a2 m2 hj (n := nn) n3 n1 hv'
        have A : ∀ D E, D 24 nn = false → D 25 nn = false → D 26 nn = false → D 23 4 = false → D 36 0 = false → D 65 nn = false → D 66 nn = false → D 67 nn = false → D 36 39 = false → AG D E h (moNtc (th0 (ntcAdd h nn (nI j) s (hI h 0 11))) nn (nI j) s) := fun D E x1 x2 x3 x4 x5 x6 x7 x8 x9 => ((((((((AG.rf.I fun _ => x1).I fun _ => x2).I fun _ => x3).I fun _ => x4).I fun _ => x5).I fun _ => x6).I fun _ => x7).I fun _ => x8).I fun _ => x9
        exact ST.m0 (c_X11_notice hL a1 m2 hj r1 r3 n2 (by omega) hv) rfl rfl hL mm rfl rfl (i.icl (A _ _ rfl rfl rfl rfl rfl rfl rfl rfl rfl) w ⟨t, ne, nn + 1, nt, cC.ag hL (A _ _ rfl rfl rfl rfl rfl rfl rfl rfl rfl), cE.ag hL (A _ _ rfl rfl rfl rfl rfl rfl rfl rfl rfl), cO.ag hL (A _ _ rfl rfl rfl rfl rfl rfl rfl rfl rfl), ntc2 cC cN (by omega), cT.ag hL (A _ _ rfl rfl rfl rfl rfl rfl rfl rfl rfl)⟩)
    · exact ST.m0 (n_X11_notice hL a1 m2 hj r1 r3 hv) rfl rfl hL (n_X12_notice hL a2 m2 hj (fun q => hv ⟨r4.2.1.trans q.1, q.2.1, q.2.2.1⟩)) rfl rfl (i.all (AG.rf.I fun _ => rfl) w)
  · exact ST.m0 (i_X11_notice hL ha) rfl rfl hL (i_X12_notice hL (by rw [a2, ← a1]; exact ha)) rfl rfl (i.all (AG.rf.I fun _ => rfl) w)
end BOOKS
