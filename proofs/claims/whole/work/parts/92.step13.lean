/-! ===== the step of a text ===== -/
section TEXT2
variable {h : PH}
theorem tn_x {tk : Nat → Int32} {N p a n : Nat} {g : GS} {d nw : Int32} (h78 : 78 ≤ hn h) (hN : N < 600) {x : PH} (ex : x = txNew (flH h tk N p a g) N n d nw) : (hI x 12 1 = nI (n + 1) ∧ hI x 7 1 = 0 ∧ hJ x 41 = hJ h 41) ∧ (hR x 13 n = some (hn h) ∧ px_ob x (hn h) 8 ∧ hR x (hn h) 2 = some (hn h + 1) ∧ px_ar x (hn h + 1) 20 N) ∧ hI x (hn h) 0 = d ∧ hI x (hn h) 1 = nw ∧ ∀ j, j < N → hI x (hn h + 1) j = tk j := by
  subst ex
  have f : hn (flH h tk N p a g) = hn h := rfl
  have rI3 : ∀ b j, 78 ≤ b → hI (txNew (flH h tk N p a g) N n d nw) b j = hI (pI (pI (rI (pN (pN (flH h tk N p a g) 8 0 3) 20 N N) (hn h + 1) (fun j => if j < N then hI (flH h tk N p a g) 10 j else 0)) (hn h) 0 d) (hn h) 1 nw) b j := fun b j hb => by
    show hI (pI (pI (pR (pR (pI (pI (rI (pN (pN (flH h tk N p a g) 8 0 3) 20 N N) (hn h + 1) (fun j => if j < N then hI (flH h tk N p a g) 10 j else 0)) (hn h) 0 d) (hn h) 1 nw) (hn h) 2 (some (hn h + 1))) 13 n (some (hn h))) 12 1 (nI (n + 1))) 7 1 0) b j = _
    rw [gI, gI, if_neg (by omega), if_neg (by omega)]
    rfl
  refine ⟨⟨rfl, rfl, ?_⟩, ⟨?_, ⟨?_, ?_⟩, ?_, ⟨?_, ?_, ?_⟩⟩, ?_, ?_, fun j hj => ?_⟩
  · show up1 (up1 (hJ h) (hn h) (fun _ => 0)) (hn h + 1) (fun _ => 0) 41 = _
    exact (if_neg (by omega)).trans (if_neg (by omega))
  · show up2 (up2 (up1 (up1 (hR h) (hn h) (fun _ => none)) (hn h + 1) (fun _ => none)) (hn h) 2 (some (hn h + 1))) 13 n (some (hn h)) 13 n = _
    exact if_pos ⟨rfl, rfl⟩
  · show hn h < hn h + 1 + 1
    omega
  · show (up1 (up1 (hK h) (hn h) (8, 0)) (hn h + 1) (20, N) (hn h)).1 = 8
    rw [show up1 (up1 (hK h) (hn h) (8, 0)) (hn h + 1) (20, N) (hn h) = (8, 0) from (if_neg (by omega)).trans (if_pos rfl)]
  · show up2 (up2 (up1 (up1 (hR h) (hn h) (fun _ => none)) (hn h + 1) (fun _ => none)) (hn h) 2 (some (hn h + 1))) 13 n (some (hn h)) (hn h) 2 = _
    exact (if_neg (by omega)).trans (if_pos ⟨rfl, rfl⟩)
  · show hn h + 1 < hn h + 1 + 1
    omega
  · show up1 (up1 (hK h) (hn h) (8, 0)) (hn h + 1) (20, N) (hn h + 1) = (20, N)
    exact if_pos rfl
  · omega
  · rw [rI3 _ _ h78, gI, gI, if_neg (by omega), if_pos ⟨rfl, rfl⟩]
  · rw [rI3 _ _ h78, gI, if_pos ⟨rfl, rfl⟩]
  · rw [rI3 _ _ (by omega), gI, gI, if_neg (by omega), if_neg (by omega), hI_rs]
    show (if j < N then hI (flH h tk N p a g) 10 j else 0) = _
    rw [if_pos hj]
    show (if j < N then tk j else hI h 10 j) = _
    rw [if_pos hj]
theorem kp_x {x : PH} {q n C : Nat} {so pl : Nat → Int32} {va : Nat → Int64} {l : LiS} {m : MS} {d nw : Int32} {g : PH} (eg : g = kpH (setM (setL (cutS (pI (pI (th0 x) 36 3 (nI q)) 36 2 0) so pl va) l) m) n C d nw) : (hI g 45 = cpR l.2.1 128 (16 * n) 16 ∧ hI g 46 = cpR l.2.2.1 128 (16 * n) 16 ∧ hI g 47 = cpR l.2.2.2 128 (16 * n) 16 ∧ hI g 48 = cpR m.2.2.2.2.2.2.2.1 5280 (660 * n) C ∧ hI g 49 = cpR m.2.2.2.2.2.2.2.2 5280 (660 * n) C) ∧ (∀ i, hI g 42 i = if i = n then d else hI x 42 i) ∧ (∀ i, hI g 43 i = if i = n then nw else hI x 43 i) ∧ (∀ i, hI g 44 i = if i = n then nI l.1 else if i = 8 then nI l.1 else hI x 44 i) ∧ (hI g 36 10 = nI (n + 1) ∧ hI g 36 20 = nI m.2.2.2.1 ∧ hI g 36 2 = 0 ∧ hI g 7 1 = hI x 7 1 ∧ hI g 12 1 = hI x 12 1 ∧ hJ g 41 = hJ x 41) := by
  subst eg
  refine ⟨⟨rfl, rfl, rfl, rfl, rfl⟩, fun i => ?_, fun i => ?_, fun i => ?_, ⟨rfl, rfl, rfl, rfl, rfl, rfl⟩⟩
  · show (if 42 = 42 ∧ i = n then d else hI x 42 i) = _
    by_cases e : i = n
    · rw [if_pos ⟨rfl, e⟩, if_pos e]
    · rw [if_neg (fun z => e z.2), if_neg e]
  · show (if 43 = 43 ∧ i = n then nw else hI x 43 i) = _
    by_cases e : i = n
    · rw [if_pos ⟨rfl, e⟩, if_pos e]
    · rw [if_neg (fun z => e z.2), if_neg e]
  · show (if 44 = 44 ∧ i = n then nI l.1 else if 44 = 44 ∧ i = 8 then nI l.1 else hI x 44 i) = _
    by_cases e : i = n
    · rw [if_pos ⟨rfl, e⟩, if_pos e]
    · rw [if_neg (fun z => e z.2), if_neg e]
      by_cases e : i = 8
      · rw [if_pos ⟨rfl, e⟩, if_pos e]
      · rw [if_neg (fun z => e z.2), if_neg e]
theorem DTc_n {D : Nat → Nat → Bool} (e : D = DTn ∨ D = DTc) (a j : Nat) (z : Cch a = true) : D a j = false := by
  rcases e with e | e <;> subst e
  · unfold DTn; rw [z]; rfl
  · unfold DTc; rw [z]; rfl
theorem DTn_r (a j : Nat) (z : Rch a j = true) : DTn a j = false := by unfold DTn; rw [z]; simp
theorem DTc_v {a j : Nat} (z : 36 ≤ a) : DTc a j = true := by
  unfold DTc Cch
  simp only [Bool.not_eq_true', Bool.or_eq_false_iff, beq_eq_false_iff_ne]
  omega
theorem ACC.tx {g : PH} {m n : Nat} {ra : Nat → Nat} (hL : px_L h) (c : ACC h m ra) (p : AG DTn (ETn n) h g) : ACC g m ra := c.ag hL (p.mono (fun a j _ z => DTn_al (by rw [z]; simp)) (fun a j _ z => ETn_1 (fun y => by
  rw [y] at z
  unfold EAc at z
  simp at z)))
/-- what the kept text says, to both -/
theorem LNS_J {F tk : Nat → Int32} {N : Nat} {il lN lA op on : Nat → Int32} {C r : Nat} (o : LNS tk N il lN lA op on C r 0 0) (rule : Int32) (J J' : JS) : nOf F tk rule N 0 0 J = nOf F tk rule N 0 0 J' := by
  obtain ⟨wv, -, w2⟩ := LNS_W r 0 0 o
  by_cases h3 : rule = -3
  · exact (w2 F J rule 0 (Or.inl ⟨h3, rfl⟩)).trans (w2 F J' rule 0 (Or.inl ⟨h3, rfl⟩)).symm
  · by_cases h4 : rule = -4
    · exact (w2 F J rule 1 (Or.inr ⟨h4, rfl⟩)).trans (w2 F J' rule 1 (Or.inr ⟨h4, rfl⟩)).symm
    · exact (LNS_N h3 h4 r 0 0 J o).trans (LNS_N h3 h4 r 0 0 J' o).symm
theorem s_text (i : INV h) (d : Int32) : ST M_X11_text M_X12_text [.int d] h := by
  obtain ⟨hL, w, ⟨t, ne, nn, q, cC, cE, cO, cN, cT⟩, hH, ⟨m, n, ra, ro, ln, fr, kf, ev, nl, W, cA, cX, cS⟩⟩ := id i
  have h78 : 78 ≤ hn h := hL.1
  obtain ⟨q6, t1, t2, t3⟩ := id cT
  have n8 := cX.1.1
  have t0 : ∀ D E, D 7 1 = false → D 36 0 = false → D 36 2 = false → AG D E h (pI (th0 (pI h 7 1 0)) 36 2 0) := fun D E a b c => ((AG.rf.I fun _ => a).I fun _ => b).I fun _ => c
  have hno : ∀ hv : ¬ ((¬ d < 0 ∧ ¬ 719 < d) ∧ n < 8 ∧ (n = 0 ∨ ¬ d ≤ hI h 42 (n - 1))), PM M_X11_text [.ref 0, .int d] h (some (.int (-1))) (pI h 7 1 0) → ST M_X11_text M_X12_text [.int d] h := fun hv m1 => ST.m0 m1 rfl rfl hL (n_X12_text (h := pI h 7 1 0) hL (t := n) cX.2.1.2.1 n8 hv) rfl rfl (i.icl (t0 _ _ rfl rfl rfl) w ⟨t, ne, nn, 0, cC.ag hL (t0 _ _ rfl rfl rfl), cE.ag hL (t0 _ _ rfl rfl rfl), cO.ag hL (t0 _ _ rfl rfl rfl), cN.ag hL (t0 _ _ rfl rfl rfl), ⟨by omega, rfl, rfl, t3⟩⟩)
  by_cases hd : ¬ d < 0 ∧ ¬ 719 < d
  · by_cases hn8 : n < 8
    · by_cases hday : n = 0 ∨ ¬ d ≤ hI h 42 (n - 1)
      · have hmf : PM M_X10_mayFollow [.ref 12, .int d] h (some (.int 1)) h := by
          by_cases h0 : n = 0
          · exact z_X10_mayFollow hL cX.1 h0
          · have z := c_X10_mayFollow (d := d) hL cX.1 h0 hn8
            have e := (cX.2.2.1 (n - 1) (by omega)).1.1
            rw [show bI (¬ d ≤ fr (n - 1)) = 1 from if_pos (by rw [← e]; exact hday.resolve_left h0)] at z
            exact z
        obtain ⟨N, hNq, hN2, hN1⟩ := tok_N (hI h 8) q
        have hE : ∀ j, j < N → ¬ tkI (hI h 8) q j = -1 := fun j hj => tkI_i (hN1 j hj)
        have hEN : tkI (hI h 8) q N = -1 := tkI_N hN2
        have hpl : ∀ j, j ≤ N → pT (hI h 8) q j ≤ 600 := fun j _ => Nat.le_trans (pT_le _ _ _) q6
        obtain ⟨d0, hd0⟩ := cX.2.2.2.2
        obtain ⟨l', m', e, O⟩ := text_E (tk := tkI (hI h 8) q) (pl := pT (hI h 8) q) (show N ≤ 600 by omega) (fun z => by rw [hN2]; omega) hE hEN hpl (fu := 601) (Nat.le_refl _) 18 0 0 0 d0 (hI h 9 4) (hI h 11) (hI h 45) (hI h 46) (hI h 47) (hI h 50) (hI h 51) (hI h 52) (hI h 48) (hI h 49) (by omega) (Nat.zero_le _) (by omega) (Nat.le_refl _)
        have K := txM_K (op0 := hI h 48) (on0 := hI h 49) 18 _ _ _ _ e ⟨Nat.zero_le _, fun _ _ => ⟨rfl, rfl⟩⟩
        have R : ∀ x, px_L x → (∀ a, 36 ≤ a → a < 78 → hI x a = hI h a) → hJ x 41 = hJ h 41 → PX M_X12_text [.ref 36, .int d] x 0 0 (tqM x n q d l' m') := fun x hLx r rj => x_X12_text (h := x) hLx (n := q) (by rw [r 36 (by omega) (by omega)]; exact t2) q6 hd (t := n) (by rw [r 36 (by omega) (by omega)]; exact cX.2.1.2.1) hn8 (by rw [r 42 (by omega) (by omega)]; exact hday) (fun j => by rw [r 45 (by omega) (by omega)]; exact cX.2.2.2.1 j) (N := N) (tk := tkI (hI h 8) q) (pn := pT (hI h 8) q) (fun j hj => by rw [r 37 (by omega) (by omega), ← t3]; exact hN1 j hj) (by rw [r 37 (by omega) (by omega), ← t3]; exact hN2) hE hEN (fun so pl va hC hs hp => TKs_of (fun w' hw => by
            show hJ x 41 w' = _
            rw [rj]; exact w w' hw) q6 hNq hN1 hN2 (by rw [r 37 (by omega) (by omega), ← t3] at hC; exact hC) hs hp) (d0 := d0) (by rw [r 36 (by omega) (by omega)]; exact hd0) (fu := 601) (F := 18) (l' := l') (m' := m') (by rw [r 45 (by omega) (by omega), r 46 (by omega) (by omega), r 47 (by omega) (by omega), r 48 (by omega) (by omega), r 49 (by omega) (by omega), r 50 (by omega) (by omega), r 51 (by omega) (by omega), r 52 (by omega) (by omega)]; exact e) K.1.1
        have eCF : CF (tkI (hI h 8) q) (pT (hI h 8) q) 0 (0, nI 0, hI h 9 4, 0, hI h 11) = cFa (tkI (hI h 8) q) (pT (hI h 8) q) 600 0 (0, 0, hI h 9 4, 0, hI h 11) := by
          unfold CF
          rw [show nI 0 = 0 from rfl]
        rw [eCF] at O
        rcases O with ⟨o1, o2⟩ | ⟨o1, o2, ⟨-, o3⟩, o4, ⟨r, o5, o6⟩, -, -⟩
        · have X1 := f_X11_text hL t1 q6 hd hmf (fun z => o1 (o2.symm.trans z))
          refine ⟨0, 0, _, ⟨by omega, by omega⟩, X1, fun r1 h1 qq _ _ => ?_⟩
          obtain ⟨rfl, p, a, g, eh⟩ := qq
          have A1 : ∀ D E, (∀ a j, Cch a = true → D a j = false) → AG D E h h1 := fun D E dd => by
            rw [eh]; exact (fl_AG dd).I fun _ => dd 7 1 rfl
          have rx : ∀ a, 36 ≤ a → a < 78 → hI h1 a = hI h a := fun a ha hb => funext fun j => (A1 DTc E1 (DTc_n (Or.inr rfl))).i (by omega) (DTc_v ha)
          have hLx : px_L h1 := hL.ag (A1 D0 EL (fun _ _ _ => rfl))
          have xr : hI h1 7 1 = 0 ∧ hI h1 12 1 = hI h 12 1 ∧ hJ h1 41 = hJ h 41 := by
            rw [eh]; exact ⟨rfl, rfl, rfl⟩
          refine ⟨hLx, m'.2.1, _, by rw [o2], R h1 hLx rx xr.2.2, fun r2 h2 q2 => ?_⟩
          obtain ⟨rfl, so, pl, va, e2⟩ := q2
          rw [if_neg o1] at e2
          have p2 : AG DTn (ETn n) h h2 := by
            rw [e2]; exact rf_AG (A1 _ _ (DTc_n (Or.inl rfl))) DTn_r
          have y44 : ∀ k, k < 8 → hI h2 44 k = hI h1 44 k := fun k hk => by
            rw [e2]
            show (if 44 = 44 ∧ k = 8 then nI l'.1 else hI h1 44 k) = _
            rw [if_neg (by omega)]
          have y : (hI h2 42 = hI h1 42 ∧ hI h2 43 = hI h1 43 ∧ hI h2 45 = l'.2.1 ∧ hI h2 46 = l'.2.2.1 ∧ hI h2 47 = l'.2.2.2 ∧ hI h2 48 = m'.2.2.2.2.2.2.2.1 ∧ hI h2 49 = m'.2.2.2.2.2.2.2.2) ∧ hI h2 7 1 = hI h1 7 1 ∧ hI h2 12 1 = hI h1 12 1 ∧ hI h2 36 10 = hI h1 36 10 ∧ hI h2 36 2 = 0 ∧ hI h2 36 20 = nI m'.2.2.2.1 ∧ hJ h2 41 = hJ h1 41 := by
            rw [e2]; exact ⟨⟨rfl, rfl, rfl, rfl, rfl, rfl, rfl⟩, rfl, rfl, rfl, rfl, rfl, rfl⟩
          obtain ⟨⟨y42, y43, y45, y46, y47, y48, y49⟩, y7, y12, y10, y2, y20, yJ⟩ := y
          refine ⟨rfl, tx_fin i p2 (y7.trans xr.1) y2 (fun w' hw => by rw [yJ, xr.2.2]; exact w w' hw) ⟨m, n, ra, ro, ln, fr, kf, ev, nl, W, cA.tx hL p2, TXS.of n8 ((y12.trans xr.2.1).trans cX.1.2.1) (by rw [y10, rx 36 (by omega) (by omega)]; exact cX.2.1.2.1) (fun k hk => cX.keep hL p2 (fun k hk => ⟨by rw [y42, rx 42 (by omega) (by omega)], by rw [y43, rx 43 (by omega) (by omega)], by rw [y44 k (by omega), rx 44 (by omega) (by omega)]⟩) (fun x hx => by rw [y45, y46, y47]; exact K.2.1 x (by omega)) (fun x hx => by rw [y48, y49]; exact K.1.2 x (by omega)) k hk) (fun j => by rw [y45]; exact K.2.2 cX.2.2.2.1 j) ⟨_, y20⟩, cS⟩⟩
        · have hN6 : N < 600 := N_lt q6 hN1 (fun h0 => by
            cases r with
            | zero => exact absurd (show 0 = N from o6) (by omega)
            | succ r =>
              obtain ⟨sc, c, cs, ⟨⟨hv, -⟩, -⟩, -⟩ := o6
              exact hv)
          have X1 := x_X11_text hL t1 q6 hd hmf (by rw [o2]) (k := N) (by rw [o2]) hN6 cX.1.2.1 hn8 cC.2.1
          refine ⟨2, 3 + N, _, ⟨by omega, by omega⟩, X1, fun r1 h1 qq _ _ => ?_⟩
          obtain ⟨rfl, p, a, g, eh⟩ := qq
          have A1 : ∀ D E, (∀ a j, Cch a = true → D a j = false) → E 13 n = false → AG D E h h1 := fun D E dd ee => by
            rw [eh]; exact tn_AG (fl_AG dd) rfl dd ee
          have rx : ∀ a, 36 ≤ a → a < 78 → hI h1 a = hI h a := fun a ha hb => funext fun j => (A1 DTc D0 (DTc_n (Or.inr rfl)) rfl).i (by omega) (DTc_v ha)
          have hLx : px_L h1 := hL.ag (A1 D0 EL (fun _ _ _ => rfl) rfl)
          obtain ⟨⟨x12, x7, xJ⟩, ⟨xr1, xr2, xr3, xr4⟩, xd, xk, xt⟩ := tn_x h78 hN6 eh
          refine ⟨hLx, 0, _, rfl, R h1 hLx rx xJ, fun r2 h2 q2 => ?_⟩
          obtain ⟨rfl, so, pl, va, e2⟩ := q2
          rw [if_pos o1] at e2
          have p2 : AG DTn (ETn n) h h2 := by
            rw [e2]; exact kp_AG (rf_AG (A1 _ _ (DTc_n (Or.inl rfl)) (by unfold ETn; simp)) DTn_r) DTn_r
          have p3 : AG (fun a _ => decide (53 ≤ a)) E1 h1 h2 := by
            rw [e2]
            have dr : ∀ a j, Rch a j = true → (fun a (_ : Nat) => decide (53 ≤ a)) a j = false := fun a j z => by
              unfold Rch at z
              simp only [Bool.or_eq_true, Bool.and_eq_true, decide_eq_true_eq, beq_iff_eq] at z
              show decide (53 ≤ a) = false
              rw [decide_eq_false_iff_not]
              omega
            exact kp_AG (rf_AG AG.rf dr) dr
          obtain ⟨⟨z45, z46, z47, z48, z49⟩, z42, z43, z44, z10, z20, z2, z7, z12, zJ⟩ := kp_x e2
          have e26 : hI h1 36 26 = nI t := by rw [rx 36 (by omega) (by omega)]; exact cC.2.2
          obtain ⟨wv, w1, w2⟩ := LNS_W r 0 0 o6
          have er : l'.1 = r := by omega
          refine ⟨by rw [o1], tx_fin i p2 (z7.trans x7) z2 (fun w' hw => by rw [zJ, xJ]; exact w w' hw) ⟨m, n + 1, ra, upG ro n (hn h), upG ln n N, upG fr n d, upG kf n (nI t), upG ev n (fun F rule => nOf F (tkI (hI h 8) q) rule N 0 0 J00), upG nl n r, upG W n wv, cA.tx hL p2, TXS.of (by omega) (z12.trans x12) z10 (fun k hk => ?_) (fun j => ?_) ⟨_, z20⟩, cS.1, fun j k hj hk => ?_⟩⟩
          · by_cases ek : k = n
            · subst ek
              rw [upG_n, upG_n, upG_n, upG_n, upG_n, upG_n, upG_n]
              have hi : ∀ b j, 78 ≤ b → b < hn h1 → hI h2 b j = hI h1 b j := fun b j hb hb2 => p3.i hb2 (decide_eq_true (by omega))
              refine ⟨⟨⟨(p3.rr (by have := hLx.1; show 13 < hn h1; exact Nat.lt_of_lt_of_le (by decide) this) rfl).trans xr1, p3.ob xr2, (p3.rr xr2.1 rfl).trans xr3, p3.ar xr4⟩, ⟨h78, by omega, (hi _ _ h78 xr2.1).trans xd, (hi _ _ h78 xr2.1).trans xk⟩, fun F rule J => ?_⟩, ⟨⟨?_, by omega⟩, fun k2 hk2 => ?_⟩, ⟨⟨?_, ?_⟩, fun F => ?_⟩⟩
              · rw [nOf_tk (tk' := tkI (hI h 8) q) (N := N) N 0 0 J (Nat.le_refl _) (by omega) (fun j hj => (hi _ _ (by omega) xr4.1).trans (xt j hj)) (fun q hq _ j hj => by omega) (fun z => absurd z (by omega))]
                exact LNS_J o6 rule J J00
              · rw [z44, if_pos rfl, er]
              · obtain ⟨l1, l2, c, cs, l3, l4, l5, l6, l7⟩ := w1 k2 (Nat.zero_le _) (by omega)
                rw [z46, z47, z48, z49, cpR_in (show k2 < 16 by omega), cpR_in (show k2 < 16 by omega)]
                refine ⟨l2, c, cs.length + 1, l3, by omega, fun kn => ?_⟩
                refine wrun_exs cs (660 * k + c) [] _ (fun j hj => ?_) ?_ (l7 kn)
                · rw [Nat.add_assoc (660 * k), cpR_in (show c + j < m'.2.2.1 by omega), cpR_in (show c + j < m'.2.2.1 by omega), ← Nat.add_assoc]
                  exact l5 j hj
                · rw [Nat.add_assoc (660 * k), cpR_in l4, ← Nat.add_assoc]
                  exact l6
              · rw [z42, if_pos rfl]
              · rw [z43, if_pos rfl]; exact e26
              · have fe : ∀ lim, fLn (fun x => hI h2 45 (16 * k + x)) (fun x => hI h2 46 (16 * k + x)) (fun x => wv x F) lim r 0 = fLn (fun x => l'.2.1 (128 + x)) (fun x => l'.2.2.1 (128 + x)) (fun x => wv x F) lim r 0 := fun lim => fLn_c2 r 0 (fun x _ hx => by
                  refine ⟨?_, ?_, rfl⟩
                  · show hI h2 45 (16 * k + x) = _
                    rw [z45, cpR_in (show x < 16 by omega)]
                  · show hI h2 46 (16 * k + x) = _
                    rw [z46, cpR_in (show x < 16 by omega)])
                rw [fe, fe]
                exact ⟨w2 F J00 (-3) 0 (Or.inl ⟨rfl, rfl⟩), w2 F J00 (-4) 1 (Or.inr ⟨rfl, rfl⟩)⟩
            · have hk' : k < n := by omega
              rw [upG_l hk', upG_l hk', upG_l hk', upG_l hk', upG_l hk', upG_l hk', upG_l hk']
              refine cX.keep hL p2 (fun b hb => ⟨?_, ?_, ?_⟩) (fun x hx => ?_) (fun x hx => ?_) k hk'
              · rw [z42, if_neg (by omega), rx 42 (by omega) (by omega)]
              · rw [z43, if_neg (by omega), rx 43 (by omega) (by omega)]
              · rw [z44, if_neg (by omega), if_neg (by omega), rx 44 (by omega) (by omega)]
              · rw [z45, z46, z47, cpR_lo hx, cpR_lo hx, cpR_lo hx]
                exact K.2.1 x (by omega)
              · rw [z48, z49, cpR_lo hx, cpR_lo hx]
                exact K.1.2 x (by omega)
          · rw [z45]
            unfold cpR
            split
            · exact K.2.2 cX.2.2.2.1 _
            · exact K.2.2 cX.2.2.2.1 _
          · by_cases ek : k = n
            · subst ek
              rw [upG_n]
              have := (cA.2 j hj).2.1.2.2.2.1.2.1
              omega
            · rw [upG_l (by omega)]
              exact cS.2 j k hj (by omega)
      · refine hno (fun z => hday z.2.2) (m_X11_text hL hd ?_)
        have h0 : ¬ n = 0 := fun z => hday (Or.inl z)
        have z := c_X10_mayFollow (d := d) hL cX.1 h0 hn8
        have e := (cX.2.2.1 (n - 1) (by omega)).1.1
        rw [show bI (¬ d ≤ fr (n - 1)) = 0 from if_neg (fun y => hday (Or.inr (by rw [e]; exact y)))] at z
        exact z
    · exact hno (fun z => hn8 z.2.1) (m_X11_text hL hd (n_X10_mayFollow hL (by rw [cX.1.2.1]; congr 1; omega)))
  · exact hno (fun z => hd z.1) (n_X11_text hL hd)
end TEXT2
