/-! ===== may, draw ===== -/
section MAY
variable {h : PH}
theorem bI_iff {p q : Prop} {dp : Decidable p} {dq : Decidable q} (e : p ↔ q) : @bI p dp = @bI q dq := by
  unfold bI
  by_cases hp : p
  · rw [if_pos hp, if_pos (e.mp hp)]
  · rw [if_neg hp, if_neg (fun z => hp (e.mpr z))]
theorem why_E3 {s bl sg kd eld eld' lim dn : Int32} (he : kd = 3 → eld = eld') (hv : eld = -1 ∨ 0 ≤ eld) (hl : lim = -1 ∨ 0 ≤ lim) : whyR (bI (¬ s < 1 ∧ ¬ 100000 < s)) bl s sg kd eld lim dn = whyM s bl sg kd eld' (ltB lim dn s) := by
  by_cases k : kd = 3
  · exact why_E (he k) hv hl
  · have e1 : whyR (bI (¬ s < 1 ∧ ¬ 100000 < s)) bl s sg kd eld lim dn = whyR (bI (¬ s < 1 ∧ ¬ 100000 < s)) bl s sg kd (-1) lim dn := by
      unfold whyR
      simp only [k, false_and, if_false]
    have e2 : whyM s bl sg kd eld' (ltB lim dn s) = whyM s bl sg kd (-1) (ltB lim dn s) := by
      unfold whyM
      simp only [k, false_and, if_false]
    rw [e1, e2]
    exact why_E rfl (Or.inl rfl) hl
def WCv (h : PH) (ev : Nat → (Nat → Int32) → Int32 → Int32) (fr kf : Nat → Int32) (n j t ne nn : Nat) (kd op wi s sg : Int32) : Int32 := whyR (bI (¬ s < 1 ∧ ¬ 100000 < s)) (balC (gat (hI h 3) (hI h 4) (hI h 5) (hI h 6) (nI j) (nI t) ne) (rtF ev fr kf n kd op (nI t)) t) s (@bI (sgnC kd wi (nI t) sg) (sgnD kd wi (nI t) sg)) kd (fst1 (ntc h (nI j) s (nI t - wi)) (ntcD h (nI j) s (nI t - wi)) 0 nn) (txC ev (fctD kd op (if 0 ≤ (prevC (gat (hI h 3) (hI h 4) (hI h 5) (hI h 6) (nI j) (nI t) ne) (rtF ev fr kf n kd op (nI t)) t) then (prevC (gat (hI h 3) (hI h 4) (hI h 5) (hI h 6) (nI j) (nI t) ne) (rtF ev fr kf n kd op (nI t)) t) / 240 else 0) (nI t)) (-4) (-1) (lastT (frcP fr kf (nI t) (nI t)) n)) (drw (hI h 3) (hI h 4) (hI h 5) (nI j) (nI t) ne)
def WMv (h : PH) (nl : Nat → Nat) (W : Nat → Nat → (Nat → Int32) → Int32) (n j t ne nn : Nat) (E : Int32 → Int32) (R : Nat → Int32 → Int32) (kd op wi s sg : Int32) : Int32 := whyM s (balM E R (nI t)) (@bI (sgnM kd wi (nI t) sg) (sgnMD _ _ _ _)) kd (fst1 (mnt h (nI j) s wi) (mntD h (nI j) s wi) 0 nn) (ltB (lmM h nl W n kd op (prM E R t) t) (drN (hI h 59) (hI h 60) (hI h 61) (nI j) (nI t) ne) s)
def S2 : Nat → Bool := fun a => SC a || a == 2 || a == 3 || a == 4 || a == 5 || a == 6 || a == 27 || a == 29
theorem S2_C {a : Nat} (z : S2 a = false) : SC a = false := by
  unfold S2 at z
  simp only [Bool.or_eq_false_iff] at z
  exact z.1.1.1.1.1.1.1
theorem fst1_w {p : Nat → Prop} {q : ∀ i, Decidable (p i)} {k : Nat} (hk : k ≤ 60) : fst1 p q 0 k = -1 ∨ 0 ≤ fst1 p q 0 k := by
  rcases fst1_v (p := p) (q := q) k 0 with z | ⟨j, -, z, e⟩
  · exact Or.inl z
  · rw [e]
    exact Or.inr (nI_le (a := 0) (by omega) (by omega))
theorem ntc_E {g : PH} {j t nn : Nat} {s wi : Int32} (cC : CLK h t) (cN : NTC h nn) (s' : px_same S2 h g) : fst1 (ntc h (nI j) s (nI t - wi)) (ntcD h (nI j) s (nI t - wi)) 0 nn = fst1 (mnt g (nI j) s wi) (mntD g (nI j) s wi) 0 nn := by
  refine fst1_cgB nn 0 (fun i _ hi => ?_)
  obtain ⟨-, -, -, n1, n2⟩ := cN
  obtain ⟨x1, x2, x3⟩ := n2 i (by omega)
  unfold ntc mnt
  rw [s'.2 65 rfl, s'.2 68 rfl, s'.2 67 rfl, s'.2 66 rfl, s'.2 36 rfl, cC.2.2, n1 i, x1, x2, x3]
  exact ⟨fun q => ⟨q.2.1, q.1, q.2.2⟩, fun q => ⟨q.2.1, q.1, q.2.2⟩⟩
theorem EF_2 {g : PH} {j ne : Nat} {kn : Int32} (cE : ENT h ne) (s : px_same S2 h g) (d : Int32) : eTo (hI g 59) (hI g 60) (hI g 61) (hI g 62) (nI j) d kn ne = EF h j ne kn d := by
  rw [s.2 59 rfl, s.2 60 rfl, s.2 61 rfl, s.2 62 rfl]
  exact (eTo_cg fun i hi => by obtain ⟨⟨a, b, c, d⟩, -⟩ := cE.2.2.2 i hi; exact ⟨⟨a, b, c⟩, d⟩).symm
theorem why2 {n : Nat} {ro ln : Nat → Nat} {fr kf : Nat → Int32} {ev : Nat → (Nat → Int32) → Int32 → Int32} {nl : Nat → Nat} {W : Nat → Nat → (Nat → Int32) → Int32} {t ne nn j r : Nat} {g : PH} (cX : TXS h n ro ln fr kf ev nl W) (cC : CLK h t) (cE : ENT h ne) (cN : NTC h nn) (cj : AC1 h j r) (s' : px_same S2 h g) (s sg : Int32) : WCv h ev fr kf n j t ne nn (hI h 55 j) (hI h 57 j) (hI h r 2) s sg = WMv g nl W n j t ne nn (EF h j ne (nI t)) (RF h nl W n j (nI t)) (hI h 55 j) (hI h 57 j) (hI h 56 j) s sg := by
  have hc : ∀ d, d < 720 → bal (gat (hI h 3) (hI h 4) (hI h 5) (hI h 6) (nI j) (nI t) ne) 0 0 (d + 1) = EF h j ne (nI t) (nI d) := fun d hd => cum_eTo (fun i hi => (cE.2.2.2 i hi).2) d hd
  have hr : ∀ m w, m < 24 → rtF ev fr kf n (hI h 55 j) (hI h 57 j) (nI t) m w = rtC (RF h nl W n j (nI t) m w) := fun m w _ => rate_E cX _ _ _ _ _
  have wi := cj.2.1.2.2.1
  unfold WCv WMv
  rw [balC_M hc hr cC.1, prev_M hc hr cC.1, lim_E cX, bI_iff (dq := sgnMD _ _ _ _) (sgn_E (td := nI t) (s := sg) (fun k => wi (Or.inl k)))]
  rw [drw_N (f' := hI g 59) (g' := hI g 60) (s' := hI g 61) (fun i hi => by
    rw [s'.2 59 rfl, s'.2 60 rfl, s'.2 61 rfl]
    obtain ⟨⟨a, b, c, -⟩, -⟩ := cE.2.2.2 i hi
    exact ⟨a, b, c⟩)]
  have el : rfM h nl W n (fctD (hI h 55 j) (hI h 57 j) (if 0 ≤ prM (EF h j ne (nI t)) (RF h nl W n j (nI t)) t then prM (EF h j ne (nI t)) (RF h nl W n j (nI t)) t / 240 else 0) (nI t)) 1 (nI t) (nI t) = lmM g nl W n (hI h 55 j) (hI h 57 j) (prM (EF h j ne (nI t)) (RF h nl W n j (nI t)) t) t := (rfM_same (S := S2) (h := h) (g := g) s' rfl rfl rfl rfl).symm
  rw [← el]
  refine why_E3 (fun k => ?_) (fst1_w cN.1) (lim_v cX _ _ _ _)
  rw [wi (Or.inr k)]
  exact ntc_E cC cN s'
theorem same_2 {g : PH} (s : px_same SC h g) : px_same S2 h g := s.mono fun _ z => S2_C z
theorem RX_2 {g : PH} {n : Nat} {nl : Nat → Nat} {W : Nat → Nat → (Nat → Int32) → Int32} (hX : RX h n nl W) (s : px_same S2 h g) : RX g n nl W := RX.same (S := S2) (h := h) (g := g) hX s rfl rfl rfl rfl rfl
theorem s_may (i : INV h) (a s sg : Int32) : ST M_X11_may M_X12_may [.int a, .int s, .int sg] h := by
  obtain ⟨hL, w, ⟨t, ne, nn, nt, cC, cE, cO, cN, cT⟩, hH, ⟨m, n, ra, ro, ln, fr, kf, ev, nl, W, cA, cX, cS⟩⟩ := id i
  obtain ⟨⟨m2, a1, a2, a4⟩, a3⟩ := id cA
  by_cases ha : ¬ a < 0 ∧ ¬ hI h 0 10 ≤ a
  · have ha' : ¬ a < 0 ∧ ¬ hI h 36 27 ≤ a := by rw [a2, ← a1]; exact ha
    rw [a1] at ha
    obtain ⟨j, hj, rfl⟩ := acc_N m2 ha
    obtain ⟨r1, cj⟩ := a3 j hj
    obtain ⟨⟨r2, r3⟩, r4, -⟩ := id cj
    have X1 : PX M_X11_may [.ref 0, .int (nI j), .int s, .int sg] h 0 0 (sQ SC h (WCv h ev fr kf n j t ne nn (hI h 55 j) (hI h 57 j) (hI h (ra j) 2) s sg)) := x_X11_may hL a1 m2 cX.1 r3 r2 r4.2.1 r4.2.2.2.1 cE.2.1 cE.1 (fun i hi => (cE.2.2.2 i hi).2) r4.1 hj r1 cC.2.1 cC.1 rfl cN.2.1 cN.1
    refine ⟨0, 0, _, ⟨by omega, by omega⟩, X1, fun rr g q _ _ => ?_⟩
    obtain ⟨rfl, s1⟩ := q
    have s2 := same_2 s1
    have X2 : PX M_X12_may [.ref 36, .int (nI j), .int s, .int sg] g 0 0 (sQ SI (th0 g) (WMv g nl W n j t ne nn (EF h j ne (nI t)) (RF h nl W n j (nI t)) (hI h 55 j) (hI h 57 j) (hI h 56 j) s sg)) := x_X12_may (h := g) ((congrFun (s2.2 36 rfl) 26).trans cC.2.2) (hL.same s1) (n := n) (nl := nl) (W := W) (RX_2 cX.2.1 s2) (kd := hI h 55 j) (op := hI h 57 j) (congrFun (s2.2 55 rfl) j) (congrFun (s2.2 57 rfl) j) (by omega) (ne := ne) ((congrFun (s2.2 36 rfl) 32).trans cE.2.2.1) cE.1 (E := EF h j ne (nI t)) (fun d => EF_2 cE s2 d) (R := RF h nl W n j (nI t)) (fun m w _ => rfM_same (S := S2) (h := h) (g := g) s2 rfl rfl rfl rfl) (wi := hI h 56 j) (congrFun (s2.2 56 rfl) j) (nn := nn) ((congrFun (s2.2 36 rfl) 39).trans cN.2.2.1) cN.1 ⟨ha'.1, by rw [s2.2 36 rfl]; exact ha'.2⟩
    refine ⟨hL.same s1, _, _, rfl, X2, fun rr2 g2 q2 => ?_⟩
    obtain ⟨rfl, q3⟩ := q2
    exact ⟨by rw [why2 cX cC cE cN cj s2], i.two' s1 q3⟩
  · exact ST.m0 (i_X11_may hL ha) rfl rfl hL (n_X12_may hL (by rw [a2, ← a1]; exact ha)) rfl rfl (i.all (AG.rf.I fun _ => rfl) w)
theorem whyR_e {d1 bl s sg eld lim dn : Int32} (z : whyR d1 bl s sg 3 eld lim dn = 0) : ¬ eld = -1 := by
  intro e
  unfold whyR at z
  by_cases c1 : d1 = 0
  · rw [if_pos c1] at z; exact absurd z (by decide)
  · rw [if_neg c1] at z
    by_cases c2 : s ≤ bl
    · rw [if_pos c2] at z
      by_cases c3 : sg = 0
      · rw [if_pos c3] at z; exact absurd z (by decide)
      · rw [if_neg c3, if_pos ⟨rfl, e⟩] at z; exact absurd z (by decide)
    · rw [if_neg c2] at z; exact absurd z (by decide)
theorem pb_S2 {g : PH} {ne b : Nat} {a d s : Int32} (s1 : px_same S2 h g) : px_same S2 h (pbEnt g ne a b d s) := (((((s1.I rfl b _).I rfl ne _).I rfl ne _).I rfl ne _).I rfl ne _).I rfl 4 _
/-- the two postings of a draw, with what changes of the notices -/
def DNr : Nat → Nat → Bool := fun a j => a == 24 || a == 25 || a == 26 || a == 65 || a == 66 || a == 67 || (a == 23 && j == 4) || (a == 36 && j == 39)
theorem dr_fin (i : INV h) {g1 g2 g3 : PH} {m n t ne nn nt b j : Nat} {s : Int32} (cC : CLK h t) (cE : ENT h ne) (cO : COI h) (cN : NTC h nn) (cT : TAP h nt) (hb : b < 4) (hne : ne < 400) (B1 : ∀ D E, (∀ a i, SC a = true → D a i = false) → (∀ i, D 27 i = false) → AG D E h g1) (J1 : hJ g1 = hJ h) (s2 : px_same SI (th0 (pbEnt g1 ne (nI j) b (nI t) s)) g2) (B3 : ∀ D E, (∀ i, D 68 i = false) → AG D E g2 g3) (J3 : hJ g3 = hJ g2) (n27 : ∀ i, hI g3 27 i = hI g3 68 i) : INV (moEnt g3 ne (nI j) b (nI t) s) := by
  have hL := i.1
  have A0 : ∀ D E, (∀ a i, SC a = true → D a i = false) → (∀ a i, SI a = true → D a i = false) → (∀ i, D 27 i = false) → (∀ i, D 68 i = false) → D 29 b = false → D 3 ne = false → D 4 ne = false → D 5 ne = false → D 6 ne = false → D 2 4 = false → D 36 0 = false → AG D E h g3 := fun D E xC xI y27 y68 x1 x2 x3 x4 x5 x6 x7 => AG.tr (AG.S (((((((AG.I (B1 D E xC y27) fun _ => x1).I fun _ => x2).I fun _ => x3).I fun _ => x4).I fun _ => x5).I fun _ => x6).I fun _ => x7) s2 xI) (B3 D E y68)
  have A : ∀ D E, (∀ a i, SC a = true → D a i = false) → (∀ a i, SI a = true → D a i = false) → (∀ i, D 27 i = false) → (∀ i, D 68 i = false) → D 29 b = false → D 3 ne = false → D 4 ne = false → D 5 ne = false → D 6 ne = false → D 2 4 = false → D 36 0 = false → D 59 ne = false → D 60 ne = false → D 61 ne = false → D 62 ne = false → D 63 b = false → D 36 32 = false → AG D E h (moEnt g3 ne (nI j) b (nI t) s) := fun D E xC xI y27 y68 x1 x2 x3 x4 x5 x6 x7 x8 x9 x10 x11 x12 x13 => (((((AG.I (A0 D E xC xI y27 y68 x1 x2 x3 x4 x5 x6 x7) fun _ => x8).I fun _ => x9).I fun _ => x10).I fun _ => x11).I fun _ => x12).I fun _ => x13
  have al : ∀ (D : Nat → Nat → Bool), (∀ a i, D a i = true → Dal a i = true) → (∀ a i, SC a = true → D a i = false) ∧ (∀ a i, SI a = true → D a i = false) := fun D d => ⟨fun a i z => by
    cases y : D a i with
    | false => rfl
    | true => exact absurd (d a i y) (by rw [SC_al z]; decide), fun a i z => by
    cases y : D a i with
    | false => rfl
    | true => exact absurd (d a i y) (by rw [SI_al z]; decide)⟩
  have lCk := al DCk (fun a i z => by unfold Dal DIc; rw [z]; rfl)
  have lEn := al DEn (fun a i z => by unfold Dal DIc; rw [z]; simp)
  have lCo := al DCo (fun a i z => by unfold Dal DIc; rw [z]; simp)
  have lTa := al DTa (fun a i z => by unfold Dal DIc; rw [z]; simp)
  have lNr := al DNr (fun a i z => by
    have : DNt a i = true := by
      unfold DNr at z
      unfold DNt
      simp only [Bool.or_eq_true, Bool.and_eq_true, beq_iff_eq] at z ⊢
      omega
    unfold Dal DIc; rw [this]; simp)
  have lcA := al DcA (fun a i z => by
    unfold DcA at z
    unfold Dal
    rw [Bool.or_eq_true] at z
    rcases z with z | z <;> rw [z] <;> simp)
  have u := ent2 (g1 := g1) (g2 := g3) (E := D0) (a := nI j) (d := nI t) (s := s) (hL.ag (B1 D0 EL (fun _ _ _ => rfl) (fun _ => rfl))) (cC.ag hL (B1 _ _ lCk.1 (fun _ => rfl))) (cE.ag hL (B1 _ _ lEn.1 (fun _ => rfl))) (cO.ag hL (B1 _ _ lCo.1 (fun _ => rfl))) (AG.tr (AG.S (AG.I AG.rf fun _ => rfl) s2 (fun a i z => by
    unfold D3
    rw [lCk.2 a i z, lEn.2 a i z, lCo.2 a i z]; rfl)) (B3 _ _ (fun _ => rfl))) hne hb ⟨t, cC.1, rfl⟩
  have pN : AG DNr D0 h (moEnt g3 ne (nI j) b (nI t) s) := A _ _ lNr.1 lNr.2 (fun _ => rfl) (fun _ => rfl) rfl rfl rfl rfl rfl rfl rfl rfl rfl rfl rfl rfl rfl
  have h78 : 78 ≤ hn h := hL.1
  refine i.icl (A _ _ lcA.1 lcA.2 (fun _ => rfl) (fun _ => rfl) rfl rfl rfl rfl rfl rfl rfl rfl rfl rfl rfl rfl rfl) (fun w hw => ?_) ⟨t, ne + 1, nn, nt, cC.ag hL (A _ _ lCk.1 lCk.2 (fun _ => rfl) (fun _ => rfl) rfl rfl rfl rfl rfl rfl rfl rfl rfl rfl rfl rfl rfl), u.1, u.2, ⟨cN.1, (pN.i (by omega) rfl).trans cN.2.1, (pN.i (by omega) rfl).trans cN.2.2.1, n27, fun k hk => ?_⟩, cT.ag hL (A _ _ lTa.1 lTa.2 (fun _ => rfl) (fun _ => rfl) rfl rfl rfl rfl rfl rfl rfl rfl rfl rfl rfl rfl rfl)⟩
  · show hJ g3 41 w = _
    rw [J3, s2.1.1]
    show hJ g1 41 w = _
    rw [J1]; exact i.2.1 w hw
  · rw [pN.i (show 24 < hn h by omega) rfl, pN.i (show 25 < hn h by omega) rfl, pN.i (show 26 < hn h by omega) rfl, pN.i (show 65 < hn h by omega) rfl, pN.i (show 66 < hn h by omega) rfl, pN.i (show 67 < hn h by omega) rfl]
    exact cN.2.2.2.2 k hk
theorem s_draw (i : INV h) (a b s sg : Int32) : ST M_X11_draw M_X12_draw [.int a, .int b, .int s, .int sg] h := by
  obtain ⟨hL, w, ⟨t, ne, nn, nt, cC, cE, cO, cN, cT⟩, hH, ⟨m, n, ra, ro, ln, fr, kf, ev, nl, W, cA, cX, cS⟩⟩ := id i
  obtain ⟨⟨m2, a1, a2, a4⟩, a3⟩ := id cA
  by_cases ha : ¬ a < 0 ∧ ¬ hI h 0 10 ≤ a
  · have ha' : ¬ a < 0 ∧ ¬ hI h 36 27 ≤ a := by rw [a2, ← a1]; exact ha
    rw [a1] at ha
    obtain ⟨j, hj, rfl⟩ := acc_N m2 ha
    obtain ⟨r1, cj⟩ := a3 j hj
    obtain ⟨⟨r2, r3⟩, r4, -⟩ := id cj
    have hd := fun i hi => (cE.2.2.2 i hi).2
    by_cases hw : WCv h ev fr kf n j t ne nn (hI h 55 j) (hI h 57 j) (hI h (ra j) 2) s sg = 0
    · by_cases hv : (¬ b < 0 ∧ b < 4) ∧ hI h 2 4 < 400
      · obtain ⟨b0, hb, rfl⟩ := brN hv.1
        have h4 : ne < 400 := (nI_ltI (b := 400) (by have := cE.1; omega) (by decide)).mp (by have := hv.2; rw [cE.2.1] at this; exact this)
        by_cases k3 : hI h 55 j = 3
        · have hw0 := hw
          unfold WCv at hw0
          rw [k3] at hw0
          rcases fst1_v (p := ntc h (nI j) s (nI t - hI h (ra j) 2)) (q := ntcD h (nI j) s (nI t - hI h (ra j) 2)) nn 0 with z | ⟨e0, -, he0, ee⟩
          · exact absurd z (whyR_e hw0)
          · have X1 := v_X11_draw (sg := sg) hL a1 m2 cX.1 r3 r2 r4.2.1 r4.2.2.2.1 cE.2.1 cE.1 hd r4.1 hj r1 cC.2.1 cC.1 rfl cN.2.1 cN.1 hb h4 rfl hw k3 ee (by omega)
            refine ⟨0, 0, _, ⟨by omega, by omega⟩, X1, fun rr h1 q _ _ => ?_⟩
            obtain ⟨rfl, g, s1, rfl⟩ := q
            have hLg := hL.same s1
            have s2 : px_same S2 h (pbEnt (pI g 27 e0 1) ne (nI j) b0 (nI t) (-s)) := pb_S2 ((same_2 s1).I rfl e0 1)
            have ee2 : fst1 (mnt (pbEnt (pI g 27 e0 1) ne (nI j) b0 (nI t) (-s)) (nI j) s (hI h 56 j)) (mntD _ (nI j) s (hI h 56 j)) 0 nn = nI e0 := by
              rw [← ntc_E cC cN s2, ← cj.2.1.2.2.1 (Or.inr k3)]; exact ee
            have X2 := v_X12_draw (h := pbEnt (pI g 27 e0 1) ne (nI j) b0 (nI t) (-s)) (s := s) (sg := sg) ((congrFun (s2.2 36 rfl) 26).trans cC.2.2) hLg (n := n) (nl := nl) (W := W) (RX_2 cX.2.1 s2) (kd := hI h 55 j) (op := hI h 57 j) (congrFun (s2.2 55 rfl) j) (congrFun (s2.2 57 rfl) j) (by omega) (ne := ne) ((congrFun (s2.2 36 rfl) 32).trans cE.2.2.1) cE.1 (E := EF h j ne (nI t)) (fun d => EF_2 cE s2 d) (R := RF h nl W n j (nI t)) (fun m w _ => rfM_same (S := S2) (h := h) s2 rfl rfl rfl rfl) (wi := hI h 56 j) (congrFun (s2.2 56 rfl) j) (nn := nn) ((congrFun (s2.2 36 rfl) 39).trans cN.2.2.1) cN.1 ⟨ha'.1, by rw [s2.2 36 rfl]; exact ha'.2⟩ hb h4 ((why2 cX cC cE cN cj s2 s sg).symm.trans hw) k3 ee2 (by omega)
            refine ⟨hLg, 0, _, rfl, X2, fun rr2 h2 q2 => ?_⟩
            obtain ⟨rfl, g2, s3, rfl⟩ := q2
            refine ⟨rfl, dr_fin i (m := 0) (n := 0) cC cE cO cN cT hb h4 (g1 := pI g 27 e0 1) (fun D E x y => AG.I (AG.S AG.rf s1 x) fun _ => y e0) s1.1.1 s3 (fun D E y => AG.I AG.rf fun _ => y e0) rfl (fun k => ?_)⟩
            rw [gI, gI, if_neg (by omega), s3.2 27 rfl, s3.2 68 rfl]
            show (if 27 = 27 ∧ k = e0 then 1 else hI g 27 k) = if 68 = 68 ∧ k = e0 then 1 else hI g 68 k
            rw [s1.2 27 rfl, s1.2 68 rfl, cN.2.2.2.1 k]
            by_cases e : k = e0
            · rw [if_pos ⟨rfl, e⟩, if_pos ⟨rfl, e⟩]
            · rw [if_neg (fun z => e z.2), if_neg (fun z => e z.2)]
        · have X1 := z_X11_draw (sg := sg) hL a1 m2 cX.1 r3 r2 r4.2.1 r4.2.2.2.1 cE.2.1 cE.1 hd r4.1 hj r1 cC.2.1 cC.1 rfl cN.2.1 cN.1 hb h4 rfl hw k3
          refine ⟨0, 0, _, ⟨by omega, by omega⟩, X1, fun rr h1 q _ _ => ?_⟩
          obtain ⟨rfl, g, s1, rfl⟩ := q
          have hLg := hL.same s1
          have s2 : px_same S2 h (pbEnt g ne (nI j) b0 (nI t) (-s)) := pb_S2 (same_2 s1)
          have X2 := z_X12_draw (h := pbEnt g ne (nI j) b0 (nI t) (-s)) (s := s) (sg := sg) ((congrFun (s2.2 36 rfl) 26).trans cC.2.2) hLg (n := n) (nl := nl) (W := W) (RX_2 cX.2.1 s2) (kd := hI h 55 j) (op := hI h 57 j) (congrFun (s2.2 55 rfl) j) (congrFun (s2.2 57 rfl) j) (by omega) (ne := ne) ((congrFun (s2.2 36 rfl) 32).trans cE.2.2.1) cE.1 (E := EF h j ne (nI t)) (fun d => EF_2 cE s2 d) (R := RF h nl W n j (nI t)) (fun m w _ => rfM_same (S := S2) (h := h) s2 rfl rfl rfl rfl) (wi := hI h 56 j) (congrFun (s2.2 56 rfl) j) (nn := nn) ((congrFun (s2.2 36 rfl) 39).trans cN.2.2.1) cN.1 ⟨ha'.1, by rw [s2.2 36 rfl]; exact ha'.2⟩ hb h4 ((why2 cX cC cE cN cj s2 s sg).symm.trans hw) k3
          refine ⟨hLg, 0, _, rfl, X2, fun rr2 h2 q2 => ?_⟩
          obtain ⟨rfl, g2, s3, rfl⟩ := q2
          refine ⟨rfl, dr_fin i (m := 0) (n := 0) cC cE cO cN cT hb h4 (g1 := g) (fun D E x y => AG.S AG.rf s1 x) s1.1.1 s3 (fun D E y => AG.rf) rfl (fun k => ?_)⟩
          rw [s3.2 27 rfl, s3.2 68 rfl]
          show hI g 27 k = hI g 68 k
          rw [s1.2 27 rfl, s1.2 68 rfl, cN.2.2.2.1 k]
      · have X1 := y_X11_draw (sg := sg) hL a1 m2 cX.1 r3 r2 r4.2.1 r4.2.2.2.1 cE.2.1 cE.1 hd r4.1 hj r1 cC.2.1 cC.1 rfl cN.2.1 cN.1 hw hv
        refine ⟨0, 0, _, ⟨by omega, by omega⟩, X1, fun rr g q _ _ => ?_⟩
        obtain ⟨rfl, s1⟩ := q
        have s2 := same_2 s1
        have X2 := y_X12_draw (h := g) (b := b) (s := s) (sg := sg) ((congrFun (s2.2 36 rfl) 26).trans cC.2.2) (hL.same s1) (n := n) (nl := nl) (W := W) (RX_2 cX.2.1 s2) (kd := hI h 55 j) (op := hI h 57 j) (congrFun (s2.2 55 rfl) j) (congrFun (s2.2 57 rfl) j) (by omega) (ne := ne) ((congrFun (s2.2 36 rfl) 32).trans cE.2.2.1) cE.1 (E := EF h j ne (nI t)) (fun d => EF_2 cE s2 d) (R := RF h nl W n j (nI t)) (fun m w _ => rfM_same (S := S2) (h := h) s2 rfl rfl rfl rfl) (wi := hI h 56 j) (congrFun (s2.2 56 rfl) j) (nn := nn) ((congrFun (s2.2 36 rfl) 39).trans cN.2.2.1) cN.1 ⟨ha'.1, by rw [s2.2 36 rfl]; exact ha'.2⟩ ((why2 cX cC cE cN cj s2 s sg).symm.trans hw) (fun q => hv ⟨bra_N.mpr ⟨q.1, q.2.1⟩, by
          have z := q.2.2
          rw [s2.2 36 rfl, cE.2.2.1] at z
          rw [cE.2.1]
          exact nI_lt (b := 400) (Nat.lt_of_le_of_ne cE.1 fun y => z (by rw [y]; rfl)) (by decide)⟩)
        refine ⟨hL.same s1, 6, _, rfl, X2, fun rr2 g2 q2 => ?_⟩
        obtain ⟨rfl, q3⟩ := q2
        exact ⟨rfl, i.two' s1 q3⟩
    · have X1 : PX M_X11_draw [.ref 0, .int (nI j), .int b, .int s, .int sg] h 0 0 (sQ SC h (WCv h ev fr kf n j t ne nn (hI h 55 j) (hI h 57 j) (hI h (ra j) 2) s sg)) := x_X11_draw hL a1 m2 cX.1 r3 r2 r4.2.1 r4.2.2.2.1 cE.2.1 cE.1 hd r4.1 hj r1 cC.2.1 cC.1 rfl cN.2.1 cN.1 hw
      refine ⟨0, 0, _, ⟨by omega, by omega⟩, X1, fun rr g q _ _ => ?_⟩
      obtain ⟨rfl, s1⟩ := q
      have s2 := same_2 s1
      have X2 : PX M_X12_draw [.ref 36, .int (nI j), .int b, .int s, .int sg] g 0 0 (sQ SI (th0 g) (WMv g nl W n j t ne nn (EF h j ne (nI t)) (RF h nl W n j (nI t)) (hI h 55 j) (hI h 57 j) (hI h 56 j) s sg)) := x_X12_draw (h := g) ((congrFun (s2.2 36 rfl) 26).trans cC.2.2) (hL.same s1) (n := n) (nl := nl) (W := W) (RX_2 cX.2.1 s2) (kd := hI h 55 j) (op := hI h 57 j) (congrFun (s2.2 55 rfl) j) (congrFun (s2.2 57 rfl) j) (by omega) (ne := ne) ((congrFun (s2.2 36 rfl) 32).trans cE.2.2.1) cE.1 (E := EF h j ne (nI t)) (fun d => EF_2 cE s2 d) (R := RF h nl W n j (nI t)) (fun m w _ => rfM_same (S := S2) (h := h) (g := g) s2 rfl rfl rfl rfl) (wi := hI h 56 j) (congrFun (s2.2 56 rfl) j) (nn := nn) ((congrFun (s2.2 36 rfl) 39).trans cN.2.2.1) cN.1 ⟨ha'.1, by rw [s2.2 36 rfl]; exact ha'.2⟩ (fun z => hw ((why2 cX cC cE cN cj s2 s sg).trans z))
      refine ⟨hL.same s1, _, _, rfl, X2, fun rr2 g2 q2 => ?_⟩
      obtain ⟨rfl, q3⟩ := q2
      exact ⟨by rw [why2 cX cC cE cN cj s2], i.two' s1 q3⟩
  · exact ST.m0 (i_X11_draw hL ha) rfl rfl hL (n_X12_draw hL (by rw [a2, ← a1]; exact ha)) rfl rfl (i.all (AG.rf.I fun _ => rfl) w)
end MAY
