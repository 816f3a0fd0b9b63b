/-! ===== steps: the class's call, then the reference's ===== -/
def E1 : Nat → Nat → Bool := fun _ _ => true
def DIc : Nat → Nat → Bool := fun a j => DCk a j || DEn a j || DCo a j || DNt a j || DTa a j
def DAT : Nat → Nat → Bool := fun a j => DAc a j || DTx a j
theorem AG.ml {D D' E : Nat → Nat → Bool} {h g : PH} (p : AG (fun a j => D a j || D' a j) E h g) : AG D E h g := p.mono (fun a j _ d => by show (D a j || D' a j) = true; rw [d]; rfl) (fun _ _ _ e => e)
theorem AG.mr {D D' E : Nat → Nat → Bool} {h g : PH} (p : AG (fun a j => D a j || D' a j) E h g) : AG D' E h g := p.mono (fun a j _ d => by show (D a j || D' a j) = true; rw [d, Bool.or_true]) (fun _ _ _ e => e)
theorem AG.e1 {D E : Nat → Nat → Bool} {h g : PH} (p : AG D E1 h g) : AG D E h g := p.mono (fun _ _ _ d => d) (fun _ _ _ _ => rfl)
theorem AG.e0 {D E : Nat → Nat → Bool} {h g : PH} (p : AG D E h g) : AG D D0 h g := p.mono (fun _ _ _ d => d) (fun _ _ _ e => absurd (show false = true from e) (by decide))
theorem ICL.ag {h g : PH} {E : Nat → Nat → Bool} (hL : px_L h) (c : ICL h) (p : AG DIc E h g) : ICL g := by
  obtain ⟨t, ne, nn, nt, a, b, c, d, e⟩ := c
  have q5 : AG DTa E h g := p.mr
  have q4 : AG DNt E h g := p.ml.mr
  have q3 : AG DCo E h g := p.ml.ml.mr
  have q2 : AG DEn E h g := p.ml.ml.ml.mr
  have q1 : AG DCk E h g := p.ml.ml.ml.ml
  exact ⟨t, ne, nn, nt, a.ag hL q1.e0, b.ag hL q2.e0, c.ag hL q3.e0, d.ag hL q4.e0, e.ag hL q5.e0⟩
theorem IHL.ag {h g : PH} {E : Nat → Nat → Bool} (hL : px_L h) (c : IHL h) (p : AG DHl E h g) : IHL g := by
  obtain ⟨n, pm, P, N, a⟩ := c
  exact ⟨n, pm, P, N, a.ag hL p.e0⟩
theorem IAT.ag {h g : PH} (hL : px_L h) (c : IAT h) (p : AG DAT E1 h g) : IAT g := by
  obtain ⟨m, n, ra, ro, ln, fr, kf, ev, nl, W, a, b, s⟩ := c
  have q1 : AG DAc E1 h g := p.ml
  have q2 : AG DTx E1 h g := p.mr
  exact ⟨m, n, ra, ro, ln, fr, kf, ev, nl, W, a.ag hL q1.e1, b.ag hL q2.e1, s⟩
def DcA : Nat → Nat → Bool := fun a j => DHl a j || DAT a j
def DhA : Nat → Nat → Bool := fun a j => DIc a j || DAT a j
def DaA : Nat → Nat → Bool := fun a j => DIc a j || DHl a j
def Dal : Nat → Nat → Bool := fun a j => DIc a j || DHl a j || DAT a j
theorem INV.icl {h g : PH} (i : INV h) (p : AG DcA E1 h g) (w : WRD g) (c : ICL g) : INV g := by
  obtain ⟨hL, -, -, b, a⟩ := i
  exact ⟨hL.ag p.e1, w, c, b.ag hL p.ml, a.ag hL p.mr⟩
theorem INV.ihl {h g : PH} (i : INV h) (p : AG DhA E1 h g) (w : WRD g) (c : IHL g) : INV g := by
  obtain ⟨hL, -, b, -, a⟩ := i
  exact ⟨hL.ag p.e1, w, b.ag hL p.ml, c, a.ag hL p.mr⟩
theorem INV.iat {h g : PH} {E : Nat → Nat → Bool} (i : INV h) (p : AG DaA E h g) (hL' : px_L g) (w : WRD g) (c : IAT g) : INV g := by
  obtain ⟨hL, -, a, b, -⟩ := i
  exact ⟨hL', w, a.ag hL p.ml, b.ag hL p.mr, c⟩
theorem INV.all {h g : PH} (i : INV h) (p : AG Dal E1 h g) (w : WRD g) : INV g := by
  obtain ⟨hL, -, b, c, a⟩ := i
  exact ⟨hL.ag p.e1, w, b.ag hL p.ml.ml, c.ag hL p.ml.mr, a.ag hL p.mr⟩
/-- a step without a throw -/
def ST (Mc Mm : px_M) (as : List Value) (h : PH) : Prop := ∃ (dn ds : Nat) (Q : Option Value → PH → Prop), (dn ≤ 3 ∧ ds ≤ 603) ∧ PX Mc (.ref 0 :: as) h dn ds Q ∧ ∀ r1 h1, Q r1 h1 → hn h1 = hn h + dn → hs h1 = hs h + ds → px_L h1 ∧ ∃ (v : Int32) (Q' : Option Value → PH → Prop), r1 = some (.int v) ∧ PX Mm (.ref 36 :: as) h1 0 0 Q' ∧ ∀ r2 h2, Q' r2 h2 → r2 = some (.int v) ∧ INV h2
/-- a step that may throw, through the law's own method -/
def STW (Mw Mm : px_M) (as bs : List Value) (h : PH) : Prop := ∃ (dn ds : Nat) (Q : Option Value → PH → Prop), (dn ≤ 3 ∧ ds ≤ 603) ∧ PXW Mw bs h dn ds Q ∧ ∀ r1 h1, Q r1 h1 → hn h1 = hn h + dn → hs h1 = hs h + ds → px_L h1 ∧ ∃ (k : Int32) (Q' : Option Value → PH → Prop), r1 = some (.int k) ∧ PX Mm (.ref 36 :: as) h1 0 0 Q' ∧ ∀ r2 h2, Q' r2 h2 → ∃ b : Int32, r2 = some (.int b) ∧ hI h2 36 0 = k ∧ (k = 0 → hJ h2 77 0 = b.toInt64) ∧ INV h2
theorem ST.mm {Mc Mm : px_M} {as : List Value} {h h1 h2 : PH} {v : Int32} {dn ds : Nat} (a : PM Mc (.ref 0 :: as) h (some (.int v)) h1) (en : hn h1 = hn h + dn) (es : hs h1 = hs h + ds) (l : dn ≤ 3 ∧ ds ≤ 603) (hL1 : px_L h1) (b : PM Mm (.ref 36 :: as) h1 (some (.int v)) h2) (e2 : hn h2 = hn h1) (e3 : hs h2 = hs h1) (i : INV h2) : ST Mc Mm as h :=
  ⟨dn, ds, _, l, a.toX en es, fun r1 g q _ _ => by
    obtain ⟨rfl, rfl⟩ := q
    exact ⟨hL1, v, _, rfl, b.toX (dn := 0) (ds := 0) e2 e3, fun r2 g2 q2 => by
      obtain ⟨rfl, rfl⟩ := q2
      exact ⟨rfl, i⟩⟩⟩
theorem ST.m0 {Mc Mm : px_M} {as : List Value} {h h1 h2 : PH} {v : Int32} (a : PM Mc (.ref 0 :: as) h (some (.int v)) h1) (en : hn h1 = hn h) (es : hs h1 = hs h) (hL1 : px_L h1) (b : PM Mm (.ref 36 :: as) h1 (some (.int v)) h2) (e2 : hn h2 = hn h1) (e3 : hs h2 = hs h1) (i : INV h2) : ST Mc Mm as h := ST.mm (dn := 0) (ds := 0) a en es ⟨by omega, by omega⟩ hL1 b e2 e3 i
theorem PMW.toX {M : px_M} {as : List Value} {h h' : PH} {r : Option Value} {dn ds : Nat} (en : hn h' = hn h + dn) (es : hs h' = hs h + ds) (hM : PMW M as h r h') : PXW M as h dn ds (fun r' h'' => r' = r ∧ h'' = h') := by
  intro l b G hl
  obtain ⟨-, -, hM⟩ := hM
  have hM := hM l b G hl
  unfold px_rm at hM
  rw [en, es, Nat.add_sub_cancel_left, Nat.add_sub_cancel_left] at hM
  intro p e ha hc hk s m args below hf hpre hP hT
  obtain ⟨k, o, h1, h2, h3, ⟨q1, q2, q3⟩, h5⟩ := hM p e ha hc hk s m args below hf hpre hP hT
  exact ⟨k, o, h1, h2, h3, ⟨r, h', ⟨rfl, rfl⟩, en, es, q1, q2, q3⟩, h5⟩
theorem STW.t {Mw Mm : px_M} {as bs : List Value} {h : PH} (i : INV h) {b : Int32} (a : PMW Mw bs h (some (.int 1)) (pN h 30 0 6)) (m : ∀ g, px_L g → hI g 36 = hI h 36 → hI g 0 = hI h 0 → PM Mm (.ref 36 :: as) g (some (.int b)) (pI g 36 0 1)) : STW Mw Mm as bs h := by
  have h78 : 78 ≤ hn h := i.1.1
  have A : ∀ D E, D 36 0 = false → AG D E h (pI (pN h 30 0 6) 36 0 1) := fun D E e => AG.rf.N.I fun _ => e
  have hL1 : px_L (pN h 30 0 6) := i.1.ag (D := D0) AG.rf.N
  have r : ∀ a, a < 78 → hI (pN h 30 0 6) a = hI h a := fun a ha => if_neg (by omega)
  refine ⟨1, 6, _, ⟨by omega, by omega⟩, a.toX rfl rfl, fun r1 g q _ _ => ?_⟩
  obtain ⟨rfl, rfl⟩ := q
  refine ⟨hL1, 1, _, rfl, PM.toX (h' := pI (pN h 30 0 6) 36 0 1) (dn := 0) (ds := 0) rfl rfl (m _ hL1 (r 36 (by omega)) (r 0 (by omega))), fun r2 g2 q2 => ?_⟩
  obtain ⟨rfl, rfl⟩ := q2
  refine ⟨b, rfl, rfl, fun z => absurd z (by decide), i.all (A _ _ rfl) (fun w hw => ?_)⟩
  rw [← i.2.1 w hw]
  exact congrFun (if_neg (by omega) : up1 (hJ h) (hn h) (fun _ => 0) 41 = hJ h 41) w
section SIMPLE
variable {h : PH}
theorem s_days (i : INV h) (d : Int32) : ST M_X11_days M_X12_days [.int d] h := by
  obtain ⟨hL, w, ⟨t, ne, nn, nt, cC, cE, cO, cN, cT⟩, hH, hA⟩ := id i
  obtain ⟨t7, c1, c2⟩ := id cC
  by_cases hv : ¬ d < 0 ∧ ¬ 200 < d ∧ hI h 0 11 + d ≤ 719
  · obtain ⟨k, hk, rfl⟩ := nI_of hv.1
    have k2 : ¬ 200 < k := fun z => hv.2.1 (nI_lt (a := 200) z hk)
    have e : hI h 0 11 + nI k = nI (t + k) := by rw [c1, nI_add]
    have e' : hI h 36 26 + nI k = nI (t + k) := by rw [c2, nI_add]
    have t2 : t + k ≤ 719 := (nI_leI (b := 719) (by omega) (by decide)).mp (by have := hv.2.2; rw [e] at this; exact this)
    have m := c_X11_days hL hv
    rw [e] at m
    have hv' : ¬ nI k < 0 ∧ ¬ 200 < nI k ∧ hI (pI h 0 11 (nI (t + k))) 36 26 + nI k ≤ 719 := ⟨hv.1, hv.2.1, by
      show hI h 36 26 + nI k ≤ 719
      rw [e', ← e]; exact hv.2.2⟩
    have m2 := c_X12_days (h := pI h 0 11 (nI (t + k))) hL hv'
    have e2 : hI (pI h 0 11 (nI (t + k))) 36 26 + nI k = nI (t + k) := e'
    rw [e2] at m2
    have A : ∀ D E, D 0 11 = false → D 36 0 = false → D 36 26 = false → AG D E h (pI (th0 (pI h 0 11 (nI (t + k)))) 36 26 (nI (t + k))) := fun D E a b c => ((AG.rf.I fun _ => a).I fun _ => b).I fun _ => c
    refine ST.m0 m rfl rfl hL m2 rfl rfl (i.icl (A _ _ rfl rfl rfl) w ⟨t + k, ne, nn, nt, ⟨by omega, rfl, rfl⟩, cE.ag hL (A _ _ rfl rfl rfl), cO.ag hL (A _ _ rfl rfl rfl), cN.ag hL (A _ _ rfl rfl rfl), cT.ag hL (A _ _ rfl rfl rfl)⟩)
  · have hv' : ¬ (¬ d < 0 ∧ ¬ 200 < d ∧ hI h 36 26 + d ≤ 719) := by rw [c2, ← c1]; exact hv
    exact ST.m0 (n_X11_days hL hv) rfl rfl hL (n_X12_days hL hv') rfl rfl (i.all (AG.rf.I fun _ => rfl) w)
theorem s_count (i : INV h) (x : Int32) : ST M_X11_count M_X12_count [.int x] h := by
  obtain ⟨hL, w, ⟨t, ne, nn, nt, cC, cE, cO, cN, cT⟩, ⟨n, pm, P, N, cH⟩, ⟨m, n', ra, ro, ln, fr, kf, ev, nl, W, cA, cX, cS⟩⟩ := id i
  have m1 := c_X11_count hL (x := x)
  have m2 := c_X12_count hL (x := x)
  rw [cA.1.2.1, cE.2.1, cC.2.1, cX.1.2.1, cN.2.1, cH.1.2.2.1, cT.2.1, cO.1] at m1
  rw [cA.1.2.2.1, cE.2.2.1, cC.2.2, cX.2.1.2.1, cN.2.2.1, cH.1.2.2.2.1, cT.2.2.1] at m2
  exact ST.m0 m1 rfl rfl hL m2 rfl rfl (i.all (AG.rf.I fun _ => rfl) w)
end SIMPLE
