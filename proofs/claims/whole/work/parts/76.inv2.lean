/-! ===== accounts and texts between two steps ===== -/
theorem AG.mono {D D' E E' : Nat → Nat → Bool} {h g : PH} (p : AG D E h g) (d : ∀ a j, a < hn h → D' a j = true → D a j = true) (e : ∀ a j, a < hn h → E' a j = true → E a j = true) : AG D' E' h g := ⟨p.1, fun a ha => ⟨(p.2 a ha).1, fun j => ⟨fun z => ((p.2 a ha).2 j).1 (d a j ha z), fun z => ((p.2 a ha).2 j).2 (e a j ha z)⟩⟩⟩
def AC1 (h : PH) (j r : Nat) : Prop := (78 ≤ r ∧ px_acc h r (r + 1) (r + 2)) ∧ (hI h r 0 = nI j ∧ hI h r 1 = hI h 55 j ∧ ((hI h 55 j = 1 ∨ hI h 55 j = 3) → hI h r 2 = hI h 56 j) ∧ hI h r 3 = hI h 57 j ∧ hI h r 7 = hI h 58 j) ∧ ∃ c, c ≤ 40 ∧ hI h r 6 = nI c ∧ hI h 69 j = nI c ∧ ∀ q, q < c → hI h (r + 1) q = hI h 70 (40 * j + q) ∧ hI h (r + 2) q = hI h 71 (40 * j + q)
def DA1 (j r : Nat) : Nat → Nat → Bool := fun a i => decide (a = r) || decide (a = r + 1) || decide (a = r + 2) || ((a == 55 || a == 56 || a == 57 || a == 58 || a == 69) && decide (i = j)) || ((a == 70 || a == 71) && (decide (40 * j ≤ i) && decide (i < 40 * j + 40)))
def EA1 (r : Nat) : Nat → Nat → Bool := fun a _ => decide (a = r)
theorem AC1.ag {h g : PH} {j r : Nat} (hL : px_L h) (c : AC1 h j r) (p : AG (DA1 j r) (EA1 r) h g) : AC1 g j r := by
  have h78 : 78 ≤ hn h := hL.1
  obtain ⟨⟨c1, o, ⟨e4, e5⟩, ⟨r1, r2⟩, ne⟩, ⟨c2, c3, c4, c5, c6⟩, n, n4, c7, c8, c9⟩ := c
  have d0 : ∀ i, DA1 j r r i = true := fun i => by unfold DA1; simp
  have d1 : ∀ i, DA1 j r (r + 1) i = true := fun i => by unfold DA1; simp
  have d2 : ∀ i, DA1 j r (r + 2) i = true := fun i => by unfold DA1; simp
  have e0 : ∀ i, EA1 r r i = true := fun i => by unfold EA1; simp
  have i0 : ∀ i, hI g r i = hI h r i := fun i => p.i o.1 (d0 i)
  have i1 : ∀ i, hI g (r + 1) i = hI h (r + 1) i := fun i => p.i r1.1 (d1 i)
  have i2 : ∀ i, hI g (r + 2) i = hI h (r + 2) i := fun i => p.i r2.1 (d2 i)
  have m55 : hI g 55 j = hI h 55 j := p.i (by omega) (by unfold DA1; simp)
  have m56 : hI g 56 j = hI h 56 j := p.i (by omega) (by unfold DA1; simp)
  have m57 : hI g 57 j = hI h 57 j := p.i (by omega) (by unfold DA1; simp)
  have m58 : hI g 58 j = hI h 58 j := p.i (by omega) (by unfold DA1; simp)
  have m69 : hI g 69 j = hI h 69 j := p.i (by omega) (by unfold DA1; simp)
  refine ⟨⟨c1, p.ob o, ⟨(p.rr o.1 (e0 4)).trans e4, (p.rr o.1 (e0 5)).trans e5⟩, ⟨p.ar r1, p.ar r2⟩, ne⟩, ⟨(i0 0).trans c2, by rw [i0, m55]; exact c3, by rw [i0, m55, m56]; exact c4, by rw [i0, m57]; exact c5, by rw [i0, m58]; exact c6⟩, n, n4, (i0 6).trans c7, m69.trans c8, fun q hq => ?_⟩
  rw [i1, i2, p.i (show 70 < hn h by omega) (by unfold DA1; simp; omega), p.i (show 71 < hn h by omega) (by unfold DA1; simp; omega)]
  exact c9 q hq
def ACC (h : PH) (m : Nat) (ra : Nat → Nat) : Prop := (m ≤ 20 ∧ hI h 0 10 = nI m ∧ hI h 36 27 = nI m ∧ ∀ j, m ≤ j → hI h 58 j = 0 ∧ hI h 69 j = 0) ∧ ∀ j, j < m → hR h 1 j = some (ra j) ∧ AC1 h j (ra j)
def DAc : Nat → Nat → Bool := fun a j => decide (78 ≤ a) || a == 55 || a == 56 || a == 57 || a == 58 || a == 69 || a == 70 || a == 71 || (a == 0 && j == 10) || (a == 36 && j == 27)
def EAc (m : Nat) : Nat → Nat → Bool := fun a j => decide (78 ≤ a) || (a == 1 && decide (j < m))
theorem ACC.ag {h g : PH} {m : Nat} {ra : Nat → Nat} (hL : px_L h) (c : ACC h m ra) (p : AG DAc (EAc m) h g) : ACC g m ra := by
  have h78 : 78 ≤ hn h := hL.1
  refine ⟨⟨c.1.1, (p.i (by omega) rfl).trans c.1.2.1, (p.i (by omega) rfl).trans c.1.2.2.1, fun j hj => ⟨(p.i (by omega) rfl).trans (c.1.2.2.2 j hj).1, (p.i (by omega) rfl).trans (c.1.2.2.2 j hj).2⟩⟩, fun j hj => ⟨?_, ?_⟩⟩
  · rw [p.rr (by omega) (by unfold EAc; simp; omega)]; exact (c.2 j hj).1
  · have z := (c.2 j hj).2
    have z1 := z.1.1
    refine z.ag hL (p.mono (fun a i _ d => ?_) (fun a i _ d => ?_))
    · unfold DA1 at d
      unfold DAc
      simp only [Bool.or_eq_true, Bool.and_eq_true, decide_eq_true_eq, beq_iff_eq] at d ⊢
      omega
    · unfold EA1 at d
      unfold EAc
      simp only [Bool.or_eq_true, Bool.and_eq_true, decide_eq_true_eq, beq_iff_eq] at d ⊢
      omega
/-- the texts -/
def RY (h : PH) (W : Nat → Nat → (Nat → Int32) → Int32) (i k : Nat) : Prop := ∃ c fu : Nat, hI h 47 (16 * i + k) = nI c ∧ c + fu ≤ 660 ∧ ∀ kn : Nat → Int32, wrun (hI h 48) (hI h 49) kn fu (660 * i + c) [] = some (W i k kn)
def TXS (h : PH) (n : Nat) (ro ln : Nat → Nat) (fr kf : Nat → Int32) (ev : Nat → (Nat → Int32) → Int32 → Int32) (nl : Nat → Nat) (W : Nat → Nat → (Nat → Int32) → Int32) : Prop := TX h n ro (fun i => ro i + 1) ln fr kf ev ∧ RX h n nl W ∧ (∀ i, i < n → (hI h 42 i = fr i ∧ hI h 43 i = kf i) ∧ (∀ k, k < nl i → 0 ≤ hI h 46 (16 * i + k) ∧ RY h W i k) ∧ ∀ F : Nat → Int32, ev i F (-3) = fOf h nl W F 0 (some i) ∧ ev i F (-4) = fOf h nl W F 1 (some i)) ∧ (∀ j, hI h 45 j = 0 ∨ hI h 45 j = 1) ∧ ∃ d0, hI h 36 20 = nI d0
def DTx : Nat → Nat → Bool := fun a j => decide (78 ≤ a) || a == 42 || a == 43 || a == 44 || a == 45 || a == 46 || a == 47 || a == 48 || a == 49 || (a == 12 && j == 1) || (a == 36 && (j == 10 || j == 20))
def ETx (n : Nat) : Nat → Nat → Bool := fun a j => decide (78 ≤ a) || (a == 13 && decide (j < n))
theorem TXS.ag {h g : PH} {n : Nat} {ro ln : Nat → Nat} {fr kf : Nat → Int32} {ev : Nat → (Nat → Int32) → Int32 → Int32} {nl : Nat → Nat} {W : Nat → Nat → (Nat → Int32) → Int32} (hL : px_L h) (c : TXS h n ro ln fr kf ev nl W) (p : AG DTx (ETx n) h g) : TXS g n ro ln fr kf ev nl W := by
  have h78 : 78 ≤ hn h := hL.1
  obtain ⟨⟨a1, a2, a3⟩, ⟨b1, b2, b3⟩, c3, c4, d0, c5⟩ := c
  have w : ∀ a, a < 78 → (a = 42 ∨ a = 43 ∨ a = 44 ∨ a = 45 ∨ a = 46 ∨ a = 47 ∨ a = 48 ∨ a = 49) → hI g a = hI h a := fun a ha z => funext fun j => p.i (by omega) (by unfold DTx; simp; omega)
  have w42 := w 42 (by omega) (by omega)
  have w43 := w 43 (by omega) (by omega)
  have w44 := w 44 (by omega) (by omega)
  have w45 := w 45 (by omega) (by omega)
  have w46 := w 46 (by omega) (by omega)
  have w47 := w 47 (by omega) (by omega)
  have w48 := w 48 (by omega) (by omega)
  have w49 := w 49 (by omega) (by omega)
  have dh : ∀ a j, 78 ≤ a → DTx a j = true := fun a j z => by unfold DTx; simp; omega
  have eh : ∀ a j, 78 ≤ a → ETx n a j = true := fun a j z => by unfold ETx; simp; omega
  refine ⟨⟨a1, (p.i (by omega) rfl).trans a2, fun i hi => ?_⟩, ⟨b1, (p.i (by omega) rfl).trans b2, fun i hi => ?_⟩, fun i hi => ?_, fun j => by rw [w45]; exact c4 j, d0, (p.i (by omega) rfl).trans c5⟩
  · obtain ⟨⟨x1, x2, x3, x4⟩, ⟨y1, y2, y3, y4⟩, z⟩ := a3 i hi
    have e : hI g (ro i + 1) = hI h (ro i + 1) := funext fun j => p.i x4.1 (dh _ _ y2)
    refine ⟨⟨?_, p.ob x2, (p.rr x2.1 (eh _ _ y1)).trans x3, p.ar x4⟩, ⟨y1, y2, (p.i x2.1 (dh _ _ y1)).trans y3, (p.i x2.1 (dh _ _ y1)).trans y4⟩, fun F rule J => ?_⟩
    · rw [p.rr (by omega) (by unfold ETx; simp; omega)]; exact x1
    · show nOf F (hI g (ro i + 1)) rule (ln i) 0 0 J = _
      rw [e]; exact z F rule J
  · rw [w44, w47, w48, w49]; exact b3 i hi
  · obtain ⟨x1, x2, x3⟩ := c3 i hi
    unfold RY
    rw [w42, w43, w46, w47, w48, w49]
    refine ⟨x1, x2, fun F => ?_⟩
    unfold fOf
    rw [w45, w46]
    exact x3 F
/-- the cells of accounts and texts lie apart -/
def SEP (m n : Nat) (ra ro : Nat → Nat) : Prop := (∀ j k, j < m → k < m → j ≠ k → ra j + 3 ≤ ra k ∨ ra k + 3 ≤ ra j) ∧ ∀ j i, j < m → i < n → ra j + 3 ≤ ro i ∨ ro i + 2 ≤ ra j
def ICL (h : PH) : Prop := ∃ (t ne nn nt : Nat), CLK h t ∧ ENT h ne ∧ COI h ∧ NTC h nn ∧ TAP h nt
def IHL (h : PH) : Prop := ∃ (n pm : Nat) (P : Nat → Nat → Nat) (N : Nat → Nat), HLD h n pm P N
def IAT (h : PH) : Prop := ∃ (m n : Nat) (ra ro ln : Nat → Nat) (fr kf : Nat → Int32) (ev : Nat → (Nat → Int32) → Int32 → Int32) (nl : Nat → Nat) (W : Nat → Nat → (Nat → Int32) → Int32), ACC h m ra ∧ TXS h n ro ln fr kf ev nl W ∧ SEP m n ra ro
def INV (h : PH) : Prop := px_L h ∧ WRD h ∧ ICL h ∧ IHL h ∧ IAT h
