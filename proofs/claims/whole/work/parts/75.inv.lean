/-! ===== what holds between two steps ===== -/
def AG (D E : Nat → Nat → Bool) (h g : PH) : Prop := hn h ≤ hn g ∧ ∀ a, a < hn h → hK g a = hK h a ∧ ∀ j, (D a j = true → hI g a j = hI h a j) ∧ (E a j = true → hR g a j = hR h a j)
section AGR
variable {D E : Nat → Nat → Bool} {h g q0 : PH}
theorem AG.rf : AG D E h h := ⟨Nat.le_refl _, fun _ _ => ⟨rfl, fun _ => ⟨fun _ => rfl, fun _ => rfl⟩⟩⟩
theorem AG.tr (p : AG D E h g) (q : AG D E g q0) : AG D E h q0 := ⟨Nat.le_trans p.1 q.1, fun a ha => ⟨(q.2 a (Nat.lt_of_lt_of_le ha p.1)).1.trans (p.2 a ha).1, fun j => ⟨fun d => (((q.2 a (Nat.lt_of_lt_of_le ha p.1)).2 j).1 d).trans (((p.2 a ha).2 j).1 d), fun d => (((q.2 a (Nat.lt_of_lt_of_le ha p.1)).2 j).2 d).trans (((p.2 a ha).2 j).2 d)⟩⟩⟩
theorem AG.I (p : AG D E h g) {a i : Nat} {v : Int32} (e : a < hn h → D a i = false) : AG D E h (pI g a i v) := ⟨p.1, fun x hx => ⟨(p.2 x hx).1, fun j => ⟨fun d => by
  have z : ¬ (x = a ∧ j = i) := fun q => by
    rw [q.1, q.2] at d
    rw [e (q.1 ▸ hx)] at d
    cases d
  exact (if_neg z).trans (((p.2 x hx).2 j).1 d), ((p.2 x hx).2 j).2⟩⟩⟩
theorem AG.R (p : AG D E h g) {a i : Nat} {v : Option Nat} (e : a < hn h → E a i = false) : AG D E h (pR g a i v) := ⟨p.1, fun x hx => ⟨(p.2 x hx).1, fun j => ⟨((p.2 x hx).2 j).1, fun d => by
  have z : ¬ (x = a ∧ j = i) := fun q => by
    rw [q.1, q.2] at d
    rw [e (q.1 ▸ hx)] at d
    cases d
  exact (if_neg z).trans (((p.2 x hx).2 j).2 d)⟩⟩⟩
theorem AG.J (p : AG D E h g) {a i : Nat} {v : Int64} : AG D E h (pJ g a i v) := ⟨p.1, p.2⟩
theorem AG.jj (p : AG D E h g) {a : Nat} {f : Nat → Int64} : AG D E h (rJ g a f) := ⟨p.1, p.2⟩
theorem AG.N (p : AG D E h g) {kd len sl : Nat} : AG D E h (pN g kd len sl) := ⟨Nat.le_succ_of_le p.1, fun x hx => by
  have z : ¬ x = hn g := fun q => absurd p.1 (by omega)
  obtain ⟨p1, p2⟩ := p.2 x hx
  refine ⟨(if_neg z).trans p1, fun j => ⟨fun d => ?_, fun d => ?_⟩⟩
  · exact (congrFun (if_neg z : up1 (hI g) (hn g) (fun _ => 0) x = hI g x) j).trans ((p2 j).1 d)
  · exact (congrFun (if_neg z : up1 (hR g) (hn g) (fun _ => none) x = hR g x) j).trans ((p2 j).2 d)⟩
theorem AG.r (p : AG D E h g) {a : Nat} {f : Nat → Int32} (e : ∀ j, D a j = false) : AG D E h (rI g a f) := ⟨p.1, fun x hx => ⟨(p.2 x hx).1, fun j => ⟨fun d => by
  have z : ¬ x = a := fun q => by
    rw [q, e j] at d
    cases d
  exact (congrFun (hI_rn g a f z) j).trans (((p.2 x hx).2 j).1 d), ((p.2 x hx).2 j).2⟩⟩⟩
theorem AG.S {S : Nat → Bool} (p : AG D E h g) (s : px_same S g q0) (e : ∀ a j, S a = true → D a j = false) : AG D E h q0 := by
  refine ⟨by rw [s.1.2.2.2.1]; exact p.1, fun x hx => ⟨by rw [s.1.2.2.1]; exact (p.2 x hx).1, fun j => ⟨fun d => ?_, fun d => ?_⟩⟩⟩
  · by_cases z : S x = false
    · rw [s.2 x z]; exact ((p.2 x hx).2 j).1 d
    · rw [e x j (by revert z; cases S x <;> simp)] at d; cases d
  · rw [s.1.2.1]; exact ((p.2 x hx).2 j).2 d
theorem AG.i (p : AG D E h g) {a j : Nat} (ha : a < hn h) (d : D a j = true) : hI g a j = hI h a j := ((p.2 a ha).2 j).1 d
theorem AG.rr (p : AG D E h g) {a j : Nat} (ha : a < hn h) (d : E a j = true) : hR g a j = hR h a j := ((p.2 a ha).2 j).2 d
theorem AG.kd (p : AG D E h g) {a : Nat} (ha : a < hn h) : hK g a = hK h a := (p.2 a ha).1
theorem AG.ob (p : AG D E h g) {a c : Nat} (o : px_ob h a c) : px_ob g a c := ⟨Nat.lt_of_lt_of_le o.1 p.1, by rw [p.kd o.1]; exact o.2⟩
theorem AG.ar (p : AG D E h g) {a c l : Nat} (o : px_ar h a c l) : px_ar g a c l := ⟨Nat.lt_of_lt_of_le o.1 p.1, by rw [p.kd o.1]; exact o.2.1, o.2.2⟩
end AGR
def D0 : Nat → Nat → Bool := fun _ _ => false
/-- the layout -/
def EL : Nat → Nat → Bool := fun a _ => decide (a < 78) && decide (a ≠ 1) && decide (a ≠ 13)
theorem px_L.ag {D : Nat → Nat → Bool} {h g : PH} (hL : px_L h) (p : AG D EL h g) : px_L g := by
  have h78 : ∀ {a}, a < px_NS → a < hn h := fun z => Nat.lt_of_lt_of_le z hL.1
  refine ⟨Nat.le_trans hL.1 p.1, fun k hk => by rw [p.kd (h78 hk)]; exact hL.2.1 k hk, fun k j hk ho => ?_⟩
  rw [p.rr (h78 hk) ?_]
  · exact hL.2.2 k j hk ho
  · have n1 : k ≠ 1 := fun z => by rw [z] at ho; exact absurd ho (by decide)
    have n13 : k ≠ 13 := fun z => by rw [z] at ho; exact absurd ho (by decide)
    unfold EL
    rw [decide_eq_true (show k < 78 from hk), decide_eq_true n1, decide_eq_true n13]
    rfl
/-- the clock -/
def CLK (h : PH) (t : Nat) : Prop := t < 720 ∧ hI h 0 11 = nI t ∧ hI h 36 26 = nI t
def DCk : Nat → Nat → Bool := fun a j => (a == 0 && j == 11) || (a == 36 && j == 26)
theorem CLK.ag {h g : PH} {t : Nat} (hL : px_L h) (c : CLK h t) (p : AG DCk D0 h g) : CLK g t := by
  have h78 : 78 ≤ hn h := hL.1
  exact ⟨c.1, (p.i (by omega) rfl).trans c.2.1, (p.i (by omega) rfl).trans c.2.2⟩
/-- the ledger -/
def ENT (h : PH) (ne : Nat) : Prop := ne ≤ 400 ∧ hI h 2 4 = nI ne ∧ hI h 36 32 = nI ne ∧ ∀ i, i < ne → (hI h 3 i = hI h 59 i ∧ hI h 4 i = hI h 60 i ∧ hI h 5 i = hI h 61 i ∧ hI h 6 i = hI h 62 i) ∧ ∃ j, j < 720 ∧ hI h 4 i = nI j
def DEn : Nat → Nat → Bool := fun a j => a == 3 || a == 4 || a == 5 || a == 6 || a == 59 || a == 60 || a == 61 || a == 62 || (a == 2 && j == 4) || (a == 36 && j == 32)
theorem ENT.ag {h g : PH} {ne : Nat} (hL : px_L h) (c : ENT h ne) (p : AG DEn D0 h g) : ENT g ne := by
  have h78 : 78 ≤ hn h := hL.1
  refine ⟨c.1, (p.i (by omega) rfl).trans c.2.1, (p.i (by omega) rfl).trans c.2.2.1, fun i hi => ?_⟩
  rw [p.i (show 3 < hn h by omega) rfl, p.i (show 4 < hn h by omega) rfl, p.i (show 5 < hn h by omega) rfl, p.i (show 6 < hn h by omega) rfl, p.i (show 59 < hn h by omega) rfl, p.i (show 60 < hn h by omega) rfl, p.i (show 61 < hn h by omega) rfl, p.i (show 62 < hn h by omega) rfl]
  exact c.2.2.2 i hi
/-- the coin -/
def COI (h : PH) : Prop := hI h 28 1 = hI h 36 48 ∧ ∀ i, i < 4 → hI h 29 i = hI h 63 i
def DCo : Nat → Nat → Bool := fun a j => a == 29 || a == 63 || (a == 28 && j == 1) || (a == 36 && j == 48)
theorem COI.ag {h g : PH} (hL : px_L h) (c : COI h) (p : AG DCo D0 h g) : COI g := by
  have h78 : 78 ≤ hn h := hL.1
  refine ⟨by rw [p.i (show 28 < hn h by omega) rfl, p.i (show 36 < hn h by omega) rfl]; exact c.1, fun i hi => ?_⟩
  rw [p.i (show 29 < hn h by omega) rfl, p.i (show 63 < hn h by omega) rfl]
  exact c.2 i hi
/-- the notices -/
def NTC (h : PH) (nn : Nat) : Prop := nn ≤ 60 ∧ hI h 23 4 = nI nn ∧ hI h 36 39 = nI nn ∧ (∀ i, hI h 27 i = hI h 68 i) ∧ ∀ i, i < nn → hI h 24 i = hI h 65 i ∧ hI h 25 i = hI h 67 i ∧ hI h 26 i = hI h 66 i
def DNt : Nat → Nat → Bool := fun a j => a == 24 || a == 25 || a == 26 || a == 27 || a == 65 || a == 66 || a == 67 || a == 68 || (a == 23 && j == 4) || (a == 36 && j == 39)
theorem NTC.ag {h g : PH} {nn : Nat} (hL : px_L h) (c : NTC h nn) (p : AG DNt D0 h g) : NTC g nn := by
  have h78 : 78 ≤ hn h := hL.1
  refine ⟨c.1, (p.i (by omega) rfl).trans c.2.1, (p.i (by omega) rfl).trans c.2.2.1, fun i => ?_, fun i hi => ?_⟩
  · rw [p.i (show 27 < hn h by omega) rfl, p.i (show 68 < hn h by omega) rfl]
    exact c.2.2.2.1 i
  · rw [p.i (show 24 < hn h by omega) rfl, p.i (show 25 < hn h by omega) rfl, p.i (show 26 < hn h by omega) rfl, p.i (show 65 < hn h by omega) rfl, p.i (show 66 < hn h by omega) rfl, p.i (show 67 < hn h by omega) rfl]
    exact c.2.2.2.2 i hi
/-- the tape -/
def TAP (h : PH) (n : Nat) : Prop := n ≤ 600 ∧ hI h 7 1 = nI n ∧ hI h 36 2 = nI n ∧ hI h 8 = hI h 37
def DTa : Nat → Nat → Bool := fun a j => a == 8 || a == 37 || (a == 7 && j == 1) || (a == 36 && j == 2)
theorem TAP.ag {h g : PH} {n : Nat} (hL : px_L h) (c : TAP h n) (p : AG DTa D0 h g) : TAP g n := by
  have h78 : 78 ≤ hn h := hL.1
  refine ⟨c.1, (p.i (by omega) rfl).trans c.2.1, (p.i (by omega) rfl).trans c.2.2.1, funext fun i => ?_⟩
  rw [p.i (show 8 < hn h by omega) rfl, p.i (show 37 < hn h by omega) rfl]
  exact congrFun c.2.2.2 i
/-- the holdings -/
def HLD (h : PH) (n pm : Nat) (P : Nat → Nat → Nat) (N : Nat → Nat) : Prop := (n ≤ 6 ∧ pm ≤ 6 ∧ hI h 30 3 = nI n ∧ hI h 36 49 = nI n ∧ hI h 30 5 = nI pm ∧ hI h 36 54 = nI pm) ∧ (∀ j, j < n → (∀ w, w < 6 → P j w ≤ 10000 ∧ hI h 73 (6 * j + w) = nI (P j w) ∧ hI h 31 j + nI w * hI h 32 j = nI (P j w))) ∧ (∀ w, w < 6 → N w ≤ 60000 ∧ hI h 33 w = nI (N w) ∧ hI h 74 w = nI (N w)) ∧ ∀ j, j < pm → hI h 34 j = hI h 76 j
def DHl : Nat → Nat → Bool := fun a j => a == 31 || a == 32 || a == 33 || a == 34 || a == 73 || a == 74 || a == 76 || (a == 30 && (j == 3 || j == 5)) || (a == 36 && (j == 49 || j == 54))
theorem HLD.ag {h g : PH} {n pm : Nat} {P : Nat → Nat → Nat} {N : Nat → Nat} (hL : px_L h) (c : HLD h n pm P N) (p : AG DHl D0 h g) : HLD g n pm P N := by
  have h78 : 78 ≤ hn h := hL.1
  obtain ⟨⟨c1, c2, c3, c4, c5, c6⟩, c7, c8, c9⟩ := c
  refine ⟨⟨c1, c2, (p.i (by omega) rfl).trans c3, (p.i (by omega) rfl).trans c4, (p.i (by omega) rfl).trans c5, (p.i (by omega) rfl).trans c6⟩, fun j hj w hw => ?_, fun w hw => ?_, fun j hj => ?_⟩
  · rw [p.i (show 73 < hn h by omega) rfl, p.i (show 31 < hn h by omega) rfl, p.i (show 32 < hn h by omega) rfl]
    exact c7 j hj w hw
  · rw [p.i (show 33 < hn h by omega) rfl, p.i (show 74 < hn h by omega) rfl]
    exact c8 w hw
  · rw [p.i (show 34 < hn h by omega) rfl, p.i (show 76 < hn h by omega) rfl]
    exact c9 j hj
/-- the words -/
def WRD (h : PH) : Prop := ∀ w, w < 9 → hJ h 41 w = wdL.getD w 0
