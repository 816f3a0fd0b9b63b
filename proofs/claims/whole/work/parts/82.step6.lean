/-! ===== an account opened ===== -/
section OPEN
variable {h : PH} {m : Nat} {k w w2 : Int32}
def opH (h : PH) (m : Nat) (k w w2 : Int32) : PH := moAcc (th0 (accOpen h m k w)) m k w2
theorem op_n : hn (accOpen h m k w) = hn h + 3 ∧ hs (accOpen h m k w) = hs h + 88 := ⟨rfl, by show hs h + 8 + 40 + 40 = hs h + 88; omega⟩
theorem op_AG {D E : Nat → Nat → Bool} (h1 : D 0 10 = false) (h2 : D 36 0 = false) (h3 : D 55 m = false) (h4 : D 56 m = false) (h5 : D 57 m = false) (h6 : D 36 27 = false) (e1 : E 1 m = false) : AG D E h (opH h m k w w2) := by
  have nw : ¬ hn h < hn h := Nat.lt_irrefl _
  have a1 : AG D E h (accNew (pN h 0 0 8) (hn h) (hI h 0 10) k w (hI h 0 11)) := ((((((((AG.rf.N.I fun z => absurd z nw).I fun z => absurd z nw).I fun z => absurd z nw).I fun z => absurd z nw).N).R fun z => absurd z nw).N).R fun z => absurd z nw)
  exact (((((((a1.R fun _ => e1).I fun _ => h1).I fun _ => h2).I fun _ => h3).I fun _ => h4).I fun _ => h5).I fun _ => h6)
theorem op_lo (hL : px_L h) {x : Nat} (hx : x < 78) (j : Nat) (z : ¬ (x = 0 ∧ j = 10)) : hI (accOpen h m k w) x j = hI h x j := by
  have h78 : 78 ≤ hn h := hL.1
  have a : AG (fun a i => decide (a < 78) && !(decide (a = 0) && decide (i = 10))) D0 h (accOpen h m k w) := by
    have nw : ¬ hn h < hn h := Nat.lt_irrefl _
    exact ((((((((((AG.rf.N.I fun z => absurd z nw).I fun z => absurd z nw).I fun z => absurd z nw).I fun z => absurd z nw).N).R fun z => absurd z nw).N).R fun z => absurd z nw).R fun _ => rfl).I fun _ => rfl)
  exact a.i (by omega) (by simp; omega)
theorem op_new (hL : px_L h) (q : Nat) : hI (opH h m k w w2) (hn h) q = if q = 3 then hI h 0 11 else if q = 2 then w else if q = 1 then k else if q = 0 then hI h 0 10 else 0 := by
  have h78 : 78 ≤ hn h := hL.1
  have e1 : hI (opH h m k w w2) (hn h) q = hI (accOpen h m k w) (hn h) q := by
    unfold opH moAcc
    generalize hI (th0 (accOpen h m k w)) 36 26 = v
    unfold th0
    rw [gI, gI, gI, gI, gI, if_neg (by omega), if_neg (by omega), if_neg (by omega), if_neg (by omega), if_neg (by omega)]
  have e2 : hI (accOpen h m k w) (hn h) q = hI (accNew (pN h 0 0 8) (hn h) (hI h 0 10) k w (hI h 0 11)) (hn h) q := by
    unfold accOpen
    rw [gI, if_neg (by omega)]
    rfl
  have e3 : hI (accNew (pN h 0 0 8) (hn h) (hI h 0 10) k w (hI h 0 11)) (hn h) q = hI (pI (pI (pI (pI (pN h 0 0 8) (hn h) 0 (hI h 0 10)) (hn h) 1 k) (hn h) 2 w) (hn h) 3 (hI h 0 11)) (hn h) q := by
    show up1 (up1 (hI (pI (pI (pI (pI (pN h 0 0 8) (hn h) 0 (hI h 0 10)) (hn h) 1 k) (hn h) 2 w) (hn h) 3 (hI h 0 11))) (hn h + 1) (fun _ => 0)) (hn h + 2) (fun _ => 0) (hn h) q = _
    rw [up1_ne (by omega), up1_ne (by omega)]
  have e4 : hI (pN h 0 0 8) (hn h) q = 0 := congrFun (up1_s : up1 (hI h) (hn h) (fun _ => 0) (hn h) = fun _ => 0) q
  rw [e1, e2, e3, gI, gI, gI, gI, e4]
  simp only [true_and]
theorem op_acc (hL : px_L h) : px_acc (opH h m k w w2) (hn h) (hn h + 1) (hn h + 2) := by
  have h78 : 78 ≤ hn h := hL.1
  have kk : ∀ x, hK (opH h m k w w2) x = up1 (up1 (up1 (hK h) (hn h) (0, 0)) (hn h + 1) (20, 40)) (hn h + 2) (20, 40) x := fun x => rfl
  have rr : ∀ q, hR (opH h m k w w2) (hn h) q = if q = 5 then some (hn h + 2) else if q = 4 then some (hn h + 1) else none := fun q => by
    show up2 (up2 (up1 (up2 (up1 (up1 (hR h) (hn h) (fun _ => none)) (hn h + 1) (fun _ => none)) (hn h) 4 (some (hn h + 1))) (hn h + 2) (fun _ => none)) (hn h) 5 (some (hn h + 2))) 1 m (some (hn h)) (hn h) q = _
    have z : ¬ (hn h = 1 ∧ q = m) := by omega
    unfold up2
    rw [if_neg z, up1_ne (by omega)]
    simp only [true_and]
    rw [up1_ne (by omega), up1_s]
  refine ⟨⟨by show hn h < hn h + 3; omega, ?_⟩, ⟨?_, ?_⟩, ⟨⟨by show hn h + 1 < hn h + 3; omega, ?_, by omega⟩, ⟨by show hn h + 2 < hn h + 3; omega, ?_, by omega⟩⟩, by omega⟩
  · rw [kk, up1_ne (by omega), up1_ne (by omega), up1_s]
  · rw [rr]; rfl
  · rw [rr]; rfl
  · rw [kk, up1_ne (by omega), up1_s]
  · rw [kk, up1_s]
theorem op_row {x j : Nat} (hL : px_L h) (hx : x < 78) (z : ¬ (x = 0 ∧ j = 10)) : hI (opH h m k w w2) x j = if x = 36 ∧ j = 27 then nI (m + 1) else if x = 57 ∧ j = m then hI h 36 26 else if x = 56 ∧ j = m then w2 else if x = 55 ∧ j = m then k else if x = 36 ∧ j = 0 then 0 else hI h x j := by
  have e : hI (th0 (accOpen h m k w)) 36 26 = hI h 36 26 := by rw [th0_j (by decide), op_lo hL (by omega) 26 (by omega)]
  have f := op_lo (m := m) (k := k) (w := w) hL hx j z
  unfold opH moAcc
  rw [e]
  generalize hI h 36 26 = v
  unfold th0
  rw [gI, gI, gI, gI, gI, f]
theorem op_IAT (hL : px_L h) {n t : Nat} {ra ro ln : Nat → Nat} {fr kf : Nat → Int32} {ev : Nat → (Nat → Int32) → Int32 → Int32} {nl : Nat → Nat} {W : Nat → Nat → (Nat → Int32) → Int32} (cC : CLK h t) (cA : ACC h m ra) (cX : TXS h n ro ln fr kf ev nl W) (cS : SEP m n ra ro) (hm : m < 20) (hw : (k = 1 ∨ k = 3) → w2 = w) : IAT (opH h m k w w2) := by
  have h78 : 78 ≤ hn h := hL.1
  obtain ⟨⟨m2, a1, a2, a4⟩, a3⟩ := cA
  have rl : ∀ j, j < m → ra j + 3 ≤ hn h ∧ 78 ≤ ra j := fun j hj => by
    have z := (a3 j hj).2.1
    have z2 := z.2.2.2.1.2.1
    exact ⟨by omega, z.1⟩
  have R : ∀ x j, x < 78 → ¬ (x = 0 ∧ j = 10) → hI (opH h m k w w2) x j = if x = 36 ∧ j = 27 then nI (m + 1) else if x = 57 ∧ j = m then hI h 36 26 else if x = 56 ∧ j = m then w2 else if x = 55 ∧ j = m then k else if x = 36 ∧ j = 0 then 0 else hI h x j := fun x j hx z => op_row hL hx z
  refine ⟨m + 1, n, fun j => if j = m then hn h else ra j, ro, ln, fr, kf, ev, nl, W, ⟨⟨hm, rfl, ?_, fun j hj => ⟨?_, ?_⟩⟩, fun j hj => ?_⟩, cX.ag hL (op_AG rfl rfl rfl rfl rfl rfl rfl), fun j q hj hq hjq => ?_, fun j q hj hq => ?_⟩
  · rw [R 36 27 (by omega) (by omega), if_pos ⟨rfl, rfl⟩]
  · rw [R 58 j (by omega) (by omega), if_neg (by omega), if_neg (by omega), if_neg (by omega), if_neg (by omega), if_neg (by omega)]; exact (a4 j (by omega)).1
  · rw [R 69 j (by omega) (by omega), if_neg (by omega), if_neg (by omega), if_neg (by omega), if_neg (by omega), if_neg (by omega)]; exact (a4 j (by omega)).2
  · by_cases e : j = m
    · subst e
      have v55 : hI (opH h j k w w2) 55 j = k := by rw [R 55 j (by omega) (by omega)]; simp
      have v56 : hI (opH h j k w w2) 56 j = w2 := by rw [R 56 j (by omega) (by omega)]; simp
      have v57 : hI (opH h j k w w2) 57 j = hI h 36 26 := by rw [R 57 j (by omega) (by omega)]; simp
      simp only [if_true]
      refine ⟨if_pos ⟨rfl, rfl⟩, ⟨h78, op_acc hL⟩, ⟨?_, ?_, fun z => ?_, ?_, ?_⟩, 0, by omega, ?_, ?_, fun q hq => absurd hq (Nat.not_lt_zero q)⟩
      · exact (op_new hL 0).trans a1
      · exact (op_new hL 1).trans v55.symm
      · rw [v55] at z
        exact (op_new hL 2).trans ((hw z).symm.trans v56.symm)
      · exact (op_new hL 3).trans (cC.2.1.trans (cC.2.2.symm.trans v57.symm))
      · rw [op_new hL, R 58 j (by omega) (by omega), if_neg (show ¬ (58 = 36 ∧ j = 27) by omega), if_neg (show ¬ (58 = 57 ∧ j = j) by omega), if_neg (show ¬ (58 = 56 ∧ j = j) by omega), if_neg (show ¬ (58 = 55 ∧ j = j) by omega), if_neg (show ¬ (58 = 36 ∧ j = 0) by omega), (a4 j (Nat.le_refl j)).1]; rfl
      · rw [op_new hL]; rfl
      · rw [R 69 j (by omega) (by omega), if_neg (by omega), if_neg (by omega), if_neg (by omega), if_neg (by omega), if_neg (by omega)]; exact (a4 j (Nat.le_refl j)).2
    · have hj' : j < m := by omega
      obtain ⟨z1, z2⟩ := a3 j hj'
      obtain ⟨l1, l2⟩ := rl j hj'
      simp only [if_neg e]
      have pE : AG D0 (EAc m) h (opH h m k w w2) := op_AG rfl rfl rfl rfl rfl rfl (by unfold EAc; simp)
      refine ⟨(pE.rr (by omega) (by unfold EAc; simp; omega)).trans z1, z2.ag hL (op_AG (DA1_no l2 (by omega) (by omega)) (DA1_no l2 (by omega) (by omega)) ?_ ?_ ?_ (DA1_no l2 (by omega) (by omega)) ?_)⟩
      · unfold DA1; simp; omega
      · unfold DA1; simp; omega
      · unfold DA1; simp; omega
      · unfold EA1; simp; omega
  · simp only
    have l1 := rl j
    have l2 := rl q
    by_cases e : j = m
    · by_cases f : q = m
      · omega
      · rw [if_pos e, if_neg f]; have := (l2 (by omega)).1; omega
    · by_cases f : q = m
      · rw [if_neg e, if_pos f]; have := (l1 (by omega)).1; omega
      · rw [if_neg e, if_neg f]; exact cS.1 j q (by omega) (by omega) hjq
  · simp only
    by_cases e : j = m
    · rw [if_pos e]
      have z : ro q + 1 < hn h := (cX.1.2.2 q hq).1.2.2.2.1
      omega
    · rw [if_neg e]; exact cS.2 j q (by omega) hq
theorem op_WRD (hL : px_L h) (w0 : WRD h) : WRD (opH h m k w w2) := fun x hx => by
  have h78 : 78 ≤ hn h := hL.1
  show up1 (up1 (up1 (hJ h) (hn h) (fun _ => 0)) (hn h + 1) (fun _ => 0)) (hn h + 2) (fun _ => 0) 41 x = _
  rw [up1_ne (by omega), up1_ne (by omega), up1_ne (by omega)]
  exact w0 x hx
theorem s_account (i : INV h) (k w : Int32) : ST M_X11_account M_X12_account [.int k, .int w] h := by
  obtain ⟨hL, wd, ⟨t, ne, nn, nt, cC, cE, cO, cN, cT⟩, hH, ⟨m, n', ra, ro, ln, fr, kf, ev, nl, W, cA, cX, cS⟩⟩ := id i
  obtain ⟨⟨m2, a1, a2, a4⟩, a3⟩ := id cA
  have hl : hI h 0 10 < 20 ↔ ¬ hI h 36 27 = 20 := by
    rw [a1, a2]
    constructor
    · intro z y
      rw [y] at z
      exact absurd z (by decide)
    · intro z
      exact nI_lt (b := 20) (Nat.lt_of_le_of_ne m2 fun y => z (by rw [y]; rfl)) (by decide)
  by_cases hv : ¬ k < 0 ∧ ¬ 3 < k ∧ hI h 0 10 < 20 ∧ ((k = 1 ∨ k = 3) → (¬ w < 0 ∧ ¬ 719 < w))
  · have hm : m < 20 := (nI_ltI (b := 20) (by omega) (by decide)).mp (by have := hv.2.2.1; rw [a1] at this; exact this)
    have e27 : hI (accOpen h m k w) 36 27 = hI h 36 27 := op_lo hL (by omega) 27 (by omega)
    have hL1 : px_L (accOpen h m k w) := (hL.ag (D := D0) (op_AG (m := m) (k := k) (w := w) (w2 := 0) rfl rfl rfl rfl rfl rfl rfl) : px_L (opH h m k w 0))
    have M2 := c_X12_account (h := accOpen h m k w) (k := k) (w := w) hL1 (m := m) (e27.trans a2) m2 ⟨hv.1, hv.2.1, hv.2.2.2, by rw [e27]; exact hl.mp hv.2.2.1⟩
    refine ST.mm (dn := 3) (ds := 88) (c_X11_account hL a1 m2 hv) op_n.1 op_n.2 ⟨by omega, by omega⟩ hL1 M2 (h2 := opH h m k w (if k = 1 ∨ k = 3 then w else 0)) rfl rfl ?_
    exact i.iat (E := D0) (op_AG rfl rfl rfl rfl rfl rfl rfl) (hL.ag (D := D0) (op_AG rfl rfl rfl rfl rfl rfl rfl)) (op_WRD hL wd) (op_IAT hL cC cA cX cS hm (fun z => if_pos z))
  · exact ST.m0 (n_X11_account hL hv) rfl rfl hL (n_X12_account hL (fun q => hv ⟨q.1, q.2.1, hl.mpr q.2.2.2, q.2.2.1⟩)) rfl rfl (i.all (AG.rf.I fun _ => rfl) wd)
end OPEN
