/-! ===== an account opened ===== -/
section OPEN
variable {h : PH} {m : Nat} {k w w2 : Int32}
def opH (h : PH) (m : Nat) (k w w2 : Int32) : PH := moAcc (th0 (accOpen h m k w)) m k w2
theorem op_n : hn (accOpen h m k w) = hn h + 3 ∧ hs (accOpen h m k w) = hs h + 88 := ⟨rfl, by show hs h + 8 + 40 + 40 = hs h + 88; omega⟩
theorem op_AG {D E : Nat → Nat → Bool} (h1 : D 0 10 = false) (h2 : D 36 0 = false) (h3 : D 55 m = false) (h4 : D 56 m = false) (h5 : D 57 m = false) (h6 : D 36 27 = false) (e1 : E 1 m = false) : AG D E h (opH h m k w w2) := by
  have nw : ¬ hn h < hn h := Nat.lt_irrefl _
  have a1 : AG D E h (accNew (pN h 0 0 8) (hn h) (hI h 0 10) k w (hI h 0 11)) := ((((((((AG.rf.N.I fun z => absurd z nw).I fun z => absurd z nw).I fun z => absurd z nw).I fun z => absurd z nw).N).R fun z => absurd z nw).N).R fun z => absurd z nw)
  exact (((((((a1.R fun _ => e1).I fun _ => h1).I fun _ => h2).I fun _ => h3).I fun _ => h4).I fun _ => h5).I fun _ => h6)
theorem op_lo (hL : px_L h) {x : Nat} (hx : x < 78) (j : Nat) (z : ¬ (x = 0 ∧ j = 10)) : hI (accOpen h m k w) x j = hI h x j := by
  have h78 : 78 ≤ hn h := hL.1
  have a : AG (fun a i => decide (a < 78) && !(decide (a = 0) && decide (i = 10))) D0 h (accOpen h m k w) := by
    have nw : ¬ hn h < hn h := Nat.lt_irrefl _
    exact ((((((((((AG.rf.N.I fun z => absurd z nw).I fun z => absurd z nw).I fun z => absurd z nw).I fun z => absurd z nw).N).R fun z => absurd z nw).N).R fun z => absurd z nw).R fun _ => rfl).I fun _ => rfl)
  exact a.i (by omega) (by simp; omega)
theorem op_new (hL : px_L h) (q : Nat) : hI (opH h m k w w2) (hn h) q = if q = 3 then hI h 0 11 else if q = 2 then w else if q = 1 then k else if q = 0 then hI h 0 10 else 0 := by
  have h78 : 78 ≤ hn h := hL.1
  have e1 : hI (opH h m k w w2) (hn h) q = hI (accOpen h m k w) (hn h) q := by
    unfold opH moAcc
    generalize hI (th0 (accOpen h m k w)) 36 26 = v
    unfold th0
    rw [gI, gI, gI, gI, gI, if_neg (by omega), if_neg (by omega), if_neg (by omega), if_neg (by omega), if_neg (by omega)]
  have e2 : hI (accOpen h m k w) (hn h) q = hI (accNew (pN h 0 0 8) (hn h) (hI h 0 10) k w (hI h 0 11)) (hn h) q := by
    unfold accOpen
    rw [gI, if_neg (by omega)]
    rfl
  have e3 : hI (accNew (pN h 0 0 8) (hn h) (hI h 0 10) k w (hI h 0 11)) (hn h) q = hI (pI (pI (pI (pI (pN h 0 0 8) (hn h) 0 (hI h 0 10)) (hn h) 1 k) (hn h) 2 w) (hn h) 3 (hI h 0 11)) (hn h) q := by
    show up1 (up1 (hI (pI (pI (pI (pI (pN h 0 0 8) (hn h) 0 (hI h 0 10)) (hn h) 1 k) (hn h) 2 w) (hn h) 3 (hI h 0 11))) (hn h + 1) (fun _ => 0)) (hn h + 2) (fun _ => 0) (hn h) q = _
    rw [up1_ne (by omega), up1_ne (by omega)]
  have e4 : hI (pN h 0 0 8) (hn h) q = 0 := congrFun (up1_s : up1 (hI h) (hn h) (fun _ => 0) (hn h) = fun _ => 0) q
  rw [e1, e2, e3, gI, gI, gI, gI, e4]
  simp only [true_and]
theorem op_acc (hL : px_L h) : px_acc (opH h m k w w2) (hn h) (hn h + 1) (hn h + 2) := by
  have h78 : 78 ≤ hn h := hL.1
  have kk : ∀ x, hK (opH h m k w w2) x = up1 (up1 (up1 (hK h) (hn h) (0, 0)) (hn h + 1) (20, 40)) (hn h + 2) (20, 40) x := fun x => rfl
  have rr : ∀ q, hR (opH h m k w w2) (hn h) q = if q = 5 then some (hn h + 2) else if q = 4 then some (hn h + 1) else none := fun q => by
    show up2 (up2 (up1 (up2 (up1 (up1 (hR h) (hn h) (fun _ => none)) (hn h + 1) (fun _ => none)) (hn h) 4 (some (hn h + 1))) (hn h + 2) (fun _ => none)) (hn h) 5 (some (hn h + 2))) 1 m (some (hn h)) (hn h) q = _
    have z : ¬ (hn h = 1 ∧ q = m) := by omega
    unfold up2
    rw [if_neg z, up1_ne (by omega)]
    simp only [true_and]
    rw [up1_ne (by omega), up1_s]
  refine ⟨⟨by show hn h < hn h + 3; omega, ?_⟩, ⟨?_, ?_⟩, ⟨⟨by show hn h + 1 < hn h + 3; omega, ?_, by omega⟩, ⟨by show hn h + 2 < hn h + 3; omega, ?_, by omega⟩⟩, by omega⟩
  · rw [kk, up1_ne (by omega), up1_ne (by omega), up1_s]
  · rw [rr]; rfl
  · rw [rr]; rfl
  · rw [kk, up1_ne (by omega), up1_s]
  · rw [kk, up1_s]
theorem op_row {x j : Nat} (hL : px_L h) (hx : x < 78) (z : ¬ (x = 0 ∧ j = 10)) : hI (opH h m k w w2) x j = if x = 36 ∧ j = 27 then nI (m + 1) else if x = 57 ∧ j = m then hI h 36 26 else if x = 56 ∧ j = m then w2 else if x = 55 ∧ j = m then k else if x = 36 ∧ j = 0 then 0 else hI h x j := by
  have e : hI (th0 (accOpen h m k w)) 36 26 = hI h 36 26 := by rw [th0_j (by decide), op_lo hL (by omega) 26 (by omega)]
  have f := op_lo (m := m) (k := k) (w := w) hL hx j z
  unfold opH moAcc
  rw [e]
  generalize hI h 36 26 = v
  unfold th0
  rw [gI, gI, gI, gI, gI, f]
end OPEN
