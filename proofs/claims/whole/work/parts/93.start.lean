/-! ===== the heap at the law's first step ===== -/
def Z0 (h : PH) : Prop := (∀ a j, hI h a j = 0) ∧ ∀ k j, 64 ≤ j → hR h k j = none
theorem Z0.N {h : PH} (z : Z0 h) {kd len sl : Nat} : Z0 (pN h kd len sl) := by
  refine ⟨fun a j => ?_, fun k j hj => ?_⟩
  · show up1 (hI h) (hn h) (fun _ => 0) a j = 0
    unfold up1
    by_cases e : a = hn h
    · rw [if_pos e]
    · rw [if_neg e]; exact z.1 a j
  · show up1 (hR h) (hn h) (fun _ => none) k j = none
    unfold up1
    by_cases e : k = hn h
    · rw [if_pos e]
    · rw [if_neg e]; exact z.2 k j hj
theorem Z0.R {h : PH} (z : Z0 h) {a i : Nat} {v : Option Nat} (hi : i < 64) : Z0 (pR h a i v) := ⟨z.1, fun k j hj => (if_neg (by omega) : up2 (hR h) a i v k j = hR h k j).trans (z.2 k j hj)⟩
theorem Z0.J {h : PH} (z : Z0 h) {a i : Nat} {v : Int64} : Z0 (pJ h a i v) := z
theorem Z0.F {r : Nat} : ∀ (l : List (Nat × Nat × Nat)) {h : PH}, Z0 h → (∀ q ∈ l, q.2.2 < 64) → Z0 (mkF r l h)
  | [], _, z, _ => z
  | (kd, len, j) :: t, h, z, hq => Z0.F t (h := pR (pN h kd len len) r j (some (hn h))) (z.N.R (hq _ List.mem_cons_self)) (fun q h => hq q (List.mem_cons_of_mem _ h))
theorem Z0_C : Z0 eC := by
  have z01 : Z0 e01 := Z0.N ⟨fun _ _ => rfl, fun _ _ _ => rfl⟩
  have z03 : Z0 e03 := z01.N.R (by decide)
  have z06 : Z0 e06 := (Z0.F _ z03.N (by decide)).R (by decide)
  have z09 : Z0 e09 := (Z0.F _ z06.N (by decide)).R (by decide)
  have z12 : Z0 e12 := (Z0.F _ z09.N (by decide)).R (by decide)
  have z15 : Z0 e15 := (Z0.F _ z12.N (by decide)).R (by decide)
  have z18 : Z0 e18 := (Z0.F _ z15.N (by decide)).R (by decide)
  have z21 : Z0 e21 := ((((Z0.F _ z18.N (by decide)).R (by decide)).R (by decide)).R (by decide)).R (by decide)
  have z24 : Z0 e24 := (Z0.F _ z21.N (by decide)).R (by decide)
  have z27 : Z0 e27 := (Z0.F _ z24.N (by decide)).R (by decide)
  exact (Z0.F _ z27.N (by decide)).R (by decide)
theorem Z0_O : Z0 eO := by
  have zm : Z0 (moH 36 eM0) := Z0.R (Z0.N (Z0.F _ Z0_C.N (by decide))) (by decide)
  exact Z0.N (Z0.F _ zm (by decide))
theorem rt64 {k : Nat} (j : Nat) (hk : k = 0 ∨ k = 2 ∨ k = 7 ∨ k = 9 ∨ k = 12 ∨ k = 14 ∨ k = 21 ∨ k = 23 ∨ k = 28 ∨ k = 30 ∨ k = 36) : px_RT k (j + 64) = none := by
  rcases hk with e | e | e | e | e | e | e | e | e | e | e <;> subst e <;> rfl
theorem ob_k : ∀ k, k < 78 → (px_KT k).1 < 20 → (k = 0 ∨ k = 2 ∨ k = 7 ∨ k = 9 ∨ k = 12 ∨ k = 14 ∨ k = 21 ∨ k = 23 ∨ k = 28 ∨ k = 30 ∨ k = 36) := by decide +kernel
theorem eO_R : ∀ k ∈ [0, 2, 7, 9, 12, 14, 21, 23, 28, 30, 36], ∀ j, j < 64 → hR eO k j = px_RT k j := by decide +kernel
theorem eO_L : px_L eO := by
  refine ⟨by rw [eO_n]; decide, eO_K, fun k j hk ho => ?_⟩
  have hc := ob_k k hk ho
  by_cases hj : j < 64
  · refine eO_R k ?_ j hj
    rcases hc with e | e | e | e | e | e | e | e | e | e | e <;> subst e <;> decide
  · have e := rt64 (j - 64) hc
    rw [show j - 64 + 64 = j by omega] at e
    rw [e]
    exact Z0_O.2 k j (by omega)
theorem eO_W : ∀ w, w < 9 → hJ eO 41 w = wdL.getD w 0 := by decide +kernel
theorem eO_I : INV eO := by
  have z := Z0_O.1
  refine ⟨eO_L, eO_W, ⟨0, 0, 0, 0, ⟨by omega, z _ _, z _ _⟩, ⟨by omega, z _ _, z _ _, fun i hi => absurd hi (by omega)⟩, ⟨by rw [z, z], fun i _ => by rw [z, z]⟩, ⟨by omega, z _ _, z _ _, fun i => by rw [z, z], fun i hi => absurd hi (by omega)⟩, ⟨by omega, z _ _, z _ _, funext fun i => by rw [z, z]⟩⟩, ⟨0, 0, fun _ _ => 0, fun _ => 0, ⟨by omega, by omega, z _ _, z _ _, z _ _, z _ _⟩, fun j hj => absurd hj (by omega), fun w _ => ⟨Nat.zero_le _, z _ _, z _ _⟩, fun j hj => absurd hj (by omega)⟩, ⟨0, 0, fun _ => 0, fun _ => 0, fun _ => 0, fun _ => 0, fun _ => 0, fun _ _ _ => 0, fun _ => 0, fun _ _ _ => 0, ⟨⟨by omega, z _ _, z _ _, fun j _ => ⟨z _ _, z _ _⟩⟩, fun j hj => absurd hj (by omega)⟩, ⟨⟨by omega, z _ _, fun i hi => absurd hi (by omega)⟩, ⟨by omega, z _ _, fun i hi => absurd hi (by omega)⟩, fun i hi => absurd hi (by omega), fun j => Or.inl (z _ _), 0, z _ _⟩, ⟨fun j k hj => absurd hj (by omega), fun j k hj => absurd hj (by omega)⟩⟩⟩
theorem eO_s : hs eO ≤ 40000 := by decide +kernel
