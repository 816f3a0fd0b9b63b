/-! ===== holdings ===== -/
theorem b64 {x : Int} (h1 : -(2 ^ 62) ≤ x) (h2 : x < 2 ^ 62) : x.bmod (2 ^ 64) = x := Int.bmod_eq_of_le (by omega) (by omega)
theorem i32_b (p : Int32) : -(2 ^ 31) ≤ p.toInt ∧ p.toInt < 2 ^ 31 := ⟨p.le_toInt, p.toInt_lt⟩
theorem qM_i {p c : Int32} {w : Nat} (hw : w ≤ 5) : (qM p c w).toInt = p.toInt + c.toInt * w := by
  have p1 := i32_b p
  have c1 := i32_b c
  unfold qM
  rw [Int64.toInt_add, Int64.toInt_mul, Int32.toInt_toInt64, Int32.toInt_toInt64, Int32.toInt_toInt64, nI_toInt (by omega)]
  have e : w = 0 ∨ w = 1 ∨ w = 2 ∨ w = 3 ∨ w = 4 ∨ w = 5 := by omega
  rcases e with e | e | e | e | e | e <;> subst e <;> rw [b64 (x := c.toInt * _) (by omega) (by omega), b64 (by omega) (by omega)]
theorem q5_i {p c : Int32} : (p.toInt64 + 5 * c.toInt64).toInt = p.toInt + 5 * c.toInt := by
  have p1 := i32_b p
  have c1 := i32_b c
  rw [Int64.toInt_add, Int64.toInt_mul, Int32.toInt_toInt64, Int32.toInt_toInt64, show (5 : Int64).toInt = 5 by decide]
  rw [b64 (x := 5 * c.toInt) (by omega) (by omega), b64 (by omega) (by omega)]
theorem prc_i {p c : Int32} {w N : Nat} (e : p.toInt + c.toInt * w = N) : p + nI w * c = nI N := by
  have e1 : p + nI w * c = Int32.ofInt (p.toInt + c.toInt * w) := by
    rw [Int32.ofInt_add, Int32.ofInt_mul, Int32.ofInt_toInt, Int32.ofInt_toInt, Int32.mul_comm]
    rfl
  rw [e1, e]
  rfl
theorem hldP_i {x : Int64} : hldP x ↔ 1 ≤ x.toInt ∧ x.toInt ≤ 10000 := by
  unfold hldP
  rw [lg_lt, lg_gt, Int64.lt_iff_toInt_lt, Int64.lt_iff_toInt_lt, show (1 : Int64).toInt = 1 by decide, show (10000 : Int64).toInt = 10000 by decide]
  omega
theorem good_E {p c : Int32} : (hldP p.toInt64 ∧ hldP (p.toInt64 + 5 * c.toInt64)) ↔ ∀ w, w < 6 → hldP (qM p c w) := by
  constructor
  · intro ⟨h1, h2⟩ w hw
    rw [hldP_i, Int32.toInt_toInt64] at h1
    rw [hldP_i, q5_i] at h2
    rw [hldP_i, qM_i (by omega)]
    have e : w = 0 ∨ w = 1 ∨ w = 2 ∨ w = 3 ∨ w = 4 ∨ w = 5 := by omega
    rcases e with e | e | e | e | e | e <;> subst e <;> omega
  · intro h
    have h0 := h 0 (by omega)
    have h5 := h 5 (by omega)
    rw [hldP_i, qM_i (by omega)] at h0 h5
    rw [hldP_i, hldP_i, q5_i, Int32.toInt_toInt64]
    omega
theorem gdM_i {h : PH} {p c : Int32} : ∀ k, gdM h p c k = true ↔ ¬ 6 ≤ hI h 36 49 ∧ ∀ w, w < k → hldP (qM p c w)
  | 0 => by
    show (!decide (6 ≤ hI h 36 49)) = true ↔ _
    rw [Bool.not_eq_true', decide_eq_false_iff_not]
    exact ⟨fun z => ⟨z, fun w hw => absurd hw (by omega)⟩, fun z => z.1⟩
  | k + 1 => by
    show (gdM h p c k && (!decide (lg_cmp (qM p c k) 1 < 0) && !decide (0 < lg_cmp (qM p c k) 10000))) = true ↔ _
    rw [Bool.and_eq_true, Bool.and_eq_true, Bool.not_eq_true', Bool.not_eq_true', decide_eq_false_iff_not, decide_eq_false_iff_not, gdM_i k]
    constructor
    · intro ⟨⟨a, b⟩, c1⟩
      refine ⟨a, fun w hw => ?_⟩
      by_cases e : w = k
      · rw [e]; exact c1
      · exact b w (by omega)
    · intro ⟨a, b⟩
      exact ⟨⟨a, fun w hw => b w (by omega)⟩, b k (by omega)⟩
theorem prcM_73 {h : PH} {n : Nat} {p c : Int32} (i : Nat) : ∀ k, hI (prcM h n p c k) 73 i = if 6 * n ≤ i ∧ i < 6 * n + k then p + c * nI (i - 6 * n) else hI h 73 i
  | 0 => by rw [if_neg (by omega)]; rfl
  | k + 1 => by
    show hI (pI (prcM h n p c k) 73 (6 * n + k) (p + c * nI k)) 73 i = _
    rw [gI, prcM_73 i k]
    by_cases e : i = 6 * n + k
    · rw [if_pos ⟨rfl, e⟩, if_pos (by omega), e, Nat.add_sub_cancel_left]
    · rw [if_neg (fun z => e z.2)]
      by_cases e2 : 6 * n ≤ i ∧ i < 6 * n + k
      · rw [if_pos e2, if_pos (by omega)]
      · rw [if_neg e2, if_neg (by omega)]
theorem AG.prc {D E : Nat → Nat → Bool} {h g : PH} (q : AG D E h g) {n : Nat} {p c : Int32} (d : ∀ i, D 73 i = false) : ∀ k, AG D E h (prcM g n p c k)
  | 0 => q
  | k + 1 => (AG.prc q d k).I fun _ => d _
section HOLD
variable {h : PH}
theorem s_holding (i : INV h) (p c : Int32) : ST M_X11_holding M_X12_holding [.int p, .int c] h := by
  obtain ⟨hL, w, hC, ⟨n, pm, P, N, ⟨⟨n6, pm6, k1, k2, k3, k4⟩, kp, kn, kl⟩⟩, hA⟩ := id i
  by_cases hv : ¬ 6 ≤ hI h 30 3 ∧ hldP p.toInt64 ∧ hldP (p.toInt64 + 5 * c.toInt64)
  · have hn6 : n < 6 := Nat.lt_of_not_le fun z => hv.1 (by rw [k1]; exact nI_le (a := 6) z (by omega))
    have hg := good_E.mp hv.2
    have m1 := c_X11_holding hL k1 n6 hv
    have m2 := c_X12_holding (h := hldAdd h n p c) (p := p) (c := c) hL (n := n) k2 hn6 ((gdM_i 6).mpr ⟨by
      show ¬ 6 ≤ hI h 36 49
      rw [k2, ← k1]; exact hv.1, hg⟩)
    have A : ∀ D E, D 31 n = false → D 32 n = false → D 30 3 = false → D 36 0 = false → (∀ i, D 73 i = false) → D 36 49 = false → AG D E h (hldM (hldAdd h n p c) n p c) := fun D E x1 x2 x3 x4 x5 x6 => AG.I (AG.prc ((((AG.rf.I fun _ => x1).I fun _ => x2).I fun _ => x3).I fun _ => x4) x5 6) fun _ => x6
    have ej : hJ (hldM (hldAdd h n p c) n p c) = hJ h := by
      have e := prcM_2 (th0 (hldAdd h n p c)) n p c 6
      show hJ (prcM (th0 (hldAdd h n p c)) n p c 6) = _
      unfold hJ
      rw [e]
      rfl
    have en := prcM_n (h := th0 (hldAdd h n p c)) (n := n) (p := p) (c := c) 6
    refine ST.m0 m1 rfl rfl hL m2 en.1 en.2 (i.ihl (A _ _ rfl rfl rfl rfl (fun _ => rfl) rfl) (fun w' hw => by rw [ej]; exact w w' hw) ⟨n + 1, pm, fun j w => if j = n then (p.toInt + c.toInt * w).toNat else P j w, N, ?_⟩)
    have r : ∀ x, x ≠ 73 → x ≠ 36 → hI (hldM (hldAdd h n p c) n p c) x = hI (hldAdd h n p c) x := fun x h1 h2 => (hI_pI h2).trans ((prcM_I h1 6).trans (hI_pI h2))
    have r36 : ∀ k, k ≠ 49 → k ≠ 0 → hI (hldM (hldAdd h n p c) n p c) 36 k = hI h 36 k := fun k z1 z2 => by
      show hI (pI (prcM (th0 (hldAdd h n p c)) n p c 6) 36 49 (nI (n + 1))) 36 k = _
      rw [gI, if_neg (fun q => z1 q.2), prcM_I (by decide) 6]
      show hI (pI (hldAdd h n p c) 36 0 0) 36 k = _
      rw [gI, if_neg (fun q => z2 q.2)]
      rfl
    refine ⟨⟨by omega, pm6, ?_, ?_, ?_, ?_⟩, fun j hj w' hw => ?_, fun w' hw => ?_, fun j hj => ?_⟩
    · rw [r 30 (by decide) (by decide)]; rfl
    · show hI (pI (prcM (th0 (hldAdd h n p c)) n p c 6) 36 49 (nI (n + 1))) 36 49 = _
      rw [gI, if_pos ⟨rfl, rfl⟩]
    · rw [r 30 (by decide) (by decide)]; exact k3
    · rw [r36 54 (by decide) (by decide)]; exact k4
    · have e73 : hI (hldM (hldAdd h n p c) n p c) 73 (6 * j + w') = if 6 * n ≤ 6 * j + w' ∧ 6 * j + w' < 6 * n + 6 then p + c * nI (6 * j + w' - 6 * n) else hI h 73 (6 * j + w') := by
        show hI (pI (prcM (th0 (hldAdd h n p c)) n p c 6) 36 49 (nI (n + 1))) 73 (6 * j + w') = _
        rw [gI, if_neg (by omega), prcM_73]
        rfl
      have e31 : hI (hldM (hldAdd h n p c) n p c) 31 j = if j = n then p else hI h 31 j := by
        rw [r 31 (by decide) (by decide)]
        unfold hldAdd
        rw [gI, gI, gI, if_neg (by omega), if_neg (by omega)]
        by_cases e : j = n
        · rw [if_pos ⟨rfl, e⟩, if_pos e]
        · rw [if_neg (fun z => e z.2), if_neg e]
      have e32 : hI (hldM (hldAdd h n p c) n p c) 32 j = if j = n then c else hI h 32 j := by
        rw [r 32 (by decide) (by decide)]
        unfold hldAdd
        rw [gI, gI, gI, if_neg (by omega)]
        by_cases e : j = n
        · rw [if_pos ⟨rfl, e⟩, if_pos e]
        · rw [if_neg (fun z => e z.2), if_neg e, if_neg (by omega)]
      rw [e73, e31, e32]
      by_cases e : j = n
      · subst e
        have q := hg w' hw
        rw [hldP_i, qM_i (by omega)] at q
        have q2 : p.toInt + c.toInt * w' = ((p.toInt + c.toInt * w').toNat : Nat) := by omega
        have q3 := prc_i q2
        rw [if_pos rfl, if_pos rfl, if_pos (by omega), Nat.add_sub_cancel_left]
        refine ⟨?_, ?_, ?_⟩
        · show (if j = j then (p.toInt + c.toInt * w').toNat else P j w') ≤ 10000
          rw [if_pos rfl]; omega
        · show _ = nI (if j = j then (p.toInt + c.toInt * w').toNat else P j w')
          rw [if_pos rfl, Int32.mul_comm]; exact q3
        · show _ = nI (if j = j then (p.toInt + c.toInt * w').toNat else P j w')
          rw [if_pos rfl]; exact q3
      · rw [if_neg e, if_neg e, if_neg (by omega)]
        have q := kp j (by omega) w' hw
        show (if j = n then (p.toInt + c.toInt * w').toNat else P j w') ≤ 10000 ∧ hI h 73 (6 * j + w') = nI (if j = n then (p.toInt + c.toInt * w').toNat else P j w') ∧ hI h 31 j + nI w' * hI h 32 j = nI (if j = n then (p.toInt + c.toInt * w').toNat else P j w')
        rw [if_neg e]; exact q
    · rw [r 33 (by decide) (by decide), r 74 (by decide) (by decide)]; exact kn w' hw
    · rw [r 34 (by decide) (by decide), r 76 (by decide) (by decide)]; exact kl j hj
  · have hv' : ¬ gdM (th0 h) p c 6 = true := fun z => hv (by
      obtain ⟨z1, z2⟩ := (gdM_i 6).mp z
      refine ⟨?_, good_E.mpr z2⟩
      have z3 : ¬ 6 ≤ hI h 36 49 := z1
      rw [k1, ← k2]; exact z3)
    exact ST.m0 (n_X11_holding hL hv) rfl rfl hL (n_X12_holding hL hv') rfl rfl (i.all (AG.rf.I fun _ => rfl) w)
end HOLD
