/-! ===== holdings ===== -/
theorem b64 {x : Int} (h1 : -(2 ^ 62) ≤ x) (h2 : x < 2 ^ 62) : x.bmod (2 ^ 64) = x := Int.bmod_eq_of_le (by omega) (by omega)
theorem i32_b (p : Int32) : -(2 ^ 31) ≤ p.toInt ∧ p.toInt < 2 ^ 31 := ⟨p.le_toInt, p.toInt_lt⟩
theorem qM_i {p c : Int32} {w : Nat} (hw : w ≤ 5) : (qM p c w).toInt = p.toInt + c.toInt * w := by
  have p1 := i32_b p
  have c1 := i32_b c
  unfold qM
  rw [Int64.toInt_add, Int64.toInt_mul, Int32.toInt_toInt64, Int32.toInt_toInt64, Int32.toInt_toInt64, nI_toInt (by omega)]
  have e : w = 0 ∨ w = 1 ∨ w = 2 ∨ w = 3 ∨ w = 4 ∨ w = 5 := by omega
  rcases e with e | e | e | e | e | e <;> subst e <;> rw [b64 (x := c.toInt * _) (by omega) (by omega), b64 (by omega) (by omega)]
theorem q5_i {p c : Int32} : (p.toInt64 + 5 * c.toInt64).toInt = p.toInt + 5 * c.toInt := by
  have p1 := i32_b p
  have c1 := i32_b c
  rw [Int64.toInt_add, Int64.toInt_mul, Int32.toInt_toInt64, Int32.toInt_toInt64, show (5 : Int64).toInt = 5 by decide]
  rw [b64 (x := 5 * c.toInt) (by omega) (by omega), b64 (by omega) (by omega)]
theorem prc_i {p c : Int32} {w N : Nat} (e : p.toInt + c.toInt * w = N) : p + nI w * c = nI N := by
  have e1 : p + nI w * c = Int32.ofInt (p.toInt + c.toInt * w) := by
    rw [Int32.ofInt_add, Int32.ofInt_mul, Int32.ofInt_toInt, Int32.ofInt_toInt, Int32.mul_comm]
    rfl
  rw [e1, e]
  rfl
theorem hldP_i {x : Int64} : hldP x ↔ 1 ≤ x.toInt ∧ x.toInt ≤ 10000 := by
  unfold hldP
  rw [lg_lt, lg_gt, Int64.lt_iff_toInt_lt, Int64.lt_iff_toInt_lt, show (1 : Int64).toInt = 1 by decide, show (10000 : Int64).toInt = 10000 by decide]
  omega
theorem good_E {p c : Int32} : (hldP p.toInt64 ∧ hldP (p.toInt64 + 5 * c.toInt64)) ↔ ∀ w, w < 6 → hldP (qM p c w) := by
  constructor
  · intro ⟨h1, h2⟩ w hw
    rw [hldP_i, Int32.toInt_toInt64] at h1
    rw [hldP_i, q5_i] at h2
    rw [hldP_i, qM_i (by omega)]
    have e : w = 0 ∨ w = 1 ∨ w = 2 ∨ w = 3 ∨ w = 4 ∨ w = 5 := by omega
    rcases e with e | e | e | e | e | e <;> subst e <;> omega
  · intro h
    have h0 := h 0 (by omega)
    have h5 := h 5 (by omega)
    rw [hldP_i, qM_i (by omega)] at h0 h5
    rw [hldP_i, hldP_i, q5_i, Int32.toInt_toInt64]
    omega
theorem gdM_i {h : PH} {p c : Int32} : ∀ k, gdM h p c k = true ↔ ¬ 6 ≤ hI h 36 49 ∧ ∀ w, w < k → hldP (qM p c w)
  | 0 => by
    show (!decide (6 ≤ hI h 36 49)) = true ↔ _
    rw [Bool.not_eq_true', decide_eq_false_iff_not]
    exact ⟨fun z => ⟨z, fun w hw => absurd hw (by omega)⟩, fun z => z.1⟩
  | k + 1 => by
    show (gdM h p c k && (!decide (lg_cmp (qM p c k) 1 < 0) && !decide (0 < lg_cmp (qM p c k) 10000))) = true ↔ _
    rw [Bool.and_eq_true, Bool.and_eq_true, Bool.not_eq_true', Bool.not_eq_true', decide_eq_false_iff_not, decide_eq_false_iff_not, gdM_i k]
    constructor
    · intro ⟨⟨a, b⟩, c1⟩
      refine ⟨a, fun w hw => ?_⟩
      by_cases e : w = k
      · rw [e]; exact c1
      · exact b w (by omega)
    · intro ⟨a, b⟩
      exact ⟨⟨a, fun w hw => b w (by omega)⟩, b k (by omega)⟩
theorem prcM_73 {h : PH} {n : Nat} {p c : Int32} (i : Nat) : ∀ k, hI (prcM h n p c k) 73 i = if 6 * n ≤ i ∧ i < 6 * n + k then p + c * nI (i - 6 * n) else hI h 73 i
  | 0 => by rw [if_neg (by omega)]; rfl
  | k + 1 => by
    show hI (pI (prcM h n p c k) 73 (6 * n + k) (p + c * nI k)) 73 i = _
    rw [gI, prcM_73 i k]
    by_cases e : i = 6 * n + k
    · rw [if_pos ⟨rfl, e⟩, if_pos (by omega), e, Nat.add_sub_cancel_left]
    · rw [if_neg (fun z => e z.2)]
      by_cases e2 : 6 * n ≤ i ∧ i < 6 * n + k
      · rw [if_pos e2, if_pos (by omega)]
      · rw [if_neg e2, if_neg (by omega)]
theorem AG.prc {D E : Nat → Nat → Bool} {h g : PH} (q : AG D E h g) {n : Nat} {p c : Int32} (d : ∀ i, D 73 i = false) : ∀ k, AG D E h (prcM g n p c k)
  | 0 => q
  | k + 1 => (AG.prc q d k).I fun _ => d _
section HOLD
variable {h : PH}
theorem hl_AG {D E : Nat → Nat → Bool} {n : Nat} {p c : Int32} (x1 : D 31 n = false) (x2 : D 32 n = false) (x3 : D 30 3 = false) (x4 : D 36 0 = false) (x5 : ∀ i, D 73 i = false) (x6 : D 36 49 = false) : AG D E h (hldM (hldAdd h n p c) n p c) := AG.I (AG.prc ((((AG.rf.I fun _ => x1).I fun _ => x2).I fun _ => x3).I fun _ => x4) x5 6) fun _ => x6
theorem hl_J {n : Nat} {p c : Int32} : hJ (hldM (hldAdd h n p c) n p c) = hJ h := by
  have e := prcM_2 (th0 (hldAdd h n p c)) n p c 6
  unfold hldM
  show (prcM (th0 (hldAdd h n p c)) n p c 6).2.1 = _
  rw [e]
  rfl
theorem hl_73 {n : Nat} {p c : Int32} (i : Nat) : hI (hldM (hldAdd h n p c) n p c) 73 i = if 6 * n ≤ i ∧ i < 6 * n + 6 then p + c * nI (i - 6 * n) else hI h 73 i := by
  unfold hldM
  rw [gI, if_neg (by omega), prcM_73]
  unfold th0 hldAdd
  rw [gI, gI, gI, gI, if_neg (show ¬ (73 = 36 ∧ i = 0) by omega), if_neg (show ¬ (73 = 30 ∧ i = 3) by omega), if_neg (show ¬ (73 = 32 ∧ i = n) by omega), if_neg (show ¬ (73 = 31 ∧ i = n) by omega)]
theorem hl_o {n : Nat} {p c : Int32} {x : Nat} (h1 : x ≠ 73) (h2 : x ≠ 36) (i : Nat) : hI (hldM (hldAdd h n p c) n p c) x i = if x = 30 ∧ i = 3 then nI (n + 1) else if x = 32 ∧ i = n then c else if x = 31 ∧ i = n then p else hI h x i := by
  unfold hldM
  rw [gI, if_neg (fun z => h2 z.1), prcM_I h1 6]
  unfold th0 hldAdd
  rw [gI, gI, gI, gI, if_neg (fun z => h2 z.1)]
theorem hl_36 {n : Nat} {p c : Int32} {k : Nat} (z2 : k ≠ 0) : hI (hldM (hldAdd h n p c) n p c) 36 k = if k = 49 then nI (n + 1) else hI h 36 k := by
  unfold hldM
  rw [gI, prcM_I (by decide) 6]
  unfold th0 hldAdd
  rw [gI, gI, gI, gI, if_neg (show ¬ (36 = 36 ∧ k = 0) from fun z => z2 z.2), if_neg (show ¬ (36 = 30 ∧ k = 3) by omega), if_neg (show ¬ (36 = 32 ∧ k = n) by omega), if_neg (show ¬ (36 = 31 ∧ k = n) by omega)]
  by_cases e : k = 49
  · rw [if_pos ⟨rfl, e⟩, if_pos e]
  · rw [if_neg (fun z => e z.2), if_neg e]
theorem hl_H {n pm : Nat} {P : Nat → Nat → Nat} {N : Nat → Nat} {p c : Int32} (hH : HLD h n pm P N) (hn6 : n < 6) (hg : ∀ w, w < 6 → hldP (qM p c w)) : HLD (hldM (hldAdd h n p c) n p c) (n + 1) pm (fun j w => if j = n then (p.toInt + c.toInt * w).toNat else P j w) N := by
  obtain ⟨⟨n6, pm6, k1, k2, k3, k4⟩, kp, kn, kl⟩ := hH
  refine ⟨⟨by omega, pm6, ?_, ?_, ?_, ?_⟩, fun j hj w' hw => ?_, fun w' hw => ?_, fun j hj => ?_⟩
  · rw [hl_o (by decide) (by decide), if_pos ⟨rfl, rfl⟩]
  · rw [hl_36 (by decide), if_pos rfl]
  · rw [hl_o (by decide) (by decide), if_neg (by omega), if_neg (by omega), if_neg (by omega)]; exact k3
  · rw [hl_36 (by decide), if_neg (by decide)]; exact k4
  · have e31 : hI (hldM (hldAdd h n p c) n p c) 31 j = if j = n then p else hI h 31 j := by
      rw [hl_o (by decide) (by decide), if_neg (by omega), if_neg (by omega)]
      by_cases e : j = n
      · rw [if_pos ⟨rfl, e⟩, if_pos e]
      · rw [if_neg (fun z => e z.2), if_neg e]
    have e32 : hI (hldM (hldAdd h n p c) n p c) 32 j = if j = n then c else hI h 32 j := by
      rw [hl_o (by decide) (by decide), if_neg (by omega)]
      by_cases e : j = n
      · rw [if_pos ⟨rfl, e⟩, if_pos e]
      · rw [if_neg (fun z => e z.2), if_neg e, if_neg (by omega)]
    rw [hl_73, e31, e32]
    by_cases e : j = n
    · subst e
      have q := hg w' hw
      rw [hldP_i, qM_i (by omega)] at q
      have q2 : p.toInt + c.toInt * w' = ((p.toInt + c.toInt * w').toNat : Nat) := by omega
      have q3 := prc_i q2
      have q4 : (p.toInt + c.toInt * w').toNat ≤ 10000 := by omega
      simp only [if_true]
      rw [if_pos (by omega), Nat.add_sub_cancel_left]
      exact ⟨q4, by rw [Int32.mul_comm]; exact q3, q3⟩
    · have q := kp j (by omega) w' hw
      simp only [if_neg e]
      rw [if_neg (by omega)]
      exact q
  · rw [hl_o (by decide) (by decide), hl_o (by decide) (by decide), if_neg (by omega), if_neg (by omega), if_neg (by omega), if_neg (by omega), if_neg (by omega), if_neg (by omega)]; exact kn w' hw
  · rw [hl_o (by decide) (by decide), hl_o (by decide) (by decide), if_neg (by omega), if_neg (by omega), if_neg (by omega), if_neg (by omega), if_neg (by omega), if_neg (by omega)]; exact kl j hj
theorem hl_neg {n : Nat} {p c : Int32} (k1 : hI h 30 3 = nI n) (k2 : hI h 36 49 = nI n) (hv : ¬ (¬ 6 ≤ hI h 30 3 ∧ hldP p.toInt64 ∧ hldP (p.toInt64 + 5 * c.toInt64))) : ¬ gdM (th0 h) p c 6 = true := fun z => hv (by
  obtain ⟨z1, z2⟩ := (gdM_i 6).mp z
  have e : hI (th0 h) 36 49 = hI h 36 49 := by
    unfold th0
    rw [gI, if_neg (by omega)]
  rw [e, k2, ← k1] at z1
  exact ⟨z1, good_E.mpr z2⟩)
theorem hl_pos {n : Nat} {p c : Int32} (k1 : hI h 30 3 = nI n) (k2 : hI h 36 49 = nI n) (h6 : ¬ 6 ≤ hI h 30 3) (hg : ∀ w, w < 6 → hldP (qM p c w)) : gdM (th0 (hldAdd h n p c)) p c 6 = true := by
  rw [gdM_i 6]
  refine ⟨?_, hg⟩
  unfold th0 hldAdd
  rw [gI, gI, gI, gI, if_neg (by omega), if_neg (by omega), if_neg (by omega), if_neg (by omega), k2, ← k1]
  exact h6
theorem hl_n {n : Nat} {p c : Int32} : hn (hldM (hldAdd h n p c) n p c) = hn (hldAdd h n p c) ∧ hs (hldM (hldAdd h n p c) n p c) = hs (hldAdd h n p c) := by
  obtain ⟨a, b⟩ := prcM_n (h := th0 (hldAdd h n p c)) (n := n) (p := p) (c := c) 6
  unfold hldM
  rw [hn_I, hs_I, a, b]
  unfold th0
  rw [hn_I, hs_I]
  exact ⟨rfl, rfl⟩
theorem hl_yes (i : INV h) {n pm : Nat} {P : Nat → Nat → Nat} {N : Nat → Nat} (hH : HLD h n pm P N) {p c : Int32} (hn6 : n < 6) (hv : ¬ 6 ≤ hI h 30 3 ∧ hldP p.toInt64 ∧ hldP (p.toInt64 + 5 * c.toInt64)) : INV (hldM (hldAdd h n p c) n p c) := i.ihl (hl_AG rfl rfl rfl rfl (fun _ => rfl) rfl) (fun w' hw => by rw [hl_J]; exact i.2.1 w' hw) ⟨n + 1, pm, _, N, hl_H hH hn6 (good_E.mp hv.2)⟩
theorem hl_st (i : INV h) {n pm : Nat} {P : Nat → Nat → Nat} {N : Nat → Nat} (hH : HLD h n pm P N) {p c : Int32} (hn6 : n < 6) (hv : ¬ 6 ≤ hI h 30 3 ∧ hldP p.toInt64 ∧ hldP (p.toInt64 + 5 * c.toInt64)) : ST M_X11_holding M_X12_holding [.int p, .int c] h := by
  have k2' : hI (hldAdd h n p c) 36 49 = nI n := by
    unfold hldAdd
    rw [gI, gI, gI, if_neg (by omega), if_neg (by omega), if_neg (by omega)]; exact hH.1.2.2.2.1
  have m1 := c_X11_holding i.1 hH.1.2.2.1 hH.1.1 hv
  have hL1 : px_L (hldAdd h n p c) := i.1
  have m2 := c_X12_holding (h := hldAdd h n p c) (p := p) (c := c) hL1 (n := n) k2' hn6 (hl_pos hH.1.2.2.1 hH.1.2.2.2.1 hv.1 (good_E.mp hv.2))
  exact ST.m0 m1 rfl rfl hL1 m2 hl_n.1 hl_n.2 (hl_yes i hH hn6 hv)
theorem hl_6 {n : Nat} (k1 : hI h 30 3 = nI n) (n6 : n ≤ 6) (hv : ¬ 6 ≤ hI h 30 3) : n < 6 := by
  refine Nat.lt_of_le_of_ne n6 (fun e => hv ?_)
  rw [k1, e]
  decide
theorem s_holding (i : INV h) (p c : Int32) : ST M_X11_holding M_X12_holding [.int p, .int c] h := by
  obtain ⟨hL, w, hC, ⟨n, pm, P, N, hH⟩, hA⟩ := id i
  by_cases hv : ¬ 6 ≤ hI h 30 3 ∧ hldP p.toInt64 ∧ hldP (p.toInt64 + 5 * c.toInt64)
  · exact hl_st i hH (hl_6 hH.1.2.2.1 hH.1.1 hv.1) hv
  · exact ST.m0 (n_X11_holding hL hv) rfl rfl hL (n_X12_holding hL (hl_neg hH.1.2.2.1 hH.1.2.2.2.1 hv)) rfl rfl (i.all (AG.rf.I fun _ => rfl) w)
end HOLD
