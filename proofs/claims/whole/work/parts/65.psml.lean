/-! ===== small things: pairs, signatures, what was drawn, notices, holdings ===== -/
def cN (p : Nat → Bool) : Nat → Nat
  | 0 => 0
  | n + 1 => cN p n + (if p n = true then 1 else 0)
theorem cN_le (p : Nat → Bool) : ∀ n, cN p n ≤ n
  | 0 => Nat.le_refl _
  | n + 1 => by
    have := cN_le p n
    show cN p n + (if p n = true then 1 else 0) ≤ n + 1
    split <;> omega
theorem cN_cg {p q : Nat → Bool} : ∀ {n : Nat}, (∀ i, i < n → p i = q i) → cN p n = cN q n
  | 0, _ => rfl
  | n + 1, h => by
    show cN p n + _ = cN q n + _
    rw [cN_cg fun i hi => h i (Nat.lt_succ_of_lt hi), h n (Nat.lt_succ_self n)]
theorem cN_upd {p q : Nat → Bool} {i0 : Nat} (hp : p i0 = true) (hq : q i0 = false) (h : ∀ i, i ≠ i0 → q i = p i) : ∀ {n : Nat}, i0 < n → cN q n + 1 = cN p n
  | n + 1, hi => by
    show cN q n + (if q n = true then 1 else 0) + 1 = cN p n + (if p n = true then 1 else 0)
    rcases Nat.lt_or_eq_of_le (Nat.le_of_lt_succ hi) with w | w
    · have ih := cN_upd hp hq h w
      rw [h n (by omega)]
      omega
    · subst w
      rw [cN_cg (p := q) (q := p) fun i hi2 => h i (by omega), hp, hq]
      simp
theorem fstP_spec (p : Nat → Bool) : ∀ (k i : Nat), (fstP p i k < i + k → p (fstP p i k) = true) ∧ (¬ fstP p i k < i + k → ∀ j, i ≤ j → j < i + k → p j = false)
  | 0, i => ⟨fun h => absurd h (Nat.lt_irrefl _), fun _ j h1 h2 => absurd h2 (by omega)⟩
  | k + 1, i => by
    have ih := fstP_spec p k (i + 1)
    unfold fstP
    by_cases h : p i = true
    · rw [if_pos h]
      exact ⟨fun _ => h, fun w => absurd (by omega) w⟩
    · rw [if_neg h]
      refine ⟨fun w => ih.1 (by omega), fun w j h1 h2 => ?_⟩
      rcases Nat.lt_or_eq_of_le h1 with z | z
      · exact ih.2 (by omega) j z (by omega)
      · subst z
        cases q : p i
        · rfl
        · exact absurd q h
theorem cN_zero {p : Nat → Bool} : ∀ {n : Nat}, (∀ i, i < n → p i = false) → cN p n = 0
  | 0, _ => rfl
  | n + 1, h => by
    show cN p n + _ = 0
    rw [cN_zero fun i hi => h i (Nat.lt_succ_of_lt hi), h n (Nat.lt_succ_self n)]
    rfl
theorem fstP_pos (p : Nat → Bool) (n : Nat) : fstP p 0 n < n ↔ 0 < cN p n := by
  have sp := fstP_spec p n 0
  rw [Nat.zero_add] at sp
  constructor
  · intro h
    have e := cN_upd (p := p) (q := fun i => if i = fstP p 0 n then false else p i) (sp.1 h) (by simp) (fun i hi => by simp [hi]) h
    omega
  · intro h
    refine Classical.byContradiction fun w => ?_
    rw [cN_zero fun i hi => sp.2 w i (Nat.zero_le _) hi] at h
    omega
def c0F (of dy sm : Nat → Int32) (a D S : Int32) (n : Nat) : Nat := cN (fun i => decide (of i = a) && (decide (dy i = D) && decide (sm i = S))) n
def lkF (bD bS : Nat → Int32) (D S : Int32) (j : Nat) : Nat := cN (fun i => decide (bD i = D) && decide (bS i = S)) j
theorem cnt3_N (f g s : Nat → Int32) (a D S : Int32) : ∀ n, cnt3 f g s a D S n = nI (c0F f g s a D S n)
  | 0 => rfl
  | n + 1 => by
    show cnt3 f g s a D S n + _ = nI (cN _ n + _)
    rw [cnt3_N f g s a D S n, ← nI_add]
    show _ = nI (c0F f g s a D S n) + _
    congr 1
    by_cases h : f n = a ∧ g n = D ∧ s n = S
    · rw [if_pos h, if_pos (by simp [h.1, h.2.1, h.2.2])]; rfl
    · rw [if_neg h, if_neg (by simp only [Bool.and_eq_true, decide_eq_true_eq]; exact h)]; rfl
theorem cnt2_N (f g : Nat → Int32) (D S : Int32) : ∀ n, cnt2 f g D S n = nI (lkF f g D S n)
  | 0 => rfl
  | n + 1 => by
    show cnt2 f g D S n + _ = nI (cN _ n + _)
    rw [cnt2_N f g D S n, ← nI_add]
    show _ = nI (lkF f g D S n) + _
    congr 1
    by_cases h : f n = D ∧ g n = S
    · rw [if_pos h, if_pos (by simp [h.1, h.2])]; rfl
    · rw [if_neg h, if_neg (by simp only [Bool.and_eq_true, decide_eq_true_eq]; exact h)]; rfl
theorem grd_prs {of dy sm bD bS old : Nat → Int32} {a : Int32} {n : Nat} (hn : n ≤ 400) : ∀ c, c ≤ 40 → (∀ D S, cN (seekP dy sm (grd dy sm bD bS (prD of a old n) n c).1 D S) n = c0F of dy sm a D S n - lkF bD bS D S c) ∧ nI (grd dy sm bD bS (prD of a old n) n c).2 = prs bD bS of dy sm a n c
  | 0, _ => by
    refine ⟨fun D S => ?_, rfl⟩
    show cN (seekP dy sm (prD of a old n) D S) n = c0F of dy sm a D S n - 0
    refine cN_cg fun i hi => ?_
    unfold seekP prD
    simp only [hi, if_true]
    congr 1
    by_cases h : of i = a <;> simp [h]
  | c + 1, hc => by
    obtain ⟨ih1, ih2⟩ := grd_prs (of := of) (dy := dy) (sm := sm) (bD := bD) (bS := bS) (old := old) (a := a) hn c (by omega)
    have hl1 : lkF bD bS (bD c) (bS c) (c + 1) = lkF bD bS (bD c) (bS c) c + 1 := by
      show cN _ c + _ = _
      simp; rfl
    have hle : c0F of dy sm a (bD c) (bS c) n ≤ n := cN_le _ _
    have hle2 : lkF bD bS (bD c) (bS c) c ≤ c := cN_le _ _
    have hcond : fstP (seekP dy sm (grd dy sm bD bS (prD of a old n) n c).1 (bD c) (bS c)) 0 n < n ↔ lkF bD bS (bD c) (bS c) c < c0F of dy sm a (bD c) (bS c) n := by
      rw [fstP_pos, ih1]; omega
    have hprs : prs bD bS of dy sm a n (c + 1) = prs bD bS of dy sm a n c + (if lkF bD bS (bD c) (bS c) c < c0F of dy sm a (bD c) (bS c) n then 1 else 0) := by
      show prs bD bS of dy sm a n c + (if ¬ cnt3 of dy sm a (bD c) (bS c) n < cnt2 bD bS (bD c) (bS c) (c + 1) then 1 else 0) = _
      rw [cnt3_N, cnt2_N, hl1]
      congr 1
      by_cases h : lkF bD bS (bD c) (bS c) c < c0F of dy sm a (bD c) (bS c) n
      · rw [if_pos h, if_pos (nI_nlt (by omega) (by omega))]
      · rw [if_neg h, if_neg (fun w => w (nI_lt (by omega) (by omega)))]
    rw [hprs]
    unfold grd
    by_cases h : fstP (seekP dy sm (grd dy sm bD bS (prD of a old n) n c).1 (bD c) (bS c)) 0 n < n
    · rw [if_pos h, if_pos (hcond.mp h)]
      refine ⟨fun D S => ?_, ?_⟩
      · have hs := (fstP_spec (seekP dy sm (grd dy sm bD bS (prD of a old n) n c).1 (bD c) (bS c)) n 0).1 (by omega)
        generalize fstP (seekP dy sm (grd dy sm bD bS (prD of a old n) n c).1 (bD c) (bS c)) 0 n = i0 at h hs ⊢
        have hs2 := hs
        unfold seekP at hs2
        simp only [Bool.and_eq_true, decide_eq_true_eq] at hs2
        obtain ⟨w1, w2, w3⟩ := hs2
        by_cases hDS : D = bD c ∧ S = bS c
        · obtain ⟨rfl, rfl⟩ := hDS
          have e := cN_upd (p := seekP dy sm (grd dy sm bD bS (prD of a old n) n c).1 (bD c) (bS c)) (q := seekP dy sm (fun i => if i = i0 then 1 else (grd dy sm bD bS (prD of a old n) n c).1 i) (bD c) (bS c)) hs (by unfold seekP; simp) (fun i hi => by unfold seekP; simp [hi]) h
          rw [ih1] at e
          show cN (seekP dy sm (fun i => if i = i0 then 1 else (grd dy sm bD bS (prD of a old n) n c).1 i) (bD c) (bS c)) n = _
          rw [hl1]
          omega
        · have hl2 : lkF bD bS D S (c + 1) = lkF bD bS D S c := by
            show cN _ c + (if _ then 1 else 0) = _
            rw [if_neg (by simp only [Bool.and_eq_true, decide_eq_true_eq]; rintro ⟨z1, z2⟩; exact hDS ⟨z1.symm, z2.symm⟩)]
            rfl
          rw [hl2, ← ih1]
          refine cN_cg fun i hi => ?_
          unfold seekP
          show (decide ((if i = i0 then (1 : Int32) else (grd dy sm bD bS (prD of a old n) n c).1 i) = 0) && (decide (dy i = D) && decide (sm i = S))) = _
          by_cases hi0 : i = i0
          · subst hi0
            have hz : (decide (dy i = D) && decide (sm i = S)) = false := by
              rw [w2, w3]
              simp only [Bool.and_eq_false_iff, decide_eq_false_iff_not]
              by_cases z : bD c = D
              · exact Or.inr fun z2 => hDS ⟨z.symm, z2.symm⟩
              · exact Or.inl z
            rw [hz, Bool.and_false, Bool.and_false]
          · rw [if_neg hi0]
      · show nI ((grd dy sm bD bS (prD of a old n) n c).2 + 1) = _
        rw [← nI_s1, ih2]
    · rw [if_neg h, if_neg (fun w => h (hcond.mpr w))]
      refine ⟨fun D S => ?_, by rw [ih2]; exact (Int32.add_zero _).symm⟩
      rw [ih1]
      by_cases hDS : D = bD c ∧ S = bS c
      · obtain ⟨rfl, rfl⟩ := hDS
        rw [hl1]
        have := hcond.mpr
        omega
      · have hl2 : lkF bD bS D S (c + 1) = lkF bD bS D S c := by
          show cN _ c + (if _ then 1 else 0) = _
          rw [if_neg (by simp only [Bool.and_eq_true, decide_eq_true_eq]; rintro ⟨z1, z2⟩; exact hDS ⟨z1.symm, z2.symm⟩)]
          rfl
        rw [hl2]
theorem cnt3_cg {f g s f' g' s' : Nat → Int32} {a D S : Int32} : ∀ {n : Nat}, (∀ i, i < n → f i = f' i ∧ g i = g' i ∧ s i = s' i) → cnt3 f g s a D S n = cnt3 f' g' s' a D S n
  | 0, _ => rfl
  | n + 1, h => by
    obtain ⟨h1, h2, h3⟩ := h n (Nat.lt_succ_self n)
    show cnt3 f g s a D S n + _ = cnt3 f' g' s' a D S n + _
    rw [cnt3_cg fun i hi => h i (Nat.lt_succ_of_lt hi), h1, h2, h3]
theorem cnt2_cg {f g f' g' : Nat → Int32} {D S : Int32} : ∀ {n : Nat}, (∀ i, i < n → f i = f' i ∧ g i = g' i) → cnt2 f g D S n = cnt2 f' g' D S n
  | 0, _ => rfl
  | n + 1, h => by
    obtain ⟨h1, h2⟩ := h n (Nat.lt_succ_self n)
    show cnt2 f g D S n + _ = cnt2 f' g' D S n + _
    rw [cnt2_cg fun i hi => h i (Nat.lt_succ_of_lt hi), h1, h2]
theorem cnt1_cg {f f' : Nat → Int32} {a : Int32} : ∀ {n : Nat}, (∀ i, i < n → f i = f' i) → cnt1 f a n = cnt1 f' a n
  | 0, _ => rfl
  | n + 1, h => by
    show cnt1 f a n + _ = cnt1 f' a n + _
    rw [cnt1_cg fun i hi => h i (Nat.lt_succ_of_lt hi), h n (Nat.lt_succ_self n)]
theorem prs_cg {f g f' g' A D S A' D' S' : Nat → Int32} {a : Int32} {m : Nat} (hm : ∀ i, i < m → A i = A' i ∧ D i = D' i ∧ S i = S' i) : ∀ {c : Nat}, (∀ i, i < c → f i = f' i ∧ g i = g' i) → prs f g A D S a m c = prs f' g' A' D' S' a m c
  | 0, _ => rfl
  | c + 1, h => by
    obtain ⟨h1, h2⟩ := h c (Nat.lt_succ_self c)
    show prs f g A D S a m c + _ = prs f' g' A' D' S' a m c + _
    rw [prs_cg hm fun i hi => h i (Nat.lt_succ_of_lt hi), cnt3_cg hm, cnt2_cg h, h1, h2]
theorem drw_N {f g s f' g' s' : Nat → Int32} {a d : Int32} : ∀ {n : Nat}, (∀ i, i < n → f i = f' i ∧ g i = g' i ∧ s i = s' i) → drw f g s a d n = drN f' g' s' a d n
  | 0, _ => rfl
  | n + 1, h => by
    obtain ⟨h1, h2, h3⟩ := h n (Nat.lt_succ_self n)
    show (if f n = a ∧ g n = d ∧ ¬ 0 ≤ s n then drw f g s a d n - s n else drw f g s a d n) = drN f' g' s' a d n + _
    rw [drw_N fun i hi => h i (Nat.lt_succ_of_lt hi), h1, h2, h3]
    by_cases c : f' n = a ∧ g' n = d ∧ ¬ 0 ≤ s' n
    · rw [if_pos c, if_pos c, Int32.sub_eq_add_neg]
    · rw [if_neg c, if_neg c, Int32.add_zero]
theorem eTo_cg {f g s k f' g' s' k' : Nat → Int32} {a d q : Int32} : ∀ {n : Nat}, (∀ i, i < n → (f i = f' i ∧ g i = g' i ∧ s i = s' i) ∧ k i = k' i) → eTo f g s k a d q n = eTo f' g' s' k' a d q n
  | 0, _ => rfl
  | n + 1, h => by
    obtain ⟨⟨h1, h2, h3⟩, h4⟩ := h n (Nat.lt_succ_self n)
    show eTo f g s k a d q n + _ = eTo f' g' s' k' a d q n + _
    rw [eTo_cg fun i hi => h i (Nat.lt_succ_of_lt hi), h1, h2, h3, h4]
theorem fst1_cgB {p p' : Nat → Prop} {q : ∀ i, Decidable (p i)} {q' : ∀ i, Decidable (p' i)} : ∀ (k i : Nat), (∀ j, i ≤ j → j < i + k → (p j ↔ p' j)) → fst1 p q i k = fst1 p' q' i k
  | 0, _, _ => rfl
  | k + 1, i, h => by
    unfold fst1
    by_cases g : p i
    · rw [if_pos g, if_pos ((h i (Nat.le_refl _) (by omega)).mp g)]
    · rw [if_neg g, if_neg fun w => g ((h i (Nat.le_refl _) (by omega)).mpr w)]
      exact fst1_cgB k (i + 1) (fun j h1 h2 => h j (by omega) (by omega))
theorem fst1_v {p : Nat → Prop} {q : ∀ i, Decidable (p i)} : ∀ (k i : Nat), fst1 p q i k = -1 ∨ ∃ j, i ≤ j ∧ j < i + k ∧ fst1 p q i k = nI j
  | 0, _ => Or.inl rfl
  | k + 1, i => by
    unfold fst1
    by_cases g : p i
    · rw [if_pos g]; exact Or.inr ⟨i, Nat.le_refl _, by omega, rfl⟩
    · rw [if_neg g]
      rcases fst1_v (p := p) (q := q) k (i + 1) with h | ⟨j, h1, h2, h3⟩
      · exact Or.inl h
      · exact Or.inr ⟨j, by omega, by omega, h3⟩
/-! signatures: the last bits -/
theorem bvx {u v : BitVec 32} (h : ∀ i, i < 32 → u.getLsbD i = v.getLsbD i) : u = v := BitVec.eq_of_getLsbD_eq h
theorem m1E : ∀ i, i < 32 → (1#32).getLsbD i = decide (i = 0) := by decide
theorem m7E : ∀ i, i < 32 → (7#32).getLsbD i = decide (i < 3) := by decide
theorem m8E : ∀ i, i < 32 → (8#32).getLsbD i = decide (i = 3) := by decide
def bw (b : Bool) (w : Int32) : Int32 := if b then w else 0
theorem and1 (s : Int32) : s &&& 1 = bw (s.toBitVec.getLsbD 0) 1 := by
  apply Int32.toBitVec_inj.mp
  refine bvx fun i hi => ?_
  rw [Int32.toBitVec_and]
  show (s.toBitVec &&& 1#32).getLsbD i = _
  rw [BitVec.getLsbD_and, m1E i hi]
  unfold bw
  by_cases h0 : i = 0
  · subst h0
    cases s.toBitVec.getLsbD 0 <;> simp <;> rfl
  · cases s.toBitVec.getLsbD 0
    · simp [h0]
    · simp only [h0, decide_false, Bool.and_false, if_true]
      show false = (1#32).getLsbD i
      rw [m1E i hi]; simp [h0]
theorem and8 (s : Int32) : s &&& 8 = bw (s.toBitVec.getLsbD 3) 8 := by
  apply Int32.toBitVec_inj.mp
  refine bvx fun i hi => ?_
  rw [Int32.toBitVec_and]
  show (s.toBitVec &&& 8#32).getLsbD i = _
  rw [BitVec.getLsbD_and, m8E i hi]
  unfold bw
  by_cases h0 : i = 3
  · subst h0
    cases s.toBitVec.getLsbD 3 <;> simp <;> rfl
  · cases s.toBitVec.getLsbD 3
    · simp [h0]
    · simp only [h0, decide_false, Bool.and_false, if_true]
      show false = (8#32).getLsbD i
      rw [m8E i hi]; simp [h0]
theorem c7E : ∀ (a b c : Bool) (i : Nat), i < 32 → (bw a 1 + bw b 2 + bw c 4).toBitVec.getLsbD i = (if i = 0 then a else if i = 1 then b else if i = 2 then c else false) := by decide +kernel
theorem and7 (s : Int32) : s &&& 7 = bw (s.toBitVec.getLsbD 0) 1 + bw (s.toBitVec.getLsbD 1) 2 + bw (s.toBitVec.getLsbD 2) 4 := by
  apply Int32.toBitVec_inj.mp
  refine bvx fun i hi => ?_
  rw [c7E _ _ _ i hi, Int32.toBitVec_and]
  show (s.toBitVec &&& 7#32).getLsbD i = _
  rw [BitVec.getLsbD_and, m7E i hi]
  by_cases h0 : i = 0
  · subst h0; simp
  by_cases h1 : i = 1
  · subst h1; simp
  by_cases h2 : i = 2
  · subst h2; simp
  rw [if_neg h0, if_neg h1, if_neg h2]
  simp; omega
theorem shr1 (s k : Int32) (j : Nat) (hk : (k.toBitVec.smod 32).toNat = j) (hj : j < 31) : s >>> k &&& 1 = bw (s.toBitVec.getLsbD j) 1 := by
  rw [and1]
  congr 1
  rw [Int32.toBitVec_shiftRight]
  unfold BitVec.sshiftRight'
  rw [hk, BitVec.getLsbD_sshiftRight]
  simp; omega
theorem clubE : ∀ a b c : Bool, (bcF (bw a 1 + bw b 2 + bw c 4) < 2 ↔ bw a 1 + bw b 1 + bw c 1 < 2) := by decide +kernel
theorem sgn_E {kd wi wi' td s : Int32} (h : kd = 1 → wi = wi') : sgnC kd wi td s ↔ sgnM kd wi' td s := by
  unfold sgnC sgnM
  by_cases h2 : kd = 2
  · have h1 : ¬ kd = 1 := fun q => by rw [q] at h2; exact absurd h2 (by decide)
    rw [if_pos h2, if_neg (fun q => h1 q.1), if_pos h2, and7, and1, shr1 s _ 1 (by decide) (by decide), shr1 s _ 2 (by decide) (by decide), clubE]
  · rw [if_neg h2]
    by_cases h1 : kd = 1 ∧ ¬ wi ≤ td
    · rw [if_pos h1, if_pos ⟨h1.1, by rw [← h h1.1]; exact h1.2⟩, and8]
      cases s.toBitVec.getLsbD 3 <;> decide
    · rw [if_neg h1, if_neg (fun q => h1 ⟨q.1, by rw [h q.1]; exact q.2⟩), if_neg h2, and1]
      cases s.toBitVec.getLsbD 0 <;> decide
