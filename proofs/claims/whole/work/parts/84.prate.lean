/-! ===== rates and limits are one ===== -/
section PRATE
variable {h : PH} {n : Nat} {ro ln : Nat → Nat} {fr kf : Nat → Int32} {ev : Nat → (Nat → Int32) → Int32 → Int32} {nl : Nat → Nat} {W : Nat → Nat → (Nat → Int32) → Int32}
theorem rate_E (cX : TXS h n ro ln fr kf ev nl W) (kd op kn p : Int32) (m : Nat) : rtF ev fr kf n kd op kn m p = rtC (rfM h nl W n (fctD kd op p (nI (30 * m + 29))) 0 (nI (30 * m + 29)) kn) := by
  unfold rtF rfM
  rw [frcP_cg (fun i hi => (cX.2.2.1 i hi).1)]
  cases e : lastT (frcP fr kf (nI (30 * m + 29)) kn) n with
  | none => rfl
  | some t =>
    have := lastT_lt e
    show rtC (ev t _ (-3)) = _
    rw [((cX.2.2.1 t this).2.2 _).1]
theorem lim_E (cX : TXS h n ro ln fr kf ev nl W) (F : Nat → Int32) (d k : Int32) : txC ev F (-4) (-1) (lastT (frcP fr kf d k) n) = rfM h nl W n F 1 d k := by
  unfold rfM
  rw [frcP_cg (fun i hi => (cX.2.2.1 i hi).1)]
  cases e : lastT (frcP fr kf d k) n with
  | none => rfl
  | some t =>
    have := lastT_lt e
    show ev t _ (-4) = _
    rw [((cX.2.2.1 t this).2.2 _).2]
theorem fLn_v {il lN w : Nat → Int32} {lim : Int32} : ∀ (r k : Nat), (∀ q, k ≤ q → q < k + r → 0 ≤ lN q) → fLn il lN w lim r k = -1 ∨ 0 ≤ fLn il lN w lim r k
  | 0, _, _ => Or.inl rfl
  | r + 1, k, h => by
    rw [fLn_s]
    by_cases z : il k = lim ∧ ¬ w k = 0
    · rw [if_pos z]; exact Or.inr (h k (Nat.le_refl k) (by omega))
    · rw [if_neg z]; exact fLn_v r (k + 1) (fun q a b => h q (by omega) (by omega))
theorem lim_v (cX : TXS h n ro ln fr kf ev nl W) (F : Nat → Int32) (lim d k : Int32) : rfM h nl W n F lim d k = -1 ∨ 0 ≤ rfM h nl W n F lim d k := by
  unfold rfM
  rw [frcP_cg (fun i hi => (cX.2.2.1 i hi).1)]
  cases e : lastT (frcP fr kf d k) n with
  | none => exact Or.inl rfl
  | some t =>
    have := lastT_lt e
    exact fLn_v (nl t) 0 (fun q _ hq => ((cX.2.2.1 t this).2.1 q (by omega)).1)
theorem why_E {s bl sg kd eld eld' lim dn : Int32} (he : eld = eld') (hv : eld = -1 ∨ 0 ≤ eld) (hl : lim = -1 ∨ 0 ≤ lim) : whyR (bI (¬ s < 1 ∧ ¬ 100000 < s)) bl s sg kd eld lim dn = whyM s bl sg kd eld' (ltB lim dn s) := by
  subst he
  unfold whyR whyM ltB
  have e1 : (eld = -1) ↔ eld < 0 := by
    rcases hv with z | z
    · rw [z]; decide
    · exact ⟨fun y => by rw [y] at z; exact absurd z (by decide), fun y => absurd z (Int32.not_le.mpr y)⟩
  have e2 : (¬ lim = -1) ↔ ¬ lim < 0 := by
    rcases hl with z | z
    · rw [z]; decide
    · exact ⟨fun _ => Int32.not_lt.mpr z, fun _ y => by rw [y] at z; exact absurd z (by decide)⟩
  by_cases c1 : ¬ s < 1 ∧ ¬ 100000 < s
  · rw [if_neg (show ¬ bI (¬ s < 1 ∧ ¬ 100000 < s) = 0 from fun z => (bI_0.mp z) c1), if_neg (show ¬ (s < 1 ∨ 100000 < s) from fun z => z.elim c1.1 c1.2)]
    simp only [e1, e2]
    by_cases c2 : ¬ lim < 0 ∧ ¬ dn + s ≤ lim
    · simp only [if_pos c2, if_neg (show ¬ bI (¬ lim < 0 ∧ ¬ dn + s ≤ lim) = 0 from fun z => (bI_0.mp z) c2)]
    · simp only [if_neg c2, if_pos (bI_0.mpr c2)]
  · rw [if_pos (bI_0.mpr c1), if_pos (show s < 1 ∨ 100000 < s from Classical.byContradiction fun q => c1 ⟨fun a => q (Or.inl a), fun a => q (Or.inr a)⟩)]
end PRATE
