/-! ===== a text that is kept, read by both ===== -/
section PREAD
variable {F tk : Nat → Int32} {rule : Int32} {N : Nat}
theorem nOf_mid {a i sc r : Nat} {J : JS} (hr : tk a = rule) (hi : a + 3 ≤ i) (hn : ∀ q, a ≤ q → q < sc → ¬ tk q = -18) : ∀ d, i + d ≤ sc → nOf F tk rule (r + d) i a J = nOf F tk rule r (i + d) a (jr F tk i d J)
  | 0, _ => rfl
  | d + 1, h => by
    rw [show r + (d + 1) = (r + 1) + d by omega, nOf_mid (r := r + 1) hr hi hn d (by omega), nOf_c2 (by omega) (hn _ (by omega) (by omega)) hr (by omega)]
    rfl
theorem nOf_skip {a i sc r : Nat} {J : JS} (hr : ¬ tk a = rule) (hi : a < i) (hn : ∀ q, a ≤ q → q < sc → ¬ tk q = -18) : ∀ d, i + d ≤ sc → nOf F tk rule (r + d) i a J = nOf F tk rule r (i + d) a J
  | 0, _ => rfl
  | d + 1, h => by
    rw [show r + (d + 1) = (r + 1) + d by omega, nOf_skip (r := r + 1) hr hi hn d (by omega), nOf_c0 (by omega) (hn _ (by omega) (by omega)) hr]
    rfl
theorem nOf_line {a sc r : Nat} {J : JS} (h3 : a + 3 ≤ sc) (hs : tk sc = -18) (hn : ∀ q, a ≤ q → q < sc → ¬ tk q = -18) : ∃ J2 : JS, nOf F tk rule (r + (sc + 1 - a)) a a J = if tk a = rule ∧ ¬ jW (jr F tk (a + 3) (sc - (a + 3)) (jClear (0, J.2))) = 0 then tk (a + 1) else nOf F tk rule r (sc + 1) (sc + 1) J2 := by
  rw [show r + (sc + 1 - a) = (r + (sc - a)) + 1 by omega, nOf_a rfl]
  by_cases hr : tk a = rule
  · rw [show r + (sc - a) = (r + 1 + (sc - (a + 3))) + 1 + 1 by omega, nOf_c1 (by omega) (hn _ (by omega) (by omega)) hr (by omega), nOf_c1 (by omega) (hn _ (by omega) (by omega)) hr (by omega)]
    rw [show a + 1 + 1 + 1 = a + 3 from rfl, nOf_mid (r := r + 1) hr (Nat.le_refl _) hn (sc - (a + 3)) (by omega), show a + 3 + (sc - (a + 3)) = sc by omega]
    by_cases hw : jW (jr F tk (a + 3) (sc - (a + 3)) (jClear (0, J.2))) = 0
    · rw [nOf_b1 (by omega) hs hr hw]
      exact ⟨_, (if_neg (fun q => q.2 hw)).symm⟩
    · rw [nOf_b2 (by omega) hs hr hw]
      exact ⟨J, (if_pos ⟨hr, hw⟩).symm⟩
  · rw [show r + (sc - a) = (r + 1) + (sc - (a + 1)) by omega, nOf_skip (r := r + 1) hr (Nat.lt_succ_self a) hn (sc - (a + 1)) (by omega), show a + 1 + (sc - (a + 1)) = sc by omega, nOf_b0 (by omega) hs hr]
    exact ⟨_, (if_neg (fun q => hr q.1)).symm⟩
theorem nOf_tk {tk' : Nat → Int32} : ∀ (k i line : Nat) (J : JS), line ≤ i → i + k ≤ N → (∀ j, j < N → tk j = tk' j) → (∀ q, q < N → tk q = -18 → ∀ j, j < q → j + 1 < N) → (line < i → line + 1 < N) → nOf F tk rule k i line J = nOf F tk' rule k i line J
  | 0, _, _, _, _, _, _, _, _ => rfl
  | k + 1, i, line, J, h1, h2, he, hq, h3 => by
    unfold nOf
    rw [← he i (by omega), ← he line (by omega)]
    by_cases e : i = line
    · rw [if_pos e, if_pos e]
      rcases Nat.eq_zero_or_pos k with rfl | hk
      · rfl
      · exact nOf_tk k (i + 1) line _ (by omega) (by omega) he hq (fun _ => by omega)
    · rw [if_neg e, if_neg e, ← he (line + 1) (h3 (by omega)), nOf_tk k (i + 1) (i + 1) _ (Nat.le_refl _) (by omega) he hq (fun q => absurd q (Nat.lt_irrefl _)), nOf_tk k (i + 1) (i + 1) J (Nat.le_refl _) (by omega) he hq (fun q => absurd q (Nat.lt_irrefl _)), nOf_tk k (i + 1) line _ (by omega) (by omega) he hq (fun _ => h3 (by omega)), nOf_tk k (i + 1) line J (by omega) (by omega) he hq (fun _ => h3 (by omega))]
theorem fLn_cw {il lN w w' : Nat → Int32} {lim : Int32} : ∀ (r k : Nat), (∀ q, k ≤ q → w q = w' q) → fLn il lN w lim r k = fLn il lN w' lim r k
  | 0, _, _ => rfl
  | r + 1, k, h => by
    unfold fLn
    rw [h k (Nat.le_refl k), fLn_cw r (k + 1) (fun q z => h q (by omega))]
theorem fLn_s {il lN w : Nat → Int32} {lim : Int32} {r k : Nat} : fLn il lN w lim (r + 1) k = if il k = lim ∧ ¬ w k = 0 then lN k else fLn il lN w lim r (k + 1) := rfl
def J00 : JS := (0, fun _ => 0, fun _ => 0, fun _ => 0, fun _ => 0, fun _ => 0, fun _ => 0)
def LW (il lN lA op on : Nat → Int32) (C q : Nat) (wv : (Nat → Int32) → Int32) : Prop := (il (128 + q) = 0 ∨ il (128 + q) = 1) ∧ 0 ≤ lN (128 + q) ∧ ∃ (c : Nat) (cs : List (Int32 × Int32)), lA (128 + q) = nI c ∧ c + cs.length < C ∧ (∀ j, j < cs.length → op (5280 + c + j) = (cs.getD j (0, 0)).1 ∧ on (5280 + c + j) = (cs.getD j (0, 0)).2 ∧ ¬ (cs.getD j (0, 0)).1 = 0) ∧ op (5280 + c + cs.length) = 0 ∧ ∀ F : Nat → Int32, exs F cs [] = some [wv F]
theorem LNS_W {il lN lA op on : Nat → Int32} {C : Nat} : ∀ (r a k : Nat), LNS tk N il lN lA op on C r a k → ∃ wv : Nat → (Nat → Int32) → Int32, (∀ q, k ≤ q → q < k + r → LW il lN lA op on C q (wv q)) ∧ ∀ (F : Nat → Int32) (J : JS) (rule lim : Int32), (rule = -3 ∧ lim = 0 ∨ rule = -4 ∧ lim = 1) → nOf F tk rule (N - a) a a J = fLn (fun q => il (128 + q)) (fun q => lN (128 + q)) (fun q => wv q F) lim r k
  | 0, a, k, h => ⟨fun _ _ => 0, fun q h1 h2 => absurd h2 (by omega), fun F J rule lim _ => by
    have h : a = N := h
    rw [h, Nat.sub_self]
    rfl⟩
  | r + 1, a, k, ⟨sc, c, cs, ⟨⟨hv, h0, h3, hsN, hs, hno⟩, ⟨b1, b2, b3⟩, c1, d1, e1, f1⟩, hC, hR⟩ => by
    obtain ⟨wv, w1, w2⟩ := LNS_W r (sc + 1) (k + 1) hR
    have hJ : ∀ (F : Nat → Int32) (J : JS), jW (jr F tk (a + 3) (sc - (a + 3)) (jClear (0, J.2))) = jW (jr F tk (a + 3) (sc - (a + 3)) (jClear (0, J00.2))) := fun F J => by
      have z := (f1 F J).symm.trans (f1 F J00)
      injection z with z
      injection z
    refine ⟨fun q F => if q = k then jW (jr F tk (a + 3) (sc - (a + 3)) (jClear (0, J00.2))) else wv q F, fun q h1 h2 => ?_, fun F J rule lim hrl => ?_⟩
    · by_cases e : q = k
      · subst e
        refine ⟨?_, by rw [b2]; exact h0, c, cs, b3, hC, d1, e1, fun F => ?_⟩
        · rw [b1]
          by_cases z : tk a = -4
          · rw [if_pos z]; exact Or.inr rfl
          · rw [if_neg z]; exact Or.inl rfl
        · rw [f1 F J00]
          show _ = some [if q = q then _ else _]
          rw [if_pos rfl]
      · obtain ⟨x1, x2, c', cs', x3, x4, x5, x6, x7⟩ := w1 q (by omega) (by omega)
        refine ⟨x1, x2, c', cs', x3, x4, x5, x6, fun F => ?_⟩
        rw [x7 F]
        show _ = some [if q = k then _ else _]
        rw [if_neg e]
    · obtain ⟨J2, e⟩ := nOf_line (F := F) (tk := tk) (rule := rule) (r := N - (sc + 1)) (J := J) h3 hs hno
      rw [show N - a = N - (sc + 1) + (sc + 1 - a) by omega, e, w2 F J2 rule lim hrl, hJ]
      have hx : fLn (fun q => il (128 + q)) (fun q => lN (128 + q)) (fun q => if q = k then jW (jr F tk (a + 3) (sc - (a + 3)) (jClear (0, J00.2))) else wv q F) lim r (k + 1) = fLn (fun q => il (128 + q)) (fun q => lN (128 + q)) (fun q => wv q F) lim r (k + 1) := fLn_cw r (k + 1) (fun q z => if_neg (by omega))
      have hf : fLn (fun q => il (128 + q)) (fun q => lN (128 + q)) (fun q => if q = k then jW (jr F tk (a + 3) (sc - (a + 3)) (jClear (0, J00.2))) else wv q F) lim (r + 1) k = if (if tk a = -4 then (1 : Int32) else 0) = lim ∧ ¬ jW (jr F tk (a + 3) (sc - (a + 3)) (jClear (0, J00.2))) = 0 then tk (a + 1) else fLn (fun q => il (128 + q)) (fun q => lN (128 + q)) (fun q => wv q F) lim r (k + 1) := by
        rw [← hx, ← b1, ← b2]
        rw [fLn_s]
        simp only [if_true]
      rw [hf]
      have hi : (tk a = rule) ↔ ((if tk a = -4 then (1 : Int32) else 0) = lim) := by
        rcases hv with v | v <;> rcases hrl with ⟨x, y⟩ | ⟨x, y⟩ <;> rw [v, x, y] <;> decide
      by_cases z : tk a = rule ∧ ¬ jW (jr F tk (a + 3) (sc - (a + 3)) (jClear (0, J00.2))) = 0
      · rw [if_pos z, if_pos ⟨hi.1 z.1, z.2⟩]
      · rw [if_neg z, if_neg (fun q => z ⟨hi.2 q.1, q.2⟩)]
end PREAD
