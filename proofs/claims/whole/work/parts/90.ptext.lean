/-! ===== what a text that is faulty leaves as it was; how long a good one is ===== -/
def KP (op0 on0 : Nat → Int32) (m : MS) : Prop := m.2.2.1 ≤ 660 ∧ ∀ x, x < 5280 → m.2.2.2.2.2.2.2.1 x = op0 x ∧ m.2.2.2.2.2.2.2.2 x = on0 x
section PTEXT
variable {op0 on0 : Nat → Int32} {tk : Nat → Int32} {pl : Nat → Nat}
theorem KP.up {a a' : Nat} {fl fl' : Int32} {cd dp dp' : Nat} {sw gw aw sw' gw' aw' op on : Nat → Int32} {c x : Int32} (h : KP op0 on0 (a, fl, cd, dp, sw, gw, aw, op, on)) (hc : cd < 660) : KP op0 on0 (a', fl', cd + 1, dp', sw', gw', aw', upf op (5280 + cd) c, upf on (5280 + cd) x) := ⟨hc, fun y hy => by
  show upf op (5280 + cd) c y = _ ∧ upf on (5280 + cd) x y = _
  unfold upf
  rw [if_neg (by omega), if_neg (by omega)]
  exact h.2 y hy⟩
theorem goE_K {k : MS → Option (Bool × MS)} (hk : ∀ m b m2, k m = some (b, m2) → KP op0 on0 m → KP op0 on0 m2) {m m2 : MS} {b : Bool} (h : KP op0 on0 m) (e : goE tk pl k m = some (b, m2)) : KP op0 on0 m2 := by
  obtain ⟨a, fl, cd, dp, sw, gw, aw, op, on⟩ := m
  unfold goE at e
  simp only at e
  split at e
  · cases e; exact h
  · split at e
    · cases e; exact h
    · split at e
      · exact hk _ _ _ e h
      · cases e; exact h
theorem goD_K {k : MS → Option (Bool × MS)} (hk : ∀ m b m2, k m = some (b, m2) → KP op0 on0 m → KP op0 on0 m2) {m m2 : MS} {b : Bool} (h : KP op0 on0 m) (e : goD tk pl k m = some (b, m2)) : KP op0 on0 m2 := by
  obtain ⟨a, fl, cd, dp, sw, gw, aw, op, on⟩ := m
  unfold goD at e
  simp only at e
  split at e
  · exact goE_K hk h e
  · split at e
    · rename_i hc
      exact goE_K hk (h.up hc) e
    · cases e
theorem goC_K {k : MS → Option (Bool × MS)} (hk : ∀ m b m2, k m = some (b, m2) → KP op0 on0 m → KP op0 on0 m2) {m m2 : MS} {b : Bool} (h : KP op0 on0 m) (e : goC tk pl k m = some (b, m2)) : KP op0 on0 m2 := by
  obtain ⟨a, fl, cd, dp, sw, gw, aw, op, on⟩ := m
  unfold goC at e
  simp only at e
  split at e
  · split at e
    · cases e; exact h
    · split at e
      · cases e; exact h
      · exact goD_K hk h e
  · split at e
    · rename_i hc
      exact goD_K hk (h.up hc) e
    · cases e
theorem goB_K {k : MS → Option (Bool × MS)} (hk : ∀ m b m2, k m = some (b, m2) → KP op0 on0 m → KP op0 on0 m2) {m m2 : MS} {b : Bool} (h : KP op0 on0 m) (e : goB tk pl k m = some (b, m2)) : KP op0 on0 m2 := by
  obtain ⟨a, fl, cd, dp, sw, gw, aw, op, on⟩ := m
  unfold goB at e
  simp only at e
  split at e
  · cases e; exact h
  · split at e
    · cases e; exact h
    · exact goC_K hk h e
theorem goA_K {k : MS → Option (Bool × MS)} (hk : ∀ m b m2, k m = some (b, m2) → KP op0 on0 m → KP op0 on0 m2) {m m2 : MS} {b : Bool} (h : KP op0 on0 m) (e : goA tk pl k m = some (b, m2)) : KP op0 on0 m2 := by
  obtain ⟨a, fl, cd, dp, sw, gw, aw, op, on⟩ := m
  unfold goA at e
  simp only at e
  split at e
  · exact goB_K hk h e
  · split at e
    · rename_i hc
      exact goB_K hk (h.up hc) e
    · cases e
theorem goM_K : ∀ (d : Nat) (m : MS) (b : Bool) (m2 : MS), goM tk pl d m = some (b, m2) → KP op0 on0 m → KP op0 on0 m2
  | 0, m, b, m2, e, h => goA_K (fun _ _ _ z _ => by cases z) h e
  | d + 1, m, b, m2, e, h => goA_K (goM_K d) h e
theorem boM_K : ∀ (f : Nat) (m m2 : MS), boM tk pl f m = some m2 → KP op0 on0 m → KP op0 on0 m2
  | 0, _, _, e, _ => by cases e
  | f + 1, (a, fl, cd, dp, sw, gw, aw, op, on), m2, e, h => by
    unfold boM at e
    split at e
    · split at e
      · split at e
        · cases e; exact h
        · split at e
          · exact boM_K f _ _ e h
          · split at e
            · rename_i hc
              split at e
              · cases e
              · rename_i m3 q
                exact boM_K f _ _ e (goM_K dp _ _ _ q (h.up hc))
              · rename_i m3 q
                cases e
                exact goM_K dp _ _ _ q (h.up hc)
            · cases e
      · cases e; exact h
    · cases e; exact h
theorem tkM_K {m : MS} {x : Int32} (h : KP op0 on0 m) : KP op0 on0 (tkM tk pl m x) := by
  unfold tkM wrM
  split
  · exact h
  · split
    · exact h
    · exact h
def KL (l l' : LiS) : Prop := (∀ x, x < 128 → l'.2.1 x = l.2.1 x ∧ l'.2.2.1 x = l.2.2.1 x ∧ l'.2.2.2 x = l.2.2.2 x) ∧ ((∀ j, l.2.1 j = 0 ∨ l.2.1 j = 1) → ∀ j, l'.2.1 j = 0 ∨ l'.2.1 j = 1)
theorem KL.rf {l : LiS} : KL l l := ⟨fun _ _ => ⟨rfl, rfl, rfl⟩, id⟩
theorem liM_K {fu : Nat} {l l' : LiS} {m m' : MS} (e : liM tk pl fu l m = some (l', m')) (h : KP op0 on0 m) : KP op0 on0 m' ∧ KL l l' := by
  obtain ⟨li, il, lN, lA⟩ := l
  obtain ⟨a, fl, cd, dp, sw, gw, aw, op, on⟩ := m
  unfold liM at e
  simp only at e
  split at e
  · split at e
    · cases e; exact ⟨h, KL.rf⟩
    · split at e
      · cases e
      · rename_i m5 h5
        split at e
        · rename_i hc
          cases e
          have k5 : KP op0 on0 m5 := boM_K fu _ _ h5 h
          refine ⟨tkM_K ?_, fun x hx => ?_, fun hb j => ?_⟩
          · obtain ⟨a5, fl5, cd5, dp5, sw5, gw5, aw5, op5, on5⟩ := m5
            exact k5.up hc
          · show upf il (128 + li) _ x = il x ∧ upf lN (128 + li) _ x = lN x ∧ upf lA (128 + li) _ x = lA x
            unfold upf
            rw [if_neg (by omega), if_neg (by omega), if_neg (by omega)]
            exact ⟨rfl, rfl, rfl⟩
          · show upf il (128 + li) (if tk a = -4 then 1 else 0) j = 0 ∨ upf il (128 + li) (if tk a = -4 then 1 else 0) j = 1
            unfold upf
            split
            · split
              · exact Or.inr rfl
              · exact Or.inl rfl
            · exact hb j
        · cases e
  · cases e; exact ⟨h, KL.rf⟩
theorem txM_K {fu : Nat} : ∀ (f : Nat) (l l' : LiS) (m m' : MS), txM tk pl fu f l m = some (l', m') → KP op0 on0 m → KP op0 on0 m' ∧ KL l l'
  | 0, _, _, _, _, e, _ => by cases e
  | f + 1, l, l', m, m', e, h => by
    unfold txM at e
    split at e
    · split at e
      · cases e
      · rename_i q hq
        obtain ⟨l1, m1⟩ := q
        have a := liM_K hq h
        have b := txM_K f _ _ _ _ e a.1
        exact ⟨b.1, fun x hx => ⟨(b.2.1 x hx).1.trans (a.2.1 x hx).1, (b.2.1 x hx).2.1.trans (a.2.1 x hx).2.1, (b.2.1 x hx).2.2.trans (a.2.1 x hx).2.2⟩, fun z => b.2.2 (a.2.2 z)⟩
    · cases e; exact ⟨h, KL.rf⟩
theorem wrun_c2 {op on op' on' kn : Nat → Int32} : ∀ (f i : Nat) (st : List Int32), (∀ x, i ≤ x → x < i + f → op x = op' x ∧ on x = on' x) → wrun op on kn f i st = wrun op' on' kn f i st
  | 0, _, _, _ => rfl
  | f + 1, i, st, h => by
    have hi := h i (Nat.le_refl i) (by omega)
    have ih := fun st2 => wrun_c2 (kn := kn) f (i + 1) st2 (fun x a b => h x (by omega) (by omega))
    unfold wrun
    rw [hi.1, hi.2]
    simp only [ih]
theorem fLn_c2 {il lN w il' lN' w' : Nat → Int32} {lim : Int32} : ∀ (r k : Nat), (∀ q, k ≤ q → q < k + r → il q = il' q ∧ lN q = lN' q ∧ w q = w' q) → fLn il lN w lim r k = fLn il' lN' w' lim r k
  | 0, _, _ => rfl
  | r + 1, k, h => by
    obtain ⟨a, b, c⟩ := h k (Nat.le_refl k) (by omega)
    rw [fLn_s, fLn_s, a, b, c, fLn_c2 r (k + 1) (fun q x y => h q (by omega) (by omega))]
theorem sgnT_w (c : Int32) : ¬ sgnT c = -3 ∧ ¬ sgnT c = -4 := by
  unfold sgnT
  repeat' split
  all_goals decide
theorem first_5 {S : Nat → Int32} {n p : Nat} (hp : p < n) (h : tkT S n p = -3 ∨ tkT S n p = -4) : p + 5 ≤ enT S n p := by
  have hr := run_ge (P := isLb) (S := S) (n - p) p
  unfold tkT at h
  rw [if_pos hp] at h
  by_cases hl : isLb (S p) = true
  · rw [if_pos hl] at h
    by_cases h8 : 8 < run isLb S (n - p) p - p
    · rw [if_pos h8] at h
      exact absurd h (by decide)
    · rw [if_neg h8] at h
      have hall : ∀ j, j < run isLb S (n - p) p - p → isLb (S (p + j)) = true := fun j hj => run_all (n - p) p (p + j) (by omega) (by omega)
      rw [enT_L hp hl]
      rcases h with h | h
      · have w := (wcd_iff (w := 0) (by omega) (by omega) hall).mp h
        unfold wmB at w
        rw [Bool.and_eq_true, decide_eq_true_eq] at w
        have w1 := w.1
        rw [show px_SL.getD 0 0 = 8 from rfl] at w1
        omega
      · have w := (wcd_iff (w := 1) (by omega) (by omega) hall).mp h
        unfold wmB at w
        rw [Bool.and_eq_true, decide_eq_true_eq] at w
        have w1 := w.1
        rw [show px_SL.getD 1 0 = 5 from rfl] at w1
        omega
  · rw [if_neg hl] at h
    by_cases hd : isDb (S p) = true
    · rw [if_pos hd] at h
      by_cases h5 : 5 < run isDb S (n - p) p - p
      · rw [if_pos h5] at h
        exact absurd h (by decide)
      · rw [if_neg h5] at h
        obtain ⟨v, hv, e, -⟩ := num_ok (S := S) (p := p) (m := run isDb S (n - p) p - p) (by omega) (fun j hj => run_all (n - p) p (p + j) (by omega) (by have := (run_ge (P := isDb) (S := S) (n - p) p).1; omega))
        rw [e] at h
        rcases h with h | h
        · exact absurd h ((num_tab hv).1 0 (by omega))
        · exact absurd h ((num_tab hv).1 1 (by omega))
    · rw [if_neg hd] at h
      exact absurd h (fun q => q.elim (sgnT_w _).1 (sgnT_w _).2)
theorem aT_5 {S : Nat → Int32} {n : Nat} (h0 : pT S n 0 + 5 ≤ enT S n (pT S n 0)) : ∀ i, (∀ j, j < i + 1 → pT S n j < n) → i + 5 ≤ aT S n (i + 1)
  | 0, _ => by
    show 0 + 5 ≤ enT S n (pT S n 0)
    omega
  | i + 1, h => by
    have ih := aT_5 h0 i (fun j hj => h j (Nat.lt_succ_of_lt hj))
    have h1 := (rnB_le (S := S) (aT_le S n (i + 1))).1
    have h2 := (enT_gt (S := S) (h (i + 1) (Nat.lt_succ_self _))).1
    show i + 1 + 5 ≤ enT S n (pT S n (i + 1))
    have : pT S n (i + 1) = rnB S n (aT S n (i + 1)) := rfl
    omega
theorem N_lt {S : Nat → Int32} {n N : Nat} (hn : n ≤ 600) (h1 : ∀ i, i < N → pT S n i < n) (h : 0 < N → tkI S n 0 = -3 ∨ tkI S n 0 = -4) : N < 600 := by
  cases N with
  | zero => omega
  | succ N =>
    have h5 := first_5 (h1 0 (by omega)) (h (by omega))
    have := aT_5 h5 N h1
    have := aT_le S n (N + 1)
    omega
end PTEXT
