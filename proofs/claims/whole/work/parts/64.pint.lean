/-! ===== interest: the class's reckoning is the reference's ===== -/
theorem bal_add (mv : Nat → Int32) (b : Int32) (i : Nat) : ∀ k, bal mv b i k = b + bal mv 0 i k
  | 0 => (Int32.add_zero b).symm
  | k + 1 => by
    show bal mv b i k + mv (i + k) = b + (bal mv 0 i k + mv (i + k))
    rw [bal_add mv b i k, Int32.add_assoc]
theorem bal_split (mv : Nat → Int32) (b : Int32) (i k : Nat) : ∀ l, bal mv (bal mv b i k) (i + k) l = bal mv b i (k + l)
  | 0 => rfl
  | l + 1 => by
    show bal mv (bal mv b i k) (i + k) l + mv (i + k + l) = bal mv b i (k + l) + mv (i + (k + l))
    rw [bal_split mv b i k l, Nat.add_assoc]
theorem bal_upd (f : Nat → Int32) (q : Nat) (v b : Int32) (i : Nat) : ∀ k, bal (fun j => if j = q then f q + v else f j) b i k = bal f b i k + (if i ≤ q ∧ q < i + k then v else 0)
  | 0 => by
    rw [if_neg (by omega)]
    exact (Int32.add_zero _).symm
  | k + 1 => by
    show bal (fun j => if j = q then f q + v else f j) b i k + (if i + k = q then f q + v else f (i + k)) = bal f b i k + f (i + k) + _
    rw [bal_upd f q v b i k]
    by_cases h1 : i + k = q
    · rw [if_pos h1, if_neg (by omega), if_pos (by omega), Int32.add_zero, h1, Int32.add_assoc]
    · rw [if_neg h1]
      by_cases h2 : i ≤ q ∧ q < i + k
      · rw [if_pos h2, if_pos (by omega), Int32.add_assoc, Int32.add_assoc, Int32.add_comm v]
      · rw [if_neg h2, if_neg (by omega), Int32.add_zero, Int32.add_zero]
theorem bal_0 (b : Int32) (i : Nat) : ∀ k, bal (fun _ => 0) b i k = b
  | 0 => rfl
  | k + 1 => by
    show bal (fun _ => 0) b i k + 0 = b
    rw [bal_0 b i k, Int32.add_zero]
theorem cum_eTo {ac dy sm kn : Nat → Int32} {a k : Int32} : ∀ {n : Nat}, (∀ i, i < n → ∃ j, j < 720 ∧ dy i = nI j) → ∀ d, d < 720 → bal (gat ac dy sm kn a k n) 0 0 (d + 1) = eTo ac dy sm kn a (nI d) k n
  | 0, _, d, _ => bal_0 0 0 (d + 1)
  | n + 1, hd, d, hd7 => by
    have ih := cum_eTo (a := a) (k := k) (ac := ac) (sm := sm) (kn := kn) (fun i hi => hd i (Nat.lt_succ_of_lt hi)) d hd7
    obtain ⟨q, hq, eq⟩ := hd n (Nat.lt_succ_self n)
    have ec : (dy n).toNatClampNeg = q := by rw [eq]; exact nI_clamp (by omega)
    show _ = eTo ac dy sm kn a (nI d) k n + _
    by_cases cc : ac n = a ∧ ¬ k < kn n
    · rw [gat_y cc, ec, bal_upd, ih]
      congr 1
      by_cases h : q ≤ d
      · rw [if_pos (by omega), if_pos ⟨cc.1, by rw [eq]; exact nI_nlt h (by omega), cc.2⟩]
      · rw [if_neg (by omega), if_neg (fun w => w.2.1 (by rw [eq]; exact nI_lt (by omega) (by omega)))]
    · rw [gat_no cc, ih, if_neg (fun w => cc ⟨w.1, w.2.2⟩), Int32.add_zero]
theorem i32_div240 (l : Int32) : (l / 240).toInt = l.toInt.tdiv 240 := Int32.toInt_div_of_ne_right l 240 (by decide)
theorem pos240 (l : Int32) : 1 ≤ l / 240 ↔ 240 ≤ l := by
  rw [Int32.le_iff_toInt_le, Int32.le_iff_toInt_le, i32_div240, show (1 : Int32).toInt = 1 by decide, show (240 : Int32).toInt = 240 by decide]
  rcases Int.le_total 0 l.toInt with h | h
  · rw [Int.tdiv_eq_ediv_of_nonneg h]; omega
  · have e : l.toInt.tdiv 240 = -((-l.toInt).tdiv 240) := by rw [Int.neg_tdiv, Int.neg_neg]
    rw [e, Int.tdiv_eq_ediv_of_nonneg (by omega)]; omega
theorem ern_it {rate R : Nat → Int32 → Int32} {m : Nat} (hr : ∀ w, rate m w = rtC (R m w)) (l : Int32) : ern rate m l = ivM (whM l) (if whM l = 0 then 0 else R m (whM l)) := by
  unfold ern whM
  by_cases h : 240 ≤ l
  · have h1 := (pos240 l).mpr h
    have h0 : ¬ l / 240 = 0 := fun q => by rw [q] at h1; exact absurd h1 (by decide)
    rw [if_pos h1, if_pos h, if_neg h0, hr]
    unfold ivM rtC
    by_cases h2 : 0 < R m (l / 240)
    · rw [if_pos h2, if_pos h2]
    · rw [if_neg h2, if_neg h2, Int32.mul_zero]
      decide
  · rw [if_neg (fun q => h ((pos240 l).mp q)), if_neg h, if_pos rfl]
    rfl
section PINT
variable {mv : Nat → Int32} {rate R : Nat → Int32 → Int32} {E : Int32 → Int32}
theorem bal_M {m : Nat} {b c : Int32} (hb : b = c + bal mv 0 0 (30 * m)) (k : Nat) : bal mv b (30 * m) k = c + bal mv 0 0 (30 * m + k) := by
  have e := bal_split mv 0 0 (30 * m) k
  rw [Nat.zero_add] at e
  rw [bal_add mv b, hb, ← e, bal_add mv (bal mv 0 0 (30 * m)), Int32.add_assoc]
theorem lea_M (hc : ∀ d, d < 720 → bal mv 0 0 (d + 1) = E (nI d)) {m : Nat} (hm : m < 24) {b c : Int32} (hb : b = c + bal mv 0 0 (30 * m)) : ∀ k, k ≤ 30 → lea mv b (30 * m) k = leM E c (30 * m) k
  | 0, _ => by
    show b + mv (30 * m) = c + E (nI (30 * m))
    have e := bal_M hb 1
    rw [hc (30 * m) (by omega)] at e
    exact e
  | k + 1, hk => by
    show mn2 (lea mv b (30 * m) k) (bal mv b (30 * m) (k + 1)) = _
    rw [lea_M hc hm hb k (by omega), bal_M hb (k + 1), show 30 * m + (k + 1) = 30 * m + k + 1 by omega, hc (30 * m + k) (by omega)]
    unfold mn2
    show _ = (if leM E c (30 * m) k ≤ c + E (nI (30 * m + k)) then leM E c (30 * m) k else c + E (nI (30 * m + k)))
    by_cases h : leM E c (30 * m) k ≤ c + E (nI (30 * m + k))
    · rw [if_pos h, if_neg (Int32.not_lt.mpr h)]
    · rw [if_neg h, if_pos (Int32.not_le.mp h)]
theorem RK_M (hc : ∀ d, d < 720 → bal mv 0 0 (d + 1) = E (nI d)) (hr : ∀ m w, m < 24 → rate m w = rtC (R m w)) : ∀ m, m ≤ 24 → (RK mv rate m).1 = bfM E R m + bal mv 0 0 (30 * m) ∧ (RK mv rate m).2.1 = bfM E R m
  | 0, _ => ⟨rfl, rfl⟩
  | m + 1, hm => by
    obtain ⟨h1, h2⟩ := RK_M hc hr m (by omega)
    have e : ern rate m (lea mv (RK mv rate m).1 (30 * m) 30) = itS E R (bfM E R m) m := by
      rw [lea_M hc (by omega) h1 30 (by omega), ern_it (fun w => hr m w (by omega))]
      rfl
    rw [RK_s]
    refine ⟨?_, ?_⟩
    · show bal mv (RK mv rate m).1 (30 * m) 30 + ern rate m (lea mv (RK mv rate m).1 (30 * m) 30) = bfM E R m + itS E R (bfM E R m) m + _
      rw [e, bal_M h1 30, show 30 * (m + 1) = 30 * m + 30 by omega, Int32.add_assoc, Int32.add_assoc, Int32.add_comm (bal mv 0 0 (30 * m + 30))]
    · show (RK mv rate m).2.1 + ern rate m (lea mv (RK mv rate m).1 (30 * m) 30) = bfM E R m + itS E R (bfM E R m) m
      rw [e, h2]
theorem RK_last (hc : ∀ d, d < 720 → bal mv 0 0 (d + 1) = E (nI d)) (hr : ∀ m w, m < 24 → rate m w = rtC (R m w)) {m : Nat} (hm : m < 24) : (RK mv rate (m + 1)).2.2 = itM E R m := by
  obtain ⟨h1, h2⟩ := RK_M hc hr m (by omega)
  rw [RK_s]
  show ern rate m (lea mv (RK mv rate m).1 (30 * m) 30) = itS E R (bfM E R m) m
  rw [lea_M hc (by omega) h1 30 (by omega), ern_it (fun w => hr m w (by omega))]
  rfl
theorem blM_M {x : Int32} {d : Nat} (hd : d < 720) : ∀ k, k ≤ 24 → blM E R x (nI d) k = x + bfM E R (min k (d / 30))
  | 0, _ => by rw [Nat.zero_min]; exact (Int32.add_zero x).symm
  | k + 1, hk => by
    rw [blM_e, blM_M hd k (by omega)]
    by_cases h : d ≤ 30 * k + 29
    · rw [if_pos (nI_le h (by omega)), Int32.add_zero, show min k (d / 30) = d / 30 by omega, show min (k + 1) (d / 30) = d / 30 by omega]
    · rw [if_neg (nI_ge (by omega) (by omega)), show min k (d / 30) = k by omega, show min (k + 1) (d / 30) = k + 1 by omega, Int32.add_assoc]
      rfl
theorem balC_M (hc : ∀ d, d < 720 → bal mv 0 0 (d + 1) = E (nI d)) (hr : ∀ m w, m < 24 → rate m w = rtC (R m w)) {d : Nat} (hd : d < 720) : balC mv rate d = balM E R (nI d) := by
  unfold balC balM
  have h1 := (RK_M hc hr (d / 30) (by omega)).1
  rw [bal_M h1, show 30 * (d / 30) + (d - 30 * (d / 30) + 1) = d + 1 by omega, hc d hd, blM_M hd 24 (Nat.le_refl _), show min 24 (d / 30) = d / 30 by omega, Int32.add_comm]
theorem earn_M (hc : ∀ d, d < 720 → bal mv 0 0 (d + 1) = E (nI d)) (hr : ∀ m w, m < 24 → rate m w = rtC (R m w)) {t : Nat} (ht : t < 720) (x : Int32) : (RK mv rate (t / 30)).2.1 - x = blM E R (-x) (nI t) 24 := by
  rw [(RK_M hc hr (t / 30) (by omega)).2, blM_M ht 24 (Nat.le_refl _), show min 24 (t / 30) = t / 30 by omega, Int32.sub_eq_add_neg, Int32.add_comm]
theorem prev_M (hc : ∀ d, d < 720 → bal mv 0 0 (d + 1) = E (nI d)) (hr : ∀ m w, m < 24 → rate m w = rtC (R m w)) {t : Nat} (ht : t < 720) : prevC mv rate t = prM E R t := by
  unfold prM
  cases t with
  | zero => rw [if_pos (show nI 0 = 0 from rfl)]; rfl
  | succ t =>
    rw [if_neg (nI_ne0 (by omega) (by omega)), nI_pred, ← balC_M hc hr (by omega)]
    rfl
end PINT
