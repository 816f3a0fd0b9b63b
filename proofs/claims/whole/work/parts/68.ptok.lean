/-! ===== tokens: what the class reads and what the reference cuts are one ===== -/
theorem run_all {P : Int32 → Bool} {S : Nat → Int32} : ∀ (k i j : Nat), i ≤ j → j < run P S k i → P (S j) = true
  | 0, i, j, h1, h2 => absurd h2 (by show ¬ j < i; omega)
  | k + 1, i, j, h1, h2 => by
    by_cases h : P (S i) = true
    · rw [run_y h] at h2
      rcases Nat.lt_or_eq_of_le h1 with z | z
      · exact run_all k (i + 1) j z h2
      · subst z; exact h
    · rw [run_n h] at h2; omega
theorem isLb_x {c : Int32} (h : isLb c = true) : ∃ x, 1 ≤ x ∧ x ≤ 26 ∧ c = nI (96 + x) := by
  obtain ⟨h1, h2⟩ := of_decide_eq_true h
  have h0 : ¬ c < 0 := fun q => h1 (Int32.lt_trans q (show (0 : Int32) < 97 by decide))
  obtain ⟨j, hj, rfl⟩ := nI_of h0
  have a1 : 97 ≤ j := Nat.not_lt.mp fun q => h1 (nI_lt (b := 97) q (by decide))
  have a2 : j ≤ 122 := Nat.not_lt.mp fun q => h2 (nI_lt (a := 122) q (by omega))
  exact ⟨j - 96, by omega, by omega, congrArg nI (by omega)⟩
theorem isDb_x {c : Int32} (h : isDb c = true) : ∃ x, x ≤ 9 ∧ c = nI (48 + x) := by
  obtain ⟨h1, h2⟩ := of_decide_eq_true h
  have h0 : ¬ c < 0 := fun q => h1 (Int32.lt_trans q (show (0 : Int32) < 48 by decide))
  obtain ⟨j, hj, rfl⟩ := nI_of h0
  have a1 : 48 ≤ j := Nat.not_lt.mp fun q => h1 (nI_lt (b := 48) q (by decide))
  have a2 : j ≤ 57 := Nat.not_lt.mp fun q => h2 (nI_lt (a := 57) q (by omega))
  exact ⟨j - 48, by omega, congrArg nI (by omega)⟩
def h37 (x : Nat → Nat) : Nat → Nat
  | 0 => 0
  | m + 1 => 37 * h37 x m + x m
theorem h37_inj {x y : Nat → Nat} : ∀ (m l : Nat), (∀ j, j < m → 1 ≤ x j ∧ x j ≤ 36) → (∀ j, j < l → 1 ≤ y j ∧ y j ≤ 36) → h37 x m = h37 y l → m = l ∧ ∀ j, j < m → x j = y j
  | 0, 0, _, _, _ => ⟨rfl, fun j hj => absurd hj (Nat.not_lt_zero j)⟩
  | 0, l + 1, _, hy, e => by
    have := hy l (Nat.lt_succ_self l)
    have e : 0 = 37 * h37 y l + y l := e
    omega
  | m + 1, 0, hx, _, e => by
    have := hx m (Nat.lt_succ_self m)
    have e : 37 * h37 x m + x m = 0 := e
    omega
  | m + 1, l + 1, hx, hy, e => by
    have hxm := hx m (Nat.lt_succ_self m)
    have hyl := hy l (Nat.lt_succ_self l)
    have e : 37 * h37 x m + x m = 37 * h37 y l + y l := e
    obtain ⟨r1, r2⟩ := h37_inj m l (fun j hj => hx j (Nat.lt_succ_of_lt hj)) (fun j hj => hy j (Nat.lt_succ_of_lt hj)) (by omega)
    subst r1
    refine ⟨rfl, fun j hj => ?_⟩
    rcases Nat.lt_or_eq_of_le (Nat.le_of_lt_succ hj) with z | z
    · exact r2 j z
    · subst z; omega
theorem hvJ_h37 {S : Nat → Int32} {p : Nat} {x : Nat → Nat} : ∀ m, m ≤ 8 → (∀ j, j < m → S (p + j) = nI (96 + x j) ∧ x j ≤ 26) → hvJ S p m = lN (h37 x m)
  | 0, _, _ => rfl
  | m + 1, hm, h => by
    have e := h m (Nat.lt_succ_self m)
    show (if m < 8 then 37 * hvJ S p m + (S (p + m) - 96).toInt64 else hvJ S p m) = lN (37 * h37 x m + x m)
    rw [if_pos (by omega), hvJ_h37 m (by omega) (fun j hj => h j (Nat.lt_succ_of_lt hj)), e.1, show (96 : Int32) = nI 96 from rfl, nI_sub (by omega), nI_l (by omega), show (37 : Int64) = lN 37 from rfl, lN_mul, lN_add]
    congr 2
    omega
/-- the words' letters, and their numbers -/
def wyL : List (List Nat) := [[9, 14, 20, 5, 18, 5, 19, 20], [12, 9, 13, 9, 20], [23, 8, 5, 14], [1, 14, 4], [11, 9, 14, 4], [2, 1, 19, 5], [1, 7, 5], [13, 15, 14, 20, 8], [4, 1, 25]]
def wy (w j : Nat) : Nat := (wyL.getD w []).getD j 0
def wdL : List Int64 := [891704233190, 22963959, 1176170, 1891, 570026, 103383, 1633, 25143802, 5538]
theorem wy_ok : ∀ w, w < 9 → (∀ j, j < px_SL.getD w 0 → 1 ≤ wy w j ∧ wy w j ≤ 26 ∧ (px_SB.getD w []).getD j 0 = nI (96 + wy w j)) ∧ px_SL.getD w 0 ≤ 8 ∧ wdL.getD w 0 = lN (h37 (wy w) (px_SL.getD w 0)) ∧ h37 (wy w) (px_SL.getD w 0) < 2 ^ 50 := by decide +kernel
theorem wd_inj : ∀ w, w < 9 → ∀ v, v < 9 → wdL.getD w 0 = wdL.getD v 0 → w = v := by decide +kernel
theorem mtF_iff {S : Nat → Int32} {p w : Nat} : ∀ (k j : Nat), mtF S p w k j = true ↔ ∀ q, j ≤ q → q < j + k → S (p + q) = (px_SB.getD w []).getD q 0
  | 0, j => ⟨fun _ q h1 h2 => absurd h2 (by omega), fun _ => rfl⟩
  | k + 1, j => by
    show (if S (p + j) = (px_SB.getD w []).getD j 0 then mtF S p w k (j + 1) else false) = true ↔ _
    by_cases h : S (p + j) = (px_SB.getD w []).getD j 0
    · rw [if_pos h, mtF_iff k (j + 1)]
      refine ⟨fun z q h1 h2 => ?_, fun z q h1 h2 => z q (by omega) (by omega)⟩
      rcases Nat.lt_or_eq_of_le h1 with y | y
      · exact z q y (by omega)
      · subst y; exact h
    · rw [if_neg h]
      exact ⟨fun z => absurd z (by decide), fun z => absurd (z j (Nat.le_refl _) (by omega)) h⟩
theorem h37_lt {x : Nat → Nat} : ∀ m, m ≤ 8 → (∀ j, j < m → x j ≤ 36) → h37 x m < 37 ^ m
  | 0, _, _ => by show 0 < 1; decide
  | m + 1, hm, h => by
    have ih := h37_lt m (by omega) (fun j hj => h j (Nat.lt_succ_of_lt hj))
    have := h m (Nat.lt_succ_self m)
    show 37 * h37 x m + x m < 37 ^ (m + 1)
    rw [Nat.pow_succ]; omega
theorem wm_iff {S : Nat → Int32} {p m w : Nat} (hw : w < 9) (hm : m ≤ 8) (hl : ∀ j, j < m → isLb (S (p + j)) = true) : hvJ S p m = wdL.getD w 0 ↔ wmB S p m w = true := by
  have hx : ∃ x : Nat → Nat, ∀ j, j < m → 1 ≤ x j ∧ x j ≤ 26 ∧ S (p + j) = nI (96 + x j) := by
    refine ⟨fun j => if h : j < m then Classical.choose (isLb_x (hl j h)) else 0, fun j hj => ?_⟩
    have q := Classical.choose_spec (isLb_x (hl j hj))
    simp only [hj, dif_pos]
    exact q
  obtain ⟨x, hx⟩ := hx
  obtain ⟨y1, y2, y3, y4⟩ := wy_ok w hw
  have lx : h37 x m < 2 ^ 50 := Nat.lt_of_lt_of_le (h37_lt m hm (fun j hj => by have := hx j hj; omega)) (Nat.le_trans (Nat.pow_le_pow_right (by decide) hm) (by decide))
  rw [hvJ_h37 m hm (fun j hj => ⟨(hx j hj).2.2, (hx j hj).2.1⟩), y3]
  unfold wmB
  rw [Bool.and_eq_true, decide_eq_true_eq, mtF_iff]
  constructor
  · intro e
    have e2 : h37 x m = h37 (wy w) (px_SL.getD w 0) := by
      have := congrArg Int64.toInt e
      rw [lN_t (by omega), lN_t (by omega)] at this
      exact Int.ofNat.inj this
    obtain ⟨r1, r2⟩ := h37_inj m _ (fun j hj => by have := hx j hj; omega) (fun j hj => by have := y1 j hj; omega) e2
    refine ⟨r1, fun q _ hq => ?_⟩
    rw [Nat.zero_add] at hq
    rw [(hx q (by omega)).2.2, r2 q (by omega), (y1 q hq).2.2]
  · rintro ⟨r1, r2⟩
    congr 1
    have : ∀ k, k ≤ m → h37 x k = h37 (wy w) k := by
      intro k
      induction k with
      | zero => intro _; rfl
      | succ k ih =>
        intro hk
        show 37 * h37 x k + x k = 37 * h37 (wy w) k + wy w k
        have a := r2 k (Nat.zero_le _) (by omega)
        rw [(hx k (by omega)).2.2, (y1 k (by omega)).2.2] at a
        have b := (nI_eq (by have := hx k (by omega); omega) (by have := y1 k (by omega); omega)).mp a
        rw [ih (by omega)]; omega
    rw [this m (Nat.le_refl _), r1]
def wcdB (b0 b1 b2 b3 b4 b5 b6 b7 b8 : Bool) : Int32 := if b0 = true then -3 else if b1 = true then -4 else if b2 = true then -5 else if b3 = true then -6 else if b4 = true then -7 else if b5 = true then -8 else if b6 = true then -9 else if b7 = true then -10 else if b8 = true then -11 else -2
def bsel (b0 b1 b2 b3 b4 b5 b6 b7 b8 : Bool) : Nat → Bool
  | 0 => b0 | 1 => b1 | 2 => b2 | 3 => b3 | 4 => b4 | 5 => b5 | 6 => b6 | 7 => b7 | _ => b8
theorem wcdB_ok : ∀ b0 b1 b2 b3 b4 b5 b6 b7 b8 : Bool, (∀ w, w < 9 → (wcdB b0 b1 b2 b3 b4 b5 b6 b7 b8 = -3 - nI w ↔ bsel b0 b1 b2 b3 b4 b5 b6 b7 b8 w = true ∧ ∀ v, v < w → bsel b0 b1 b2 b3 b4 b5 b6 b7 b8 v = false)) ∧ ¬ 0 ≤ wcdB b0 b1 b2 b3 b4 b5 b6 b7 b8 ∧ ¬ wcdB b0 b1 b2 b3 b4 b5 b6 b7 b8 = -1 ∧ (∀ c : Int32, c ∈ [40, 41, 59, 61, 60, 43, 45] → ¬ wcdB b0 b1 b2 b3 b4 b5 b6 b7 b8 = sgnT c) := by decide +kernel
theorem wcd_sel (S : Nat → Int32) (p m : Nat) {w : Nat} (hw : w < 9) : bsel (wmB S p m 0) (wmB S p m 1) (wmB S p m 2) (wmB S p m 3) (wmB S p m 4) (wmB S p m 5) (wmB S p m 6) (wmB S p m 7) (wmB S p m 8) w = wmB S p m w := by
  obtain rfl | rfl | rfl | rfl | rfl | rfl | rfl | rfl | rfl : w = 0 ∨ w = 1 ∨ w = 2 ∨ w = 3 ∨ w = 4 ∨ w = 5 ∨ w = 6 ∨ w = 7 ∨ w = 8 := by omega
  all_goals rfl
theorem wcd_iff {S : Nat → Int32} {p m w : Nat} (hw : w < 9) (hm : m ≤ 8) (hl : ∀ j, j < m → isLb (S (p + j)) = true) : wcd S p m = -3 - nI w ↔ wmB S p m w = true := by
  have k := (wcdB_ok (wmB S p m 0) (wmB S p m 1) (wmB S p m 2) (wmB S p m 3) (wmB S p m 4) (wmB S p m 5) (wmB S p m 6) (wmB S p m 7) (wmB S p m 8)).1 w hw
  rw [wcd_sel S p m hw] at k
  refine (show wcd S p m = -3 - nI w ↔ _ from k).trans ⟨fun q => q.1, fun q => ⟨q, fun v hv => ?_⟩⟩
  rw [wcd_sel S p m (by omega)]
  cases z : wmB S p m v
  · rfl
  · have e1 := (wm_iff hw hm hl).mpr q
    have e2 := (wm_iff (show v < 9 by omega) hm hl).mpr z
    have := wd_inj w hw v (by omega) (e1.symm.trans e2)
    omega
def d10 (x : Nat → Nat) : Nat → Nat
  | 0 => 0
  | m + 1 => 10 * d10 x m + x m
theorem d10_lt {x : Nat → Nat} : ∀ m, (∀ j, j < m → x j ≤ 9) → d10 x m < 10 ^ m
  | 0, _ => by show 0 < 1; decide
  | m + 1, h => by
    have ih := d10_lt m (fun j hj => h j (Nat.lt_succ_of_lt hj))
    have := h m (Nat.lt_succ_self m)
    show 10 * d10 x m + x m < 10 ^ (m + 1)
    rw [Nat.pow_succ]; omega
theorem nv_d10 {S : Nat → Int32} {p : Nat} {x : Nat → Nat} : ∀ m, m ≤ 5 → (∀ j, j < m → S (p + j) = nI (48 + x j) ∧ x j ≤ 9) → nvI S p m = nI (d10 x m) ∧ dvJ S p m = lN (d10 x m)
  | 0, _, _ => ⟨rfl, rfl⟩
  | m + 1, hm, h => by
    have e := h m (Nat.lt_succ_self m)
    obtain ⟨i1, i2⟩ := nv_d10 m (by omega) (fun j hj => h j (Nat.lt_succ_of_lt hj))
    constructor
    · show (if m < 5 then nvI S p m * 10 + (S (p + m) - 48) else nvI S p m) = nI (10 * d10 x m + x m)
      rw [if_pos (by omega), i1, e.1, show (48 : Int32) = nI 48 from rfl, nI_sub (by omega), show nI (d10 x m) * 10 = nI (d10 x m * 10) from (Int32.ofNat_mul ..).symm, nI_add]
      congr 1
      omega
    · show (if m < 5 then 10 * dvJ S p m + (S (p + m)).toInt64 - 48 else dvJ S p m) = lN (10 * d10 x m + x m)
      rw [if_pos (by omega), i2, e.1, nI_l (by omega), show (10 : Int64) = lN 10 from rfl, lN_mul, lN_add, show (48 : Int64) = lN 48 from rfl, lN_sub (by omega)]
      congr 1
      omega
theorem num_ok {S : Nat → Int32} {p m : Nat} (hm : m ≤ 5) (hl : ∀ j, j < m → isDb (S (p + j)) = true) : ∃ v, v < 100000 ∧ nvI S p m = nI v ∧ dvJ S p m = (nvI S p m).toInt64 := by
  have hx : ∃ x : Nat → Nat, ∀ j, j < m → x j ≤ 9 ∧ S (p + j) = nI (48 + x j) := by
    refine ⟨fun j => if h : j < m then Classical.choose (isDb_x (hl j h)) else 0, fun j hj => ?_⟩
    have q := Classical.choose_spec (isDb_x (hl j hj))
    simp only [hj, dif_pos]
    exact q
  obtain ⟨x, hx⟩ := hx
  obtain ⟨a, b⟩ := nv_d10 m hm (fun j hj => ⟨(hx j hj).2, (hx j hj).1⟩)
  have lt := Nat.lt_of_lt_of_le (d10_lt m (fun j hj => (hx j hj).1)) (Nat.pow_le_pow_right (by decide) hm)
  exact ⟨_, lt, a, by rw [a, b, nI_l (by omega)]⟩
theorem sg_tab : ∀ c ∈ ([40, 41, 59, 61, 60, 43, 45] : List Int32), ∀ e ∈ ([40, 41, 59, 61, 60, 43, 45] : List Int32), (sgnT c = sgnT e ↔ c = e) ∧ ¬ 0 ≤ sgnT c ∧ ¬ sgnT c = -1 ∧ ¬ sgnT c = -2 ∧ ∀ w, w < 9 → ¬ sgnT c = -3 - nI w := by decide +kernel
theorem m2_tab : (∀ w, w < 9 → ¬ (-2 : Int32) = -3 - nI w) ∧ (∀ c ∈ ([40, 41, 59, 61, 60, 43, 45] : List Int32), ¬ (-2 : Int32) = sgnT c) := by decide +kernel
theorem m1_tab : (∀ w, w < 9 → ¬ (-1 : Int32) = -3 - nI w) ∧ (∀ c ∈ ([40, 41, 59, 61, 60, 43, 45] : List Int32), ¬ (-1 : Int32) = sgnT c) := by decide +kernel
theorem num_tab {v : Nat} (hv : v < 100000) : (∀ w, w < 9 → ¬ nI v = -3 - nI w) ∧ (∀ c ∈ ([40, 41, 59, 61, 60, 43, 45] : List Int32), ¬ nI v = sgnT c) ∧ ¬ nI v = -1 := by
  have h0 : 0 ≤ nI v := nI_pos' (by omega)
  have k : ∀ w, w < 9 → ¬ (0 : Int32) ≤ -3 - nI w := by decide +kernel
  refine ⟨fun w hw q => k w hw (q ▸ h0), fun c hc q => (sg_tab c hc c hc).2.1 (q ▸ h0), fun q => ?_⟩
  rw [q] at h0
  exact absurd h0 (by decide)
theorem sgnT_no {c : Int32} (h : ¬ isSb c = true) : sgnT c = -2 := by
  have q := fun z => h (decide_eq_true z)
  unfold sgnT
  rw [if_neg (fun z => q (Or.inl z)), if_neg (fun z => q (Or.inr (Or.inl z))), if_neg (fun z => q (Or.inr (Or.inr (Or.inr (Or.inr (Or.inl z)))))), if_neg (fun z => q (Or.inr (Or.inr (Or.inr (Or.inl z))))), if_neg (fun z => q (Or.inr (Or.inr (Or.inr (Or.inr (Or.inr (Or.inl z))))))), if_neg (fun z => q (Or.inr (Or.inr (Or.inr (Or.inr (Or.inr (Or.inr z))))))), if_neg (fun z => q (Or.inr (Or.inr (Or.inl z))))]
/-- one token: the reference's sort and value, and what the class calls it -/
theorem tok_E {S : Nat → Int32} {n p : Nat} (hp : p < n) : (∀ w, w < 9 → ((mSo S n p = 1 ∧ mVa S n p = wdL.getD w 0) ↔ tkT S n p = -3 - nI w)) ∧ (mSo S n p = 2 ↔ 0 ≤ tkT S n p) ∧ (mSo S n p = 2 → mVa S n p = (tkT S n p).toInt64) ∧ (∀ c : Int32, c ∈ [40, 41, 59, 61, 60, 43, 45] → ((mSo S n p = 3 ∧ mVa S n p = c.toInt64) ↔ tkT S n p = sgnT c)) ∧ ¬ mSo S n p = 0 ∧ ¬ tkT S n p = -1 := by
  unfold tkT mSo mVa
  rw [if_pos hp]
  by_cases hL : isLb (S p) = true
  · have eL := enT_L hp hL
    have hall : ∀ j, j < run isLb S (n - p) p - p → isLb (S (p + j)) = true := fun j hj => run_all (n - p) p (p + j) (Nat.le_add_right _ _) (by omega)
    rw [if_pos hL, if_pos hL, if_pos hL, eL]
    by_cases h8 : run isLb S (n - p) p - p ≤ 8
    · have k := wcdB_ok (wmB S p (run isLb S (n - p) p - p) 0) (wmB S p (run isLb S (n - p) p - p) 1) (wmB S p (run isLb S (n - p) p - p) 2) (wmB S p (run isLb S (n - p) p - p) 3) (wmB S p (run isLb S (n - p) p - p) 4) (wmB S p (run isLb S (n - p) p - p) 5) (wmB S p (run isLb S (n - p) p - p) 6) (wmB S p (run isLb S (n - p) p - p) 7) (wmB S p (run isLb S (n - p) p - p) 8)
      rw [if_pos h8, if_neg (by omega)]
      refine ⟨fun w hw => ?_, ⟨fun z => absurd z (by decide), fun z => absurd z k.2.1⟩, fun z => absurd z (by decide), fun c hc => ⟨fun z => absurd z.1 (by decide), fun z => absurd z (k.2.2.2 c hc)⟩, by decide, k.2.2.1⟩
      rw [wcd_iff hw h8 hall, ← wm_iff hw h8 hall]
      exact ⟨fun z => z.2, fun z => ⟨rfl, z⟩⟩
    · rw [if_neg h8, if_pos (by omega)]
      exact ⟨fun w hw => ⟨fun z => absurd z.1 (by decide), fun z => absurd z (m2_tab.1 w hw)⟩, ⟨fun z => absurd z (by decide), fun z => absurd z (by decide)⟩, fun z => absurd z (by decide), fun c hc => ⟨fun z => absurd z.1 (by decide), fun z => absurd z (m2_tab.2 c hc)⟩, by decide, by decide⟩
  · rw [if_neg hL, if_neg hL, if_neg hL]
    by_cases hD : isDb (S p) = true
    · have eD := enT_D hp hL hD
      have hall : ∀ j, j < run isDb S (n - p) p - p → isDb (S (p + j)) = true := fun j hj => run_all (n - p) p (p + j) (Nat.le_add_right _ _) (by omega)
      rw [if_pos hD, if_pos hD, if_pos hD, eD]
      by_cases h5 : run isDb S (n - p) p - p ≤ 5
      · obtain ⟨v, hv, e1, e2⟩ := num_ok h5 hall
        have nt := num_tab hv
        rw [if_pos h5, if_neg (by omega), e2, e1]
        exact ⟨fun w hw => ⟨fun z => absurd z.1 (by decide), fun z => absurd z (nt.1 w hw)⟩, ⟨fun _ => nI_pos' (by omega), fun _ => rfl⟩, fun _ => rfl, fun c hc => ⟨fun z => absurd z.1 (by decide), fun z => absurd z (nt.2.1 c hc)⟩, by decide, nt.2.2⟩
      · rw [if_neg h5, if_pos (by omega)]
        exact ⟨fun w hw => ⟨fun z => absurd z.1 (by decide), fun z => absurd z (m2_tab.1 w hw)⟩, ⟨fun z => absurd z (by decide), fun z => absurd z (by decide)⟩, fun z => absurd z (by decide), fun c hc => ⟨fun z => absurd z.1 (by decide), fun z => absurd z (m2_tab.2 c hc)⟩, by decide, by decide⟩
    · rw [if_neg hD, if_neg hD, if_neg hD]
      by_cases hS : isSb (S p) = true
      · have hm : S p ∈ ([40, 41, 59, 61, 60, 43, 45] : List Int32) := by
          have := of_decide_eq_true hS
          simpa using this
        have st := sg_tab (S p) hm
        rw [if_pos hS]
        refine ⟨fun w hw => ⟨fun z => absurd z.1 (by decide), fun z => absurd z ((st (S p) hm).2.2.2.2 w hw)⟩, ⟨fun z => absurd z (by decide), fun z => absurd z (st (S p) hm).2.1⟩, fun z => absurd z (by decide), fun c hc => ?_, by decide, (st (S p) hm).2.2.1⟩
        rw [(st c hc).1]
        exact ⟨fun z => by
          have q := congrArg Int64.toInt32 z.2
          rwa [Int32.toInt32_toInt64, Int32.toInt32_toInt64] at q, fun z => ⟨rfl, by rw [z]⟩⟩
      · rw [if_neg hS, sgnT_no hS]
        exact ⟨fun w hw => ⟨fun z => absurd z.1 (by decide), fun z => absurd z (m2_tab.1 w hw)⟩, ⟨fun z => absurd z (by decide), fun z => absurd z (by decide)⟩, fun z => absurd z (by decide), fun c hc => ⟨fun z => absurd z.1 (by decide), fun z => absurd z (m2_tab.2 c hc)⟩, by decide, by decide⟩
/-- how many tokens there are -/
theorem pT_le (S : Nat → Int32) (n i : Nat) : pT S n i ≤ n := (rnB_le (aT_le S n i)).2
theorem aT_ge {S : Nat → Int32} {n : Nat} : ∀ i, (∀ j, j < i → pT S n j < n) → i ≤ aT S n i
  | 0, _ => Nat.zero_le _
  | i + 1, h => by
    have ih := aT_ge i (fun j hj => h j (Nat.lt_succ_of_lt hj))
    have h1 := (rnB_le (S := S) (aT_le S n i)).1
    have h2 := (enT_gt (S := S) (h i (Nat.lt_succ_self i))).1
    show i + 1 ≤ enT S n (pT S n i)
    have : pT S n i = rnB S n (aT S n i) := rfl
    omega
theorem tok_N (S : Nat → Int32) (n : Nat) : ∃ N, N ≤ n ∧ pT S n N = n ∧ ∀ i, i < N → pT S n i < n := by
  have key : ∀ k, (∃ N, N ≤ k ∧ pT S n N = n ∧ ∀ i, i < N → pT S n i < n) ∨ ∀ i, i ≤ k → pT S n i < n := by
    intro k
    induction k with
    | zero =>
      rcases Nat.lt_or_eq_of_le (pT_le S n 0) with z | z
      · exact Or.inr fun i hi => by rw [show i = 0 by omega]; exact z
      · exact Or.inl ⟨0, Nat.le_refl _, z, fun i hi => absurd hi (Nat.not_lt_zero i)⟩
    | succ k ih =>
      rcases ih with ⟨N, h1, h2⟩ | h
      · exact Or.inl ⟨N, by omega, h2⟩
      · rcases Nat.lt_or_eq_of_le (pT_le S n (k + 1)) with z | z
        · refine Or.inr fun i hi => ?_
          rcases Nat.lt_or_eq_of_le hi with y | y
          · exact h i (by omega)
          · rw [y]; exact z
        · exact Or.inl ⟨k + 1, Nat.le_refl _, z, fun i hi => h i (by omega)⟩
  rcases key n with ⟨N, h1, h2⟩ | h
  · exact ⟨N, h1, h2⟩
  · have h1 := aT_ge n (fun j hj => h j (by omega))
    have h2 := (rnB_le (S := S) (aT_le S n n)).1
    have h3 := h n (Nat.le_refl _)
    have : pT S n n = rnB S n (aT S n n) := rfl
    omega
theorem tkI_N {S : Nat → Int32} {n N : Nat} (h : pT S n N = n) : tkI S n N = -1 := by
  unfold tkI tkT
  rw [h, if_neg (Nat.lt_irrefl n)]
theorem tkI_i {S : Nat → Int32} {n i : Nat} (h : pT S n i < n) : ¬ tkI S n i = -1 := (tok_E h).2.2.2.2.2
theorem TKs_of {H : PH} {S so pl : Nat → Int32} {va : Nat → Int64} {n N : Nat} (hW : ∀ w, w < 9 → hJ H 41 w = wdL.getD w 0) (hn : n ≤ 600) (hN : N ≤ n) (h1 : ∀ i, i < N → pT S n i < n) (h2 : pT S n N = n) (hC : CUT S n so pl va N) (hs : so N = 0) (hp : pl N = nI n) : TKs (cutS H so pl va) N (tkI S n) (pT S n) := by
  refine ⟨by omega, fun i hi => ?_⟩
  have hW' : ∀ w, w < 9 → hJ (cutS H so pl va) 41 w = wdL.getD w 0 := hW
  have e38 : hI (cutS H so pl va) 38 i = so i := rfl
  have e39 : hI (cutS H so pl va) 39 i = pl i := rfl
  have e40 : hJ (cutS H so pl va) 40 i = va i := rfl
  rw [e38, e39, e40]
  rcases Nat.lt_or_eq_of_le hi with z | z
  · obtain ⟨c1, c2, c3, c4⟩ := hC i z
    obtain ⟨t1, t2, t3, t4, t5, t6⟩ := tok_E (S := S) c1
    rw [c2, c3, c4]
    exact ⟨fun w hw => by rw [hW' w hw]; exact t1 w hw, t2, t3, t4, ⟨fun q => absurd q t5, fun q => absurd q t6⟩, rfl, by have := pT_le S n i; omega⟩
  · subst z
    rw [hs, hp, tkI_N h2]
    exact ⟨fun w hw => ⟨fun q => absurd q.1 (by decide), fun q => absurd q (m1_tab.1 w hw)⟩, ⟨fun q => absurd q (by decide), fun q => absurd q (by decide)⟩, fun q => absurd q (by decide), fun c hc => ⟨fun q => absurd q.1 (by decide), fun q => absurd q (m1_tab.2 c hc)⟩, ⟨fun _ => rfl, fun _ => rfl⟩, congrArg nI h2.symm, by omega⟩
