/-! ===== the best plan: what the class reaches set by set is what the reference finds by trying all ===== -/
theorem lN_t {v : Nat} (h : v < 2 ^ 60) : (lN v).toInt = (v : Int) := Int64.toInt_ofNat_of_lt (by omega)
theorem m1_t : (-1 : Int64).toInt = -1 := by decide
def SPs (P : Nat → Nat → Nat) (d : Nat → Nat) (w : Nat) : Nat → Nat
  | 0 => 0
  | j + 1 => SPs P d w j + (if d j ≤ w then P j (d j) else 0)
def pls (d : Nat → Nat) : Nat → Nat
  | 0 => 0
  | j + 1 => pls d j + (if d j = 7 then 0 else d j * 8 ^ (5 - j))
def VVs (P : Nat → Nat → Nat) (d : Nat → Nat) : Nat → Nat
  | 0 => 0
  | j + 1 => VVs P d j + (if d j = 7 then 0 else P j (d j) * 262144 + d j * 8 ^ (5 - j))
/-- a plan so far: of the weeks up to w, the holdings below h in it; s are gone; the needs N are met -/
def PL (P : Nat → Nat → Nat) (N : Nat → Nat) (n w h s : Nat) (d : Nat → Nat) : Prop := (∀ j, j < n → ((d j < w ∨ d j = w ∧ j < h) ∧ d j ≤ 6 ∧ s.testBit j = true) ∨ (d j = 7 ∧ s.testBit j = false)) ∧ ∀ v, v < w → v < 6 → N v ≤ SPs P d v n
section PBEST
variable {P : Nat → Nat → Nat} {N : Nat → Nat} {n w h s : Nat} {d e : Nat → Nat}
theorem SPs_cg {v : Nat} : ∀ {k : Nat}, (∀ j, j < k → (if d j ≤ v then P j (d j) else 0) = (if e j ≤ v then P j (e j) else 0)) → SPs P d v k = SPs P e v k
  | 0, _ => rfl
  | k + 1, q => by
    show SPs P d v k + _ = SPs P e v k + _
    rw [SPs_cg fun j hj => q j (Nat.lt_succ_of_lt hj), q k (Nat.lt_succ_self k)]
theorem VVs_cg : ∀ {k : Nat}, (∀ j, j < k → d j = e j) → VVs P d k = VVs P e k
  | 0, _ => rfl
  | k + 1, q => by
    show VVs P d k + _ = VVs P e k + _
    rw [VVs_cg fun j hj => q j (Nat.lt_succ_of_lt hj), q k (Nat.lt_succ_self k)]
theorem VVs_upd {i x : Nat} (hx : x ≤ 6) (hi : d i = 7) : ∀ {k : Nat}, i < k → VVs P (fun j => if j = i then x else d j) k = VVs P d k + (P i x * 262144 + x * 8 ^ (5 - i))
  | k + 1, q => by
    show VVs P (fun j => if j = i then x else d j) k + (if (if k = i then x else d k) = 7 then 0 else P k (if k = i then x else d k) * 262144 + (if k = i then x else d k) * 8 ^ (5 - k)) = VVs P d k + (if d k = 7 then 0 else _) + _
    rcases Nat.lt_or_eq_of_le (Nat.le_of_lt_succ q) with z | z
    · rw [VVs_upd hx hi z, if_neg (show ¬ k = i by omega)]
      omega
    · subst z
      rw [if_pos rfl, if_neg (show ¬ x = 7 by omega), hi, if_pos rfl, VVs_cg (d := fun j => if j = i then x else d j) (e := d) fun j hj => if_neg (by omega)]
      omega
theorem pls_le (hd : ∀ j, j < n → d j ≤ 7) : ∀ k, k ≤ n → k ≤ 6 → pls d k + 8 ^ (6 - k) ≤ 8 ^ 6
  | 0, _, _ => by show 0 + 8 ^ 6 ≤ 8 ^ 6; omega
  | k + 1, h1, h2 => by
    have ih := pls_le hd k (by omega) (by omega)
    have hk := hd k (by omega)
    have e : 8 ^ (6 - k) = 8 * 8 ^ (5 - k) := by rw [show 6 - k = (5 - k) + 1 by omega, Nat.pow_succ, Nat.mul_comm]
    have e2 : 8 ^ (6 - (k + 1)) = 8 ^ (5 - k) := by rw [show 6 - (k + 1) = 5 - k by omega]
    show pls d k + (if d k = 7 then 0 else d k * 8 ^ (5 - k)) + 8 ^ (6 - (k + 1)) ≤ 8 ^ 6
    rw [e2]
    rw [e] at ih
    have hm : (if d k = 7 then 0 else d k * 8 ^ (5 - k)) ≤ 7 * 8 ^ (5 - k) := by
      split
      · exact Nat.zero_le _
      · exact Nat.mul_le_mul_right _ hk
    omega
theorem VVs_eq {v : Nat} (hd : ∀ j, j < n → d j ≤ v ∨ d j = 7) (hv : v ≤ 6) : ∀ k, k ≤ n → VVs P d k = SPs P d v k * 262144 + pls d k
  | 0, _ => by show 0 = 0 * 262144 + 0; omega
  | k + 1, hk => by
    have ih := VVs_eq hd hv k (by omega)
    show VVs P d k + _ = (SPs P d v k + _) * 262144 + (pls d k + _)
    rw [ih]
    rcases hd k (by omega) with q | q
    · rw [if_neg (by omega), if_pos q, if_neg (by omega), Nat.add_mul]; omega
    · rw [if_pos q, if_neg (by omega), if_pos q]; omega
theorem VVs_div {v : Nat} (hn : n ≤ 6) (hd : ∀ j, j < n → d j ≤ v ∨ d j = 7) (hv : v ≤ 6) : VVs P d n / 262144 = SPs P d v n := by
  have h1 := pls_le (d := d) (n := n) (fun j hj => by rcases hd j hj with q | q <;> omega) n (Nat.le_refl _) hn
  have h2 : 0 < 8 ^ (6 - n) := Nat.pow_pos (by decide)
  rw [VVs_eq hd hv n (Nat.le_refl _)]
  omega
theorem SPs_le (hP : ∀ j x, j < n → P j x ≤ 10000) {v : Nat} : ∀ k, k ≤ n → SPs P d v k ≤ 10000 * k
  | 0, _ => Nat.le_refl _
  | k + 1, hk => by
    have ih := SPs_le hP (v := v) k (by omega)
    have := hP k (d k) (by omega)
    show SPs P d v k + _ ≤ _
    split <;> omega
theorem VVs_lt (hn : n ≤ 6) (hP : ∀ j x, j < n → P j x ≤ 10000) (hd : ∀ j, j < n → d j ≤ 6 ∨ d j = 7) : VVs P d n < 2 ^ 40 := by
  have h1 := pls_le (d := d) (n := n) (fun j hj => by rcases hd j hj with q | q <;> omega) n (Nat.le_refl _) hn
  have h2 : 0 < 8 ^ (6 - n) := Nat.pow_pos (by decide)
  have h3 := SPs_le (d := d) hP (v := 6) n (Nat.le_refl _)
  rw [VVs_eq (v := 6) hd (Nat.le_refl _) n (Nat.le_refl _)]
  omega
theorem PL.dle (q : PL P N n w h s d) : ∀ j, j < n → d j ≤ 6 ∨ d j = 7 := fun j hj => (q.1 j hj).elim (fun z => Or.inl z.2.1) (fun z => Or.inr z.1)
/-- what is reached: each is a plan's, and none is below a plan's -/
def DPI (P : Nat → Nat → Nat) (N : Nat → Nat) (n w h : Nat) (r : Nat → Int64) : Prop := ∀ s, s < 2 ^ n → (r s = -1 ∨ ∃ d, PL P N n w h s d ∧ r s = lN (VVs P d n)) ∧ ∀ d, PL P N n w h s d → (VVs P d n : Int) ≤ (r s).toInt
def mx6 (a b : Int64) : Int64 := if b < a then a else b
theorem lgS_val {gn : Int64} {hd : Nat} {r : Nat → Int64} : ∀ (k s : Nat), lgS gn hd r k s = if s < k ∧ s.testBit hd = true ∧ ¬ r (s ^^^ 2 ^ hd) < 0 then mx6 (r s) (r (s ^^^ 2 ^ hd) + gn) else r s
  | 0, s => (if_neg (fun q => absurd q.1 (Nat.not_lt_zero s))).symm
  | k + 1, s => by
    have ih := lgS_val (gn := gn) (hd := hd) (r := r) k
    have hx : k.testBit hd = true → lgS gn hd r k (k ^^^ 2 ^ hd) = r (k ^^^ 2 ^ hd) := fun q => by
      rw [ih]
      refine if_neg fun z => ?_
      have e : (k ^^^ 2 ^ hd).testBit hd = false := by rw [Nat.testBit_xor, q, Nat.testBit_two_pow_self]; rfl
      rw [e] at z
      exact absurd z.2.1 (by decide)
    have hk : lgS gn hd r k k = r k := by
      rw [ih]
      exact if_neg fun z => absurd z.1 (Nat.lt_irrefl k)
    unfold lgS
    by_cases c : k.testBit hd = true ∧ ¬ lgS gn hd r k (k ^^^ 2 ^ hd) < 0
    · rw [if_pos c]
      have c2 := c.2
      rw [hx c.1] at c2 ⊢
      rw [hk]
      show (if s = k then _ else _) = _
      by_cases q : s = k
      · subst q
        refine (if_pos rfl).trans ?_
        exact (show mx6 (r s) (r (s ^^^ 2 ^ hd) + gn) = _ from (if_pos ⟨Nat.lt_succ_self s, c.1, c2⟩).symm)
      · rw [if_neg q, ih]
        by_cases z : s < k ∧ s.testBit hd = true ∧ ¬ r (s ^^^ 2 ^ hd) < 0
        · rw [if_pos z, if_pos ⟨by omega, z.2⟩]
        · rw [if_neg z, if_neg (fun y => z ⟨by omega, y.2⟩)]
    · rw [if_neg c, ih]
      by_cases q : s = k
      · subst q
        rw [if_neg (fun y => absurd y.1 (Nat.lt_irrefl s))]
        refine (if_neg (fun y => c ⟨y.2.1, ?_⟩)).symm
        rw [hx y.2.1]; exact y.2.2
      · by_cases z : s < k ∧ s.testBit hd = true ∧ ¬ r (s ^^^ 2 ^ hd) < 0
        · rw [if_pos z, if_pos ⟨by omega, z.2⟩]
        · rw [if_neg z, if_neg (fun y => z ⟨by omega, y.2⟩)]
theorem xlt {s n hd : Nat} (hs : s < 2 ^ n) (hh : hd < n) : s ^^^ 2 ^ hd < 2 ^ n := Nat.xor_lt_two_pow hs (Nat.pow_lt_pow_right (by decide) hh)
theorem xtb {s hd j : Nat} (hj : j ≠ hd) : (s ^^^ 2 ^ hd).testBit j = s.testBit j := by
  rw [Nat.testBit_xor, Nat.testBit_two_pow_of_ne (Ne.symm hj), Bool.xor_false]
theorem xth {s hd : Nat} (hb : s.testBit hd = true) : (s ^^^ 2 ^ hd).testBit hd = false := by
  rw [Nat.testBit_xor, hb, Nat.testBit_two_pow_self]; rfl
theorem DPI.val {r : Nat → Int64} (hn : n ≤ 6) (hP : ∀ j x, j < n → P j x ≤ 10000) (H : DPI P N n w h r) (hs : s < 2 ^ n) : r s = -1 ∨ ∃ v, r s = lN v ∧ v < 2 ^ 40 ∧ ∃ d, PL P N n w h s d ∧ VVs P d n = v := by
  rcases (H s hs).1 with q | ⟨d, q1, q2⟩
  · exact Or.inl q
  · exact Or.inr ⟨_, q2, VVs_lt hn hP q1.dle, d, q1, rfl⟩
/-- a holding may go in a week -/
theorem DPI.go {r : Nat → Int64} (hn : n ≤ 6) (hP : ∀ j x, j < n → P j x ≤ 10000) (hw : w ≤ 6) (hh : h < n) (H : DPI P N n w h r) : DPI P N n w (h + 1) (lgS (lN (P h w * 262144 + w * 8 ^ (5 - h))) h r 64) := by
  have h64 : 2 ^ n ≤ 64 := Nat.le_trans (Nat.pow_le_pow_right (by decide) hn) (by decide)
  have up : ∀ s d, PL P N n w h s d → PL P N n w (h + 1) s d := fun s d q => ⟨fun j hj => (q.1 j hj).elim (fun z => Or.inl ⟨z.1.elim Or.inl (fun y => Or.inr ⟨y.1, by omega⟩), z.2⟩) Or.inr, q.2⟩
  intro s hs
  rw [lgS_val 64 s]
  cases hb : s.testBit h with
  | false =>
    rw [if_neg (fun y => absurd y.2.1 (by decide))]
    have dn : ∀ d, PL P N n w (h + 1) s d → PL P N n w h s d := fun d q => ⟨fun j hj => (q.1 j hj).elim (fun z => Or.inl ⟨z.1.elim Or.inl (fun y => Or.inr ⟨y.1, by
      rcases Nat.lt_or_eq_of_le (Nat.le_of_lt_succ y.2) with a | a
      · exact a
      · subst a; rw [hb] at z; exact absurd z.2.2 (by decide)⟩), z.2⟩) Or.inr, q.2⟩
    exact ⟨(H s hs).1.imp id (fun ⟨d, q1, q2⟩ => ⟨d, up s d q1, q2⟩), fun d q => (H s hs).2 d (dn d q)⟩
  | true =>
    have hx := xlt hs hh
    -- adding the holding to a plan without it
    have add : ∀ d, PL P N n w h (s ^^^ 2 ^ h) d → d h = 7 ∧ PL P N n w (h + 1) s (fun j => if j = h then w else d j) ∧ VVs P (fun j => if j = h then w else d j) n = VVs P d n + (P h w * 262144 + w * 8 ^ (5 - h)) := fun d q => by
      have d7 : d h = 7 := by
        rcases q.1 h hh with z | z
        · rw [xth hb] at z; exact absurd z.2.2 (by decide)
        · exact z.1
      refine ⟨d7, ⟨fun j hj => ?_, fun v hv hv6 => ?_⟩, VVs_upd hw d7 hh⟩
      · show ((if j = h then w else d j) < w ∨ (if j = h then w else d j) = w ∧ j < h + 1) ∧ (if j = h then w else d j) ≤ 6 ∧ s.testBit j = true ∨ (if j = h then w else d j) = 7 ∧ s.testBit j = false
        by_cases e : j = h
        · rw [if_pos e]; exact Or.inl ⟨Or.inr ⟨rfl, by omega⟩, hw, by rw [e]; exact hb⟩
        · rw [if_neg e]
          have z := q.1 j hj
          rw [xtb e] at z
          exact z.elim (fun z => Or.inl ⟨z.1.elim Or.inl (fun y => Or.inr ⟨y.1, by omega⟩), z.2⟩) Or.inr
      · refine Nat.le_trans (q.2 v hv hv6) (Nat.le_of_eq (SPs_cg fun j hj => ?_))
        show _ = (if (if j = h then w else d j) ≤ v then P j (if j = h then w else d j) else 0)
        by_cases e : j = h
        · rw [if_pos e, e, d7, if_neg (show ¬ 7 ≤ v by omega), if_neg (show ¬ w ≤ v by omega)]
        · rw [if_neg e]
    -- taking it out
    have out : ∀ d, PL P N n w (h + 1) s d → PL P N n w h s d ∨ ∃ e, PL P N n w h (s ^^^ 2 ^ h) e ∧ VVs P d n = VVs P e n + (P h w * 262144 + w * 8 ^ (5 - h)) := fun d q => by
      have hd : (d h < w ∨ d h = w ∧ h < h + 1) ∧ d h ≤ 6 := by
        rcases q.1 h hh with z | z
        · exact ⟨z.1, z.2.1⟩
        · rw [hb] at z; exact absurd z.2 (by decide)
      rcases hd.1 with z | z
      · left
        refine ⟨fun j hj => (q.1 j hj).elim (fun y => Or.inl ⟨?_, y.2⟩) Or.inr, q.2⟩
        by_cases e : j = h
        · subst e; exact Or.inl z
        · exact y.1.elim Or.inl (fun u => Or.inr ⟨u.1, by omega⟩)
      · right
        have hpl : PL P N n w h (s ^^^ 2 ^ h) (fun j => if j = h then 7 else d j) := ⟨fun j hj => by
          show ((if j = h then 7 else d j) < w ∨ (if j = h then 7 else d j) = w ∧ j < h) ∧ (if j = h then 7 else d j) ≤ 6 ∧ (s ^^^ 2 ^ h).testBit j = true ∨ (if j = h then 7 else d j) = 7 ∧ (s ^^^ 2 ^ h).testBit j = false
          by_cases e : j = h
          · rw [if_pos e]; exact Or.inr ⟨rfl, by rw [e]; exact xth hb⟩
          · rw [if_neg e, xtb e]
            exact (q.1 j hj).elim (fun y => Or.inl ⟨y.1.elim Or.inl (fun u => Or.inr ⟨u.1, by omega⟩), y.2⟩) Or.inr, fun v hv hv6 => by
          refine Nat.le_trans (q.2 v hv hv6) (Nat.le_of_eq (SPs_cg fun j hj => ?_))
          show _ = (if (if j = h then 7 else d j) ≤ v then P j (if j = h then 7 else d j) else 0)
          by_cases e : j = h
          · rw [if_pos e, e, z.1, if_neg (show ¬ w ≤ v by omega), if_neg (show ¬ 7 ≤ v by omega)]
          · rw [if_neg e]⟩
        refine ⟨_, hpl, ?_⟩
        have e := VVs_upd (P := P) (d := fun j => if j = h then 7 else d j) (i := h) (x := w) hw (if_pos rfl) hh
        rw [← e]
        refine VVs_cg fun j hj => ?_
        show d j = (if j = h then w else if j = h then 7 else d j)
        by_cases y : j = h
        · rw [if_pos y, y, z.1]
        · rw [if_neg y, if_neg y]
    have gb : P h w * 262144 + w * 8 ^ (5 - h) < 2 ^ 40 := by
      have h1 := hP h w hh
      have h2 : 8 ^ (5 - h) ≤ 8 ^ 5 := Nat.pow_le_pow_right (by decide) (by omega)
      have h3 : w * 8 ^ (5 - h) ≤ 6 * 8 ^ 5 := Nat.mul_le_mul hw h2
      omega
    rcases DPI.val hn hP H hx with q | ⟨v, q, hv, d1, hd1, hd2⟩
    · rw [if_neg (fun y => y.2.2 (by rw [q]; decide))]
      refine ⟨(H s hs).1.imp id (fun ⟨d, q1, q2⟩ => ⟨d, up s d q1, q2⟩), fun d z => ?_⟩
      rcases out d z with y | ⟨e, y1, y2⟩
      · exact (H s hs).2 d y
      · have := (H _ hx).2 e y1
        rw [q, m1_t] at this
        omega
    · have h0 : ¬ r (s ^^^ 2 ^ h) < 0 := fun y => by
        rw [q, Int64.lt_iff_toInt_lt, lN_t (by omega)] at y
        have : (0 : Int64).toInt = 0 := by decide
        omega
      rw [if_pos ⟨by omega, rfl, h0⟩, q, lN_add]
      obtain ⟨-, a2, a3⟩ := add d1 hd1
      rw [hd2] at a3
      have tv : (lN (v + (P h w * 262144 + w * 8 ^ (5 - h)))).toInt = ((v + (P h w * 262144 + w * 8 ^ (5 - h)) : Nat) : Int) := lN_t (by omega)
      unfold mx6
      by_cases c : lN (v + (P h w * 262144 + w * 8 ^ (5 - h))) < r s
      · rw [if_pos c]
        rw [Int64.lt_iff_toInt_lt, tv] at c
        refine ⟨(H s hs).1.imp id (fun ⟨d, q1, q2⟩ => ⟨d, up s d q1, q2⟩), fun d z => ?_⟩
        rcases out d z with y | ⟨e, y1, y2⟩
        · exact (H s hs).2 d y
        · have := (H _ hx).2 e y1
          rw [q, lN_t (by omega)] at this
          omega
      · rw [if_neg c]
        rw [Int64.lt_iff_toInt_lt, tv] at c
        refine ⟨Or.inr ⟨_, a2, by rw [a3]⟩, fun d z => ?_⟩
        rw [tv]
        rcases out d z with y | ⟨e, y1, y2⟩
        · have := (H s hs).2 d y
          omega
        · have := (H _ hx).2 e y1
          rw [q, lN_t (by omega)] at this
          omega
theorem DPI.goN {r : Nat → Int64} {g : Nat → Int64} (hn : n ≤ 6) (hP : ∀ j x, j < n → P j x ≤ 10000) (hw : w ≤ 6) (hg : ∀ j, j < n → g j = lN (P j w * 262144 + w * 8 ^ (5 - j))) (H : DPI P N n w 0 r) : ∀ k, k ≤ n → DPI P N n w k (lgH g r k)
  | 0, _ => H
  | k + 1, hk => by
    show DPI P N n w (k + 1) (lgS (g k) k (lgH g r k) 64)
    rw [hg k (by omega)]
    exact DPI.go hn hP hw (by omega) (DPI.goN hn hP hw hg H k (by omega))
theorem dbS_val {nd : Int64} {r : Nat → Int64} : ∀ (k s : Nat), dbS nd r k s = if s < k ∧ r s >>> (18 : Int64) < nd then -1 else r s
  | 0, s => (if_neg (fun q => absurd q.1 (Nat.not_lt_zero s))).symm
  | k + 1, s => by
    have ih := dbS_val (nd := nd) (r := r) k
    have hk : dbS nd r k k = r k := by
      rw [ih]
      exact if_neg fun z => absurd z.1 (Nat.lt_irrefl k)
    unfold dbS
    rw [hk]
    by_cases c : r k >>> (18 : Int64) < nd
    · rw [if_pos c]
      show (if s = k then _ else _) = _
      by_cases q : s = k
      · subst q; rw [if_pos rfl, if_pos ⟨Nat.lt_succ_self s, c⟩]
      · rw [if_neg q, ih]
        by_cases z : s < k ∧ r s >>> (18 : Int64) < nd
        · rw [if_pos z, if_pos ⟨by omega, z.2⟩]
        · rw [if_neg z, if_neg (fun y => z ⟨by omega, y.2⟩)]
    · rw [if_neg c, ih]
      by_cases z : s < k ∧ r s >>> (18 : Int64) < nd
      · rw [if_pos z, if_pos ⟨by omega, z.2⟩]
      · refine (if_neg z).trans (if_neg (fun y => ?_)).symm
        rcases Nat.lt_or_eq_of_le (Nat.le_of_lt_succ y.1) with a | a
        · exact z ⟨a, y.2⟩
        · subst a; exact c y.2
theorem shr_t (x : Int64) (c : Int64) (k : Nat) (hk : (c.toBitVec.smod 64).toNat = k) : (x >>> c).toInt = x.toInt / 2 ^ k := by
  show (x >>> c).toBitVec.toInt = _
  rw [Int64.toBitVec_shiftRight]
  unfold BitVec.sshiftRight'
  rw [hk, BitVec.toInt_sshiftRight, Int.shiftRight_eq_div_pow]
  rfl
theorem shr18 (x : Int64) : (x >>> (18 : Int64)).toInt = x.toInt / 262144 := shr_t x 18 18 (by decide)
/-- a week's end: what brought less than was needed is dropped -/
theorem DPI.week {r : Nat → Int64} {nd : Int64} (hn : n ≤ 6) (hP : ∀ j x, j < n → P j x ≤ 10000) (hw : w < 6) (hnd : nd.toInt = (N w : Int)) (H : DPI P N n w n r) : DPI P N n (w + 1) 0 (dbS nd r 64) := by
  have h64 : 2 ^ n ≤ 64 := Nat.le_trans (Nat.pow_le_pow_right (by decide) hn) (by decide)
  intro s hs
  rw [dbS_val]
  have dn : ∀ d, PL P N n (w + 1) 0 s d → PL P N n w n s d ∧ N w ≤ SPs P d w n := fun d q => ⟨⟨fun j hj => (q.1 j hj).elim (fun z => Or.inl ⟨z.1.elim (fun y => by
    rcases Nat.lt_or_eq_of_le (Nat.le_of_lt_succ y) with a | a
    · exact Or.inl a
    · exact Or.inr ⟨a, hj⟩) (fun y => absurd y.2 (Nat.not_lt_zero _)), z.2⟩) Or.inr, fun v hv hv6 => q.2 v (by omega) hv6⟩, q.2 w (Nat.lt_succ_self w) hw⟩
  have up : ∀ d, PL P N n w n s d → N w ≤ SPs P d w n → PL P N n (w + 1) 0 s d := fun d q hq => ⟨fun j hj => (q.1 j hj).elim (fun z => Or.inl ⟨Or.inl (by rcases z.1 with y | y <;> omega), z.2⟩) Or.inr, fun v hv hv6 => by
    rcases Nat.lt_or_eq_of_le (Nat.le_of_lt_succ hv) with a | a
    · exact q.2 v a hv6
    · subst a; exact hq⟩
  have dv : ∀ d, PL P N n w n s d → VVs P d n / 262144 = SPs P d w n := fun d q => VVs_div hn (fun j hj => (q.1 j hj).elim (fun z => Or.inl (by rcases z.1 with y | y <;> omega)) (fun z => Or.inr z.1)) (by omega)
  by_cases c : s < 64 ∧ r s >>> (18 : Int64) < nd
  · rw [if_pos c]
    refine ⟨Or.inl rfl, fun d q => ?_⟩
    obtain ⟨q1, q2⟩ := dn d q
    have h1 := (H s hs).2 d q1
    have h2 := c.2
    rw [Int64.lt_iff_toInt_lt, shr18, hnd] at h2
    have h3 := dv d q1
    omega
  · rw [if_neg c]
    refine ⟨?_, fun d q => (H s hs).2 d (dn d q).1⟩
    rcases (H s hs).1 with q | ⟨d, q1, q2⟩
    · exact Or.inl q
    · refine Or.inr ⟨d, up d q1 ?_, q2⟩
      have h2 : ¬ r s >>> (18 : Int64) < nd := fun y => c ⟨by omega, y⟩
      rw [Int64.lt_iff_toInt_lt, shr18, hnd, q2, lN_t (Nat.lt_trans (VVs_lt hn hP q1.dle) (by decide))] at h2
      have h3 := dv d q1
      omega
/-- a plan for all: each holding has its week, or is kept; the needs are met -/
def FE (P : Nat → Nat → Nat) (N : Nat → Nat) (n : Nat) (d : Nat → Nat) : Prop := (∀ j, j < n → d j ≤ 6) ∧ ∀ v, v < 6 → N v ≤ SPs P d v n
theorem DPI.fin {r : Nat → Int64} (H : DPI P N n 6 n r) : (r (2 ^ n - 1) = -1 ∨ ∃ d, FE P N n d ∧ r (2 ^ n - 1) = lN (VVs P d n)) ∧ ∀ d, FE P N n d → (VVs P d n : Int) ≤ (r (2 ^ n - 1)).toInt := by
  have hp : 0 < 2 ^ n := Nat.pow_pos (by decide)
  have tb : ∀ j, j < n → (2 ^ n - 1).testBit j = true := fun j hj => by rw [Nat.testBit_two_pow_sub_one]; exact decide_eq_true hj
  have H1 := H (2 ^ n - 1) (by omega)
  refine ⟨?_, fun d q => H1.2 d ⟨fun j hj => ?_, fun v hv _ => q.2 v hv⟩⟩
  · rcases H1.1 with q | ⟨d, q1, q2⟩
    · exact Or.inl q
    · refine Or.inr ⟨d, ⟨fun j hj => ?_, fun v hv => q1.2 v hv hv⟩, q2⟩
      rcases q1.1 j hj with z | z
      · exact z.2.1
      · rw [tb j hj] at z; exact absurd z.2 (by decide)
  · refine Or.inl ⟨?_, q.1 j hj, tb j hj⟩
    rcases Nat.lt_or_eq_of_le (q.1 j hj) with z | z
    · exact Or.inl z
    · exact Or.inr ⟨z, hj⟩
theorem DPI.zero {r : Nat → Int64} (h0 : r 0 = 0) (h1 : ∀ s, s < 64 → s ≠ 0 → r s = -1) (hn : n ≤ 6) : DPI P N n 0 0 r := by
  have h64 : 2 ^ n ≤ 64 := Nat.le_trans (Nat.pow_le_pow_right (by decide) hn) (by decide)
  have v0 : ∀ (d : Nat → Nat) k, (∀ j, j < k → d j = 7) → VVs P d k = 0 := fun d k => by
    induction k with
    | zero => intro _; rfl
    | succ k ih =>
      intro q
      show VVs P d k + _ = 0
      rw [ih (fun j hj => q j (Nat.lt_succ_of_lt hj)), if_pos (q k (Nat.lt_succ_self k))]
  have a7 : ∀ s d, PL P N n 0 0 s d → ∀ j, j < n → d j = 7 ∧ s.testBit j = false := fun s d q j hj => by
    rcases q.1 j hj with z | z
    · rcases z.1 with y | y <;> omega
    · exact z
  intro s hs
  by_cases q : s = 0
  · subst q
    refine ⟨Or.inr ⟨fun _ => 7, ⟨fun j _ => Or.inr ⟨rfl, Nat.zero_testBit j⟩, fun v hv => absurd hv (Nat.not_lt_zero v)⟩, ?_⟩, fun d z => ?_⟩
    · rw [h0, v0 _ n (fun j _ => rfl)]; rfl
    · rw [v0 d n (fun j hj => (a7 0 d z j hj).1), h0]; decide
  · refine ⟨Or.inl (h1 s (by omega) q), fun d z => ?_⟩
    exfalso
    refine q (Nat.eq_of_testBit_eq fun j => ?_)
    rw [Nat.zero_testBit]
    rcases Nat.lt_or_ge j n with y | y
    · exact (a7 s d z j y).2
    · exact Nat.testBit_lt_two_pow (Nat.lt_of_lt_of_le hs (Nat.pow_le_pow_right (by decide) y))
end PBEST
