/-! ===== a text's reading: the class's automaton and the reference's descent go alike ===== -/
def CF (tk : Nat → Int32) (pl : Nat → Nat) (i : Nat) (g : GS) : Int32 × Nat := cFa tk pl (600 - i) i g
theorem wrG_end {g : GS} (hg : ¬ g.1 = 0) : wrG g (-1) = 1 := by
  unfold wrG
  rw [if_neg hg]
  split
  · rfl
  split
  · rfl
  split
  · rfl
  · rfl
def jr (F : Nat → Int32) (tk : Nat → Int32) (b0 : Nat) : Nat → JS → JS
  | 0, J => J
  | k + 1, J => jTake F (jr F tk b0 k J) (tk (b0 + k))
theorem jr_s {F tk : Nat → Int32} {b0 i : Nat} (h : b0 ≤ i) (J : JS) : jr F tk b0 (i + 1 - b0) J = jTake F (jr F tk b0 (i - b0) J) (tk i) := by
  rw [show i + 1 - b0 = (i - b0) + 1 by omega]
  show jTake F (jr F tk b0 (i - b0) J) (tk (b0 + (i - b0))) = _
  rw [show b0 + (i - b0) = i by omega]
section PSIM
variable {tk : Nat → Int32} {pl : Nat → Nat} {N : Nat}
theorem CF_s (hN6 : N ≤ 600) (hlast : N = 600 → pl N = 600) (hE : ∀ i, i < N → ¬ tk i = -1) (hEN : tk N = -1) {i : Nat} (hi : i ≤ N) {g : GS} (hg : g.1 = 0 → i < N) : CF tk pl i g = if wrG g (tk i) = 0 then CF tk pl (i + 1) (stG g (tk i)) else (wrG g (tk i) + 16 * nI (pl i), i) := by
  rcases Nat.lt_or_ge i 600 with h | h
  · unfold CF
    rw [show 600 - i = (600 - (i + 1)) + 1 by omega]
    exact if_neg fun q => hE i (hg q.1) q.2
  · have e : N = 600 := by omega
    have e2 : i = N := by omega
    have g0 : ¬ g.1 = 0 := fun q => by have := hg q; omega
    subst e2
    unfold CF
    rw [hEN, wrG_end g0, if_neg (by decide), hlast e, show 600 - i = 0 by omega]
    show ((if g.1 = 0 then (0 : Int32) else 9601), i) = _
    rw [if_neg g0]
    rfl
def RC (N la b0 : Nat) (op0 on0 : Nat → Int32) (i : Nat) (cm : Nat → Int32) (cd dp : Nat) (sw gw aw op on : Nat → Int32) (cs : List (Int32 × Int32)) : Prop := i ≤ N ∧ dp ≤ 5 ∧ b0 ≤ i ∧ (∀ d, d ≤ dp → (cm d = 0 ↔ gw d = 0)) ∧ ROK op on la cs cd ∧ (∀ x, x < 5280 + la → op x = op0 x ∧ on x = on0 x) ∧ cd + pnd sw gw aw (dp + 1) ≤ i
def SmP (tk : Nat → Int32) (b0 i dp : Nat) (sw gw aw : Nat → Int32) (cs : List (Int32 × Int32)) : Prop := ∀ (F : Nat → Int32) (J0 : JS), (jr F tk b0 (i - b0) (jClear (0, J0.2))).1 = dp ∧ (∀ d, d ≤ dp → LV (jr F tk b0 (i - b0) (jClear (0, J0.2))) sw gw aw i d) ∧ exs F cs [] = some (pil (jr F tk b0 (i - b0) (jClear (0, J0.2))) sw gw aw (dp + 1))
def SmB (tk : Nat → Int32) (b0 i dp : Nat) (sw gw aw : Nat → Int32) (cs : List (Int32 × Int32)) : Prop := ∀ (F : Nat → Int32) (J0 : JS), ∃ (J1 : JS) (v : Int32), jr F tk b0 (i - b0) (jClear (0, J0.2)) = jAdd J1 v ∧ J1.1 = dp ∧ (∀ d, d ≤ dp → LV J1 sw gw aw i d) ∧ exs F cs [] = some (v :: pil J1 sw gw aw (dp + 1))
def reB (tk : Nat → Int32) (pl : Nat → Nat) (f dp : Nat) (m : MS) : Option MS := match goM tk pl dp m with
  | none => none
  | some (true, m2) => boM tk pl f m2
  | some (false, m2) => some m2
/-- how a line's rest ends -/
def Out (tk : Nat → Int32) (pl : Nat → Nat) (N la b0 : Nat) (op0 on0 : Nat → Int32) (i : Nat) (g : GS) (m5 : MS) : Prop := m5.2.2.1 < 660 ∧ ((¬ (tkM tk pl (emM m5 0 0) (-18)).2.1 = 0 ∧ (CF tk pl i g).1 = (tkM tk pl (emM m5 0 0) (-18)).2.1) ∨ ((tkM tk pl (emM m5 0 0) (-18)).2.1 = 0 ∧ ∃ (sc : Nat) (cm2 : Nat → Int32) (cs2 : List (Int32 × Int32)), (i ≤ sc ∧ sc < N ∧ tk sc = -18 ∧ ∀ q, i ≤ q → q < sc → ¬ tk q = -18) ∧ (tkM tk pl (emM m5 0 0) (-18)).1 = sc + 1 ∧ CF tk pl i g = CF tk pl (sc + 1) (0, g.2.1, g.2.2.1, 0, cm2) ∧ ROK m5.2.2.2.2.2.2.2.1 m5.2.2.2.2.2.2.2.2 la cs2 m5.2.2.1 ∧ (∀ x, x < 5280 + la → m5.2.2.2.2.2.2.2.1 x = op0 x ∧ m5.2.2.2.2.2.2.2.2 x = on0 x) ∧ m5.2.2.1 ≤ sc ∧ ∀ (F : Nat → Int32) (J0 : JS), exs F cs2 [] = some [jW (jr F tk b0 (sc - b0) (jClear (0, J0.2)))]))
theorem Out.back {la b0 : Nat} {op0 on0 : Nat → Int32} {i : Nat} {g g' : GS} {m5 : MS} (h : Out tk pl N la b0 op0 on0 (i + 1) g' m5) (e : CF tk pl i g = CF tk pl (i + 1) g') (e1 : g'.2.1 = g.2.1) (e2 : g'.2.2.1 = g.2.2.1) (ht : ¬ tk i = -18) : Out tk pl N la b0 op0 on0 i g m5 := by
  refine ⟨h.1, h.2.imp (fun ⟨a, b⟩ => ⟨a, by rw [e]; exact b⟩) (fun ⟨a, sc, cm2, cs2, ⟨b1, b2, b3, b4⟩, c, d, r⟩ => ⟨a, sc, cm2, cs2, ⟨by omega, b2, b3, fun q h1 h2 => ?_⟩, c, by rw [e, d, e1, e2], r⟩)⟩
  rcases Nat.lt_or_eq_of_le h1 with z | z
  · exact b4 q z h2
  · subst z; exact ht
theorem Out.fault {la b0 : Nat} {op0 on0 : Nat → Int32} {i w : Nat} {g : GS} {cd dp : Nat} {sw gw aw op on : Nat → Int32} (hw : 0 < w) (hw5 : w ≤ 5) (hp : pl i ≤ 600) (hc : cd < 660) (e : CF tk pl i g = (nI w + 16 * nI (pl i), i)) : Out tk pl N la b0 op0 on0 i g (i, nI (w + 16 * pl i), cd, dp, sw, gw, aw, op, on) := by
  have n0 : ¬ nI (w + 16 * pl i) = 0 := nI_ne0 (by omega) (by omega)
  have ef : (tkM tk pl (emM (i, nI (w + 16 * pl i), cd, dp, sw, gw, aw, op, on) 0 0) (-18)).2.1 = nI (w + 16 * pl i) := by
    unfold tkM
    rw [if_neg (fun q => n0 q.1)]
    unfold wrM
    rw [if_neg (show ¬ (emM (i, nI (w + 16 * pl i), cd, dp, sw, gw, aw, op, on) 0 0).2.1 = 0 from n0)]
    rfl
  refine ⟨hc, Or.inl ⟨by rw [ef]; exact n0, ?_⟩⟩
  rw [ef, e]
  exact i16 w (pl i)
/-- a code that waits at a depth goes out -/
theorem flush {op on row : Nat → Int32} {la cd dp : Nat} {cs : List (Int32 × Int32)} (h : ROK op on la cs cd) (c : Int32) (hc : ¬ row dp = 0 → ¬ c = 0) : ROK (if row dp = 0 then op else upf op (5280 + cd) c) (if row dp = 0 then on else upf on (5280 + cd) 0) la (if row dp = 0 then cs else cs ++ [(c, 0)]) (cd + nz (row dp)) ∧ ∀ x, x < 5280 + la → (if row dp = 0 then op else upf op (5280 + cd) c) x = op x ∧ (if row dp = 0 then on else upf on (5280 + cd) 0) x = on x := by
  have h1 := h.1
  unfold nz
  by_cases q : row dp = 0
  · rw [if_pos q, if_pos q, if_pos q, if_pos q]
    exact ⟨h, fun x _ => ⟨rfl, rfl⟩⟩
  · rw [if_neg q, if_neg q, if_neg q, if_neg q]
    exact ⟨h.push c 0 (hc q), fun x hx => ⟨upf_n _ _ (by omega), upf_n _ _ (by omega)⟩⟩
theorem upf_0 {row : Nat → Int32} {d : Nat} (h : row d = 0) : upf row d 0 = row := by
  funext j
  unfold upf
  by_cases q : j = d
  · rw [if_pos q, q, h]
  · rw [if_neg q]
theorem goA_f {k : MS → Option (Bool × MS)} {i cd dp : Nat} {sw gw aw op on : Nat → Int32} (hc : cd < 660) : goA tk pl k (i, 0, cd, dp, sw, gw, aw, op, on) = goB tk pl k (i, 0, cd + nz (sw dp), dp, upf sw dp 0, gw, aw, (if sw dp = 0 then op else upf op (5280 + cd) (sw dp)), (if sw dp = 0 then on else upf on (5280 + cd) 0)) := by
  unfold goA nz
  by_cases q : sw dp = 0
  · simp only [q, if_true, Nat.add_zero]
    rw [upf_0 q]
  · simp only [q, if_false, hc, if_true]
theorem goC_f {k : MS → Option (Bool × MS)} {i cd dp : Nat} {sw gw aw op on : Nat → Int32} (hc : cd < 660) (ht : gw dp = 0 → ¬ tk i = -14 ∧ ¬ tk i = -15) : goC tk pl k (i, 0, cd, dp, sw, gw, aw, op, on) = goD tk pl k (i, 0, cd + nz (gw dp), dp, sw, upf gw dp 0, aw, (if gw dp = 0 then op else upf op (5280 + cd) (gw dp)), (if gw dp = 0 then on else upf on (5280 + cd) 0)) := by
  unfold goC nz
  by_cases q : gw dp = 0
  · obtain ⟨t1, t2⟩ := ht q
    simp only [q, if_true, Nat.add_zero, t1, t2, if_false]
    rw [upf_0 q]
  · simp only [q, if_false, hc, if_true]
theorem goD_f {k : MS → Option (Bool × MS)} {i cd dp : Nat} {sw gw aw op on : Nat → Int32} (hc : cd < 660) : goD tk pl k (i, 0, cd, dp, sw, gw, aw, op, on) = goE tk pl k (i, 0, cd + nz (aw dp), dp, sw, gw, upf aw dp 0, (if aw dp = 0 then op else upf op (5280 + cd) 7), (if aw dp = 0 then on else upf on (5280 + cd) 0)) := by
  unfold goD nz
  by_cases q : aw dp = 0
  · simp only [q, if_true, Nat.add_zero]
    rw [upf_0 q]
  · simp only [q, if_false, hc, if_true]
/-! the class's steps, by token -/
theorem mb_no {d : Nat} {c : Nat → Int32} {t : Int32} (h1 : ¬ t = -16) (h2 : ¬ t = -17) (h3 : ¬ t = -6) (h4 : t = -14 ∨ t = -15 → ¬ c d = 0) (h5 : t = -18 → ¬ d = 0) (h6 : t = -13 → ¬ 0 < d) : mbT d c t = false := by
  unfold mbT
  by_cases a : t = -18
  · rw [if_pos a]; exact decide_eq_false (h5 a)
  rw [if_neg a, if_neg h2, if_neg h1]
  by_cases b : t = -15
  · rw [if_pos b]; exact decide_eq_false (h4 (Or.inr b))
  rw [if_neg b]
  by_cases b2 : t = -14
  · rw [if_pos b2]; exact decide_eq_false (h4 (Or.inl b2))
  rw [if_neg b2]
  by_cases b3 : t = -13
  · rw [if_pos b3]; exact decide_eq_false (h6 b3)
  rw [if_neg b3, if_neg h3]
theorem wr4 {ln ru : Int32} {dp : Nat} {cm : Nat → Int32} {t : Int32} : wrG (4, ln, ru, dp, cm) t = if mbT dp cm t = true then 0 else 1 := rfl
theorem st4 {ln ru : Int32} {dp : Nat} {cm : Nat → Int32} {t : Int32} : stG (4, ln, ru, dp, cm) t = bpG (4, ln, ru, dp, cm) t := rfl
theorem wr3 {ln ru : Int32} {dp : Nat} {cm : Nat → Int32} {t : Int32} : wrG (3, ln, ru, dp, cm) t = if bgT t = true then (if nI dp < 5 then 0 else 5) else 1 := rfl
theorem st3 {ln ru : Int32} {dp : Nat} {cm : Nat → Int32} {t : Int32} : stG (3, ln, ru, dp, cm) t = ipG (3, ln, ru, dp, cm) t := rfl
end PSIM
