/-! ===== a text's meaning: the class's running sums and the reference's codes on a pile ===== -/
def exc (F : Nat → Int32) (c : Int32 × Int32) (st : List Int32) : Option (List Int32) := if c.1 = 1 then some (c.2 :: st) else if c.1 = 2 then (if ¬ c.2 < 0 ∧ c.2 < 5 then some (F c.2.toNatClampNeg :: st) else none) else match st with
  | b :: a :: t => some (wop c.1 a b :: t)
  | _ => none
def exs (F : Nat → Int32) : List (Int32 × Int32) → List Int32 → Option (List Int32)
  | [], st => some st
  | c :: cs, st => (exc F c st).bind (exs F cs)
theorem exs_app (F : Nat → Int32) (c : Int32 × Int32) : ∀ (cs : List (Int32 × Int32)) (st : List Int32), exs F (cs ++ [c]) st = (exs F cs st).bind (exc F c)
  | [], st => by
    show (exc F c st).bind (exs F []) = exc F c st
    cases exc F c st <;> rfl
  | d :: cs, st => by
    show (exc F d st).bind (exs F (cs ++ [c])) = ((exc F d st).bind (exs F cs)).bind (exc F c)
    cases exc F d st with
    | none => rfl
    | some p => exact exs_app F c cs p
theorem exs_snoc {F : Nat → Int32} {c : Int32 × Int32} {cs : List (Int32 × Int32)} {st p q : List Int32} (h : exs F cs st = some p) (e : exc F c p = some q) : exs F (cs ++ [c]) st = some q := by rw [exs_app, h]; exact e
theorem exc_op {F : Nat → Int32} {c a b x : Int32} {t : List Int32} (h1 : ¬ c = 1) (h2 : ¬ c = 2) (e : wop c a b = x) : exc F (c, 0) (b :: a :: t) = some (x :: t) := by
  unfold exc
  rw [if_neg h1, if_neg h2, ← e]
/-- the codes lie in the rows -/
def ROK (op on : Nat → Int32) (la : Nat) (cs : List (Int32 × Int32)) (cd : Nat) : Prop := cd = la + cs.length ∧ ∀ q, q < cs.length → op (5280 + la + q) = (cs.getD q (0, 0)).1 ∧ on (5280 + la + q) = (cs.getD q (0, 0)).2 ∧ ¬ (cs.getD q (0, 0)).1 = 0
theorem ROK.push {op on : Nat → Int32} {la cd : Nat} {cs : List (Int32 × Int32)} (h : ROK op on la cs cd) (c x : Int32) (hc : ¬ c = 0) : ROK (upf op (5280 + cd) c) (upf on (5280 + cd) x) la (cs ++ [(c, x)]) (cd + 1) := by
  obtain ⟨h1, h2⟩ := h
  refine ⟨by rw [List.length_append]; show cd + 1 = la + (cs.length + 1); omega, fun q hq => ?_⟩
  rw [List.length_append] at hq
  have hq : q < cs.length + 1 := hq
  rcases Nat.lt_or_eq_of_le (Nat.le_of_lt_succ hq) with z | z
  · have e : (cs ++ [(c, x)]).getD q (0, 0) = cs.getD q (0, 0) := by rw [List.getD_eq_getElem?_getD, List.getD_eq_getElem?_getD, List.getElem?_append_left z]
    rw [e, upf_n _ _ (by omega), upf_n _ _ (by omega)]
    exact h2 q z
  · subst z
    have e : (cs ++ [(c, x)]).getD cs.length (0, 0) = (c, x) := by rw [List.getD_eq_getElem?_getD, List.getElem?_append_right (Nat.le_refl _), Nat.sub_self]; rfl
    rw [e, show 5280 + la + cs.length = 5280 + cd by omega, upf_s, upf_s]
    exact ⟨rfl, rfl, hc⟩
theorem ROK.keep {op on op' on' : Nat → Int32} {la cd : Nat} {cs : List (Int32 × Int32)} (h : ROK op on la cs cd) (e : ∀ x, x < 5280 + cd → op' x = op x ∧ on' x = on x) : ROK op' on' la cs cd := ⟨h.1, fun q hq => by
  have h1 := h.1
  obtain ⟨a, b⟩ := e (5280 + la + q) (by omega)
  rw [a, b]
  exact h.2 q hq⟩
theorem wrun_exs {op on F : Nat → Int32} : ∀ (cs : List (Int32 × Int32)) (x : Nat) (st : List Int32) (v : Int32), (∀ q, q < cs.length → op (x + q) = (cs.getD q (0, 0)).1 ∧ on (x + q) = (cs.getD q (0, 0)).2 ∧ ¬ (cs.getD q (0, 0)).1 = 0) → op (x + cs.length) = 0 → exs F cs st = some [v] → wrun op on F (cs.length + 1) x st = some v
  | [], x, st, v, _, h0, e => by
    have e : some st = some [v] := e
    cases e
    unfold wrun
    rw [if_pos (show op x = 0 from h0)]
  | c :: cs, x, st, v, h, h0, e => by
    obtain ⟨a1, a2, a3⟩ := h 0 (Nat.succ_pos _)
    have a1 : op x = c.1 := a1
    have a2 : on x = c.2 := a2
    have a3 : ¬ c.1 = 0 := a3
    have e : (exc F c st).bind (exs F cs) = some [v] := e
    have hr : ∀ p, exc F c st = some p → wrun op on F (cs.length + 1) (x + 1) p = some v := fun p hp => by
      rw [hp] at e
      refine wrun_exs cs (x + 1) p v (fun q hq => ?_) (by rw [← h0]; congr 1; show x + 1 + cs.length = x + (cs.length + 1); omega) e
      have := h (q + 1) (by show q + 1 < cs.length + 1; omega)
      rw [show x + (q + 1) = x + 1 + q by omega] at this
      exact this
    show wrun op on F (cs.length + 1 + 1) x st = some v
    unfold wrun
    rw [a1, a2, if_neg a3]
    unfold exc at hr e
    by_cases h1 : c.1 = 1
    · rw [if_pos h1]
      rw [if_pos h1] at hr
      exact hr _ rfl
    · rw [if_neg h1]
      rw [if_neg h1] at hr e
      by_cases h2 : c.1 = 2
      · rw [if_pos h2]
        rw [if_pos h2] at hr e
        by_cases h3 : ¬ c.2 < 0 ∧ c.2 < 5
        · rw [if_pos h3]
          rw [if_pos h3] at hr
          exact hr _ rfl
        · rw [if_neg h3] at e; cases e
      · rw [if_neg h2]
        rw [if_neg h2] at hr e
        match st, hr, e with
        | b :: a :: t, hr, e => exact hr _ rfl
        | [], hr, e => cases e
        | [_], hr, e => cases e
abbrev jxs (J : JS) : Nat → Int32 := J.2.1
abbrev jxg (J : JS) : Nat → Int32 := J.2.2.1
abbrev jxl (J : JS) : Nat → Int32 := J.2.2.2.1
abbrev jxr (J : JS) : Nat → Int32 := J.2.2.2.2.1
abbrev jxt (J : JS) : Nat → Int32 := J.2.2.2.2.2.1
abbrev jxw (J : JS) : Nat → Int32 := J.2.2.2.2.2.2
def nz (x : Int32) : Nat := if x = 0 then 0 else 1
def pnd (sw gw aw : Nat → Int32) : Nat → Nat
  | 0 => 0
  | d + 1 => pnd sw gw aw d + (nz (sw d) + nz (gw d) + nz (aw d))
def lv1 (J : JS) (gw aw : Nat → Int32) (d : Nat) : List Int32 := (if gw d = 0 then [] else [jxl J d]) ++ (if aw d = 0 then [] else [jxw J d])
def lvp (J : JS) (sw gw aw : Nat → Int32) (d : Nat) : List Int32 := (if sw d = 0 then [] else [jxs J d]) ++ lv1 J gw aw d
def pil (J : JS) (sw gw aw : Nat → Int32) : Nat → List Int32
  | 0 => []
  | d + 1 => lvp J sw gw aw d ++ pil J sw gw aw d
/-- what stands open at a depth, by the class and by the reference -/
def LV1 (J : JS) (gw aw : Nat → Int32) (K d : Nat) : Prop := ((gw d = 0 ∧ jxr J d = 0) ∨ (gw d = 5 ∧ jxr J d = -14) ∨ (gw d = 6 ∧ jxr J d = -15)) ∧ ((aw d = 0 ∧ jxt J d = 0) ∨ (aw d = 7 ∧ ∃ k, 1 ≤ k ∧ k ≤ K ∧ jxt J d = nI k))
def LV (J : JS) (sw gw aw : Nat → Int32) (K d : Nat) : Prop := ((sw d = 0 ∧ jxs J d = 0 ∧ jxg J d = 1) ∨ (sw d = 3 ∧ jxg J d = 1) ∨ (sw d = 4 ∧ jxg J d = -1)) ∧ LV1 J gw aw K d
theorem LV1.mono {J : JS} {gw aw : Nat → Int32} {K K' d : Nat} (h : LV1 J gw aw K d) (hk : K ≤ K') : LV1 J gw aw K' d := ⟨h.1, h.2.imp id (fun ⟨a, k, h1, h2, h3⟩ => ⟨a, k, h1, Nat.le_trans h2 hk, h3⟩)⟩
theorem LV.mono {J : JS} {sw gw aw : Nat → Int32} {K K' d : Nat} (h : LV J sw gw aw K d) (hk : K ≤ K') : LV J sw gw aw K' d := ⟨h.1, h.2.mono hk⟩
theorem pnd_cg {sw gw aw sw' gw' aw' : Nat → Int32} : ∀ {k : Nat}, (∀ d, d < k → sw d = sw' d ∧ gw d = gw' d ∧ aw d = aw' d) → pnd sw gw aw k = pnd sw' gw' aw' k
  | 0, _ => rfl
  | k + 1, h => by
    obtain ⟨a, b, c⟩ := h k (Nat.lt_succ_self k)
    show pnd sw gw aw k + _ = pnd sw' gw' aw' k + _
    rw [pnd_cg fun d hd => h d (Nat.lt_succ_of_lt hd), a, b, c]
theorem pil_cg {J J' : JS} {sw gw aw sw' gw' aw' : Nat → Int32} : ∀ {k : Nat}, (∀ d, d < k → (sw d = sw' d ∧ gw d = gw' d ∧ aw d = aw' d) ∧ jxs J d = jxs J' d ∧ jxl J d = jxl J' d ∧ jxw J d = jxw J' d) → pil J sw gw aw k = pil J' sw' gw' aw' k
  | 0, _ => rfl
  | k + 1, h => by
    obtain ⟨⟨a, b, c⟩, e, f, g⟩ := h k (Nat.lt_succ_self k)
    show lvp J sw gw aw k ++ pil J sw gw aw k = lvp J' sw' gw' aw' k ++ pil J' sw' gw' aw' k
    rw [pil_cg fun d hd => h d (Nat.lt_succ_of_lt hd)]
    unfold lvp lv1
    rw [a, b, c, e, f, g]
theorem LV_cg {J J' : JS} {sw gw aw sw' gw' aw' : Nat → Int32} {K d : Nat} (h : LV J sw gw aw K d) (e : (sw d = sw' d ∧ gw d = gw' d ∧ aw d = aw' d) ∧ jxs J d = jxs J' d ∧ jxg J d = jxg J' d ∧ jxr J d = jxr J' d ∧ jxt J d = jxt J' d) : LV J' sw' gw' aw' K d := by
  obtain ⟨⟨a, b, c⟩, f, g, i, j⟩ := e
  unfold LV LV1 at *
  rw [a, b, c, f, g, i, j] at h
  exact h
theorem addv0 (v : Int32) : (0 : Int32) + 1 * v = v := by rw [Int32.one_mul, Int32.zero_add]
theorem addv3 (s v : Int32) : wop 3 s v = s + 1 * v := by rw [Int32.one_mul]; rfl
theorem addv4 (s v : Int32) : wop 4 s v = s + (-1) * v := by
  rw [show (-1 : Int32) * v = -v from by rw [show (-1 : Int32) = -(1 : Int32) from rfl, Int32.neg_mul, Int32.one_mul], ← Int32.sub_eq_add_neg]
  rfl
section PSEM
variable {F : Nat → Int32} {J J1 : JS} {sw gw aw op on : Nat → Int32} {cs : List (Int32 × Int32)} {K dp cd la : Nat} {v : Int32} {lo : List Int32}
/-- the sum that waits is reckoned -/
theorem sem_s (h : LV J1 sw gw aw K dp) (hJ : J1.1 = dp) (e : exs F cs [] = some (v :: (lvp J1 sw gw aw dp ++ lo))) : exs F (if sw dp = 0 then cs else cs ++ [(sw dp, 0)]) [] = some (jxs (jAdd J1 v) dp :: (lv1 J1 gw aw dp ++ lo)) := by
  have es : jxs (jAdd J1 v) dp = jxs J1 dp + jxg J1 dp * v := by
    show upf J1.2.1 J1.1 (J1.2.1 J1.1 + J1.2.2.1 J1.1 * v) dp = _
    rw [hJ, upf_s]
  rw [es]
  unfold lvp at e
  rcases h.1 with ⟨a, b, c⟩ | ⟨a, c⟩ | ⟨a, c⟩
  · rw [if_pos a] at e ⊢
    rw [b, c, addv0]
    exact e
  · have n0 : ¬ sw dp = 0 := by rw [a]; decide
    rw [if_neg n0] at e ⊢
    rw [a, c, ← addv3]
    exact exs_snoc e (exc_op (by decide) (by decide) rfl)
  · have n0 : ¬ sw dp = 0 := by rw [a]; decide
    rw [if_neg n0] at e ⊢
    rw [a, c, ← addv4]
    exact exs_snoc e (exc_op (by decide) (by decide) rfl)
/-- the comparison that waits -/
theorem sem_g {x : Int32} (h : LV1 J gw aw K dp) (e : exs F cs [] = some (x :: (lv1 J gw aw dp ++ lo))) : exs F (if gw dp = 0 then cs else cs ++ [(gw dp, 0)]) [] = some (jTest x (jxl J dp) (jxr J dp) :: ((if aw dp = 0 then [] else [jxw J dp]) ++ lo)) := by
  unfold lv1 at e
  rcases h.1 with ⟨a, b⟩ | ⟨a, b⟩ | ⟨a, b⟩
  · rw [if_pos a] at e ⊢
    rw [b]
    exact e
  · have n0 : ¬ gw dp = 0 := by rw [a]; decide
    rw [if_neg n0] at e ⊢
    rw [a, b]
    exact exs_snoc e (exc_op (by decide) (by decide) rfl)
  · have n0 : ¬ gw dp = 0 := by rw [a]; decide
    rw [if_neg n0] at e ⊢
    rw [a, b]
    exact exs_snoc e (exc_op (by decide) (by decide) rfl)
/-- the 'and' that waits -/
theorem sem_a {x : Int32} (hK : K ≤ 600) (h : LV1 J gw aw K dp) (e : exs F cs [] = some (x :: ((if aw dp = 0 then [] else [jxw J dp]) ++ lo))) : exs F (if aw dp = 0 then cs else cs ++ [(7, 0)]) [] = some (jWorth (jxt J dp) (jxw J dp) x :: lo) := by
  rcases h.2 with ⟨a, b⟩ | ⟨a, k, k1, k2, b⟩
  · rw [if_pos a] at e ⊢
    rw [b, jWorth_1 rfl]
    exact e
  · have n0 : ¬ aw dp = 0 := by rw [a]; decide
    have t0 : ¬ jxt J dp = 0 := by rw [b]; exact nI_ne0 (by omega) (by omega)
    rw [if_neg n0] at e ⊢
    refine exs_snoc e (exc_op (by decide) (by decide) ?_)
    unfold jWorth
    rw [if_neg t0]
    rfl
end PSEM
