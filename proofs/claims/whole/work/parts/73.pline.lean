/-! ===== lines and texts ===== -/
section PLINE
variable {tk : Nat → Int32} {pl : Nat → Nat} {N : Nat}
/-- a line without a fault: its tokens a .. sc, its number k, its codes cs at c -/
def LRec (tk : Nat → Int32) (N : Nat) (il lN lA op on : Nat → Int32) (a sc k c : Nat) (cs : List (Int32 × Int32)) : Prop := ((tk a = -3 ∨ tk a = -4) ∧ 0 ≤ tk (a + 1) ∧ a + 3 ≤ sc ∧ sc < N ∧ tk sc = -18 ∧ ∀ q, a ≤ q → q < sc → ¬ tk q = -18) ∧ (il (128 + k) = (if tk a = -4 then 1 else 0) ∧ lN (128 + k) = tk (a + 1) ∧ lA (128 + k) = nI c) ∧ c + cs.length < 660 ∧ (∀ q, q < cs.length → op (5280 + c + q) = (cs.getD q (0, 0)).1 ∧ on (5280 + c + q) = (cs.getD q (0, 0)).2 ∧ ¬ (cs.getD q (0, 0)).1 = 0) ∧ op (5280 + c + cs.length) = 0 ∧ ∀ (F : Nat → Int32) (J0 : JS), exs F cs [] = some [jW (jr F tk (a + 3) (sc - (a + 3)) (jClear (0, J0.2)))]
theorem boM_fl {f a cd dp : Nat} {fl : Int32} {sw gw aw op on : Nat → Int32} (h : ¬ fl = 0) : boM tk pl (f + 1) (a, fl, cd, dp, sw, gw, aw, op, on) = some (a, fl, cd, dp, sw, gw, aw, op, on) := by
  unfold boM
  rw [if_neg h]
theorem tkM_fl {m : MS} {x : Int32} (h : ¬ m.2.1 = 0) : tkM tk pl m x = m := by
  unfold tkM wrM
  rw [if_neg (fun q => h q.1), if_neg h]
theorem line_E (hN6 : N ≤ 600) (hlast : N = 600 → pl N = 600) (hE : ∀ i, i < N → ¬ tk i = -1) (hEN : tk N = -1) (hpl : ∀ i, i ≤ N → pl i ≤ 600) {a li cd dp fu : Nat} {ru : Int32} {cm il lN lA sw gw aw op on : Nat → Int32} (ha : a < N) (hli : li ≤ 16) (hcd : cd ≤ a) (hfu : 601 ≤ fu) :
    ∃ (l' : LiS) (m' : MS), liM tk pl fu (li, il, lN, lA) (a, 0, cd, dp, sw, gw, aw, op, on) = some (l', m') ∧ ((¬ m'.2.1 = 0 ∧ (CF tk pl a (0, nI li, ru, 0, cm)).1 = m'.2.1) ∨ (m'.2.1 = 0 ∧ ∃ (sc : Nat) (cm2 : Nat → Int32) (cs : List (Int32 × Int32)), l' = (li + 1, upf il (128 + li) (if tk a = -4 then 1 else 0), upf lN (128 + li) (tk (a + 1)), upf lA (128 + li) (nI cd)) ∧ m'.1 = sc + 1 ∧ li < 16 ∧ LRec tk N l'.2.1 l'.2.2.1 l'.2.2.2 m'.2.2.2.2.2.2.2.1 m'.2.2.2.2.2.2.2.2 a sc li cd cs ∧ CF tk pl a (0, nI li, ru, 0, cm) = CF tk pl (sc + 1) (0, nI (li + 1), tk a, 0, cm2) ∧ m'.2.2.1 = cd + cs.length + 1 ∧ m'.2.2.1 ≤ sc + 1 ∧ ∀ x, x < 5280 + cd → m'.2.2.2.2.2.2.2.1 x = op x ∧ m'.2.2.2.2.2.2.2.2 x = on x)) := by
  have hpa := hpl a (Nat.le_of_lt ha)
  have hp1 := hpl (a + 1) ha
  have c0 := CF_s (pl := pl) hN6 hlast hE hEN (Nat.le_of_lt ha) (g := (0, nI li, ru, 0, cm)) (fun _ => ha)
  have w0 : wrG (0, nI li, ru, 0, cm) (tk a) = if tk a = -3 ∨ tk a = -4 then (if nI li < 16 then 0 else 5) else 1 := rfl
  rw [w0] at c0
  unfold liM
  simp only
  by_cases hv : tk a = -3 ∨ tk a = -4
  · rw [if_pos hv]
    rw [if_pos hv] at c0
    by_cases h16 : li = 16
    · rw [if_pos h16]
      refine ⟨_, _, rfl, Or.inl ⟨nI_ne0 (by omega) (by omega), ?_⟩⟩
      rw [h16, if_neg (show ¬ nI 16 < 16 by decide), if_neg (by decide)] at c0
      rw [h16, c0]
      exact i16 5 (pl a)
    · rw [if_neg h16]
      have hl : li < 16 := by omega
      rw [if_pos (show nI li < 16 from nI_lt (b := 16) hl (by decide)), if_pos rfl] at c0
      have s0 : stG (0, nI li, ru, 0, cm) (tk a) = (1, nI (li + 1), tk a, 0, cm) := by
        show (1, nI li + 1, tk a, 0, cm) = _
        rw [nI_s1]
      rw [s0] at c0
      have c1 := CF_s (pl := pl) hN6 hlast hE hEN (show a + 1 ≤ N from ha) (g := (1, nI (li + 1), tk a, 0, cm)) (fun q => absurd (show (1 : Int32) = 0 from q) (by decide))
      have w1 : wrG (1, nI (li + 1), tk a, 0, cm) (tk (a + 1)) = if 0 ≤ tk (a + 1) then (if tk a = -3 ∧ ¬ tk (a + 1) ≤ 100 then 4 else 0) else 1 := rfl
      rw [w1] at c1
      by_cases hf : f1M tk pl a = 0
      · have hfn := f1M_N hEN hpl ha hf
        have hno : ¬ (tk a = -3 ∧ ¬ tk (a + 1) ≤ 100) := fun q => by
          unfold f1M at hf
          rw [if_pos hfn.1, if_pos q] at hf
          exact nI_ne0 (by omega) (by omega) hf
        rw [if_pos hfn.1, if_neg hno, if_pos rfl] at c1
        have s1 : stG (1, nI (li + 1), tk a, 0, cm) (tk (a + 1)) = (2, nI (li + 1), tk a, 0, cm) := rfl
        rw [s1] at c1
        have c2 := CF_s (pl := pl) hN6 hlast hE hEN hfn.2 (g := (2, nI (li + 1), tk a, 0, cm)) (fun q => absurd (show (2 : Int32) = 0 from q) (by decide))
        have w2 : wrG (2, nI (li + 1), tk a, 0, cm) (tk (a + 2)) = if tk (a + 2) = -5 then 0 else 1 := rfl
        rw [w2] at c2
        rw [hf]
        by_cases h5 : tk (a + 2) = -5
        · have et : tkM tk pl (a + 2, 0, cd, dp, sw, gw, aw, op, on) (-5) = (a + 3, 0, cd, dp, sw, gw, aw, op, on) := if_pos ⟨rfl, h5⟩
          rw [et]
          rw [if_pos h5, if_pos rfl] at c2
          have s2 : stG (2, nI (li + 1), tk a, 0, cm) (tk (a + 2)) = (3, nI (li + 1), tk a, 0, upf cm 0 0) := rfl
          rw [s2] at c2
          have h3N : a + 3 ≤ N := by
            rcases Nat.lt_or_eq_of_le hfn.2 with z | z
            · exact z
            · rw [z, hEN] at h5; exact absurd h5 (by decide)
          have hR : RC N cd (a + 3) op on (a + 3) (upf cm 0 0) cd 0 (upf sw 0 0) (upf gw 0 0) (upf aw 0 0) op on [] := ⟨h3N, by omega, Nat.le_refl _, fun d hd => by rw [show d = 0 by omega, upf_s, upf_s], ⟨rfl, fun q hq => absurd hq (Nat.not_lt_zero q)⟩, fun x _ => ⟨rfl, rfl⟩, by
            show cd + (0 + (nz (upf sw 0 0 0) + nz (upf gw 0 0 0) + nz (upf aw 0 0 0))) ≤ a + 3
            rw [upf_s, upf_s, upf_s, show nz 0 = 0 from by decide]
            omega⟩
          have hS : SmP tk (a + 3) (a + 3) 0 (upf sw 0 0) (upf gw 0 0) (upf aw 0 0) [] := fun F J0 => by
            rw [Nat.sub_self]
            refine ⟨rfl, fun d hd => ?_, ?_⟩
            · rw [show d = 0 by omega]
              exact ⟨Or.inl ⟨upf_s _ _ _, upf_s J0.2.1 0 0, upf_s J0.2.2.1 0 1⟩, Or.inl ⟨upf_s _ _ _, upf_s J0.2.2.2.2.1 0 0⟩, Or.inl ⟨upf_s _ _ _, upf_s J0.2.2.2.2.2.1 0 0⟩⟩
            · show some [] = some (lvp _ (upf sw 0 0) (upf gw 0 0) (upf aw 0 0) 0 ++ [])
              unfold lvp lv1
              rw [upf_s, upf_s, upf_s, if_pos rfl, if_pos rfl, if_pos rfl]
              rfl
          obtain ⟨m5, e5, O1, O2⟩ := (simPB (ln := nI (li + 1)) (ru := tk a) hN6 hlast hE hEN hpl 600 (a + 3) fu (by omega) (by omega)).1 _ _ _ _ _ _ _ _ _ hR hS
          have e5' : boM tk pl fu (opM (a + 3, 0, cd, 0, sw, gw, aw, op, on)) = some m5 := e5
          rw [e5']
          simp only
          rw [if_pos O1]
          refine ⟨_, _, rfl, ?_⟩
          rw [c0, c1, c2]
          rcases O2 with ⟨o1, o2⟩ | ⟨o1, sc, cm2, cs2, ⟨q1, q2, q3, q4⟩, q5, q6, q7, q8, q9, q10⟩
          · exact Or.inl ⟨o1, o2⟩
          · refine Or.inr ⟨o1, sc, cm2, cs2, by rw [if_pos trivial], q5, hl, ?_, q6, ?_, ?_, ?_⟩
            · have h7 := q7.1
              have no : ∀ q, a ≤ q → q < sc → ¬ tk q = -18 := fun q z1 z2 => by
                rcases Nat.lt_or_ge q (a + 3) with y | y
                · obtain rfl | rfl | rfl : q = a ∨ q = a + 1 ∨ q = a + 2 := by omega
                  · rcases hv with x | x <;> (rw [x]; decide)
                  · intro x; rw [x] at hfn; exact absurd hfn.1 (by decide)
                  · rw [h5]; decide
                · exact q4 q y z2
              have eop : ∀ x, x ≠ 5280 + m5.2.2.1 → (tkM tk pl (emM m5 0 0) (-18)).2.2.2.2.2.2.2.1 x = m5.2.2.2.2.2.2.2.1 x ∧ (tkM tk pl (emM m5 0 0) (-18)).2.2.2.2.2.2.2.2 x = m5.2.2.2.2.2.2.2.2 x := fun x hx => by
                rw [tkM_t]
                exact ⟨upf_n _ _ hx, upf_n _ _ hx⟩
              refine ⟨⟨hv, hfn.1, q1, q2, q3, no⟩, ⟨upf_s .., by rw [if_pos trivial]; exact upf_s .., upf_s ..⟩, by omega, fun q hq => ?_, ?_, q10⟩
              · have z := q7.2 q hq
                obtain ⟨y1, y2⟩ := eop (5280 + cd + q) (by omega)
                refine ⟨?_, ?_, z.2.2⟩
                · exact (show _ = _ from y1).trans z.1
                · exact (show _ = _ from y2).trans z.2.1
              · rw [tkM_t]
                show upf m5.2.2.2.2.2.2.2.1 (5280 + m5.2.2.1) 0 (5280 + cd + cs2.length) = 0
                rw [show 5280 + cd + cs2.length = 5280 + m5.2.2.1 by omega, upf_s]
            · rw [tkM_t]
              show m5.2.2.1 + 1 = cd + cs2.length + 1
              have := q7.1; omega
            · rw [tkM_t]
              show m5.2.2.1 + 1 ≤ sc + 1
              omega
            · intro x hx
              have h7 := q7.1
              rw [tkM_t]
              obtain ⟨y1, y2⟩ := q8 x hx
              refine ⟨?_, ?_⟩
              · show upf m5.2.2.2.2.2.2.2.1 (5280 + m5.2.2.1) 0 x = op x
                rw [upf_n _ _ (by omega)]; exact y1
              · show upf m5.2.2.2.2.2.2.2.2 (5280 + m5.2.2.1) 0 x = on x
                rw [upf_n _ _ (by omega)]; exact y2
        · have hp2 := hpl (a + 2) hfn.2
          have n0 : ¬ nI (1 + 16 * pl (a + 2)) = 0 := nI_ne0 (by omega) (by omega)
          have et : tkM tk pl (a + 2, 0, cd, dp, sw, gw, aw, op, on) (-5) = (a + 2, nI (1 + 16 * pl (a + 2)), cd, dp, sw, gw, aw, op, on) := (if_neg (fun q => h5 q.2)).trans (if_pos rfl)
          rw [et]
          rw [if_neg h5, if_neg (by decide)] at c2
          obtain ⟨f', rfl⟩ : ∃ f', fu = f' + 1 := ⟨fu - 1, by omega⟩
          have eb : boM tk pl (f' + 1) (opM (a + 2, nI (1 + 16 * pl (a + 2)), cd, 0, sw, gw, aw, op, on)) = some (opM (a + 2, nI (1 + 16 * pl (a + 2)), cd, 0, sw, gw, aw, op, on)) := boM_fl n0
          rw [eb]
          simp only
          rw [if_pos (show (opM (a + 2, nI (1 + 16 * pl (a + 2)), cd, 0, sw, gw, aw, op, on)).2.2.1 < 660 from (by omega : cd < 660)), tkM_fl (show ¬ (emM (opM (a + 2, nI (1 + 16 * pl (a + 2)), cd, 0, sw, gw, aw, op, on)) 0 0).2.1 = 0 from n0)]
          refine ⟨_, _, rfl, Or.inl ⟨n0, ?_⟩⟩
          rw [c0, c1, c2]
          exact i16 1 (pl (a + 2))
      · rw [tkM_fl (show ¬ (a + 2, f1M tk pl a, cd, dp, sw, gw, aw, op, on).2.1 = 0 from hf)]
        obtain ⟨f', rfl⟩ : ∃ f', fu = f' + 1 := ⟨fu - 1, by omega⟩
        have eb : boM tk pl (f' + 1) (opM (a + 2, f1M tk pl a, cd, 0, sw, gw, aw, op, on)) = some (opM (a + 2, f1M tk pl a, cd, 0, sw, gw, aw, op, on)) := boM_fl hf
        rw [eb]
        simp only
        rw [if_pos (show (opM (a + 2, f1M tk pl a, cd, 0, sw, gw, aw, op, on)).2.2.1 < 660 from (by omega : cd < 660)), tkM_fl (show ¬ (emM (opM (a + 2, f1M tk pl a, cd, 0, sw, gw, aw, op, on)) 0 0).2.1 = 0 from hf)]
        refine ⟨_, _, rfl, Or.inl ⟨hf, ?_⟩⟩
        show _ = f1M tk pl a
        rw [c0, c1]
        unfold f1M at hf ⊢
        by_cases h0 : 0 ≤ tk (a + 1)
        · rw [if_pos h0] at hf ⊢
          rw [if_pos h0]
          by_cases h4 : tk a = -3 ∧ ¬ tk (a + 1) ≤ 100
          · rw [if_pos h4, if_pos h4, if_neg (by decide)]
            exact i16 4 (pl (a + 1))
          · rw [if_neg h4] at hf; exact absurd rfl hf
        · rw [if_neg h0, if_neg h0, if_neg (by decide)]
          exact i16 1 (pl (a + 1))
  · rw [if_neg hv]
    rw [if_neg hv, if_neg (by decide)] at c0
    refine ⟨_, _, rfl, Or.inl ⟨nI_ne0 (by omega) (by omega), ?_⟩⟩
    rw [c0]
    exact i16 1 (pl a)
def LNS (tk : Nat → Int32) (N : Nat) (il lN lA op on : Nat → Int32) (C : Nat) : Nat → Nat → Nat → Prop
  | 0, a, _ => a = N
  | r + 1, a, k => ∃ (sc c : Nat) (cs : List (Int32 × Int32)), LRec tk N il lN lA op on a sc k c cs ∧ c + cs.length < C ∧ LNS tk N il lN lA op on C r (sc + 1) (k + 1)
theorem LRec.cg {il lN lA op on il' lN' lA' op' on' : Nat → Int32} {a sc k c : Nat} {cs : List (Int32 × Int32)} (h : LRec tk N il lN lA op on a sc k c cs) (h1 : il' (128 + k) = il (128 + k) ∧ lN' (128 + k) = lN (128 + k) ∧ lA' (128 + k) = lA (128 + k)) (h2 : ∀ x, x ≤ 5280 + c + cs.length → op' x = op x ∧ on' x = on x) : LRec tk N il' lN' lA' op' on' a sc k c cs := by
  obtain ⟨a1, ⟨b1, b2, b3⟩, c1, d1, e1, f1⟩ := h
  refine ⟨a1, ⟨h1.1.trans b1, h1.2.1.trans b2, h1.2.2.trans b3⟩, c1, fun q hq => ?_, (h2 _ (Nat.le_refl _)).1.trans e1, f1⟩
  obtain ⟨x1, x2⟩ := h2 (5280 + c + q) (by omega)
  rw [x1, x2]
  exact d1 q hq
/-- a whole text -/
theorem text_E (hN6 : N ≤ 600) (hlast : N = 600 → pl N = 600) (hE : ∀ i, i < N → ¬ tk i = -1) (hEN : tk N = -1) (hpl : ∀ i, i ≤ N → pl i ≤ 600) {fu : Nat} (hfu : 601 ≤ fu) : ∀ (f a li cd dp : Nat) (ru : Int32) (cm il lN lA sw gw aw op on : Nat → Int32), 18 ≤ li + f → a ≤ N → li ≤ 16 → cd ≤ a →
    ∃ (l' : LiS) (m' : MS), txM tk pl fu f (li, il, lN, lA) (a, 0, cd, dp, sw, gw, aw, op, on) = some (l', m') ∧ ((¬ m'.2.1 = 0 ∧ (CF tk pl a (0, nI li, ru, 0, cm)).1 = m'.2.1) ∨ (m'.2.1 = 0 ∧ CF tk pl a (0, nI li, ru, 0, cm) = (0, N) ∧ (cd ≤ m'.2.2.1 ∧ m'.2.2.1 ≤ N) ∧ l'.1 ≤ 16 ∧ (∃ r, l'.1 = li + r ∧ LNS tk N l'.2.1 l'.2.2.1 l'.2.2.2 m'.2.2.2.2.2.2.2.1 m'.2.2.2.2.2.2.2.2 m'.2.2.1 r a li) ∧ (∀ x, x < 128 + li → l'.2.1 x = il x ∧ l'.2.2.1 x = lN x ∧ l'.2.2.2 x = lA x) ∧ ∀ x, x < 5280 + cd → m'.2.2.2.2.2.2.2.1 x = op x ∧ m'.2.2.2.2.2.2.2.2 x = on x))
  | 0, a, li, cd, dp, ru, cm, il, lN, lA, sw, gw, aw, op, on, h1, h2, h3, h4 => by omega
  | f + 1, a, li, cd, dp, ru, cm, il, lN, lA, sw, gw, aw, op, on, h1, h2, h3, h4 => by
    unfold txM
    rcases Nat.lt_or_eq_of_le h2 with ha | ha
    · rw [if_pos ⟨rfl, hE a ha⟩]
      obtain ⟨l1, m1, e1, O⟩ := line_E (ru := ru) (cm := cm) (il := il) (lN := lN) (lA := lA) (dp := dp) (sw := sw) (gw := gw) (aw := aw) (op := op) (on := on) hN6 hlast hE hEN hpl ha h3 h4 hfu
      rw [e1]
      simp only
      rcases O with ⟨o1, o2⟩ | ⟨o1, sc, cm2, cs, o2, o3, o4, o5, o6, o7, o8, o9⟩
      · obtain ⟨f', rfl⟩ : ∃ f', f = f' + 1 := ⟨f - 1, by omega⟩
        unfold txM
        rw [if_neg (fun q => o1 q.1)]
        exact ⟨_, _, rfl, Or.inl ⟨o1, o2⟩⟩
      · subst o2
        obtain ⟨a1, fl1, cd1, dp1, sw1, gw1, aw1, op1, on1⟩ := m1
        have o1 : fl1 = 0 := o1
        have o3 : a1 = sc + 1 := o3
        have o7 : cd1 = cd + cs.length + 1 := o7
        have o8 : cd1 ≤ sc + 1 := o8
        subst o1 o3
        have hsc := o5.1.2.2.2.1
        obtain ⟨l', m', e2, O2⟩ := text_E hN6 hlast hE hEN hpl hfu f (sc + 1) (li + 1) cd1 dp1 (tk a) cm2 (upf il (128 + li) (if tk a = -4 then 1 else 0)) (upf lN (128 + li) (tk (a + 1))) (upf lA (128 + li) (nI cd)) sw1 gw1 aw1 op1 on1 (by omega) (by omega) (by omega) o8
        rw [e2]
        refine ⟨l', m', rfl, ?_⟩
        rw [o6]
        rcases O2 with q | ⟨q1, q2, q3, q4, ⟨r, q5, q6⟩, q7, q8⟩
        · exact Or.inl q
        · refine Or.inr ⟨q1, q2, ⟨by omega, q3.2⟩, q4, ⟨r + 1, by omega, sc, cd, cs, ?_, by omega, q6⟩, fun x hx => ?_, fun x hx => ?_⟩
          · exact o5.cg (by obtain ⟨z1, z2, z3⟩ := q7 (128 + li) (by omega); exact ⟨z1, z2, z3⟩) (fun x hx => q8 x (by omega))
          · obtain ⟨z1, z2, z3⟩ := q7 x (by omega)
            rw [z1, z2, z3, upf_n _ _ (by omega), upf_n _ _ (by omega), upf_n _ _ (by omega)]
            exact ⟨rfl, rfl, rfl⟩
          · obtain ⟨z1, z2⟩ := q8 x (by omega)
            obtain ⟨y1, y2⟩ := o9 x hx
            exact ⟨z1.trans y1, z2.trans y2⟩
    · subst ha
      rw [if_neg (fun q => q.2 hEN)]
      refine ⟨_, _, rfl, Or.inr ⟨rfl, ?_, ⟨Nat.le_refl _, h4⟩, h3, ⟨0, rfl, rfl⟩, fun x _ => ⟨rfl, rfl, rfl⟩, fun x _ => ⟨rfl, rfl⟩⟩⟩
      unfold CF
      rcases Nat.lt_or_ge a 600 with z | z
      · rw [show 600 - a = (600 - (a + 1)) + 1 by omega]
        exact if_pos ⟨rfl, hEN⟩
      · rw [show 600 - a = 0 by omega]
        rfl
end PLINE
