def wop (c a b : Int32) : Int32 := if c = 3 then a + b else if c = 4 then a - b else if c = 5 then (if a < b then 1 else 0) else if c = 6 then (if a = b then 1 else 0) else if ¬ a = 0 ∧ ¬ b = 0 then 1 else 0
/-- the codes run with a pile: the value at their end; none where they are not in order -/
def wrun (op one kn : Nat → Int32) : Nat → Nat → List Int32 → Option Int32
  | 0, _, _ => none
  | f + 1, i, st => if op i = 0 then (match st with | [v] => some v | _ => none) else
    if op i = 1 then wrun op one kn f (i + 1) (one i :: st) else
    if op i = 2 then (if ¬ one i < 0 ∧ one i < 5 then wrun op one kn f (i + 1) (kn (one i).toNatClampNeg :: st) else none) else
    match st with
    | b :: a :: t => wrun op one kn f (i + 1) (wop (op i) a b :: t)
    | _ => none
def lsP (P : Nat → Int32) : Nat → List Int32
  | 0 => []
  | n + 1 => P n :: lsP P n
theorem lsP_cg {P P' : Nat → Int32} : ∀ {n : Nat}, (∀ j, j < n → P j = P' j) → lsP P n = lsP P' n
  | 0, _ => rfl
  | n + 1, h => by
    show P n :: lsP P n = P' n :: lsP P' n
    rw [h n (Nat.lt_succ_self n), lsP_cg fun j hj => h j (Nat.lt_succ_of_lt hj)]
theorem lsP_len (P : Nat → Int32) : ∀ n, (lsP P n).length = n
  | 0 => rfl
  | n + 1 => congrArg (· + 1) (lsP_len P n)
theorem lsP_up (P : Nat → Int32) (n : Nat) (v : Int32) : lsP (fun j => if j = n then v else P j) (n + 1) = v :: lsP P n := by
  show (if n = n then v else P n) :: lsP (fun j => if j = n then v else P j) n = _
  rw [if_pos rfl, lsP_cg (P' := P) fun j hj => if_neg (Nat.ne_of_lt hj)]
section WRUN
variable {op one kn : Nat → Int32} {f i top : Nat} {P : Nat → Int32} {v : Int32}
theorem wrun_0 (h : op i = 0) (e : wrun op one kn (f + 1) i (lsP P top) = some v) : top = 1 ∧ P 0 = v := by
  unfold wrun at e
  rw [if_pos h] at e
  match top, e with
  | 1, e => exact ⟨rfl, Option.some.inj e⟩
theorem wrun_1 (h : ¬ op i = 0) (h1 : op i = 1) (e : wrun op one kn (f + 1) i (lsP P top) = some v) : wrun op one kn f (i + 1) (lsP (fun j => if j = top then one i else P j) (top + 1)) = some v := by
  unfold wrun at e
  rw [if_neg h, if_pos h1] at e
  rw [lsP_up]; exact e
theorem wrun_2 (h : ¬ op i = 0) (h1 : ¬ op i = 1) (h2 : op i = 2) (e : wrun op one kn (f + 1) i (lsP P top) = some v) : ∃ w : Nat, w < 5 ∧ one i = nI w ∧ wrun op one kn f (i + 1) (lsP (fun j => if j = top then kn w else P j) (top + 1)) = some v := by
  unfold wrun at e
  rw [if_neg h, if_neg h1, if_pos h2] at e
  by_cases q : ¬ one i < 0 ∧ one i < 5
  · rw [if_pos q] at e
    obtain ⟨w, hw, ew⟩ := nI_of q.1
    have h5 : w < 5 := (nI_ltI (b := 5) hw (by decide)).mp (by rw [← ew]; exact q.2)
    refine ⟨w, h5, ew, ?_⟩
    rw [ew, nI_clamp hw] at e
    rw [lsP_up]; exact e
  · rw [if_neg q] at e; cases e
theorem wrun_3 (h : ¬ op i = 0) (h1 : ¬ op i = 1) (h2 : ¬ op i = 2) (e : wrun op one kn (f + 1) i (lsP P top) = some v) : ∃ k : Nat, top = k + 1 + 1 ∧ wrun op one kn f (i + 1) (lsP (fun j => if j = k then wop (op i) (P k) (P (k + 1)) else P j) (k + 1)) = some v := by
  unfold wrun at e
  rw [if_neg h, if_neg h1, if_neg h2] at e
  match top, e with
  | k + 2, e =>
    refine ⟨k, rfl, ?_⟩
    rw [lsP_up]; exact e
end WRUN
def SW (a : Nat) : Bool := decide (a = 54)
theorem la_X12_worth {h : PH} {x v : Int32} {k i top : Nat} {P : Nat → Int32} (hL : px_L h) (h1 : i + (k + 1) ≤ 5940) (h2 : top + (k + 1) ≤ 660) (ih : ∀ (i top : Nat) (P : Nat → Int32), i + k ≤ 5940 → top + k ≤ 660 → wrun (hI h 48) (hI h 49) (hI h 53) k i (lsP P top) = some v → PW M_X12_worth (hn h) (hs h) (PXpost h 0 0 (sQ SW h v)) 4 [(0, .ref 36), (1, .int x), (2, .int (nI (i))), (3, .int (nI (top)))] [] (rI h 54 P)) (c10 : ¬ hI h 48 i = 0) (c24 : hI h 48 i = 1) (e : wrun (hI h 48) (hI h 49) (hI h 53) (k + 1) i (lsP P top) = some v) : PW M_X12_worth (hn h) (hs h) (PXpost h 0 0 (sQ SW h v)) 33 [(0, .ref 36), (1, .int x), (2, .int (nI (i))), (3, .int (nI (top))), (4, .int (hI h 48 i))] [] (rI h 54 P) := by
  refine px_aload_n d_X12_worth_33 rfl rfl ?_
  refine px_getR d_X12_worth_34 fl_X12_81 (by decide) (so36 hL) (sr36_25 hL) ?_
  refine px_iload_n d_X12_worth_37 rfl rfl ?_
  refine px_iload d_X12_worth_38 rfl ?_
  refine px_iconst (v := 1) d_X12_worth_40 (by decide) ?_
  refine px_icmp_ne (tgt := 53) d_X12_worth_41 (by decide) (fun c41 => absurd c24 c41) (fun c41 => ?_)
  refine px_aload_n d_X12_worth_44 rfl rfl ?_
  refine px_getR d_X12_worth_45 fl_X12_66 (by decide) (so36 hL) (sr36_18 hL) ?_
  refine px_iload_n d_X12_worth_48 rfl rfl ?_
  refine px_iald d_X12_worth_49 (sa49 hL) rfl (by omega) ?_
  refine px_val (y := hI h 49 i) rfl ?_
  refine px_goto (tgt := 64) d_X12_worth_50 (by decide) ?_
  refine px_iast d_X12_worth_64 (sa54 hL) rfl (by omega) ?_
  refine px_inc1 d_X12_worth_65 rfl (by decide) ?_
  refine px_goto (tgt := 186) d_X12_worth_68 (by decide) ?_
  refine px_inc1 d_X12_worth_186 rfl (by decide) ?_
  refine px_goto (tgt := 4) d_X12_worth_189 (by decide) ?_
  refine px_heap (h2 := rI h 54 (fun j => if j = top then hI h 49 i else P j)) (pI_rI ..) ?_
  refine px_drop (lv' := [(0, .ref 36), (1, .int x), (2, .int (nI (i + 1))), (3, .int (nI (top + 1)))]) ⟨rfl, rfl, px_si (nI_s1 _), px_si (nI_s1 _), trivial⟩ ?_
  exact ih (i + 1) (top + 1) _ (by omega) (by omega) (wrun_1 c10 c24 e)
theorem lb_X12_worth {h : PH} {x v : Int32} {k i top : Nat} {P : Nat → Int32} (hL : px_L h) (h1 : i + (k + 1) ≤ 5940) (h2 : top + (k + 1) ≤ 660) (ih : ∀ (i top : Nat) (P : Nat → Int32), i + k ≤ 5940 → top + k ≤ 660 → wrun (hI h 48) (hI h 49) (hI h 53) k i (lsP P top) = some v → PW M_X12_worth (hn h) (hs h) (PXpost h 0 0 (sQ SW h v)) 4 [(0, .ref 36), (1, .int x), (2, .int (nI (i))), (3, .int (nI (top)))] [] (rI h 54 P)) (c10 : ¬ hI h 48 i = 0) (c24 : ¬ hI h 48 i = 1) (c30 : hI h 48 i = 2) (e : wrun (hI h 48) (hI h 49) (hI h 53) (k + 1) i (lsP P top) = some v) : PW M_X12_worth (hn h) (hs h) (PXpost h 0 0 (sQ SW h v)) 33 [(0, .ref 36), (1, .int x), (2, .int (nI (i))), (3, .int (nI (top))), (4, .int (hI h 48 i))] [] (rI h 54 P) := by
  obtain ⟨w, hw, ew, e⟩ := wrun_2 c10 c24 c30 e
  refine px_aload_n d_X12_worth_33 rfl rfl ?_
  refine px_getR d_X12_worth_34 fl_X12_81 (by decide) (so36 hL) (sr36_25 hL) ?_
  refine px_iload_n d_X12_worth_37 rfl rfl ?_
  refine px_iload d_X12_worth_38 rfl ?_
  refine px_iconst (v := 1) d_X12_worth_40 (by decide) ?_
  refine px_icmp_ne (tgt := 53) d_X12_worth_41 (by decide) (fun c41 => ?_) (fun c41 => absurd c41 c24)
  refine px_aload_n d_X12_worth_53 rfl rfl ?_
  refine px_getR d_X12_worth_54 fl_X12_78 (by decide) (so36 hL) (sr36_24 hL) ?_
  refine px_aload_n d_X12_worth_57 rfl rfl ?_
  refine px_getR d_X12_worth_58 fl_X12_66 (by decide) (so36 hL) (sr36_18 hL) ?_
  refine px_iload_n d_X12_worth_61 rfl rfl ?_
  refine px_iald d_X12_worth_62 (sa49 hL) rfl (by omega) ?_
  refine px_val (y := nI w) ew ?_
  refine px_iald d_X12_worth_63 (sa53 hL) rfl hw ?_
  refine px_val (y := hI h 53 w) rfl ?_
  refine px_iast d_X12_worth_64 (sa54 hL) rfl (by omega) ?_
  refine px_inc1 d_X12_worth_65 rfl (by decide) ?_
  refine px_goto (tgt := 186) d_X12_worth_68 (by decide) ?_
  refine px_inc1 d_X12_worth_186 rfl (by decide) ?_
  refine px_goto (tgt := 4) d_X12_worth_189 (by decide) ?_
  refine px_heap (h2 := rI h 54 (fun j => if j = top then hI h 53 w else P j)) (pI_rI ..) ?_
  refine px_drop (lv' := [(0, .ref 36), (1, .int x), (2, .int (nI (i + 1))), (3, .int (nI (top + 1)))]) ⟨rfl, rfl, px_si (nI_s1 _), px_si (nI_s1 _), trivial⟩ ?_
  exact ih (i + 1) (top + 1) _ (by omega) (by omega) e
theorem lc_X12_worth {h : PH} {x v : Int32} {k i top : Nat} {P : Nat → Int32} (hL : px_L h) (h1 : i + (k + 1) ≤ 5940) (h2 : top + (k + 1) ≤ 660) (ih : ∀ (i top : Nat) (P : Nat → Int32), i + k ≤ 5940 → top + k ≤ 660 → wrun (hI h 48) (hI h 49) (hI h 53) k i (lsP P top) = some v → PW M_X12_worth (hn h) (hs h) (PXpost h 0 0 (sQ SW h v)) 4 [(0, .ref 36), (1, .int x), (2, .int (nI (i))), (3, .int (nI (top)))] [] (rI h 54 P)) (c10 : ¬ hI h 48 i = 0) (c24 : ¬ hI h 48 i = 1) (c30 : ¬ hI h 48 i = 2) (e : wrun (hI h 48) (hI h 49) (hI h 53) (k + 1) i (lsP P top) = some v) : PW M_X12_worth (hn h) (hs h) (PXpost h 0 0 (sQ SW h v)) 71 [(0, .ref 36), (1, .int x), (2, .int (nI (i))), (3, .int (nI (top))), (4, .int (hI h 48 i))] [] (rI h 54 P) := by
  obtain ⟨q, rfl, e2⟩ := wrun_3 c10 c24 c30 e
  refine px_iinc d_X12_worth_71 rfl (show nI (q + 1 + 1) + Int32.ofInt (-1) = nI (q + 1) by rw [← nI_s1 (q + 1), Int32.add_assoc]; exact Int32.add_zero _) (by decide) ?_
  refine px_aload_n d_X12_worth_74 rfl rfl ?_
  refine px_getR d_X12_worth_75 fl_X12_81 (by decide) (so36 hL) (sr36_25 hL) ?_
  refine px_iload_n d_X12_worth_78 rfl rfl ?_
  refine px_iald d_X12_worth_79 (sa54 hL) rfl (by omega) ?_
  refine px_val (y := P (q + 1)) rfl ?_
  refine px_istore d_X12_worth_80 (by decide) ?_
  refine px_aload_n d_X12_worth_82 rfl rfl ?_
  refine px_getR d_X12_worth_83 fl_X12_81 (by decide) (so36 hL) (sr36_25 hL) ?_
  refine px_iload_n d_X12_worth_86 rfl rfl ?_
  refine px_iconst (v := 1) d_X12_worth_87 (by decide) ?_
  refine px_isub d_X12_worth_88 ?_
  refine px_val (y := nI q) (nI_pred q) ?_
  refine px_iald d_X12_worth_89 (sa54 hL) rfl (by omega) ?_
  refine px_val (y := P q) rfl ?_
  refine px_istore d_X12_worth_90 (by decide) ?_
  refine px_aload_n d_X12_worth_92 rfl rfl ?_
  refine px_getR d_X12_worth_93 fl_X12_81 (by decide) (so36 hL) (sr36_25 hL) ?_
  refine px_iload_n d_X12_worth_96 rfl rfl ?_
  refine px_iconst (v := 1) d_X12_worth_97 (by decide) ?_
  refine px_isub d_X12_worth_98 ?_
  refine px_val (y := nI q) (nI_pred q) ?_
  refine px_iload d_X12_worth_99 rfl ?_
  refine px_iconst (v := 3) d_X12_worth_101 (by decide) ?_
  refine px_icmp_ne (tgt := 113) d_X12_worth_102 (by decide) (fun c102 => ?_) (fun c102 => ?_)
  · refine px_iload d_X12_worth_113 rfl ?_
    refine px_iconst (v := 4) d_X12_worth_115 (by decide) ?_
    refine px_icmp_ne (tgt := 127) d_X12_worth_116 (by decide) (fun c116 => ?_) (fun c116 => ?_)
    · refine px_iload d_X12_worth_127 rfl ?_
      refine px_iconst (v := 5) d_X12_worth_129 (by decide) ?_
      refine px_icmp_ne (tgt := 148) d_X12_worth_130 (by decide) (fun c130 => ?_) (fun c130 => ?_)
      · refine px_iload d_X12_worth_148 rfl ?_
        refine px_bipush (v := 6) d_X12_worth_150 (by decide) ?_
        refine px_icmp_ne (tgt := 170) d_X12_worth_152 (by decide) (fun c152 => ?_) (fun c152 => ?_)
        · refine px_iload d_X12_worth_170 rfl ?_
          refine px_if_eq (tgt := 184) d_X12_worth_172 (by decide) (fun c172 => ?_) (fun c172 => ?_)
          · refine px_iconst (v := 0) d_X12_worth_184 (by decide) ?_
            refine px_val (y := (wop (hI h 48 i) (P q) (P (q + 1)))) (by first | (simp [wop, c102]; done) | (simp [wop, c102, c116]; done) | (simp [wop, c102, c116, c130, c137]; done) | (simp [wop, c102, c116, c130, c152, c159]; done) | (simp [wop, c102, c116, c130, c152, c172]; done) | (simp [wop, c102, c116, c130, c152, c172, c177]; done)) ?_
            refine px_iast d_X12_worth_185 (sa54 hL) rfl (by omega) ?_
            refine px_inc1 d_X12_worth_186 rfl (by decide) ?_
            refine px_goto (tgt := 4) d_X12_worth_189 (by decide) ?_
            refine px_heap (h2 := rI h 54 (fun j => if j = q then (wop (hI h 48 i) (P q) (P (q + 1))) else P j)) (pI_rI ..) ?_
            refine px_drop (lv' := [(0, .ref 36), (1, .int x), (2, .int (nI (i + 1))), (3, .int (nI (q + 1)))]) ⟨rfl, rfl, px_si (nI_s1 _), rfl, trivial⟩ ?_
            exact ih (i + 1) (q + 1) _ (by omega) (by omega) e2
          · refine px_iload d_X12_worth_175 rfl ?_
            refine px_if_eq (tgt := 184) d_X12_worth_177 (by decide) (fun c177 => ?_) (fun c177 => ?_)
            · refine px_iconst (v := 0) d_X12_worth_184 (by decide) ?_
              refine px_val (y := (wop (hI h 48 i) (P q) (P (q + 1)))) (by first | (simp [wop, c102]; done) | (simp [wop, c102, c116]; done) | (simp [wop, c102, c116, c130, c137]; done) | (simp [wop, c102, c116, c130, c152, c159]; done) | (simp [wop, c102, c116, c130, c152, c172]; done) | (simp [wop, c102, c116, c130, c152, c172, c177]; done)) ?_
              refine px_iast d_X12_worth_185 (sa54 hL) rfl (by omega) ?_
              refine px_inc1 d_X12_worth_186 rfl (by decide) ?_
              refine px_goto (tgt := 4) d_X12_worth_189 (by decide) ?_
              refine px_heap (h2 := rI h 54 (fun j => if j = q then (wop (hI h 48 i) (P q) (P (q + 1))) else P j)) (pI_rI ..) ?_
              refine px_drop (lv' := [(0, .ref 36), (1, .int x), (2, .int (nI (i + 1))), (3, .int (nI (q + 1)))]) ⟨rfl, rfl, px_si (nI_s1 _), rfl, trivial⟩ ?_
              exact ih (i + 1) (q + 1) _ (by omega) (by omega) e2
            · refine px_iconst (v := 1) d_X12_worth_180 (by decide) ?_
              refine px_goto (tgt := 185) d_X12_worth_181 (by decide) ?_
              refine px_val (y := (wop (hI h 48 i) (P q) (P (q + 1)))) (by first | (simp [wop, c102]; done) | (simp [wop, c102, c116]; done) | (simp [wop, c102, c116, c130, c137]; done) | (simp [wop, c102, c116, c130, c152, c159]; done) | (simp [wop, c102, c116, c130, c152, c172]; done) | (simp [wop, c102, c116, c130, c152, c172, c177]; done)) ?_
              refine px_iast d_X12_worth_185 (sa54 hL) rfl (by omega) ?_
              refine px_inc1 d_X12_worth_186 rfl (by decide) ?_
              refine px_goto (tgt := 4) d_X12_worth_189 (by decide) ?_
              refine px_heap (h2 := rI h 54 (fun j => if j = q then (wop (hI h 48 i) (P q) (P (q + 1))) else P j)) (pI_rI ..) ?_
              refine px_drop (lv' := [(0, .ref 36), (1, .int x), (2, .int (nI (i + 1))), (3, .int (nI (q + 1)))]) ⟨rfl, rfl, px_si (nI_s1 _), rfl, trivial⟩ ?_
              exact ih (i + 1) (q + 1) _ (by omega) (by omega) e2
        · refine px_iload d_X12_worth_155 rfl ?_
          refine px_iload d_X12_worth_157 rfl ?_
          refine px_icmp_ne (tgt := 166) d_X12_worth_159 (by decide) (fun c159 => ?_) (fun c159 => ?_)
          · refine px_iconst (v := 0) d_X12_worth_166 (by decide) ?_
            refine px_goto (tgt := 185) d_X12_worth_167 (by decide) ?_
            refine px_val (y := (wop (hI h 48 i) (P q) (P (q + 1)))) (by first | (simp [wop, c102]; done) | (simp [wop, c102, c116]; done) | (simp [wop, c102, c116, c130, c137]; done) | (simp [wop, c102, c116, c130, c152, c159]; done) | (simp [wop, c102, c116, c130, c152, c172]; done) | (simp [wop, c102, c116, c130, c152, c172, c177]; done)) ?_
            refine px_iast d_X12_worth_185 (sa54 hL) rfl (by omega) ?_
            refine px_inc1 d_X12_worth_186 rfl (by decide) ?_
            refine px_goto (tgt := 4) d_X12_worth_189 (by decide) ?_
            refine px_heap (h2 := rI h 54 (fun j => if j = q then (wop (hI h 48 i) (P q) (P (q + 1))) else P j)) (pI_rI ..) ?_
            refine px_drop (lv' := [(0, .ref 36), (1, .int x), (2, .int (nI (i + 1))), (3, .int (nI (q + 1)))]) ⟨rfl, rfl, px_si (nI_s1 _), rfl, trivial⟩ ?_
            exact ih (i + 1) (q + 1) _ (by omega) (by omega) e2
          · refine px_iconst (v := 1) d_X12_worth_162 (by decide) ?_
            refine px_goto (tgt := 185) d_X12_worth_163 (by decide) ?_
            refine px_val (y := (wop (hI h 48 i) (P q) (P (q + 1)))) (by first | (simp [wop, c102]; done) | (simp [wop, c102, c116]; done) | (simp [wop, c102, c116, c130, c137]; done) | (simp [wop, c102, c116, c130, c152, c159]; done) | (simp [wop, c102, c116, c130, c152, c172]; done) | (simp [wop, c102, c116, c130, c152, c172, c177]; done)) ?_
            refine px_iast d_X12_worth_185 (sa54 hL) rfl (by omega) ?_
            refine px_inc1 d_X12_worth_186 rfl (by decide) ?_
            refine px_goto (tgt := 4) d_X12_worth_189 (by decide) ?_
            refine px_heap (h2 := rI h 54 (fun j => if j = q then (wop (hI h 48 i) (P q) (P (q + 1))) else P j)) (pI_rI ..) ?_
            refine px_drop (lv' := [(0, .ref 36), (1, .int x), (2, .int (nI (i + 1))), (3, .int (nI (q + 1)))]) ⟨rfl, rfl, px_si (nI_s1 _), rfl, trivial⟩ ?_
            exact ih (i + 1) (q + 1) _ (by omega) (by omega) e2
      · refine px_iload d_X12_worth_133 rfl ?_
        refine px_iload d_X12_worth_135 rfl ?_
        refine px_icmp_ge (tgt := 144) d_X12_worth_137 (by decide) (fun c137 => ?_) (fun c137 => ?_)
        · refine px_iconst (v := 0) d_X12_worth_144 (by decide) ?_
          refine px_goto (tgt := 185) d_X12_worth_145 (by decide) ?_
          refine px_val (y := (wop (hI h 48 i) (P q) (P (q + 1)))) (by first | (simp [wop, c102]; done) | (simp [wop, c102, c116]; done) | (simp [wop, c102, c116, c130, c137]; done) | (simp [wop, c102, c116, c130, c152, c159]; done) | (simp [wop, c102, c116, c130, c152, c172]; done) | (simp [wop, c102, c116, c130, c152, c172, c177]; done)) ?_
          refine px_iast d_X12_worth_185 (sa54 hL) rfl (by omega) ?_
          refine px_inc1 d_X12_worth_186 rfl (by decide) ?_
          refine px_goto (tgt := 4) d_X12_worth_189 (by decide) ?_
          refine px_heap (h2 := rI h 54 (fun j => if j = q then (wop (hI h 48 i) (P q) (P (q + 1))) else P j)) (pI_rI ..) ?_
          refine px_drop (lv' := [(0, .ref 36), (1, .int x), (2, .int (nI (i + 1))), (3, .int (nI (q + 1)))]) ⟨rfl, rfl, px_si (nI_s1 _), rfl, trivial⟩ ?_
          exact ih (i + 1) (q + 1) _ (by omega) (by omega) e2
        · refine px_iconst (v := 1) d_X12_worth_140 (by decide) ?_
          refine px_goto (tgt := 185) d_X12_worth_141 (by decide) ?_
          refine px_val (y := (wop (hI h 48 i) (P q) (P (q + 1)))) (by first | (simp [wop, c102]; done) | (simp [wop, c102, c116]; done) | (simp [wop, c102, c116, c130, c137]; done) | (simp [wop, c102, c116, c130, c152, c159]; done) | (simp [wop, c102, c116, c130, c152, c172]; done) | (simp [wop, c102, c116, c130, c152, c172, c177]; done)) ?_
          refine px_iast d_X12_worth_185 (sa54 hL) rfl (by omega) ?_
          refine px_inc1 d_X12_worth_186 rfl (by decide) ?_
          refine px_goto (tgt := 4) d_X12_worth_189 (by decide) ?_
          refine px_heap (h2 := rI h 54 (fun j => if j = q then (wop (hI h 48 i) (P q) (P (q + 1))) else P j)) (pI_rI ..) ?_
          refine px_drop (lv' := [(0, .ref 36), (1, .int x), (2, .int (nI (i + 1))), (3, .int (nI (q + 1)))]) ⟨rfl, rfl, px_si (nI_s1 _), rfl, trivial⟩ ?_
          exact ih (i + 1) (q + 1) _ (by omega) (by omega) e2
    · refine px_iload d_X12_worth_119 rfl ?_
      refine px_iload d_X12_worth_121 rfl ?_
      refine px_isub d_X12_worth_123 ?_
      refine px_goto (tgt := 185) d_X12_worth_124 (by decide) ?_
      refine px_val (y := (wop (hI h 48 i) (P q) (P (q + 1)))) (by first | (simp [wop, c102]; done) | (simp [wop, c102, c116]; done) | (simp [wop, c102, c116, c130, c137]; done) | (simp [wop, c102, c116, c130, c152, c159]; done) | (simp [wop, c102, c116, c130, c152, c172]; done) | (simp [wop, c102, c116, c130, c152, c172, c177]; done)) ?_
      refine px_iast d_X12_worth_185 (sa54 hL) rfl (by omega) ?_
      refine px_inc1 d_X12_worth_186 rfl (by decide) ?_
      refine px_goto (tgt := 4) d_X12_worth_189 (by decide) ?_
      refine px_heap (h2 := rI h 54 (fun j => if j = q then (wop (hI h 48 i) (P q) (P (q + 1))) else P j)) (pI_rI ..) ?_
      refine px_drop (lv' := [(0, .ref 36), (1, .int x), (2, .int (nI (i + 1))), (3, .int (nI (q + 1)))]) ⟨rfl, rfl, px_si (nI_s1 _), rfl, trivial⟩ ?_
      exact ih (i + 1) (q + 1) _ (by omega) (by omega) e2
  · refine px_iload d_X12_worth_105 rfl ?_
    refine px_iload d_X12_worth_107 rfl ?_
    refine px_iadd d_X12_worth_109 ?_
    refine px_goto (tgt := 185) d_X12_worth_110 (by decide) ?_
    refine px_val (y := (wop (hI h 48 i) (P q) (P (q + 1)))) (by first | (simp [wop, c102]; done) | (simp [wop, c102, c116]; done) | (simp [wop, c102, c116, c130, c137]; done) | (simp [wop, c102, c116, c130, c152, c159]; done) | (simp [wop, c102, c116, c130, c152, c172]; done) | (simp [wop, c102, c116, c130, c152, c172, c177]; done)) ?_
    refine px_iast d_X12_worth_185 (sa54 hL) rfl (by omega) ?_
    refine px_inc1 d_X12_worth_186 rfl (by decide) ?_
    refine px_goto (tgt := 4) d_X12_worth_189 (by decide) ?_
    refine px_heap (h2 := rI h 54 (fun j => if j = q then (wop (hI h 48 i) (P q) (P (q + 1))) else P j)) (pI_rI ..) ?_
    refine px_drop (lv' := [(0, .ref 36), (1, .int x), (2, .int (nI (i + 1))), (3, .int (nI (q + 1)))]) ⟨rfl, rfl, px_si (nI_s1 _), rfl, trivial⟩ ?_
    exact ih (i + 1) (q + 1) _ (by omega) (by omega) e2
theorem lp_X12_worth {h : PH} {x v : Int32} (hL : px_L h) : ∀ (k i top : Nat) (P : Nat → Int32), i + k ≤ 5940 → top + k ≤ 660 → wrun (hI h 48) (hI h 49) (hI h 53) k i (lsP P top) = some v → PW M_X12_worth (hn h) (hs h) (PXpost h 0 0 (sQ SW h v)) 4 [(0, .ref 36), (1, .int x), (2, .int (nI (i))), (3, .int (nI (top)))] [] (rI h 54 P) := by
  intro k
  induction k with
  | zero =>
    intro i top P h1 h2 e
    cases e
  | succ k ih =>
    intro i top P h1 h2 e
    refine px_aload_n d_X12_worth_4 rfl rfl ?_
    refine px_getR d_X12_worth_5 fl_X12_63 (by decide) (so36 hL) (sr36_17 hL) ?_
    refine px_iload_n d_X12_worth_8 rfl rfl ?_
    refine px_iald d_X12_worth_9 (sa48 hL) rfl (by omega) ?_
    refine px_val (y := hI h 48 i) rfl ?_
    refine px_if_eq (tgt := 192) d_X12_worth_10 (by decide) (fun c10 => ?_) (fun c10 => ?_)
    · refine px_aload_n d_X12_worth_192 rfl rfl ?_
      refine px_getR d_X12_worth_193 fl_X12_81 (by decide) (so36 hL) (sr36_25 hL) ?_
      refine px_iconst (v := 0) d_X12_worth_196 (by decide) ?_
      obtain ⟨e1, e2⟩ := wrun_0 c10 e
      refine px_iald (j := 0) d_X12_worth_197 (sa54 hL) rfl (by decide) ?_
      refine px_val (y := v) e2 ?_
      exact px_ireturn d_X12_worth_198 rfl rfl ⟨rfl, ⟨rfl, px_same.rf.r (by decide) _⟩, rfl, rfl⟩
    · refine px_aload_n d_X12_worth_13 rfl rfl ?_
      refine px_getR d_X12_worth_14 fl_X12_63 (by decide) (so36 hL) (sr36_17 hL) ?_
      refine px_iload_n d_X12_worth_17 rfl rfl ?_
      refine px_iald d_X12_worth_18 (sa48 hL) rfl (by omega) ?_
      refine px_val (y := hI h 48 i) rfl ?_
      refine px_istore d_X12_worth_19 (by decide) ?_
      refine px_iload d_X12_worth_21 rfl ?_
      refine px_iconst (v := 1) d_X12_worth_23 (by decide) ?_
      refine px_icmp_eq (tgt := 33) d_X12_worth_24 (by decide) (fun c24 => ?_) (fun c24 => ?_)
      · first
          | exact la_X12_worth hL h1 h2 ih c10 c24 e
          | exact lb_X12_worth hL h1 h2 ih c10 c24 c30 e
      · refine px_iload d_X12_worth_27 rfl ?_
        refine px_iconst (v := 2) d_X12_worth_29 (by decide) ?_
        refine px_icmp_ne (tgt := 71) d_X12_worth_30 (by decide) (fun c30 => ?_) (fun c30 => ?_)
        · exact lc_X12_worth hL h1 h2 ih c10 c24 c30 e
        · first
            | exact la_X12_worth hL h1 h2 ih c10 c24 e
            | exact lb_X12_worth hL h1 h2 ih c10 c24 c30 e
theorem x_X12_worth {h : PH} {v : Int32} {i k : Nat} (hL : px_L h) (h1 : i + k ≤ 5940) (h2 : k ≤ 660) (e : wrun (hI h 48) (hI h 49) (hI h 53) k i [] = some v) : PX M_X12_worth [.ref 36, .int (nI i)] h 0 0 (sQ SW h v) := by
  refine PX.of (by decide +kernel) (by decide +kernel) (Nat.le_of_ble_eq_true rfl) ?_
  refine px_iload_n d_X12_worth_0 rfl rfl ?_
  refine px_istore_n d_X12_worth_1 rfl (by decide) ?_
  refine px_iconst (v := 0) d_X12_worth_2 (by decide) ?_
  refine px_istore_n d_X12_worth_3 rfl (by decide) ?_
  refine px_drop (lv' := [(0, .ref 36), (1, .int (nI i)), (2, .int (nI i)), (3, .int (nI 0))]) ⟨rfl, rfl, rfl, rfl, trivial⟩ ?_
  refine px_heap (h2 := rI h 54 (hI h 54)) (rI_self ..).symm ?_
  exact lp_X12_worth hL k i 0 _ h1 (by omega) e
def ot : Option Nat → Int32
  | none => -1
  | some t => nI t
def fLn (isl ln wv : Nat → Int32) (lim : Int32) : Nat → Nat → Int32
  | 0, _ => -1
  | r + 1, k => if isl k = lim ∧ ¬ wv k = 0 then ln k else fLn isl ln wv lim r (k + 1)
/-- the reference's texts: what each line's codes are worth -/
def RX (h : PH) (n : Nat) (nl : Nat → Nat) (W : Nat → Nat → (Nat → Int32) → Int32) : Prop := n ≤ 8 ∧ hI h 36 10 = nI n ∧ ∀ t, t < n → (hI h 44 t = nI (nl t) ∧ nl t ≤ 16) ∧ ∀ k, k < nl t → ∃ c fu : Nat, hI h 47 (16 * t + k) = nI c ∧ (660 * t + c + fu ≤ 5940 ∧ fu ≤ 660) ∧ ∀ kn : Nat → Int32, wrun (hI h 48) (hI h 49) kn fu (660 * t + c) [] = some (W t k kn)
def fOf (h : PH) (nl : Nat → Nat) (W : Nat → Nat → (Nat → Int32) → Int32) (F : Nat → Int32) (lim : Int32) : Option Nat → Int32
  | none => -1
  | some t => fLn (fun k => hI h 45 (16 * t + k)) (fun k => hI h 46 (16 * t + k)) (fun k => W t k F) lim (nl t) 0
theorem RX.same {S : Nat → Bool} {h g : PH} {n : Nat} {nl : Nat → Nat} {W : Nat → Nat → (Nat → Int32) → Int32} (t : RX h n nl W) (a : px_same S h g) (s0 : S 36 = false) (s1 : S 44 = false) (s2 : S 47 = false) (s3 : S 48 = false) (s4 : S 49 = false) : RX g n nl W := by
  obtain ⟨t1, t2, t3⟩ := t
  refine ⟨t1, (congrFun (a.2 36 s0) _).trans t2, fun i hi => ?_⟩
  rw [a.2 44 s1, a.2 47 s2, a.2 48 s3, a.2 49 s4]
  exact t3 i hi
theorem fOf_same {S : Nat → Bool} {h g : PH} (nl : Nat → Nat) (W : Nat → Nat → (Nat → Int32) → Int32) (F : Nat → Int32) (lim : Int32) (a : px_same S h g) (s0 : S 45 = false) (s1 : S 46 = false) (o : Option Nat) : fOf g nl W F lim o = fOf h nl W F lim o := by
  cases o with
  | none => rfl
  | some t => unfold fOf; rw [a.2 45 s0, a.2 46 s1]
theorem idx16 (t k : Nat) : 16 * nI t + nI k = nI (16 * t + k) := by
  show Int32.ofNat 16 * Int32.ofNat t + Int32.ofNat k = _
  rw [← Int32.ofNat_mul, ← Int32.ofNat_add]
  rfl
theorem idx660 (t c : Nat) {x : Int32} (hx : x = nI c) : 660 * nI t + x = nI (660 * t + c) := by
  rw [hx]
  show Int32.ofNat 660 * Int32.ofNat t + Int32.ofNat c = _
  rw [← Int32.ofNat_mul, ← Int32.ofNat_add]
  rfl
theorem lp1_X12_firstOf {h : PH} {N S : Nat} {Post : Nat → Option Value → PH → Prop} (hL : px_L h) {n : Nat} {nl : Nat → Nat} {W : Nat → Nat → (Nat → Int32) → Int32} (hX : RX h n nl W) {lim d kd : Int32} (kk : PW M_X12_firstOf N S Post 52 [(0, .ref 36), (1, .int lim), (2, .int d), (3, .int kd), (4, .int (ot (lastT (frcP (hI h 42) (hI h 43) d kd) n)))] [] h) : ∀ (k i : Nat), i + k = n → PW M_X12_firstOf N S Post 6 [(0, .ref 36), (1, .int lim), (2, .int d), (3, .int kd), (4, .int (ot (lastT (frcP (hI h 42) (hI h 43) d kd) (i)))), (5, .int (nI (i)))] [] h := by
  have hn8 := hX.1
  have hnn := hX.2.1
  intro k
  induction k with
  | zero =>
    intro i hi
    have e : i = n := by omega
    rw [e]
    refine px_iload d_X12_firstOf_6 rfl ?_
    refine px_aload_n d_X12_firstOf_8 rfl rfl ?_
    refine px_getI d_X12_firstOf_9 fl_X12_206 rfl (so36 hL) ?_
    refine px_icmp_ge (tgt := 52) d_X12_firstOf_12 (by decide) (fun c12 => ?_) (fun c12 => (c12 (by rw [hnn]; exact nI_le (by omega) (by omega))).elim)
    refine px_drop (lv' := [(0, .ref 36), (1, .int lim), (2, .int d), (3, .int kd), (4, .int (ot (lastT (frcP (hI h 42) (hI h 43) d kd) n)))]) ⟨rfl, rfl, rfl, rfl, rfl, trivial⟩ ?_
    exact kk
  | succ k ih =>
    intro i hi
    refine px_iload d_X12_firstOf_6 rfl ?_
    refine px_aload_n d_X12_firstOf_8 rfl rfl ?_
    refine px_getI d_X12_firstOf_9 fl_X12_206 rfl (so36 hL) ?_
    refine px_icmp_ge (tgt := 52) d_X12_firstOf_12 (by decide) (fun c12 => absurd c12 (by rw [hnn]; exact nI_ge (by omega) (by omega))) (fun c12 => ?_)
    refine px_aload_n d_X12_firstOf_15 rfl rfl ?_
    refine px_getR d_X12_firstOf_16 fl_X12_44 (by decide) (so36 hL) (sr36_11 hL) ?_
    refine px_iload d_X12_firstOf_19 rfl ?_
    refine px_iald d_X12_firstOf_21 (sa42 hL) rfl (by omega) ?_
    refine px_iload_n d_X12_firstOf_22 rfl rfl ?_
    refine px_icmp_gt (tgt := 42) d_X12_firstOf_23 (by decide) (fun c23 => ?_) (fun c23 => ?_)
    · refine px_iload d_X12_firstOf_42 rfl ?_
      refine px_istore d_X12_firstOf_44 (by decide) ?_
      refine px_inc1 d_X12_firstOf_46 rfl (by decide) ?_
      refine px_goto (tgt := 6) d_X12_firstOf_49 (by decide) ?_
      refine px_drop (lv' := [(0, .ref 36), (1, .int lim), (2, .int d), (3, .int kd), (4, .int (ot (lastT (frcP (hI h 42) (hI h 43) d kd) (i + 1)))), (5, .int (nI (i + 1)))]) ⟨rfl, rfl, rfl, rfl, px_si ((by first | exact (congrArg ot (show lastT (frcP (hI h 42) (hI h 43) d kd) (i + 1) = some i from if_pos (by unfold frcP; simp only [Bool.and_eq_true, decide_eq_true_eq]; exact ⟨c23, c34⟩))).symm | exact (congrArg ot (show lastT (frcP (hI h 42) (hI h 43) d kd) (i + 1) = lastT (frcP (hI h 42) (hI h 43) d kd) i from if_neg (by unfold frcP; simp only [Bool.and_eq_true, decide_eq_true_eq]; rintro ⟨w1, w2⟩; first | exact w1 c23 | exact w2 c34))).symm)), px_si (nI_s1 _), trivial⟩ ?_
      exact ih (i + 1) (by omega)
    · refine px_aload_n d_X12_firstOf_26 rfl rfl ?_
      refine px_getR d_X12_firstOf_27 fl_X12_47 (by decide) (so36 hL) (sr36_12 hL) ?_
      refine px_iload d_X12_firstOf_30 rfl ?_
      refine px_iald d_X12_firstOf_32 (sa43 hL) rfl (by omega) ?_
      refine px_iload_n d_X12_firstOf_33 rfl rfl ?_
      refine px_icmp_gt (tgt := 42) d_X12_firstOf_34 (by decide) (fun c34 => ?_) (fun c34 => ?_)
      · refine px_iload d_X12_firstOf_42 rfl ?_
        refine px_istore d_X12_firstOf_44 (by decide) ?_
        refine px_inc1 d_X12_firstOf_46 rfl (by decide) ?_
        refine px_goto (tgt := 6) d_X12_firstOf_49 (by decide) ?_
        refine px_drop (lv' := [(0, .ref 36), (1, .int lim), (2, .int d), (3, .int kd), (4, .int (ot (lastT (frcP (hI h 42) (hI h 43) d kd) (i + 1)))), (5, .int (nI (i + 1)))]) ⟨rfl, rfl, rfl, rfl, px_si ((by first | exact (congrArg ot (show lastT (frcP (hI h 42) (hI h 43) d kd) (i + 1) = some i from if_pos (by unfold frcP; simp only [Bool.and_eq_true, decide_eq_true_eq]; exact ⟨c23, c34⟩))).symm | exact (congrArg ot (show lastT (frcP (hI h 42) (hI h 43) d kd) (i + 1) = lastT (frcP (hI h 42) (hI h 43) d kd) i from if_neg (by unfold frcP; simp only [Bool.and_eq_true, decide_eq_true_eq]; rintro ⟨w1, w2⟩; first | exact w1 c23 | exact w2 c34))).symm)), px_si (nI_s1 _), trivial⟩ ?_
        exact ih (i + 1) (by omega)
      · refine px_iload d_X12_firstOf_37 rfl ?_
        refine px_goto (tgt := 44) d_X12_firstOf_39 (by decide) ?_
        refine px_istore d_X12_firstOf_44 (by decide) ?_
        refine px_inc1 d_X12_firstOf_46 rfl (by decide) ?_
        refine px_goto (tgt := 6) d_X12_firstOf_49 (by decide) ?_
        refine px_drop (lv' := [(0, .ref 36), (1, .int lim), (2, .int d), (3, .int kd), (4, .int (ot (lastT (frcP (hI h 42) (hI h 43) d kd) (i + 1)))), (5, .int (nI (i + 1)))]) ⟨rfl, rfl, rfl, rfl, px_si ((by first | exact (congrArg ot (show lastT (frcP (hI h 42) (hI h 43) d kd) (i + 1) = some i from if_pos (by unfold frcP; simp only [Bool.and_eq_true, decide_eq_true_eq]; exact ⟨c23, c34⟩))).symm | exact (congrArg ot (show lastT (frcP (hI h 42) (hI h 43) d kd) (i + 1) = lastT (frcP (hI h 42) (hI h 43) d kd) i from if_neg (by unfold frcP; simp only [Bool.and_eq_true, decide_eq_true_eq]; rintro ⟨w1, w2⟩; first | exact w1 c23 | exact w2 c34))).symm)), px_si (nI_s1 _), trivial⟩ ?_
        exact ih (i + 1) (by omega)
theorem lp2_X12_firstOf {h : PH} (hL : px_L h) {n : Nat} {nl : Nat → Nat} {W : Nat → Nat → (Nat → Int32) → Int32} (hX : RX h n nl W) {lim d kd : Int32} {t : Nat} (ht : t < n) {F : Nat → Int32} (hF : hI h 53 = F) : ∀ (k i : Nat) (g : PH), i + k = nl t → px_same SW h g → PW M_X12_firstOf (hn h) (hs h) (PXpost h 0 0 (sQ SW h (fLn (fun k => hI h 45 (16 * t + k)) (fun k => hI h 46 (16 * t + k)) (fun k => W t k F) lim k i))) 55 [(0, .ref 36), (1, .int lim), (2, .int d), (3, .int kd), (4, .int (nI t)), (5, .int (nI (i)))] [] g := by
  obtain ⟨hn8, hnn, hx⟩ := hX
  obtain ⟨⟨hl1, hl2⟩, hx2⟩ := hx t ht
  intro k
  induction k with
  | zero =>
    intro i g hi hg
    have hLg := hL.same hg
    have e : i = nl t := by omega
    rw [e]
    refine px_iload d_X12_firstOf_55 rfl ?_
    refine px_if_lt (tgt := 136) d_X12_firstOf_57 (by decide) (fun c57 => absurd c57 (nI_pos (by omega))) (fun c57 => ?_)
    refine px_iload d_X12_firstOf_60 rfl ?_
    refine px_aload_n d_X12_firstOf_62 rfl rfl ?_
    refine px_getR d_X12_firstOf_63 fl_X12_50 (by decide) (so36 hLg) (sr36_13 hLg) ?_
    refine px_iload d_X12_firstOf_66 rfl ?_
    refine px_iald d_X12_firstOf_68 (sa44 hLg) rfl (by omega) ?_
    refine px_val (y := nI (nl t)) ((congrFun (hg.2 44 (by decide)) _).trans hl1) ?_
    refine px_icmp_ge (tgt := 136) d_X12_firstOf_69 (by decide) (fun c69 => ?_) (fun c69 => (c69 (nI_le (by omega) (by omega))).elim)
    refine px_iconst (v := (-1)) d_X12_firstOf_136 (by decide) ?_
    exact px_ireturn d_X12_firstOf_137 rfl rfl ⟨rfl, ⟨rfl, hg⟩, hg.1.2.2.2.1, hg.1.2.2.2.2⟩
  | succ k ih =>
    intro i g hi hg
    have hLg := hL.same hg
    obtain ⟨c, fu, hc, ⟨hb1, hb2⟩, hw⟩ := hx2 i (by omega)
    have hw1 := hw F
    have eN : hn g = hn h := hg.1.2.2.2.1
    have eS : hs g = hs h := hg.1.2.2.2.2
    have cW := x_X12_worth (h := g) (v := W t i F) (i := 660 * t + c) (k := fu) hLg hb1 hb2 (by rw [hg.2 48 (by decide), hg.2 49 (by decide), hg.2 53 (by decide), hF]; exact hw1)
    refine px_iload d_X12_firstOf_55 rfl ?_
    refine px_if_lt (tgt := 136) d_X12_firstOf_57 (by decide) (fun c57 => absurd c57 (nI_pos (by omega))) (fun c57 => ?_)
    refine px_iload d_X12_firstOf_60 rfl ?_
    refine px_aload_n d_X12_firstOf_62 rfl rfl ?_
    refine px_getR d_X12_firstOf_63 fl_X12_50 (by decide) (so36 hLg) (sr36_13 hLg) ?_
    refine px_iload d_X12_firstOf_66 rfl ?_
    refine px_iald d_X12_firstOf_68 (sa44 hLg) rfl (by omega) ?_
    refine px_val (y := nI (nl t)) ((congrFun (hg.2 44 (by decide)) _).trans hl1) ?_
    refine px_icmp_ge (tgt := 136) d_X12_firstOf_69 (by decide) (fun c69 => absurd c69 (nI_ge (by omega) (by omega))) (fun c69 => ?_)
    refine px_aload_n d_X12_firstOf_72 rfl rfl ?_
    refine px_getR d_X12_firstOf_73 fl_X12_53 (by decide) (so36 hLg) (sr36_14 hLg) ?_
    refine px_bipush (v := 16) d_X12_firstOf_76 (by decide) ?_
    refine px_iload d_X12_firstOf_78 rfl ?_
    refine px_imul d_X12_firstOf_80 ?_
    refine px_iload d_X12_firstOf_81 rfl ?_
    refine px_iadd d_X12_firstOf_83 ?_
    refine px_val (y := nI (16 * t + i)) (idx16 t i) ?_
    refine px_zald d_X12_firstOf_84 (sa45 hLg) rfl (by omega) ?_
    refine px_val (y := hI h 45 (16 * t + i)) (congrFun (hg.2 45 (by decide)) _) ?_
    refine px_iload_n d_X12_firstOf_85 rfl rfl ?_
    refine px_icmp_ne (tgt := 130) d_X12_firstOf_86 (by decide) (fun c86 => ?_) (fun c86 => ?_)
    · refine px_inc1 d_X12_firstOf_130 rfl (by decide) ?_
      refine px_goto (tgt := 55) d_X12_firstOf_133 (by decide) ?_
      first
        | (have e9 : (fLn (fun k => hI h 45 (16 * t + k)) (fun k => hI h 46 (16 * t + k)) (fun k => W t k F) lim (k + 1) i) = (fLn (fun k => hI h 45 (16 * t + k)) (fun k => hI h 46 (16 * t + k)) (fun k => W t k F) lim k (i + 1)) := if_neg (by rintro ⟨w1, w2⟩; first | exact c86 w1 | exact w2 c113)
           rw [e9]
           refine px_drop (lv' := [(0, .ref 36), (1, .int lim), (2, .int d), (3, .int kd), (4, .int (nI t)), (5, .int (nI (i + 1)))]) ⟨rfl, rfl, rfl, rfl, rfl, px_si (nI_s1 _), trivial⟩ ?_
           exact ih (i + 1) h9 (by omega) hg9)
        | (have e9 : (fLn (fun k => hI h 45 (16 * t + k)) (fun k => hI h 46 (16 * t + k)) (fun k => W t k F) lim (k + 1) i) = (fLn (fun k => hI h 45 (16 * t + k)) (fun k => hI h 46 (16 * t + k)) (fun k => W t k F) lim k (i + 1)) := if_neg (by rintro ⟨w1, w2⟩; first | exact c86 w1 | exact w2 c113)
           rw [e9]
           refine px_drop (lv' := [(0, .ref 36), (1, .int lim), (2, .int d), (3, .int kd), (4, .int (nI t)), (5, .int (nI (i + 1)))]) ⟨rfl, rfl, rfl, rfl, rfl, px_si (nI_s1 _), trivial⟩ ?_
           exact ih (i + 1) g (by omega) hg)
    · refine px_aload_n d_X12_firstOf_89 rfl rfl ?_
      refine px_sipush (v := 660) d_X12_firstOf_90 (by decide) ?_
      refine px_iload d_X12_firstOf_93 rfl ?_
      refine px_imul d_X12_firstOf_95 ?_
      refine px_aload_n d_X12_firstOf_96 rfl rfl ?_
      refine px_getR d_X12_firstOf_97 fl_X12_60 (by decide) (so36 hLg) (sr36_16 hLg) ?_
      refine px_bipush (v := 16) d_X12_firstOf_100 (by decide) ?_
      refine px_iload d_X12_firstOf_102 rfl ?_
      refine px_imul d_X12_firstOf_104 ?_
      refine px_iload d_X12_firstOf_105 rfl ?_
      refine px_iadd d_X12_firstOf_107 ?_
      refine px_val (y := nI (16 * t + i)) (idx16 t i) ?_
      refine px_iald d_X12_firstOf_108 (sa47 hLg) rfl (by omega) ?_
      refine px_val (y := nI c) ((congrFun (hg.2 47 (by decide)) _).trans hc) ?_
      refine px_iadd d_X12_firstOf_109 ?_
      refine px_val (y := nI (660 * t + c)) (idx660 t c rfl) ?_
      refine px_callVX (cW) d_X12_firstOf_110 lk_X12_253 ok_X12_worth ov_X12_worth (so36 hLg) (by decide) rfl rfl (Nat.le_of_ble_eq_true rfl) (by decide) ⟨Nat.le_of_eq eN, Nat.le_of_eq eS⟩ (fun r9 h9 q9 n9 s9 => ?_)
      obtain ⟨rfl, hs9⟩ := q9
      have hg9 := hg.tr hs9
      have hL9 := hL.same hg9
      refine px_if_eq (tgt := 130) d_X12_firstOf_113 (by decide) (fun c113 => ?_) (fun c113 => ?_)
      · refine px_inc1 d_X12_firstOf_130 rfl (by decide) ?_
        refine px_goto (tgt := 55) d_X12_firstOf_133 (by decide) ?_
        first
          | (have e9 : (fLn (fun k => hI h 45 (16 * t + k)) (fun k => hI h 46 (16 * t + k)) (fun k => W t k F) lim (k + 1) i) = (fLn (fun k => hI h 45 (16 * t + k)) (fun k => hI h 46 (16 * t + k)) (fun k => W t k F) lim k (i + 1)) := if_neg (by rintro ⟨w1, w2⟩; first | exact c86 w1 | exact w2 c113)
             rw [e9]
             refine px_drop (lv' := [(0, .ref 36), (1, .int lim), (2, .int d), (3, .int kd), (4, .int (nI t)), (5, .int (nI (i + 1)))]) ⟨rfl, rfl, rfl, rfl, rfl, px_si (nI_s1 _), trivial⟩ ?_
             exact ih (i + 1) h9 (by omega) hg9)
          | (have e9 : (fLn (fun k => hI h 45 (16 * t + k)) (fun k => hI h 46 (16 * t + k)) (fun k => W t k F) lim (k + 1) i) = (fLn (fun k => hI h 45 (16 * t + k)) (fun k => hI h 46 (16 * t + k)) (fun k => W t k F) lim k (i + 1)) := if_neg (by rintro ⟨w1, w2⟩; first | exact c86 w1 | exact w2 c113)
             rw [e9]
             refine px_drop (lv' := [(0, .ref 36), (1, .int lim), (2, .int d), (3, .int kd), (4, .int (nI t)), (5, .int (nI (i + 1)))]) ⟨rfl, rfl, rfl, rfl, rfl, px_si (nI_s1 _), trivial⟩ ?_
             exact ih (i + 1) g (by omega) hg)
      · refine px_aload_n d_X12_firstOf_116 rfl rfl ?_
        refine px_getR d_X12_firstOf_117 fl_X12_57 (by decide) (so36 hL9) (sr36_15 hL9) ?_
        refine px_bipush (v := 16) d_X12_firstOf_120 (by decide) ?_
        refine px_iload d_X12_firstOf_122 rfl ?_
        refine px_imul d_X12_firstOf_124 ?_
        refine px_iload d_X12_firstOf_125 rfl ?_
        refine px_iadd d_X12_firstOf_127 ?_
        refine px_val (y := nI (16 * t + i)) (idx16 t i) ?_
        refine px_iald d_X12_firstOf_128 (sa46 hL9) rfl (by omega) ?_
        refine px_val (y := hI h 46 (16 * t + i)) (congrFun (hg9.2 46 (by decide)) _) ?_
        exact px_ireturn d_X12_firstOf_129 rfl rfl ⟨rfl, ⟨px_si (if_pos ⟨c86, c113⟩).symm, hg9⟩, hg9.1.2.2.2.1, hg9.1.2.2.2.2⟩
theorem l52_X12_firstOf {h : PH} (hL : px_L h) {n : Nat} {nl : Nat → Nat} {W : Nat → Nat → (Nat → Int32) → Int32} (hX : RX h n nl W) {lim d kd : Int32} {F : Nat → Int32} (hF : hI h 53 = F) : PW M_X12_firstOf (hn h) (hs h) (PXpost h 0 0 (sQ SW h (fOf h nl W F lim (lastT (frcP (hI h 42) (hI h 43) d kd) n)))) 52 [(0, .ref 36), (1, .int lim), (2, .int d), (3, .int kd), (4, .int (ot (lastT (frcP (hI h 42) (hI h 43) d kd) n)))] [] h := by
  rcases hq : lastT (frcP (hI h 42) (hI h 43) d kd) n with _ | t
  · refine px_iconst (v := 0) d_X12_firstOf_52 (by decide) ?_
    refine px_istore d_X12_firstOf_53 (by decide) ?_
    refine px_iload d_X12_firstOf_55 rfl ?_
    refine px_if_lt (tgt := 136) d_X12_firstOf_57 (by decide) (fun c57 => ?_) (fun c57 => (c57 (by decide)).elim)
    refine px_iconst (v := (-1)) d_X12_firstOf_136 (by decide) ?_
    exact px_ireturn d_X12_firstOf_137 rfl rfl ⟨rfl, ⟨rfl, px_same.rf⟩, rfl, rfl⟩
  · have ht : t < n := lastT_lt hq
    refine px_iconst (v := 0) d_X12_firstOf_52 (by decide) ?_
    refine px_istore d_X12_firstOf_53 (by decide) ?_
    refine px_drop (lv' := [(0, .ref 36), (1, .int lim), (2, .int d), (3, .int kd), (4, .int (nI t)), (5, .int (nI (0)))]) ⟨rfl, rfl, rfl, rfl, rfl, rfl, trivial⟩ ?_
    exact lp2_X12_firstOf hL hX ht hF (nl t) 0 h (by omega) px_same.rf
theorem x_X12_firstOf {h : PH} (hL : px_L h) {n : Nat} {nl : Nat → Nat} {W : Nat → Nat → (Nat → Int32) → Int32} (hX : RX h n nl W) {lim d kd : Int32} {F : Nat → Int32} (hF : hI h 53 = F) : PX M_X12_firstOf [.ref 36, .int lim, .int d, .int kd] h 0 0 (sQ SW h (fOf h nl W F lim (lastT (frcP (hI h 42) (hI h 43) d kd) n))) := by
  refine PX.of (by decide +kernel) (by decide +kernel) (Nat.le_of_ble_eq_true rfl) ?_
  refine px_iconst (v := (-1)) d_X12_firstOf_0 (by decide) ?_
  refine px_istore d_X12_firstOf_1 (by decide) ?_
  refine px_iconst (v := 0) d_X12_firstOf_3 (by decide) ?_
  refine px_istore d_X12_firstOf_4 (by decide) ?_
  refine px_drop (lv' := [(0, .ref 36), (1, .int lim), (2, .int d), (3, .int kd), (4, .int (ot (lastT (frcP (hI h 42) (hI h 43) d kd) 0))), (5, .int (nI 0))]) ⟨rfl, rfl, rfl, rfl, rfl, rfl, trivial⟩ ?_
  exact lp1_X12_firstOf hL hX (l52_X12_firstOf hL hX hF) n 0 (by omega)
