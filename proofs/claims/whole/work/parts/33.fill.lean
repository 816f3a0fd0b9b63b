theorem pI_rI (h : PH) (a : Nat) (f : Nat → Int32) (i : Nat) (v : Int32) : pI (rI h a f) a i v = rI h a (fun j => if j = i then v else f j) := by
  refine PH.ext (fun x j => ?_) rfl
  rw [gI, hI_rI, hI_rI]
  by_cases h1 : x = a
  · by_cases h2 : j = i <;> simp [h1, h2]
  · simp [h1]
def rJ (h : PH) (a : Nat) (f : Nat → Int64) : PH := (h.1, up1 (hJ h) a f, h.2.2)
theorem hJ_rs (h : PH) (a : Nat) (f : Nat → Int64) : hJ (rJ h a f) a = f := up1_s
theorem hJ_rn (h : PH) (a : Nat) (f : Nat → Int64) {x : Nat} (hx : x ≠ a) : hJ (rJ h a f) x = hJ h x := up1_ne hx
theorem PH.extJ {h g : PH} (e1 : h.1 = g.1) (e : ∀ a i, hJ h a i = hJ g a i) (e2 : h.2.2 = g.2.2) : h = g := by
  have e3 : h.2.1 = g.2.1 := funext fun a => funext fun i => e a i
  exact Prod.ext e1 (Prod.ext e3 e2)
theorem pJ_rJ (h : PH) (a : Nat) (f : Nat → Int64) (i : Nat) (v : Int64) : pJ (rJ h a f) a i v = rJ h a (fun j => if j = i then v else f j) := by
  refine PH.extJ rfl (fun x j => ?_) rfl
  show up2 (up1 (hJ h) a f) a i v x j = up1 (hJ h) a (fun j => if j = i then v else f j) x j
  by_cases h1 : x = a
  · by_cases h2 : j = i <;> simp [up2, up1, h1, h2]
  · simp [up2, up1, h1]
theorem rJ_self (h : PH) (a : Nat) : rJ h a (hJ h a) = h := by
  refine PH.extJ rfl (fun x j => ?_) rfl
  show up1 (hJ h) a (hJ h a) x j = hJ h x j
  by_cases h1 : x = a <;> simp [up1, h1]
def ffl {α : Type} (v : α) (n : Nat) (f : Nat → α) : Nat → α := fun j => if j < n then v else f j
theorem ffl_0 {α : Type} (v : α) (f : Nat → α) : ffl v 0 f = f := by funext j; simp [ffl]
theorem ffl_s {α : Type} (v : α) (n : Nat) (f : Nat → α) : (fun j => if j = n then v else ffl v n f j) = ffl v (n + 1) f := by
  funext j
  unfold ffl
  by_cases h1 : j = n
  · simp [h1]
  · by_cases h2 : j < n
    · simp [h1, h2, Nat.lt_succ_of_lt h2]
    · rw [if_neg h1, if_neg h2, if_neg (by omega)]
theorem lp_J7_fill_53178 {h : PH} {k0 len : Nat} {v : Int32} (ha : px_ar h k0 20 len) : ∀ (k : Nat) (i : Nat), i + k = len → PW M_J7_fill_53178 (hn h) (hs h) (PMpost none (rI h k0 (ffl v len (hI h k0)))) 5 [(0, .ref k0), (1, .int v), (2, .int (nI (i))), (3, .int (nI len))] [] (rI h k0 (ffl v i (hI h k0))) := by
  intro k
  induction k with
  | zero =>
    intro i hi
    have e : i = len := by omega
    subst e
    have hb := ha.2.2
    refine px_iload_n d_J7_fill_53178_5 rfl rfl ?_
    refine px_iload_n d_J7_fill_53178_6 rfl rfl ?_
    refine px_icmp_ge (tgt := 20) d_J7_fill_53178_7 (by decide) (fun c7 => ?_) (fun c7 => (c7 (nI_le (by omega) (by omega))).elim)
    exact px_return d_J7_fill_53178_20 rfl ⟨rfl, rfl, rfl⟩
  | succ k ih =>
    intro i hi
    have hb := ha.2.2
    refine px_iload_n d_J7_fill_53178_5 rfl rfl ?_
    refine px_iload_n d_J7_fill_53178_6 rfl rfl ?_
    refine px_icmp_ge (tgt := 20) d_J7_fill_53178_7 (by decide) (fun c7 => absurd c7 (nI_ge (by omega) (by omega))) (fun c7 => ?_)
    refine px_aload_n d_J7_fill_53178_10 rfl rfl ?_
    refine px_iload_n d_J7_fill_53178_11 rfl rfl ?_
    refine px_iload_n d_J7_fill_53178_12 rfl rfl ?_
    refine px_iast d_J7_fill_53178_13 ha rfl (by omega) ?_
    refine px_heap (h2 := (rI h k0 (ffl v (i + 1) (hI h k0)))) (by rw [pI_rI, ffl_s]) ?_
    refine px_inc1 d_J7_fill_53178_14 rfl (by decide) ?_
    refine px_goto (tgt := 5) d_J7_fill_53178_17 (by decide) ?_
    refine px_drop (lv' := [(0, .ref k0), (1, .int v), (2, .int (nI (i + 1))), (3, .int (nI len))]) ⟨rfl, rfl, px_si (nI_s1 _), rfl, trivial⟩ ?_
    exact ih (i + 1) (by omega)
theorem c_J7_fill_53178 {h : PH} {k0 len : Nat} {v : Int32} (ha : px_ar h k0 20 len) : PM M_J7_fill_53178 [.ref k0, .int v] h none (rI h k0 (ffl v len (hI h k0))) := by
  refine PM.of (by decide +kernel) (by decide +kernel) (Nat.le_refl _) (Nat.le_refl _) (Nat.le_of_ble_eq_true rfl) ?_
  refine px_iconst (v := 0) d_J7_fill_53178_0 (by decide) ?_
  refine px_istore_n d_J7_fill_53178_1 rfl (by decide) ?_
  refine px_aload_n d_J7_fill_53178_2 rfl rfl ?_
  refine px_alen d_J7_fill_53178_3 ha (by decide) (by decide) ?_
  refine px_istore_n d_J7_fill_53178_4 rfl (by decide) ?_
  refine px_heap (h2 := (rI h k0 (ffl v 0 (hI h k0)))) (by rw [ffl_0, rI_self]) ?_
  exact lp_J7_fill_53178 ha len 0 (by omega)
theorem lp_J7_fill_d0a16 {h : PH} {k0 len : Nat} {v : Int64} (ha : px_ar h k0 23 len) : ∀ (k : Nat) (i : Nat), i + k = len → PW M_J7_fill_d0a16 (hn h) (hs h) (PMpost none (rJ h k0 (ffl v len (hJ h k0)))) 6 [(0, .ref k0), (1, .long v), (3, .int (nI (i))), (4, .int (nI len))] [] (rJ h k0 (ffl v i (hJ h k0))) := by
  intro k
  induction k with
  | zero =>
    intro i hi
    have e : i = len := by omega
    subst e
    have hb := ha.2.2
    refine px_iload_n d_J7_fill_d0a16_6 rfl rfl ?_
    refine px_iload d_J7_fill_d0a16_7 rfl ?_
    refine px_icmp_ge (tgt := 22) d_J7_fill_d0a16_9 (by decide) (fun c9 => ?_) (fun c9 => (c9 (nI_le (by omega) (by omega))).elim)
    exact px_return d_J7_fill_d0a16_22 rfl ⟨rfl, rfl, rfl⟩
  | succ k ih =>
    intro i hi
    have hb := ha.2.2
    refine px_iload_n d_J7_fill_d0a16_6 rfl rfl ?_
    refine px_iload d_J7_fill_d0a16_7 rfl ?_
    refine px_icmp_ge (tgt := 22) d_J7_fill_d0a16_9 (by decide) (fun c9 => absurd c9 (nI_ge (by omega) (by omega))) (fun c9 => ?_)
    refine px_aload_n d_J7_fill_d0a16_12 rfl rfl ?_
    refine px_iload_n d_J7_fill_d0a16_13 rfl rfl ?_
    refine px_lload_n d_J7_fill_d0a16_14 rfl rfl ?_
    refine px_last d_J7_fill_d0a16_15 ha rfl (by omega) ?_
    refine px_heap (h2 := (rJ h k0 (ffl v (i + 1) (hJ h k0)))) (by rw [pJ_rJ, ffl_s]) ?_
    refine px_inc1 d_J7_fill_d0a16_16 rfl (by decide) ?_
    refine px_goto (tgt := 6) d_J7_fill_d0a16_19 (by decide) ?_
    refine px_drop (lv' := [(0, .ref k0), (1, .long v), (3, .int (nI (i + 1))), (4, .int (nI len))]) ⟨rfl, rfl, px_si (nI_s1 _), rfl, trivial⟩ ?_
    exact ih (i + 1) (by omega)
theorem c_J7_fill_d0a16 {h : PH} {k0 len : Nat} {v : Int64} (ha : px_ar h k0 23 len) : PM M_J7_fill_d0a16 [.ref k0, .long v] h none (rJ h k0 (ffl v len (hJ h k0))) := by
  refine PM.of (by decide +kernel) (by decide +kernel) (Nat.le_refl _) (Nat.le_refl _) (Nat.le_of_ble_eq_true rfl) ?_
  refine px_iconst (v := 0) d_J7_fill_d0a16_0 (by decide) ?_
  refine px_istore_n d_J7_fill_d0a16_1 rfl (by decide) ?_
  refine px_aload_n d_J7_fill_d0a16_2 rfl rfl ?_
  refine px_alen d_J7_fill_d0a16_3 ha (by decide) (by decide) ?_
  refine px_istore d_J7_fill_d0a16_4 (by decide) ?_
  refine px_heap (h2 := (rJ h k0 (ffl v 0 (hJ h k0)))) (by rw [ffl_0, rJ_self]) ?_
  exact lp_J7_fill_d0a16 ha len 0 (by omega)
/-- what came and went by days, of the first n entries -/
def gat (ac dy sm kn : Nat → Int32) (a k : Int32) : Nat → Nat → Int32
  | 0 => fun _ => 0
  | n + 1 => if ac n = a ∧ ¬ k < kn n then (fun j => if j = (dy n).toNatClampNeg then gat ac dy sm kn a k n (dy n).toNatClampNeg + sm n else gat ac dy sm kn a k n j) else gat ac dy sm kn a k n
theorem gat_y {ac dy sm kn : Nat → Int32} {a k : Int32} {n : Nat} (cc : ac n = a ∧ ¬ k < kn n) : gat ac dy sm kn a k (n + 1) = fun j => if j = (dy n).toNatClampNeg then gat ac dy sm kn a k n (dy n).toNatClampNeg + sm n else gat ac dy sm kn a k n j := if_pos cc
theorem gat_no {ac dy sm kn : Nat → Int32} {a k : Int32} {n : Nat} (cc : ¬ (ac n = a ∧ ¬ k < kn n)) : gat ac dy sm kn a k (n + 1) = gat ac dy sm kn a k n := if_neg cc
theorem gat_pt {ac dy sm kn : Nat → Int32} {a k : Int32} {n j : Nat} {g : Nat → Int32} (cc : ac n = a ∧ ¬ k < kn n) (ec : (dy n).toNatClampNeg = j) (hj : j < 720) (x : Nat) : (if x = j then (if j < 720 then gat ac dy sm kn a k n j else g j) + sm n else (if x < 720 then gat ac dy sm kn a k n x else g x)) = (if x < 720 then gat ac dy sm kn a k (n + 1) x else g x) := by
  rw [gat_y cc, ec]
  by_cases e : x = j
  · subst e; simp [hj]
  · simp [e]
theorem gat_pn {ac dy sm kn : Nat → Int32} {a k : Int32} {n : Nat} {g : Nat → Int32} (cc : ¬ (ac n = a ∧ ¬ k < kn n)) (x : Nat) : (if x < 720 then gat ac dy sm kn a k n x else g x) = (if x < 720 then gat ac dy sm kn a k (n + 1) x else g x) := by
  rw [gat_no cc]
theorem lp_X2_gatherByDay {h : PH} (hL : px_L h) {n : Nat} (hs1 : hI h 2 4 = nI n) (hn4 : n ≤ 400) (hd : ∀ i, i < n → ∃ j, j < 720 ∧ hI h 4 i = nI j) {a kn : Int32} : ∀ (k : Nat) (i : Nat), i + k = n → PW M_X2_gatherByDay (hn h) (hs h) (PMpost none (rI h 22 (fun j => if j < 720 then gat (hI h 3) (hI h 4) (hI h 5) (hI h 6) a kn (n) j else hI h 22 j))) 8 [(0, .ref 2), (1, .int a), (2, .int kn), (3, .ref 22), (4, .int (nI (i)))] [] (rI h 22 (fun j => if j < 720 then gat (hI h 3) (hI h 4) (hI h 5) (hI h 6) a kn (i) j else hI h 22 j)) := by
  intro k
  induction k with
  | zero =>
    intro i hi
    have e : i = n := by omega
    subst e
    refine px_iload d_X2_gatherByDay_8 rfl ?_
    refine px_aload_n d_X2_gatherByDay_10 rfl rfl ?_
    refine px_getI d_X2_gatherByDay_11 fl_X2_24 rfl (so2 hL) ?_
    refine px_icmp_ge (tgt := 86) d_X2_gatherByDay_14 (by decide) (fun c14 => ?_) (fun c14 => (c14 (by rw [show hI (rI h 22 (fun j => if j < 720 then gat (hI h 3) (hI h 4) (hI h 5) (hI h 6) a kn (i) j else hI h 22 j)) 2 4 = hI h 2 4 from rfl, hs1]; exact nI_le (by omega) (by omega))).elim)
    exact px_return d_X2_gatherByDay_86 rfl ⟨rfl, rfl, rfl⟩
  | succ k ih =>
    intro i hi
    obtain ⟨j, hj, ej⟩ := hd i (by omega)
    have ec : (hI h 4 i).toNatClampNeg = j := by rw [ej]; exact nI_clamp (by omega)
    refine px_iload d_X2_gatherByDay_8 rfl ?_
    refine px_aload_n d_X2_gatherByDay_10 rfl rfl ?_
    refine px_getI d_X2_gatherByDay_11 fl_X2_24 rfl (so2 hL) ?_
    refine px_icmp_ge (tgt := 86) d_X2_gatherByDay_14 (by decide) (fun c14 => absurd c14 (by rw [show hI (rI h 22 (fun j => if j < 720 then gat (hI h 3) (hI h 4) (hI h 5) (hI h 6) a kn (i) j else hI h 22 j)) 2 4 = hI h 2 4 from rfl, hs1]; exact nI_ge (by omega) (by omega))) (fun c14 => ?_)
    refine px_aload_n d_X2_gatherByDay_17 rfl rfl ?_
    refine px_getR d_X2_gatherByDay_18 fl_X2_9 (by decide) (so2 hL) (sr2_0 hL) ?_
    refine px_iload d_X2_gatherByDay_21 rfl ?_
    refine px_iald d_X2_gatherByDay_23 (sa3 hL) rfl (by omega) ?_
    refine px_iload_n d_X2_gatherByDay_24 rfl rfl ?_
    refine px_icmp_ne (tgt := 80) d_X2_gatherByDay_25 (by decide) (fun c25 => ?_) (fun c25 => ?_)
    · refine px_inc1 d_X2_gatherByDay_80 rfl (by decide) ?_
      refine px_goto (tgt := 8) d_X2_gatherByDay_83 (by decide) ?_
      refine px_heap (h2 := (rI h 22 (fun j => if j < 720 then gat (hI h 3) (hI h 4) (hI h 5) (hI h 6) a kn (i + 1) j else hI h 22 j))) (by first | (rw [pI_rI]; exact congrArg (rI h 22) (funext fun x => gat_pt ⟨c25, c36⟩ ec hj x)) | exact congrArg (rI h 22) (funext fun x => gat_pn (fun w => c25 w.1) x) | exact congrArg (rI h 22) (funext fun x => gat_pn (fun w => w.2 c36) x)) ?_
      refine px_drop (lv' := [(0, .ref 2), (1, .int a), (2, .int kn), (3, .ref 22), (4, .int (nI (i + 1)))]) ⟨rfl, rfl, rfl, rfl, px_si (nI_s1 _), trivial⟩ ?_
      exact ih (i + 1) (by omega)
    · refine px_aload_n d_X2_gatherByDay_28 rfl rfl ?_
      refine px_getR d_X2_gatherByDay_29 fl_X2_21 (by decide) (so2 hL) (sr2_3 hL) ?_
      refine px_iload d_X2_gatherByDay_32 rfl ?_
      refine px_iald d_X2_gatherByDay_34 (sa6 hL) rfl (by omega) ?_
      refine px_iload_n d_X2_gatherByDay_35 rfl rfl ?_
      refine px_icmp_gt (tgt := 80) d_X2_gatherByDay_36 (by decide) (fun c36 => ?_) (fun c36 => ?_)
      · refine px_inc1 d_X2_gatherByDay_80 rfl (by decide) ?_
        refine px_goto (tgt := 8) d_X2_gatherByDay_83 (by decide) ?_
        refine px_heap (h2 := (rI h 22 (fun j => if j < 720 then gat (hI h 3) (hI h 4) (hI h 5) (hI h 6) a kn (i + 1) j else hI h 22 j))) (by first | (rw [pI_rI]; exact congrArg (rI h 22) (funext fun x => gat_pt ⟨c25, c36⟩ ec hj x)) | exact congrArg (rI h 22) (funext fun x => gat_pn (fun w => c25 w.1) x) | exact congrArg (rI h 22) (funext fun x => gat_pn (fun w => w.2 c36) x)) ?_
        refine px_drop (lv' := [(0, .ref 2), (1, .int a), (2, .int kn), (3, .ref 22), (4, .int (nI (i + 1)))]) ⟨rfl, rfl, rfl, rfl, px_si (nI_s1 _), trivial⟩ ?_
        exact ih (i + 1) (by omega)
      · refine px_aload_n d_X2_gatherByDay_39 rfl rfl ?_
        refine px_getR d_X2_gatherByDay_40 fl_X2_15 (by decide) (so2 hL) (sr2_1 hL) ?_
        refine px_iload d_X2_gatherByDay_43 rfl ?_
        refine px_iald d_X2_gatherByDay_45 (sa4 hL) rfl (by omega) ?_
        refine px_if_lt (tgt := 80) d_X2_gatherByDay_46 (by decide) (fun c46 => absurd c46 (by rw [show hI (rI h 22 (fun j => if j < 720 then gat (hI h 3) (hI h 4) (hI h 5) (hI h 6) a kn (i) j else hI h 22 j)) 4 i = hI h 4 i from rfl, ej]; exact nI_pos (by omega))) (fun c46 => ?_)
        refine px_aload_n d_X2_gatherByDay_49 rfl rfl ?_
        refine px_getR d_X2_gatherByDay_50 fl_X2_15 (by decide) (so2 hL) (sr2_1 hL) ?_
        refine px_iload d_X2_gatherByDay_53 rfl ?_
        refine px_iald d_X2_gatherByDay_55 (sa4 hL) rfl (by omega) ?_
        refine px_aload_n d_X2_gatherByDay_56 rfl rfl ?_
        refine px_alen d_X2_gatherByDay_57 (sa22 hL) (by decide) (by decide) ?_
        refine px_icmp_ge (tgt := 80) d_X2_gatherByDay_58 (by decide) (fun c58 => absurd c58 (by rw [show hI (rI h 22 (fun j => if j < 720 then gat (hI h 3) (hI h 4) (hI h 5) (hI h 6) a kn (i) j else hI h 22 j)) 4 i = hI h 4 i from rfl, ej]; exact nI_ge hj (by decide))) (fun c58 => ?_)
        refine px_aload_n d_X2_gatherByDay_61 rfl rfl ?_
        refine px_aload_n d_X2_gatherByDay_62 rfl rfl ?_
        refine px_getR d_X2_gatherByDay_63 fl_X2_15 (by decide) (so2 hL) (sr2_1 hL) ?_
        refine px_iload d_X2_gatherByDay_66 rfl ?_
        refine px_iald d_X2_gatherByDay_68 (sa4 hL) rfl (by omega) ?_
        refine px_dup2 d_X2_gatherByDay_69 rfl rfl ?_
        refine px_iald d_X2_gatherByDay_70 (sa22 hL) ej hj ?_
        refine px_aload_n d_X2_gatherByDay_71 rfl rfl ?_
        refine px_getR d_X2_gatherByDay_72 fl_X2_18 (by decide) (so2 hL) (sr2_2 hL) ?_
        refine px_iload d_X2_gatherByDay_75 rfl ?_
        refine px_iald d_X2_gatherByDay_77 (sa5 hL) rfl (by omega) ?_
        refine px_iadd d_X2_gatherByDay_78 ?_
        refine px_iast d_X2_gatherByDay_79 (sa22 hL) ej hj ?_
        refine px_inc1 d_X2_gatherByDay_80 rfl (by decide) ?_
        refine px_goto (tgt := 8) d_X2_gatherByDay_83 (by decide) ?_
        refine px_heap (h2 := (rI h 22 (fun j => if j < 720 then gat (hI h 3) (hI h 4) (hI h 5) (hI h 6) a kn (i + 1) j else hI h 22 j))) (by first | (rw [pI_rI]; exact congrArg (rI h 22) (funext fun x => gat_pt ⟨c25, c36⟩ ec hj x)) | exact congrArg (rI h 22) (funext fun x => gat_pn (fun w => c25 w.1) x) | exact congrArg (rI h 22) (funext fun x => gat_pn (fun w => w.2 c36) x)) ?_
        refine px_drop (lv' := [(0, .ref 2), (1, .int a), (2, .int kn), (3, .ref 22), (4, .int (nI (i + 1)))]) ⟨rfl, rfl, rfl, rfl, px_si (nI_s1 _), trivial⟩ ?_
        exact ih (i + 1) (by omega)
theorem c_X2_gatherByDay {h : PH} (hL : px_L h) {n : Nat} (hs1 : hI h 2 4 = nI n) (hn4 : n ≤ 400) (hd : ∀ i, i < n → ∃ j, j < 720 ∧ hI h 4 i = nI j) {a kn : Int32} : PM M_X2_gatherByDay [.ref 2, .int a, .int kn, .ref 22] h none (rI h 22 (fun j => if j < 720 then gat (hI h 3) (hI h 4) (hI h 5) (hI h 6) a kn (n) j else hI h 22 j)) := by
  refine PM.of (by decide +kernel) (by decide +kernel) (Nat.le_refl _) (Nat.le_refl _) (Nat.le_of_ble_eq_true rfl) ?_
  refine px_aload_n d_X2_gatherByDay_0 rfl rfl ?_
  refine px_iconst (v := 0) d_X2_gatherByDay_1 (by decide) ?_
  refine px_callS (c_J7_fill_53178 (sa22 hL)) d_X2_gatherByDay_2 lk_X2_32 ok_J7_fill_53178 os_J7_fill_53178 rfl (Nat.le_of_ble_eq_true rfl) (by decide) ⟨Nat.le_refl _, Nat.le_refl _⟩ ?_
  refine px_iconst (v := 0) d_X2_gatherByDay_5 (by decide) ?_
  refine px_istore d_X2_gatherByDay_6 (by decide) ?_
  refine px_heap (h2 := (rI h 22 (fun j => if j < 720 then gat (hI h 3) (hI h 4) (hI h 5) (hI h 6) a kn (0) j else hI h 22 j))) rfl ?_
  exact lp_X2_gatherByDay hL hs1 hn4 hd n 0 (by omega)
