/-! ===== rules: one instruction each ===== -/
/-- the locals: read, and written in the order of their places -/
def px_get : List (Nat × Value) → Nat → Option Value
  | [], _ => none
  | q :: t, i => bif Nat.beq q.1 i then some q.2 else px_get t i
def px_keep (i : Nat) (c2 : Bool) (q : Nat × Value) : Bool := !(Nat.beq q.1 i) && (!(Nat.beq (q.1 + 1) i && Nat.beq q.2.category 2) && !(c2 && Nat.beq q.1 (i + 1)))
def px_ins : List (Nat × Value) → Nat × Value → List (Nat × Value)
  | [], q => [q]
  | a :: t, q => bif Nat.ble q.1 a.1 then q :: a :: t else a :: px_ins t q
def px_set (lv : List (Nat × Value)) (i : Nat) (v : Value) : List (Nat × Value) := px_ins (lv.filter (px_keep i (Nat.beq v.category 2))) (i, v)
def px_sub : List (Nat × Value) → List (Nat × Value) → Prop
  | [], _ => True
  | q :: t, lv => px_get lv q.1 = some q.2 ∧ px_sub t lv
theorem px_get_mem : ∀ {lv : List (Nat × Value)} {i : Nat} {v : Value}, px_get lv i = some v → (i, v) ∈ lv
  | [], _, _, h => by cases h
  | q :: t, i, v, h => by
    unfold px_get at h
    cases hq : Nat.beq q.1 i with
    | true =>
      rw [hq] at h
      have h1 : q.2 = v := Option.some.inj h
      have h2 : q.1 = i := Nat.eq_of_beq_eq_true hq
      rw [← h1, ← h2]
      exact List.mem_cons_self
    | false =>
      rw [hq] at h
      exact List.mem_cons_of_mem _ (px_get_mem h)
theorem px_ins_mem : ∀ {lv : List (Nat × Value)} {a q : Nat × Value}, q ∈ px_ins lv a → q = a ∨ q ∈ lv
  | [], a, q, h => Or.inl (List.mem_singleton.mp h)
  | x :: t, a, q, h => by
    unfold px_ins at h
    cases hq : Nat.ble a.1 x.1 with
    | true =>
      rw [hq] at h
      exact (List.mem_cons.mp h)
    | false =>
      rw [hq] at h
      rcases List.mem_cons.mp h with h | h
      · exact Or.inr (by rw [h]; exact List.mem_cons_self)
      · rcases px_ins_mem h with h | h
        · exact Or.inl h
        · exact Or.inr (List.mem_cons_of_mem _ h)
theorem px_sub_mem : ∀ {l lv : List (Nat × Value)}, px_sub l lv → ∀ q ∈ l, q ∈ lv
  | [], _, _, q, h => by cases h
  | a :: t, lv, h, q, hq => by
    rcases List.mem_cons.mp hq with e | e
    · rw [e]; exact px_get_mem h.1
    · exact px_sub_mem h.2 q e
theorem px_lget {b : Nat} {G : px_G} {lv : List (Nat × Value)} {ls : Array Slot} {nL i : Nat} {v : Value} (hl : lv_has ls nL (px_lv b G lv)) (h : px_get lv i = some v) : ls[i]? = some (.val (rl b G v)) :=
  hl.2.2 (i, rl b G v) (List.mem_map.mpr ⟨(i, v), px_get_mem h, rfl⟩)
theorem px_lput {b : Nat} {G : px_G} {lv : List (Nat × Value)} {ls : Array Slot} {nL i : Nat} {v : Value} {f : Nat × Value → Bool} (hf : ∀ q, px_keep i (Nat.beq v.category 2) q = true → f (q.1, rl b G q.2) = true) (hl : lv_has ls nL ((i, rl b G v) :: (px_lv b G lv).filter f)) : lv_has ls nL (px_lv b G (px_set lv i v)) := by
  refine ⟨hl.1, hl.2.1, fun q hq => hl.2.2 q ?_⟩
  obtain ⟨z, hz, rfl⟩ := List.mem_map.mp hq
  rcases px_ins_mem hz with h | h
  · rw [h]; exact List.mem_cons_self
  · obtain ⟨h1, h2⟩ := List.mem_filter.mp h
    exact List.mem_cons_of_mem _ (List.mem_filter.mpr ⟨List.mem_map.mpr ⟨z, h1, rfl⟩, hf z h2⟩)
theorem px_bq (a b : Nat) : (a == b) = Nat.beq a b := by rw [Bool.eq_iff_iff, beq_iff_eq, Nat.beq_eq]
theorem px_keep1 {b : Nat} {G : px_G} {i : Nat} {c2 : Bool} (q : Nat × Value) (h : px_keep i c2 q = true) : (fun q : Nat × Value => !(q.1 == i) && !(q.1 + 1 == i && q.2.category == 2)) (q.1, rl b G q.2) = true := by
  have e : (rl b G q.2).category = q.2.category := rl_cat b G q.2
  simp only [px_keep, Bool.and_eq_true] at h
  obtain ⟨h1, h2, -⟩ := h
  have h3 : (!(q.1 + 1 == i && (rl b G q.2).category == 2)) = true := by rw [e, px_bq, px_bq]; exact h2
  show (!(q.1 == i) && !(q.1 + 1 == i && (rl b G q.2).category == 2)) = true
  rw [h3, Bool.and_true, px_bq]
  exact h1
theorem px_keep2 {b : Nat} {G : px_G} {i : Nat} (q : Nat × Value) (h : px_keep i true q = true) : (fun q : Nat × Value => !(q.1 == i) && (!(q.1 == i + 1) && !(q.1 + 1 == i && q.2.category == 2))) (q.1, rl b G q.2) = true := by
  have e : (rl b G q.2).category = q.2.category := rl_cat b G q.2
  simp only [px_keep, Bool.and_eq_true] at h
  obtain ⟨h1, h2, h4⟩ := h
  have h3 : (!(q.1 + 1 == i && (rl b G q.2).category == 2)) = true := by rw [e, px_bq, px_bq]; exact h2
  have h5 : (!(q.1 == i + 1)) = true := by rw [Bool.true_and] at h4; rw [px_bq]; exact h4
  show (!(q.1 == i) && (!(q.1 == i + 1) && !(q.1 + 1 == i && (rl b G q.2).category == 2))) = true
  rw [h3, h5, Bool.and_true, Bool.and_true, px_bq]
  exact h1
section PXR
variable {M : px_M} {N1 S1 : Nat} {Post : Nat → Option Value → PH → Prop} {pc : Nat} {lv : List (Nat × Value)} {st : List Value} {h : PH}
/-- fewer locals -/
theorem px_drop {lv' : List (Nat × Value)} (hs : px_sub lv' lv) (k : PW M N1 S1 Post pc lv' st h) : PW M N1 S1 Post pc lv st h :=
  fun b G p l e R s m args below meth c n0 s0 Q C H locs ls V => k b G p l e R s m args below meth c n0 s0 Q C H locs ls ⟨V.1, V.2.1, V.2.2.1, V.2.2.2.1, V.2.2.2.2.1, V.2.2.2.2.2.1, fun q hq => by
    obtain ⟨z, hz, rfl⟩ := List.mem_map.mp hq
    exact V.2.2.2.2.2.2 _ (List.mem_map.mpr ⟨z, px_sub_mem hs z hz, rfl⟩)⟩
theorem px_eq {pc' : Nat} {lv' : List (Nat × Value)} {st' : List Value} {h' : PH} (e1 : pc = pc') (e2 : lv = lv') (e3 : st = st') (e4 : h = h') (k : PW M N1 S1 Post pc' lv' st' h') : PW M N1 S1 Post pc lv st h := by subst e1 e2 e3 e4; exact k
theorem px_mono {Post' : Nat → Option Value → PH → Prop} (hp : ∀ k r h, Post' k r h → Post k r h) (k : PW M N1 S1 Post' pc lv st h) : PW M N1 S1 Post pc lv st h :=
  fun b G p l e R s m args below meth c n0 s0 Q C => k b G p l e R s m args below meth c n0 s0 Q ⟨C.1, C.2.1, ⟨C.2.2.1.1, C.2.2.1.2.1, fun hx hx2 => C.2.2.1.2.2 hx (hp _ _ _ hx2)⟩, C.2.2.2.1, C.2.2.2.2.1, C.2.2.2.2.2.1, fun k' r pc st h H locs ls ho hP => C.2.2.2.2.2.2 k' r pc st h H locs ls ho (hp _ _ _ hP)⟩
theorem px_iconst {n : Int} {v : Int32} (d : decode (px_cc M) pc = .ok (.iconst n, 1)) (hv : Int32.ofInt n = v) (k : PW M N1 S1 Post (pc + 1) lv (.int v :: st) h) : PW M N1 S1 Post pc lv (st) h :=
  fun b G p l e R s m args below meth c n0 s0 Q C H locs ls V => lv_iconst C.1.1 C.1.2.1 d hv (k b G p l e R s m args below meth c n0 s0 Q C H locs ls V)
theorem px_bipush {n : Int} {v : Int32} (d : decode (px_cc M) pc = .ok (.bipush n, 2)) (hv : (Int8.ofInt n).toInt32 = v) (k : PW M N1 S1 Post (pc + 2) lv (.int v :: st) h) : PW M N1 S1 Post pc lv (st) h :=
  fun b G p l e R s m args below meth c n0 s0 Q C H locs ls V => lv_bipush C.1.1 C.1.2.1 d hv (k b G p l e R s m args below meth c n0 s0 Q C H locs ls V)
theorem px_sipush {n : Int} {v : Int32} (d : decode (px_cc M) pc = .ok (.sipush n, 3)) (hv : (Int16.ofInt n).toInt32 = v) (k : PW M N1 S1 Post (pc + 3) lv (.int v :: st) h) : PW M N1 S1 Post pc lv (st) h :=
  fun b G p l e R s m args below meth c n0 s0 Q C H locs ls V => lv_sipush C.1.1 C.1.2.1 d hv (k b G p l e R s m args below meth c n0 s0 Q C H locs ls V)
theorem px_lconst {n : Fin 2} {v : Int64} (d : decode (px_cc M) pc = .ok (.lconst n, 1)) (hv : Int64.ofNat (n : Nat) = v) (k : PW M N1 S1 Post (pc + 1) lv (.long v :: st) h) : PW M N1 S1 Post pc lv (st) h :=
  fun b G p l e R s m args below meth c n0 s0 Q C H locs ls V => lv_lconst C.1.1 C.1.2.1 d hv (k b G p l e R s m args below meth c n0 s0 Q C H locs ls V)
theorem px_null  (d : decode (px_cc M) pc = .ok (.aconst_null, 1))  (k : PW M N1 S1 Post (pc + 1) lv (.null :: st) h) : PW M N1 S1 Post pc lv (st) h :=
  fun b G p l e R s m args below meth c n0 s0 Q C H locs ls V => lv_null C.1.1 C.1.2.1 d (k b G p l e R s m args below meth c n0 s0 Q C H locs ls V)
theorem px_ldc {ix : Nat} {v : Int32} (d : decode (px_cc M) pc = .ok (.ldc ix, 2)) (hc : Cond.constant (px_own M) ix v ∈ px_TB) (k : PW M N1 S1 Post (pc + 2) lv (.int v :: st) h) : PW M N1 S1 Post pc lv (st) h :=
  fun b G p l e R s m args below meth c n0 s0 Q C H locs ls V => lv_ldc C.1.1 C.1.2.1 C.1.2.2.2.1 (C.1.2.2.2.2 _ hc) d (k b G p l e R s m args below meth c n0 s0 Q C H locs ls V)
theorem px_ldcw {ix : Nat} {v : Int32} (d : decode (px_cc M) pc = .ok (.ldc_w ix, 3)) (hc : Cond.constant (px_own M) ix v ∈ px_TB) (k : PW M N1 S1 Post (pc + 3) lv (.int v :: st) h) : PW M N1 S1 Post pc lv (st) h :=
  fun b G p l e R s m args below meth c n0 s0 Q C H locs ls V => lv_ldcw C.1.1 C.1.2.1 C.1.2.2.2.1 (C.1.2.2.2.2 _ hc) d (k b G p l e R s m args below meth c n0 s0 Q C H locs ls V)
theorem px_ldc2 {ix : Nat} {v : Int64} (d : decode (px_cc M) pc = .ok (.ldc2_w ix, 3)) (hc : Cond.constantLong (px_own M) ix v ∈ px_TB) (k : PW M N1 S1 Post (pc + 3) lv (.long v :: st) h) : PW M N1 S1 Post pc lv (st) h :=
  fun b G p l e R s m args below meth c n0 s0 Q C H locs ls V => lv_ldc2 C.1.1 C.1.2.1 C.1.2.2.2.1 (C.1.2.2.2.2 _ hc) d (k b G p l e R s m args below meth c n0 s0 Q C H locs ls V)
theorem px_iload_n {j : Fin 4} {i : Nat} {x : Int32} (d : decode (px_cc M) pc = .ok (.iload_n j, 1)) (hj : (j : Nat) = i) (hg : px_get lv i = some (.int x)) (k : PW M N1 S1 Post (pc + 1) lv (.int x :: st) h) : PW M N1 S1 Post pc lv (st) h :=
  fun b G p l e R s m args below meth c n0 s0 Q C H locs ls V => lv_iload_n C.1.1 C.1.2.1 d hj (px_lget V.2.2.2.2 hg) (k b G p l e R s m args below meth c n0 s0 Q C H locs ls V)
theorem px_iload {i : Nat} {x : Int32} (d : decode (px_cc M) pc = .ok (.iload i, 2)) (hg : px_get lv i = some (.int x)) (k : PW M N1 S1 Post (pc + 2) lv (.int x :: st) h) : PW M N1 S1 Post pc lv (st) h :=
  fun b G p l e R s m args below meth c n0 s0 Q C H locs ls V => lv_iload C.1.1 C.1.2.1 d (px_lget V.2.2.2.2 hg) (k b G p l e R s m args below meth c n0 s0 Q C H locs ls V)
theorem px_lload_n {j : Fin 4} {i : Nat} {x : Int64} (d : decode (px_cc M) pc = .ok (.lload_n j, 1)) (hj : (j : Nat) = i) (hg : px_get lv i = some (.long x)) (k : PW M N1 S1 Post (pc + 1) lv (.long x :: st) h) : PW M N1 S1 Post pc lv (st) h :=
  fun b G p l e R s m args below meth c n0 s0 Q C H locs ls V => lv_lload_n C.1.1 C.1.2.1 d hj (px_lget V.2.2.2.2 hg) (k b G p l e R s m args below meth c n0 s0 Q C H locs ls V)
theorem px_lload {i : Nat} {x : Int64} (d : decode (px_cc M) pc = .ok (.lload i, 2)) (hg : px_get lv i = some (.long x)) (k : PW M N1 S1 Post (pc + 2) lv (.long x :: st) h) : PW M N1 S1 Post pc lv (st) h :=
  fun b G p l e R s m args below meth c n0 s0 Q C H locs ls V => lv_lload C.1.1 C.1.2.1 d (px_lget V.2.2.2.2 hg) (k b G p l e R s m args below meth c n0 s0 Q C H locs ls V)
theorem px_aload_n {j : Fin 4} {i x : Nat} (d : decode (px_cc M) pc = .ok (.aload_n j, 1)) (hj : (j : Nat) = i) (hg : px_get lv i = some (.ref x)) (k : PW M N1 S1 Post (pc + 1) lv (.ref x :: st) h) : PW M N1 S1 Post pc lv (st) h :=
  fun b G p l e R s m args below meth c n0 s0 Q C H locs ls V => lv_aload_n C.1.1 C.1.2.1 d hj (px_lget V.2.2.2.2 hg) (k b G p l e R s m args below meth c n0 s0 Q C H locs ls V)
theorem px_aload {i x : Nat} (d : decode (px_cc M) pc = .ok (.aload i, 2)) (hg : px_get lv i = some (.ref x)) (k : PW M N1 S1 Post (pc + 2) lv (.ref x :: st) h) : PW M N1 S1 Post pc lv (st) h :=
  fun b G p l e R s m args below meth c n0 s0 Q C H locs ls V => lv_aload C.1.1 C.1.2.1 d (px_lget V.2.2.2.2 hg) (k b G p l e R s m args below meth c n0 s0 Q C H locs ls V)
theorem px_aload_nN {j : Fin 4} {i : Nat} (d : decode (px_cc M) pc = .ok (.aload_n j, 1)) (hj : (j : Nat) = i) (hg : px_get lv i = some .null) (k : PW M N1 S1 Post (pc + 1) lv (.null :: st) h) : PW M N1 S1 Post pc lv (st) h :=
  fun b G p l e R s m args below meth c n0 s0 Q C H locs ls V => lv_aload_nN C.1.1 C.1.2.1 d hj (px_lget V.2.2.2.2 hg) (k b G p l e R s m args below meth c n0 s0 Q C H locs ls V)
theorem px_aloadN {i : Nat} (d : decode (px_cc M) pc = .ok (.aload i, 2)) (hg : px_get lv i = some .null) (k : PW M N1 S1 Post (pc + 2) lv (.null :: st) h) : PW M N1 S1 Post pc lv (st) h :=
  fun b G p l e R s m args below meth c n0 s0 Q C H locs ls V => lv_aloadN C.1.1 C.1.2.1 d (px_lget V.2.2.2.2 hg) (k b G p l e R s m args below meth c n0 s0 Q C H locs ls V)
theorem px_aload_nX {j : Fin 4} {i x : Nat} (d : decode (px_cc M) pc = .ok (.aload_n j, 1)) (hj : (j : Nat) = i) (hg : px_get lv i = some (.retAddr x)) (k : PW M N1 S1 Post (pc + 1) lv (.retAddr x :: st) h) : PW M N1 S1 Post pc lv (st) h :=
  fun b G p l e R s m args below meth c n0 s0 Q C H locs ls V => lv_aload_n C.1.1 C.1.2.1 d hj (px_lget V.2.2.2.2 hg) (k b G p l e R s m args below meth c n0 s0 Q C H locs ls V)
theorem px_aloadX {i x : Nat} (d : decode (px_cc M) pc = .ok (.aload i, 2)) (hg : px_get lv i = some (.retAddr x)) (k : PW M N1 S1 Post (pc + 2) lv (.retAddr x :: st) h) : PW M N1 S1 Post pc lv (st) h :=
  fun b G p l e R s m args below meth c n0 s0 Q C H locs ls V => lv_aload C.1.1 C.1.2.1 d (px_lget V.2.2.2.2 hg) (k b G p l e R s m args below meth c n0 s0 Q C H locs ls V)
theorem px_istore_n {j : Fin 4} {i : Nat} {x : Int32} (d : decode (px_cc M) pc = .ok (.istore_n j, 1)) (hj : (j : Nat) = i) (hn : i < px_nL M) (k : PW M N1 S1 Post (pc + 1) (px_set lv i (.int x)) st h) : PW M N1 S1 Post pc lv (.int x :: st) h :=
  fun b G p l e R s m args below meth c n0 s0 Q C H locs ls V => lv_istore_n C.1.1 C.1.2.1 d hj V.2.2.2.2 hn rfl (fun ls9 hl9 => (k b G p l e R s m args below meth c n0 s0 Q C H locs ls9 ⟨V.1, V.2.1, V.2.2.1, V.2.2.2.1, px_lput px_keep1 hl9⟩))
theorem px_istore {i : Nat} {x : Int32} (d : decode (px_cc M) pc = .ok (.istore i, 2)) (hn : i < px_nL M) (k : PW M N1 S1 Post (pc + 2) (px_set lv i (.int x)) st h) : PW M N1 S1 Post pc lv (.int x :: st) h :=
  fun b G p l e R s m args below meth c n0 s0 Q C H locs ls V => lv_istore C.1.1 C.1.2.1 d V.2.2.2.2 hn rfl (fun ls9 hl9 => (k b G p l e R s m args below meth c n0 s0 Q C H locs ls9 ⟨V.1, V.2.1, V.2.2.1, V.2.2.2.1, px_lput px_keep1 hl9⟩))
theorem px_astore_n {j : Fin 4} {i : Nat} {x : Nat} (d : decode (px_cc M) pc = .ok (.astore_n j, 1)) (hj : (j : Nat) = i) (hn : i < px_nL M) (k : PW M N1 S1 Post (pc + 1) (px_set lv i (.ref x)) st h) : PW M N1 S1 Post pc lv (.ref x :: st) h :=
  fun b G p l e R s m args below meth c n0 s0 Q C H locs ls V => lv_astore_n C.1.1 C.1.2.1 d hj V.2.2.2.2 hn rfl (fun ls9 hl9 => (k b G p l e R s m args below meth c n0 s0 Q C H locs ls9 ⟨V.1, V.2.1, V.2.2.1, V.2.2.2.1, px_lput px_keep1 hl9⟩))
theorem px_astore {i : Nat} {x : Nat} (d : decode (px_cc M) pc = .ok (.astore i, 2)) (hn : i < px_nL M) (k : PW M N1 S1 Post (pc + 2) (px_set lv i (.ref x)) st h) : PW M N1 S1 Post pc lv (.ref x :: st) h :=
  fun b G p l e R s m args below meth c n0 s0 Q C H locs ls V => lv_astore C.1.1 C.1.2.1 d V.2.2.2.2 hn rfl (fun ls9 hl9 => (k b G p l e R s m args below meth c n0 s0 Q C H locs ls9 ⟨V.1, V.2.1, V.2.2.1, V.2.2.2.1, px_lput px_keep1 hl9⟩))
theorem px_astore_nN {j : Fin 4} {i : Nat}  (d : decode (px_cc M) pc = .ok (.astore_n j, 1)) (hj : (j : Nat) = i) (hn : i < px_nL M) (k : PW M N1 S1 Post (pc + 1) (px_set lv i (.null)) st h) : PW M N1 S1 Post pc lv (.null :: st) h :=
  fun b G p l e R s m args below meth c n0 s0 Q C H locs ls V => lv_astore_nN C.1.1 C.1.2.1 d hj V.2.2.2.2 hn rfl (fun ls9 hl9 => (k b G p l e R s m args below meth c n0 s0 Q C H locs ls9 ⟨V.1, V.2.1, V.2.2.1, V.2.2.2.1, px_lput px_keep1 hl9⟩))
theorem px_astoreN {i : Nat}  (d : decode (px_cc M) pc = .ok (.astore i, 2)) (hn : i < px_nL M) (k : PW M N1 S1 Post (pc + 2) (px_set lv i (.null)) st h) : PW M N1 S1 Post pc lv (.null :: st) h :=
  fun b G p l e R s m args below meth c n0 s0 Q C H locs ls V => lv_astoreN C.1.1 C.1.2.1 d V.2.2.2.2 hn rfl (fun ls9 hl9 => (k b G p l e R s m args below meth c n0 s0 Q C H locs ls9 ⟨V.1, V.2.1, V.2.2.1, V.2.2.2.1, px_lput px_keep1 hl9⟩))
theorem px_lstore_n {j : Fin 4} {i : Nat} {x : Int64} (d : decode (px_cc M) pc = .ok (.lstore_n j, 1)) (hj : (j : Nat) = i) (hn : i + 1 < px_nL M) (k : PW M N1 S1 Post (pc + 1) (px_set lv i (.long x)) st h) : PW M N1 S1 Post pc lv (.long x :: st) h :=
  fun b G p l e R s m args below meth c n0 s0 Q C H locs ls V => lv_lstore_n C.1.1 C.1.2.1 d hj V.2.2.2.2 hn rfl (fun ls9 hl9 => (k b G p l e R s m args below meth c n0 s0 Q C H locs ls9 ⟨V.1, V.2.1, V.2.2.1, V.2.2.2.1, px_lput px_keep2 hl9⟩))
theorem px_lstore {i : Nat} {x : Int64} (d : decode (px_cc M) pc = .ok (.lstore i, 2)) (hn : i + 1 < px_nL M) (k : PW M N1 S1 Post (pc + 2) (px_set lv i (.long x)) st h) : PW M N1 S1 Post pc lv (.long x :: st) h :=
  fun b G p l e R s m args below meth c n0 s0 Q C H locs ls V => lv_lstore C.1.1 C.1.2.1 d V.2.2.2.2 hn rfl (fun ls9 hl9 => (k b G p l e R s m args below meth c n0 s0 Q C H locs ls9 ⟨V.1, V.2.1, V.2.2.1, V.2.2.2.1, px_lput px_keep2 hl9⟩))
theorem px_iinc {i : Nat} {n : Int} {x v : Int32} (d : decode (px_cc M) pc = .ok (.iinc i n, 3)) (hg : px_get lv i = some (.int x)) (hv : x + Int32.ofInt n = v) (hn : i < px_nL M) (k : PW M N1 S1 Post (pc + 3) (px_set lv i (.int v)) st h) : PW M N1 S1 Post pc lv st h := by
  intro b G p l e R s m args below meth c n0 s0 Q C H locs ls V
  have hm : (i, Value.int x) ∈ px_lv b G lv := List.mem_map.mpr ⟨(i, .int x), px_get_mem hg, rfl⟩
  obtain ⟨kk, hkk⟩ := List.getElem?_of_mem hm
  exact lv_iinc (k := kk) C.1.1 C.1.2.1 d V.2.2.2.2 hkk hv hn rfl (fun ls9 hl9 => k b G p l e R s m args below meth c n0 s0 Q C H locs ls9 ⟨V.1, V.2.1, V.2.2.1, V.2.2.2.1, px_lput (v := .int v) px_keep1 hl9⟩)
theorem px_iadd {x y : Int32} (d : decode (px_cc M) pc = .ok (.iadd, 1))  (k : PW M N1 S1 Post (pc + 1) lv (.int (x + y) :: st) h) : PW M N1 S1 Post pc lv (.int y :: .int x :: st) h :=
  fun b G p l e R s m args below meth c n0 s0 Q C H locs ls V => lv_iadd C.1.1 C.1.2.1 d (k b G p l e R s m args below meth c n0 s0 Q C H locs ls V)
theorem px_isub {x y : Int32} (d : decode (px_cc M) pc = .ok (.isub, 1))  (k : PW M N1 S1 Post (pc + 1) lv (.int (x - y) :: st) h) : PW M N1 S1 Post pc lv (.int y :: .int x :: st) h :=
  fun b G p l e R s m args below meth c n0 s0 Q C H locs ls V => lv_isub C.1.1 C.1.2.1 d (k b G p l e R s m args below meth c n0 s0 Q C H locs ls V)
theorem px_imul {x y : Int32} (d : decode (px_cc M) pc = .ok (.imul, 1))  (k : PW M N1 S1 Post (pc + 1) lv (.int (x * y) :: st) h) : PW M N1 S1 Post pc lv (.int y :: .int x :: st) h :=
  fun b G p l e R s m args below meth c n0 s0 Q C H locs ls V => lv_imul C.1.1 C.1.2.1 d (k b G p l e R s m args below meth c n0 s0 Q C H locs ls V)
theorem px_iand {x y : Int32} (d : decode (px_cc M) pc = .ok (.iand, 1))  (k : PW M N1 S1 Post (pc + 1) lv (.int (x &&& y) :: st) h) : PW M N1 S1 Post pc lv (.int y :: .int x :: st) h :=
  fun b G p l e R s m args below meth c n0 s0 Q C H locs ls V => lv_iand C.1.1 C.1.2.1 d (k b G p l e R s m args below meth c n0 s0 Q C H locs ls V)
theorem px_ior {x y : Int32} (d : decode (px_cc M) pc = .ok (.ior, 1))  (k : PW M N1 S1 Post (pc + 1) lv (.int (x ||| y) :: st) h) : PW M N1 S1 Post pc lv (.int y :: .int x :: st) h :=
  fun b G p l e R s m args below meth c n0 s0 Q C H locs ls V => lv_ior C.1.1 C.1.2.1 d (k b G p l e R s m args below meth c n0 s0 Q C H locs ls V)
theorem px_ixor {x y : Int32} (d : decode (px_cc M) pc = .ok (.ixor, 1))  (k : PW M N1 S1 Post (pc + 1) lv (.int (x ^^^ y) :: st) h) : PW M N1 S1 Post pc lv (.int y :: .int x :: st) h :=
  fun b G p l e R s m args below meth c n0 s0 Q C H locs ls V => lv_ixor C.1.1 C.1.2.1 d (k b G p l e R s m args below meth c n0 s0 Q C H locs ls V)
theorem px_ishl {x y : Int32} (d : decode (px_cc M) pc = .ok (.ishl, 1))  (k : PW M N1 S1 Post (pc + 1) lv (.int (x <<< (y &&& 31)) :: st) h) : PW M N1 S1 Post pc lv (.int y :: .int x :: st) h :=
  fun b G p l e R s m args below meth c n0 s0 Q C H locs ls V => lv_ishl C.1.1 C.1.2.1 d (k b G p l e R s m args below meth c n0 s0 Q C H locs ls V)
theorem px_ishr {x y : Int32} (d : decode (px_cc M) pc = .ok (.ishr, 1))  (k : PW M N1 S1 Post (pc + 1) lv (.int (x >>> (y &&& 31)) :: st) h) : PW M N1 S1 Post pc lv (.int y :: .int x :: st) h :=
  fun b G p l e R s m args below meth c n0 s0 Q C H locs ls V => lv_ishr C.1.1 C.1.2.1 d (k b G p l e R s m args below meth c n0 s0 Q C H locs ls V)
theorem px_idiv {x y : Int32} (d : decode (px_cc M) pc = .ok (.idiv, 1)) (hne : ¬ y = 0) (k : PW M N1 S1 Post (pc + 1) lv (.int (x / y) :: st) h) : PW M N1 S1 Post pc lv (.int y :: .int x :: st) h :=
  fun b G p l e R s m args below meth c n0 s0 Q C H locs ls V => lv_idiv C.1.1 C.1.2.1 d hne (k b G p l e R s m args below meth c n0 s0 Q C H locs ls V)
theorem px_irem {x y : Int32} (d : decode (px_cc M) pc = .ok (.irem, 1)) (hne : ¬ y = 0) (k : PW M N1 S1 Post (pc + 1) lv (.int (x - x / y * y) :: st) h) : PW M N1 S1 Post pc lv (.int y :: .int x :: st) h :=
  fun b G p l e R s m args below meth c n0 s0 Q C H locs ls V => lv_irem C.1.1 C.1.2.1 d hne (k b G p l e R s m args below meth c n0 s0 Q C H locs ls V)
theorem px_ineg {x : Int32} (d : decode (px_cc M) pc = .ok (.ineg, 1))  (k : PW M N1 S1 Post (pc + 1) lv (.int (-x) :: st) h) : PW M N1 S1 Post pc lv (.int x :: st) h :=
  fun b G p l e R s m args below meth c n0 s0 Q C H locs ls V => lv_ineg C.1.1 C.1.2.1 d (k b G p l e R s m args below meth c n0 s0 Q C H locs ls V)
theorem px_ladd {x y : Int64} (d : decode (px_cc M) pc = .ok (.ladd, 1))  (k : PW M N1 S1 Post (pc + 1) lv (.long (x + y) :: st) h) : PW M N1 S1 Post pc lv (.long y :: .long x :: st) h :=
  fun b G p l e R s m args below meth c n0 s0 Q C H locs ls V => lv_ladd C.1.1 C.1.2.1 d (k b G p l e R s m args below meth c n0 s0 Q C H locs ls V)
theorem px_lsub {x y : Int64} (d : decode (px_cc M) pc = .ok (.lsub, 1))  (k : PW M N1 S1 Post (pc + 1) lv (.long (x - y) :: st) h) : PW M N1 S1 Post pc lv (.long y :: .long x :: st) h :=
  fun b G p l e R s m args below meth c n0 s0 Q C H locs ls V => lv_lsub C.1.1 C.1.2.1 d (k b G p l e R s m args below meth c n0 s0 Q C H locs ls V)
theorem px_lmul {x y : Int64} (d : decode (px_cc M) pc = .ok (.lmul, 1))  (k : PW M N1 S1 Post (pc + 1) lv (.long (x * y) :: st) h) : PW M N1 S1 Post pc lv (.long y :: .long x :: st) h :=
  fun b G p l e R s m args below meth c n0 s0 Q C H locs ls V => lv_lmul C.1.1 C.1.2.1 d (k b G p l e R s m args below meth c n0 s0 Q C H locs ls V)
theorem px_land {x y : Int64} (d : decode (px_cc M) pc = .ok (.land, 1))  (k : PW M N1 S1 Post (pc + 1) lv (.long (x &&& y) :: st) h) : PW M N1 S1 Post pc lv (.long y :: .long x :: st) h :=
  fun b G p l e R s m args below meth c n0 s0 Q C H locs ls V => lv_land C.1.1 C.1.2.1 d (k b G p l e R s m args below meth c n0 s0 Q C H locs ls V)
theorem px_lor {x y : Int64} (d : decode (px_cc M) pc = .ok (.lor, 1))  (k : PW M N1 S1 Post (pc + 1) lv (.long (x ||| y) :: st) h) : PW M N1 S1 Post pc lv (.long y :: .long x :: st) h :=
  fun b G p l e R s m args below meth c n0 s0 Q C H locs ls V => lv_lor C.1.1 C.1.2.1 d (k b G p l e R s m args below meth c n0 s0 Q C H locs ls V)
theorem px_lxor {x y : Int64} (d : decode (px_cc M) pc = .ok (.lxor, 1))  (k : PW M N1 S1 Post (pc + 1) lv (.long (x ^^^ y) :: st) h) : PW M N1 S1 Post pc lv (.long y :: .long x :: st) h :=
  fun b G p l e R s m args below meth c n0 s0 Q C H locs ls V => lv_lxor C.1.1 C.1.2.1 d (k b G p l e R s m args below meth c n0 s0 Q C H locs ls V)
theorem px_iushr {x y : Int32} (d : decode (px_cc M) pc = .ok (.iushr, 1))  (k : PW M N1 S1 Post (pc + 1) lv (.int (x.toUInt32 >>> (y.toUInt32 &&& Int32.toUInt32 31)).toInt32 :: st) h) : PW M N1 S1 Post pc lv (.int y :: .int x :: st) h :=
  fun b G p l e R s m args below meth c n0 s0 Q C H locs ls V => lv_iushr C.1.1 C.1.2.1 d rfl (k b G p l e R s m args below meth c n0 s0 Q C H locs ls V)
theorem px_lushr {x : Int64} {y : Int32} (d : decode (px_cc M) pc = .ok (.lushr, 1))  (k : PW M N1 S1 Post (pc + 1) lv (.long (x.toUInt64 >>> (y.toInt64.toUInt64 &&& Int64.toUInt64 63)).toInt64 :: st) h) : PW M N1 S1 Post pc lv (.int y :: .long x :: st) h :=
  fun b G p l e R s m args below meth c n0 s0 Q C H locs ls V => lv_lushr C.1.1 C.1.2.1 d rfl (k b G p l e R s m args below meth c n0 s0 Q C H locs ls V)
theorem px_lshl {x : Int64} {y : Int32} (d : decode (px_cc M) pc = .ok (.lshl, 1))  (k : PW M N1 S1 Post (pc + 1) lv (.long (x <<< (y.toInt64 &&& 63)) :: st) h) : PW M N1 S1 Post pc lv (.int y :: .long x :: st) h :=
  fun b G p l e R s m args below meth c n0 s0 Q C H locs ls V => lv_lshl C.1.1 C.1.2.1 d rfl (k b G p l e R s m args below meth c n0 s0 Q C H locs ls V)
theorem px_lshr {x : Int64} {y : Int32} (d : decode (px_cc M) pc = .ok (.lshr, 1))  (k : PW M N1 S1 Post (pc + 1) lv (.long (x >>> (y.toInt64 &&& 63)) :: st) h) : PW M N1 S1 Post pc lv (.int y :: .long x :: st) h :=
  fun b G p l e R s m args below meth c n0 s0 Q C H locs ls V => lv_lshr C.1.1 C.1.2.1 d rfl (k b G p l e R s m args below meth c n0 s0 Q C H locs ls V)
theorem px_i2l {x : Int32} (d : decode (px_cc M) pc = .ok (.i2l, 1))  (k : PW M N1 S1 Post (pc + 1) lv (.long x.toInt64 :: st) h) : PW M N1 S1 Post pc lv (.int x :: st) h :=
  fun b G p l e R s m args below meth c n0 s0 Q C H locs ls V => lv_i2l C.1.1 C.1.2.1 d rfl (k b G p l e R s m args below meth c n0 s0 Q C H locs ls V)
theorem px_l2i {x : Int64} (d : decode (px_cc M) pc = .ok (.l2i, 1))  (k : PW M N1 S1 Post (pc + 1) lv (.int x.toInt32 :: st) h) : PW M N1 S1 Post pc lv (.long x :: st) h :=
  fun b G p l e R s m args below meth c n0 s0 Q C H locs ls V => lv_l2i C.1.1 C.1.2.1 d rfl (k b G p l e R s m args below meth c n0 s0 Q C H locs ls V)
theorem px_i2c {x : Int32} (d : decode (px_cc M) pc = .ok (.i2c, 1))  (k : PW M N1 S1 Post (pc + 1) lv (.int (x.toUInt32 % 65536).toInt32 :: st) h) : PW M N1 S1 Post pc lv (.int x :: st) h :=
  fun b G p l e R s m args below meth c n0 s0 Q C H locs ls V => lv_i2c C.1.1 C.1.2.1 d rfl (k b G p l e R s m args below meth c n0 s0 Q C H locs ls V)
theorem px_lcmp {x y : Int64} (d : decode (px_cc M) pc = .ok (.lcmp, 1))  (k : PW M N1 S1 Post (pc + 1) lv (.int (lg_cmp x y) :: st) h) : PW M N1 S1 Post pc lv (.long y :: .long x :: st) h :=
  fun b G p l e R s m args below meth c n0 s0 Q C H locs ls V => W.lcmp C.1.1 C.1.2.1 d (k b G p l e R s m args below meth c n0 s0 Q C H locs ls V)
theorem px_dup {va : Value} (d : decode (px_cc M) pc = .ok (.dup, 1)) (ha : va.category = 1) (k : PW M N1 S1 Post (pc + 1) lv (va :: va :: st) h) : PW M N1 S1 Post pc lv (va :: st) h :=
  fun b G p l e R s m args below meth c n0 s0 Q C H locs ls V => lv_dup C.1.1 C.1.2.1 d ((rl_cat b G va).trans ha) (k b G p l e R s m args below meth c n0 s0 Q C H locs ls V)
theorem px_pop {va : Value} (d : decode (px_cc M) pc = .ok (.pop, 1)) (ha : va.category = 1) (k : PW M N1 S1 Post (pc + 1) lv (st) h) : PW M N1 S1 Post pc lv (va :: st) h :=
  fun b G p l e R s m args below meth c n0 s0 Q C H locs ls V => lv_pop C.1.1 C.1.2.1 d ((rl_cat b G va).trans ha) (k b G p l e R s m args below meth c n0 s0 Q C H locs ls V)
theorem px_dup2 {va vb : Value} (d : decode (px_cc M) pc = .ok (.dup2, 1)) (ha : va.category = 1) (hb : vb.category = 1) (k : PW M N1 S1 Post (pc + 1) lv (va :: vb :: va :: vb :: st) h) : PW M N1 S1 Post pc lv (va :: vb :: st) h :=
  fun b G p l e R s m args below meth c n0 s0 Q C H locs ls V => lv_dup2_11 C.1.1 C.1.2.1 d ((rl_cat b G va).trans ha) ((rl_cat b G vb).trans hb) (k b G p l e R s m args below meth c n0 s0 Q C H locs ls V)
theorem px_dup_x1 {va vb : Value} (d : decode (px_cc M) pc = .ok (.dup_x1, 1)) (ha : va.category = 1) (hb : vb.category = 1) (k : PW M N1 S1 Post (pc + 1) lv (va :: vb :: va :: st) h) : PW M N1 S1 Post pc lv (va :: vb :: st) h :=
  fun b G p l e R s m args below meth c n0 s0 Q C H locs ls V => lv_dup_x1 C.1.1 C.1.2.1 d ((rl_cat b G va).trans ha) ((rl_cat b G vb).trans hb) (k b G p l e R s m args below meth c n0 s0 Q C H locs ls V)
theorem px_if_eq {x : Int32} {off : Int} {tgt : Nat} (d : decode (px_cc M) pc = .ok (.ifCond .eq off, 3)) (ht : (pc : Int) + off = (tgt : Int)) (kt : x = 0 → PW M N1 S1 Post tgt lv st h) (kf : ¬ x = 0 → PW M N1 S1 Post (pc + 3) lv st h) : PW M N1 S1 Post pc lv (.int x :: st) h :=
  fun b G p l e R s m args below meth c n0 s0 Q C H locs ls V => lv_if_eq C.1.1 C.1.2.1 d ht (fun q => kt q b G p l e R s m args below meth c n0 s0 Q C H locs ls V) (fun q => kf q b G p l e R s m args below meth c n0 s0 Q C H locs ls V)
theorem px_if_ne {x : Int32} {off : Int} {tgt : Nat} (d : decode (px_cc M) pc = .ok (.ifCond .ne off, 3)) (ht : (pc : Int) + off = (tgt : Int)) (kt : ¬ x = 0 → PW M N1 S1 Post tgt lv st h) (kf : x = 0 → PW M N1 S1 Post (pc + 3) lv st h) : PW M N1 S1 Post pc lv (.int x :: st) h :=
  fun b G p l e R s m args below meth c n0 s0 Q C H locs ls V => lv_if_ne C.1.1 C.1.2.1 d ht (fun q => kt q b G p l e R s m args below meth c n0 s0 Q C H locs ls V) (fun q => kf q b G p l e R s m args below meth c n0 s0 Q C H locs ls V)
theorem px_if_lt {x : Int32} {off : Int} {tgt : Nat} (d : decode (px_cc M) pc = .ok (.ifCond .lt off, 3)) (ht : (pc : Int) + off = (tgt : Int)) (kt : x < 0 → PW M N1 S1 Post tgt lv st h) (kf : ¬ x < 0 → PW M N1 S1 Post (pc + 3) lv st h) : PW M N1 S1 Post pc lv (.int x :: st) h :=
  fun b G p l e R s m args below meth c n0 s0 Q C H locs ls V => lv_if_lt C.1.1 C.1.2.1 d ht (fun q => kt q b G p l e R s m args below meth c n0 s0 Q C H locs ls V) (fun q => kf q b G p l e R s m args below meth c n0 s0 Q C H locs ls V)
theorem px_if_ge {x : Int32} {off : Int} {tgt : Nat} (d : decode (px_cc M) pc = .ok (.ifCond .ge off, 3)) (ht : (pc : Int) + off = (tgt : Int)) (kt : 0 ≤ x → PW M N1 S1 Post tgt lv st h) (kf : ¬ 0 ≤ x → PW M N1 S1 Post (pc + 3) lv st h) : PW M N1 S1 Post pc lv (.int x :: st) h :=
  fun b G p l e R s m args below meth c n0 s0 Q C H locs ls V => lv_if_ge C.1.1 C.1.2.1 d ht (fun q => kt q b G p l e R s m args below meth c n0 s0 Q C H locs ls V) (fun q => kf q b G p l e R s m args below meth c n0 s0 Q C H locs ls V)
theorem px_if_gt {x : Int32} {off : Int} {tgt : Nat} (d : decode (px_cc M) pc = .ok (.ifCond .gt off, 3)) (ht : (pc : Int) + off = (tgt : Int)) (kt : 0 < x → PW M N1 S1 Post tgt lv st h) (kf : ¬ 0 < x → PW M N1 S1 Post (pc + 3) lv st h) : PW M N1 S1 Post pc lv (.int x :: st) h :=
  fun b G p l e R s m args below meth c n0 s0 Q C H locs ls V => lv_if_gt C.1.1 C.1.2.1 d ht (fun q => kt q b G p l e R s m args below meth c n0 s0 Q C H locs ls V) (fun q => kf q b G p l e R s m args below meth c n0 s0 Q C H locs ls V)
theorem px_if_le {x : Int32} {off : Int} {tgt : Nat} (d : decode (px_cc M) pc = .ok (.ifCond .le off, 3)) (ht : (pc : Int) + off = (tgt : Int)) (kt : x ≤ 0 → PW M N1 S1 Post tgt lv st h) (kf : ¬ x ≤ 0 → PW M N1 S1 Post (pc + 3) lv st h) : PW M N1 S1 Post pc lv (.int x :: st) h :=
  fun b G p l e R s m args below meth c n0 s0 Q C H locs ls V => lv_if_le C.1.1 C.1.2.1 d ht (fun q => kt q b G p l e R s m args below meth c n0 s0 Q C H locs ls V) (fun q => kf q b G p l e R s m args below meth c n0 s0 Q C H locs ls V)
theorem px_icmp_eq {x y : Int32} {off : Int} {tgt : Nat} (d : decode (px_cc M) pc = .ok (.if_icmp .eq off, 3)) (ht : (pc : Int) + off = (tgt : Int)) (kt : x = y → PW M N1 S1 Post tgt lv st h) (kf : ¬ x = y → PW M N1 S1 Post (pc + 3) lv st h) : PW M N1 S1 Post pc lv (.int y :: .int x :: st) h :=
  fun b G p l e R s m args below meth c n0 s0 Q C H locs ls V => lv_icmp_eq C.1.1 C.1.2.1 d ht (fun q => kt q b G p l e R s m args below meth c n0 s0 Q C H locs ls V) (fun q => kf q b G p l e R s m args below meth c n0 s0 Q C H locs ls V)
theorem px_icmp_ne {x y : Int32} {off : Int} {tgt : Nat} (d : decode (px_cc M) pc = .ok (.if_icmp .ne off, 3)) (ht : (pc : Int) + off = (tgt : Int)) (kt : ¬ x = y → PW M N1 S1 Post tgt lv st h) (kf : x = y → PW M N1 S1 Post (pc + 3) lv st h) : PW M N1 S1 Post pc lv (.int y :: .int x :: st) h :=
  fun b G p l e R s m args below meth c n0 s0 Q C H locs ls V => lv_icmp_ne C.1.1 C.1.2.1 d ht (fun q => kt q b G p l e R s m args below meth c n0 s0 Q C H locs ls V) (fun q => kf q b G p l e R s m args below meth c n0 s0 Q C H locs ls V)
theorem px_icmp_lt {x y : Int32} {off : Int} {tgt : Nat} (d : decode (px_cc M) pc = .ok (.if_icmp .lt off, 3)) (ht : (pc : Int) + off = (tgt : Int)) (kt : x < y → PW M N1 S1 Post tgt lv st h) (kf : ¬ x < y → PW M N1 S1 Post (pc + 3) lv st h) : PW M N1 S1 Post pc lv (.int y :: .int x :: st) h :=
  fun b G p l e R s m args below meth c n0 s0 Q C H locs ls V => lv_icmp_lt C.1.1 C.1.2.1 d ht (fun q => kt q b G p l e R s m args below meth c n0 s0 Q C H locs ls V) (fun q => kf q b G p l e R s m args below meth c n0 s0 Q C H locs ls V)
theorem px_icmp_ge {x y : Int32} {off : Int} {tgt : Nat} (d : decode (px_cc M) pc = .ok (.if_icmp .ge off, 3)) (ht : (pc : Int) + off = (tgt : Int)) (kt : y ≤ x → PW M N1 S1 Post tgt lv st h) (kf : ¬ y ≤ x → PW M N1 S1 Post (pc + 3) lv st h) : PW M N1 S1 Post pc lv (.int y :: .int x :: st) h :=
  fun b G p l e R s m args below meth c n0 s0 Q C H locs ls V => lv_icmp_ge C.1.1 C.1.2.1 d ht (fun q => kt q b G p l e R s m args below meth c n0 s0 Q C H locs ls V) (fun q => kf q b G p l e R s m args below meth c n0 s0 Q C H locs ls V)
theorem px_icmp_gt {x y : Int32} {off : Int} {tgt : Nat} (d : decode (px_cc M) pc = .ok (.if_icmp .gt off, 3)) (ht : (pc : Int) + off = (tgt : Int)) (kt : y < x → PW M N1 S1 Post tgt lv st h) (kf : ¬ y < x → PW M N1 S1 Post (pc + 3) lv st h) : PW M N1 S1 Post pc lv (.int y :: .int x :: st) h :=
  fun b G p l e R s m args below meth c n0 s0 Q C H locs ls V => lv_icmp_gt C.1.1 C.1.2.1 d ht (fun q => kt q b G p l e R s m args below meth c n0 s0 Q C H locs ls V) (fun q => kf q b G p l e R s m args below meth c n0 s0 Q C H locs ls V)
theorem px_icmp_le {x y : Int32} {off : Int} {tgt : Nat} (d : decode (px_cc M) pc = .ok (.if_icmp .le off, 3)) (ht : (pc : Int) + off = (tgt : Int)) (kt : x ≤ y → PW M N1 S1 Post tgt lv st h) (kf : ¬ x ≤ y → PW M N1 S1 Post (pc + 3) lv st h) : PW M N1 S1 Post pc lv (.int y :: .int x :: st) h :=
  fun b G p l e R s m args below meth c n0 s0 Q C H locs ls V => lv_icmp_le C.1.1 C.1.2.1 d ht (fun q => kt q b G p l e R s m args below meth c n0 s0 Q C H locs ls V) (fun q => kf q b G p l e R s m args below meth c n0 s0 Q C H locs ls V)
theorem px_goto {off : Int} {tgt : Nat} (d : decode (px_cc M) pc = .ok (.goto off, 3)) (ht : (pc : Int) + off = (tgt : Int)) (k : PW M N1 S1 Post tgt lv st h) : PW M N1 S1 Post pc lv st h :=
  fun b G p l e R s m args below meth c n0 s0 Q C H locs ls V => lv_goto C.1.1 C.1.2.1 d ht (k b G p l e R s m args below meth c n0 s0 Q C H locs ls V)
theorem px_ifnull {x : Nat} {off : Int} (d : decode (px_cc M) pc = .ok (.ifnull off, 3)) (k : PW M N1 S1 Post (pc + 3) lv st h) : PW M N1 S1 Post pc lv (.ref x :: st) h :=
  fun b G p l e R s m args below meth c n0 s0 Q C H locs ls V => lv_ifnull C.1.1 C.1.2.1 d (k b G p l e R s m args below meth c n0 s0 Q C H locs ls V)
theorem px_ifnullN {off : Int} {tgt : Nat} (d : decode (px_cc M) pc = .ok (.ifnull off, 3)) (ht : (pc : Int) + off = (tgt : Int)) (k : PW M N1 S1 Post tgt lv st h) : PW M N1 S1 Post pc lv (.null :: st) h :=
  fun b G p l e R s m args below meth c n0 s0 Q C H locs ls V => lv_ifnullN C.1.1 C.1.2.1 d ht (k b G p l e R s m args below meth c n0 s0 Q C H locs ls V)
theorem px_ifnonnull {x : Nat} {off : Int} {tgt : Nat} (d : decode (px_cc M) pc = .ok (.ifnonnull off, 3)) (ht : (pc : Int) + off = (tgt : Int)) (k : PW M N1 S1 Post tgt lv st h) : PW M N1 S1 Post pc lv (.ref x :: st) h :=
  fun b G p l e R s m args below meth c n0 s0 Q C H locs ls V => lv_ifnonnull C.1.1 C.1.2.1 d ht (k b G p l e R s m args below meth c n0 s0 Q C H locs ls V)
theorem px_ifnonnullN {off : Int} (d : decode (px_cc M) pc = .ok (.ifnonnull off, 3)) (k : PW M N1 S1 Post (pc + 3) lv st h) : PW M N1 S1 Post pc lv (.null :: st) h :=
  fun b G p l e R s m args below meth c n0 s0 Q C H locs ls V => lv_ifnonnullN C.1.1 C.1.2.1 d (k b G p l e R s m args below meth c n0 s0 Q C H locs ls V)
theorem px_tabO {dflt lo hi : Int} {offs : Array Int} {len : Nat} {x : Int32} {tgt : Nat} (d : decode (px_cc M) pc = .ok (.tableswitch dflt lo hi offs, len)) (hx : x.toInt < lo ∨ hi < x.toInt) (ht : (pc : Int) + dflt = (tgt : Int)) (k : PW M N1 S1 Post tgt lv st h) : PW M N1 S1 Post pc lv (.int x :: st) h :=
  fun b G p l e R s m args below meth c n0 s0 Q C H locs ls V => lv_tableOut C.1.1 C.1.2.1 d hx ht (k b G p l e R s m args below meth c n0 s0 Q C H locs ls V)
theorem px_tabI {dflt lo hi : Int} {offs : Array Int} {len : Nat} {x : Int32} {off : Int} {tgt : Nat} (d : decode (px_cc M) pc = .ok (.tableswitch dflt lo hi offs, len)) (h1 : ¬ x.toInt < lo) (h2 : ¬ hi < x.toInt) (ho : offs[(x.toInt - lo).toNat]? = some off) (ht : (pc : Int) + off = (tgt : Int)) (k : PW M N1 S1 Post tgt lv st h) : PW M N1 S1 Post pc lv (.int x :: st) h :=
  fun b G p l e R s m args below meth c n0 s0 Q C H locs ls V => lv_tableIn C.1.1 C.1.2.1 d h1 h2 ho ht (k b G p l e R s m args below meth c n0 s0 Q C H locs ls V)
theorem px_look {dflt : Int} {ps : Array (Int × Int)} {len : Nat} {x : Int32} {off : Int} {tgt : Nat} (d : decode (px_cc M) pc = .ok (.lookupswitch dflt ps, len)) (hp : (ps.toList.zip (ps.toList.drop 1)).all (fun (a, next) => a.1 < next.1) = true) (ho : Op.lookupswitch.offset ps.toList dflt x.toInt = off) (ht : (pc : Int) + off = (tgt : Int)) (k : PW M N1 S1 Post tgt lv st h) : PW M N1 S1 Post pc lv (.int x :: st) h :=
  fun b G p l e R s m args below meth c n0 s0 Q C H locs ls V => lv_lookup C.1.1 C.1.2.1 d hp ho ht (k b G p l e R s m args below meth c n0 s0 Q C H locs ls V)
theorem px_topi {x : Int32} (k : ∀ y : Int32, y = x → PW M N1 S1 Post pc lv (.int y :: st) h) : PW M N1 S1 Post pc lv (.int x :: st) h := k x rfl
theorem px_topl {x : Int64} (k : ∀ y : Int64, y = x → PW M N1 S1 Post pc lv (.long y :: st) h) : PW M N1 S1 Post pc lv (.long x :: st) h := k x rfl
theorem px_val {x y : Int32} (e : x = y) (k : PW M N1 S1 Post pc lv (.int y :: st) h) : PW M N1 S1 Post pc lv (.int x :: st) h := by subst e; exact k
theorem px_vall {x y : Int64} (e : x = y) (k : PW M N1 S1 Post pc lv (.long y :: st) h) : PW M N1 S1 Post pc lv (.long x :: st) h := by subst e; exact k
theorem px_heap {h2 : PH} (e : h = h2) (k : PW M N1 S1 Post pc lv st h2) : PW M N1 S1 Post pc lv st h := by subst e; exact k
theorem px_ireturn {v : Int32} {ty : FieldType} (d : decode (px_cc M) pc = .ok (.ireturn, 1)) (hr : px_rt M = some ty) (hv : narrow ty (.int v) = .int v) (hP : Post 0 (some (.int v)) h) : PW M N1 S1 Post pc lv ([.int v]) h :=
  fun b G p l e R s m args below meth c n0 s0 Q C H locs ls V => C.2.2.2.2.2.2 0 (some (.int v)) pc ([.int v]) h H locs ls (Or.inl ⟨rfl, Or.inl ⟨d, v, ty, rfl, rfl, hr, hv⟩⟩) hP ⟨V.1, V.2.1, V.2.2.1, V.2.2.2.1, V.2.2.2.2.1, V.2.2.2.2.2.1, fun _ hq => nomatch hq⟩
theorem px_return  (d : decode (px_cc M) pc = .ok (.return_, 1)) (hr : px_rt M = none) (hP : Post 0 (none) h) : PW M N1 S1 Post pc lv ([]) h :=
  fun b G p l e R s m args below meth c n0 s0 Q C H locs ls V => C.2.2.2.2.2.2 0 (none) pc ([]) h H locs ls (Or.inl ⟨rfl, Or.inr (Or.inl ⟨d, rfl, rfl, hr⟩)⟩) hP ⟨V.1, V.2.1, V.2.2.1, V.2.2.2.1, V.2.2.2.2.1, V.2.2.2.2.2.1, fun _ hq => nomatch hq⟩
theorem px_lreturn {v : Int64} (d : decode (px_cc M) pc = .ok (.lreturn, 1)) (hr : px_rt M = some .long) (hP : Post 0 (some (.long v)) h) : PW M N1 S1 Post pc lv ([.long v]) h :=
  fun b G p l e R s m args below meth c n0 s0 Q C H locs ls V => C.2.2.2.2.2.2 0 (some (.long v)) pc ([.long v]) h H locs ls (Or.inl ⟨rfl, Or.inr (Or.inr (Or.inl ⟨d, v, rfl, rfl, hr⟩))⟩) hP ⟨V.1, V.2.1, V.2.2.1, V.2.2.2.1, V.2.2.2.2.1, V.2.2.2.2.2.1, fun _ hq => nomatch hq⟩
theorem px_areturn {v : Nat} {ty : FieldType} (d : decode (px_cc M) pc = .ok (.areturn, 1)) (hr : px_rt M = some ty) (ht : (∃ n, ty = .object n) ∨ ∃ t, ty = .array t) (hP : Post 0 (some (.ref v)) h) : PW M N1 S1 Post pc lv ([.ref v]) h :=
  fun b G p l e R s m args below meth c n0 s0 Q C H locs ls V => C.2.2.2.2.2.2 0 (some (.ref v)) pc ([.ref v]) h H locs ls (Or.inl ⟨rfl, Or.inr (Or.inr (Or.inr ⟨d, .ref v, ty, rfl, rfl, hr, ht, Or.inr ⟨v, rfl⟩⟩))⟩) hP ⟨V.1, V.2.1, V.2.2.1, V.2.2.2.1, V.2.2.2.2.1, V.2.2.2.2.2.1, fun _ hq => nomatch hq⟩
theorem px_areturnN {ty : FieldType} (d : decode (px_cc M) pc = .ok (.areturn, 1)) (hr : px_rt M = some ty) (ht : (∃ n, ty = .object n) ∨ ∃ t, ty = .array t) (hP : Post 0 (some .null) h) : PW M N1 S1 Post pc lv ([.null]) h :=
  fun b G p l e R s m args below meth c n0 s0 Q C H locs ls V => C.2.2.2.2.2.2 0 (some .null) pc ([.null]) h H locs ls (Or.inl ⟨rfl, Or.inr (Or.inr (Or.inr ⟨d, .null, ty, rfl, rfl, hr, ht, Or.inl rfl⟩))⟩) hP ⟨V.1, V.2.1, V.2.2.1, V.2.2.2.1, V.2.2.2.2.1, V.2.2.2.2.2.1, fun _ hq => nomatch hq⟩
end PXR
