theorem mi_math : Cond.initialized "java/lang/Math" ∈ px_TB := px_t1 19 (by decide +kernel) rfl
theorem ms_mmax : Cond.static Lib.Math.max.name ∈ px_TB := px_t1 633 (by decide +kernel) rfl
theorem mc_mmax : Cond.code Lib.Math.max.name Lib.Math.max.code 2 (some .int) ∈ px_TB := px_t1 634 (by decide +kernel) rfl
theorem px_mmax {M : px_M} {N1 S1 : Nat} {Post : Nat → Option Value → PH → Prop} {pc : Nat} {lv : List (Nat × Value)} {st : List Value} {h : PH} {ix : Nat} {x y : Int32} (d : decode (px_cc M) pc = .ok (.invokestatic ix, 3)) (hl : Cond.methodLink (px_own M) ix Lib.Math.max.name ∈ px_TB) (h1 : 1 ≤ px_fr M) (h2 : (st.map fun v => v.category).sum + 13 ≤ px_lo M) (k : PW M N1 S1 Post (pc + 3) lv (.int (if x < y then y else x) :: st) h) : PW M N1 S1 Post pc lv (.int y :: .int x :: st) h := by
  intro b G p l e R s m args below meth c n0 s0 Q C H locs ls V
  have c1 := C.2.2.2.2.1
  have v1 := V.2.2.2.1
  have hts := C.1.2.2.2.2
  exact va_mmax C.1.1 C.1.2.1 (C.1.2.2.1.trans V.2.2.2.2.1.symm) C.1.2.2.2.1 (hts _ hl) (hts _ ms_mmax) (hts _ mi_math) (hts _ mc_mmax) (by omega) (by rw [rl_cats]; omega) (by omega) (by omega) d (k b G p l e R s m args below meth c n0 s0 Q C H locs ls V)
theorem ms_mmin : Cond.static Lib.Math.min.name ∈ px_TB := px_t1 532 (by decide +kernel) rfl
theorem mc_mmin : Cond.code Lib.Math.min.name Lib.Math.min.code 2 (some .int) ∈ px_TB := px_t1 533 (by decide +kernel) rfl
theorem px_mmin {M : px_M} {N1 S1 : Nat} {Post : Nat → Option Value → PH → Prop} {pc : Nat} {lv : List (Nat × Value)} {st : List Value} {h : PH} {ix : Nat} {x y : Int32} (d : decode (px_cc M) pc = .ok (.invokestatic ix, 3)) (hl : Cond.methodLink (px_own M) ix Lib.Math.min.name ∈ px_TB) (h1 : 1 ≤ px_fr M) (h2 : (st.map fun v => v.category).sum + 13 ≤ px_lo M) (k : PW M N1 S1 Post (pc + 3) lv (.int (if y < x then y else x) :: st) h) : PW M N1 S1 Post pc lv (.int y :: .int x :: st) h := by
  intro b G p l e R s m args below meth c n0 s0 Q C H locs ls V
  have c1 := C.2.2.2.2.1
  have v1 := V.2.2.2.1
  have hts := C.1.2.2.2.2
  exact va_mmin C.1.1 C.1.2.1 (C.1.2.2.1.trans V.2.2.2.2.1.symm) C.1.2.2.2.1 (hts _ hl) (hts _ ms_mmin) (hts _ mi_math) (hts _ mc_mmin) (by omega) (by rw [rl_cats]; omega) (by omega) (by omega) d (k b G p l e R s m args below meth c n0 s0 Q C H locs ls V)
theorem ms_mmax_long : Cond.static Lib.MathLoose.max_long.x ∈ px_TB := px_t1 747 (by decide +kernel) rfl
theorem mc_mmax_long : Cond.code Lib.MathLoose.max_long.x Lib.MathLoose.max_long.code 4 (some .long) ∈ px_TB := px_t1 748 (by decide +kernel) rfl
theorem px_mmax_long {M : px_M} {N1 S1 : Nat} {Post : Nat → Option Value → PH → Prop} {pc : Nat} {lv : List (Nat × Value)} {st : List Value} {h : PH} {ix : Nat} {x y : Int64} (d : decode (px_cc M) pc = .ok (.invokestatic ix, 3)) (hl : Cond.methodLink (px_own M) ix Lib.MathLoose.max_long.x ∈ px_TB) (h1 : 1 ≤ px_fr M) (h2 : (st.map fun v => v.category).sum + 15 ≤ px_lo M) (k : PW M N1 S1 Post (pc + 3) lv (.long (if y < x then x else y) :: st) h) : PW M N1 S1 Post pc lv (.long y :: .long x :: st) h := by
  intro b G p l e R s m args below meth c n0 s0 Q C H locs ls V
  have c1 := C.2.2.2.2.1
  have v1 := V.2.2.2.1
  have hts := C.1.2.2.2.2
  exact va_mmax_long C.1.1 C.1.2.1 (C.1.2.2.1.trans V.2.2.2.2.1.symm) C.1.2.2.2.1 (hts _ hl) (hts _ ms_mmax_long) (hts _ mi_math) (hts _ mc_mmax_long) (by omega) (by rw [rl_cats]; omega) (by omega) (by omega) d (k b G p l e R s m args below meth c n0 s0 Q C H locs ls V)
