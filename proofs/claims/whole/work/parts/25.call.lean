/-! ===== calls, and contracts of what throws ===== -/
def px_ok (M : px_M) (n : Nat) : Prop := Cond.code (px_y M) (px_cc M) (px_nL M) (px_rt M) ∈ px_TB ∧ Cond.initialized (px_own M) ∈ px_TB ∧ (px_own M ≠ "java/lang/invoke/MethodHandle" ∧ px_own M ≠ "java/lang/invoke/VarHandle") ∧ (parseMethodDescriptor (px_y M).desc).map (fun d => d.parameters.length) = some n
def px_okV (M : px_M) : Prop := Cond.instanceMethod (px_y M) ∈ px_TB ∧ Cond.selects (px_own M) (px_y M) (px_y M) ∈ px_TB
def px_okI (M : px_M) : Prop := Cond.instanceMethod (px_y M) ∈ px_TB ∧ (px_y M).name = "<init>"
def px_okS (M : px_M) : Prop := Cond.static (px_y M) ∈ px_TB
theorem px_gin {M : px_M} {n : Nat} (h : px_ok M n) : GoodIn px_TB (px_ws M) := fun w hw => by
  rcases List.mem_cons.mp hw with e | e
  · rw [e]; exact px_good _ h.1
  · exact px_good _ e
theorem px_cb0 {M M' : px_M} {n ix : Nat} {h h' : PH} {R : Room} {s : State} {args : Array Value} (hts : ∀ w ∈ px_TB, w.before args s = true) (hok : px_ok M' n) (hl : Cond.methodLink (px_own M) ix (px_y M') ∈ px_TB) (hR : px_fr M' + 1 ≤ R.frames ∧ 8 + (px_nL M' + 11) + px_lo M' ≤ R.locals) :
    CallB R s args (px_own M) ix (px_y M') (px_cc M') (px_nL M') (px_rt M') (px_ws M') (px_rm M' h h') (hn h' - hn h) (hs h' - hs h) n :=
  callB_of n hts (px_gin hok) rfl rfl rfl (hts _ hok.2.1) (hts _ hl) ⟨hok.2.2.1.1, hok.2.2.1.2, hok.2.2.2⟩ hR
theorem px_cn0 {M M' : px_M} {n ix : Nat} {h h' : PH} {R : Room} {s : State} {args : Array Value} {host : String} (hts : ∀ w ∈ px_TB, w.before args s = true) (hok : px_ok M' n) (hl : va_Nw (.methodLinkNest (px_own M) ix (px_y M') host) s) (hR : px_fr M' + 1 ≤ R.frames ∧ 8 + (px_nL M' + 11) + px_lo M' ≤ R.locals) :
    va_CN R s args (px_own M) ix (px_y M') host (px_cc M') (px_nL M') (px_rt M') (px_ws M') (px_rm M' h h') (hn h' - hn h) (hs h' - hs h) n :=
  va_cnB n hts (px_gin hok) rfl rfl rfl hl (hts _ hok.2.1) ⟨hok.2.2.1.1, hok.2.2.1.2, hok.2.2.2⟩ hR
theorem px_oi1 : Cond.instanceMethod Lib.objectInit ∈ px_TB := px_t1 32 (by decide +kernel) rfl
theorem px_oi2 : Cond.code Lib.objectInit ⟨#[0xb1]⟩ 1 none ∈ px_TB := px_t1 33 (by decide +kernel) rfl
section PXC
variable {M : px_M} {N1 S1 : Nat} {Post : Nat → Option Value → PH → Prop} {pc : Nat} {lv : List (Nat × Value)} {st : List Value} {h : PH}
theorem px_after {nL b : Nat} {G : px_G} {p : Program} {l : Launch} {e : Env} {R : Room} {s : State} {m : MethodId} {args a : Array Value} {below : List Frame} {meth : Method} {c : Code} {n0 s0 : Nat} {Q : State → Prop} {H : Heap} {locs : List Loc} {ls : Array Slot} {rest st0 : List Value} {r : Option Value} {h' : PH}
    (hrun : va_Run p l e R s m args below meth c H locs (hn h - n0) (hs h - s0) (hn h' - hn h) (hs h' - hs h) (F0 m pc ls st0) rest (px_Qc b G r h' a) (fun q => b ≤ q)) (V : px_V nL N1 S1 b G s n0 s0 lv h H locs ls) (hb : s.heap.size = b + n0) (m1 : hn h ≤ hn h') (m2 : hs h ≤ hs h') (hN : hn h' ≤ N1 ∧ hs h' ≤ S1)
    (kk : ∀ (H1 : Heap) (locs1 : List Loc), px_V nL N1 S1 b G s n0 s0 lv h' H1 locs1 ls → W p l e R s m args below meth c H1 locs1 (hn h' - n0) (hs h' - s0) Q (F0 m (pc + 3) ls ((r.map (rl b G)).toList ++ rest))) : W p l e R s m args below meth c H locs (hn h - n0) (hs h - s0) Q (F0 m pc ls st0) := by
  intro T hT X
  obtain ⟨v, st₀, t, T', L, h0, X', hL, e1, e2, ⟨q1, q2, q3⟩, stp⟩ := hrun T hT X
  have hv : v = r.map (rl b G) := Outcome.returned.inj q1
  subst hv
  have v1 := V.2.2.2.1
  have e3 : hn h - n0 + (hn h' - hn h) = hn h' - n0 := by omega
  have e4 : hs h - s0 + (hs h' - hs h) = hs h' - s0 := by omega
  rw [e3, e4] at X'
  have hq : ∀ q : Nat, q < b → T'.heap[q]? = H[q]? := fun q hq => by rw [e1, q3 q hq, h0]
  have hz : T'.heap.size = b + hn h' := by rw [e1]; exact q2.1
  obtain ⟨t2, a1, b1⟩ := kk T'.heap (locs ++ L) ⟨by rw [e1]; exact q2, V.2.1.kept (by rw [V.1.1]; omega) hq, ⟨by rw [hz, hb]; omega, fun q h1 h2 => (hq q (Nat.not_le.mp h2)).trans (V.2.2.1.2.1 q h1 h2), fun z hz => by
    rcases List.mem_append.mp hz with g | g
    · exact V.2.2.1.2.2 z g
    · exact hL z g⟩, ⟨by omega, by omega, hN.1, hN.2⟩, V.2.2.2.2⟩ T' rfl X'
  exact ⟨t2, stp t2 a1, b1⟩
theorem px_stk (b : Nat) (G : px_G) (as : List Value) (k : Nat) (st : List Value) : (as.reverse ++ .ref k :: st).map (rl b G) = (as.map (rl b G)).reverse ++ .ref (b + k) :: st.map (rl b G) := by
  rw [List.map_append, List.map_reverse]; rfl
theorem px_stkS (b : Nat) (G : px_G) (as : List Value) (st : List Value) : (as.reverse ++ st).map (rl b G) = (as.map (rl b G)).reverse ++ st.map (rl b G) := by
  rw [List.map_append, List.map_reverse]
theorem px_tol (b : Nat) (G : px_G) (r : Option Value) (st : List Value) : (r.toList ++ st).map (rl b G) = (r.map (rl b G)).toList ++ st.map (rl b G) := by cases r <;> rfl
theorem px_recv {b : Nat} {G : px_G} {s : State} {H : Heap} {k ci : Nat} (hK : px_K G s) (hR0 : px_Rel b G h H) (ho : px_ob h k ci) (hc : ci < px_NC) : ∃ cell : Cell, H[b + k]? = some cell ∧ cell.vm.isStatics = false ∧ s.vm.findClass (px_CT ci).1 = some cell.cls := by
  obtain ⟨cell, q1, q2, q3, -⟩ := px_obj hR0 ho hc
  exact ⟨cell, q1, by rw [q3]; rfl, by rw [q2]; exact (hK.1 ci hc).2.1⟩
theorem px_pre {b nL n0 s0 : Nat} {G : px_G} {s : State} {H : Heap} {locs : List Loc} {ls : Array Slot} {as : List Value} (hK : px_K G s) (V : px_V nL N1 S1 b G s n0 s0 lv h H locs ls) : ∀ U : State, U.heap = H → s.WarmedH U.vm → px_Pc b G as h (as.map (rl b G)).toArray U := fun U hU hW => ⟨rfl, by rw [hU]; exact V.1, hK.moved hW, by rw [hU]; exact V.2.1.moved hW.alike⟩
theorem px_room {M' : px_M} {b : Nat} {G : px_G} {p : Program} {l : Launch} {e : Env} {R : Room} {s : State} {m : MethodId} {args : Array Value} {below : List Frame} {meth : Method} {c : Code} {n0 s0 : Nat} {Q : State → Prop} (C : px_C M N1 S1 Post b G p l e R s m args below meth c n0 s0 Q) (hrm : px_fr M' + 1 ≤ px_fr M ∧ 19 + px_nL M' + px_lo M' ≤ px_lo M) : px_fr M' + 1 ≤ R.frames ∧ 8 + (px_nL M' + 11) + px_lo M' ≤ R.locals := by
  have := C.2.2.2.2.1
  omega
theorem px_fit {nL b n0 s0 : Nat} {G : px_G} {p : Program} {l : Launch} {e : Env} {R : Room} {s : State} {m : MethodId} {args : Array Value} {below : List Frame} {meth : Method} {c : Code} {Q : State → Prop} {H : Heap} {locs : List Loc} {ls : Array Slot} {h' : PH} (C : px_C M N1 S1 Post b G p l e R s m args below meth c n0 s0 Q) (V : px_V nL N1 S1 b G s n0 s0 lv h H locs ls) (m1 : hn h ≤ hn h') (m2 : hs h ≤ hs h') (hN : hn h' ≤ N1 ∧ hs h' ≤ S1) : hn h - n0 + (hn h' - hn h) ≤ R.cells ∧ hs h - s0 + (hs h' - hs h) ≤ R.slots := by
  have := C.2.2.2.2.1
  have := V.2.2.2.1
  omega
theorem px_callV {M' : px_M} {as : List Value} {k ci n ix : Nat} {r : Option Value} {h' : PH} (hM : PM M' (.ref k :: as) h r h') (d : decode (px_cc M) pc = .ok (.invokevirtual ix, 3)) (hl : Cond.methodLink (px_own M) ix (px_y M') ∈ px_TB) (hok : px_ok M' n) (hv : px_okV M') (ho : px_ob h k ci) (hc : ci < px_NC) (hcn : (px_CT ci).1 = px_own M') (hln : as.length = n) (hsum : (st.map fun v => v.category).sum ≤ 8) (hrm : px_fr M' + 1 ≤ px_fr M ∧ 19 + px_nL M' + px_lo M' ≤ px_lo M) (hN : hn h' ≤ N1 ∧ hs h' ≤ S1) (kk : PW M N1 S1 Post (pc + 3) lv (r.toList ++ st) h') : PW M N1 S1 Post pc lv (as.reverse ++ .ref k :: st) h := by
  intro b G p l e R s m args below meth c n0 s0 Q C H locs ls V
  obtain ⟨m1, m2, hMet⟩ := hM
  have hMt := hMet l b G C.2.2.1.1
  refine px_after (va_runV (As := as.map (rl b G)) (rest := st.map (rl b G)) (b := b + k) (C := px_own M') (n := n) (g := F0 m pc ls ((as.reverse ++ .ref k :: st).map (rl b G))) C.1 hMt ⟨px_cb0 C.1.2.2.2.2 hok hl (px_room C hrm), C.1.2.2.2.2 _ hv.1, C.1.2.2.2.2 _ hv.2⟩ ⟨px_blind b G _ h, by rw [← hcn]; exact px_recv C.2.1 V.1 ho hc, px_pre C.2.1 V⟩ rfl (by rw [List.length_map]; exact hln) V.2.2.2.2.1 (px_stk b G as k st) (lv_room (by rw [rl_cats]; exact hsum)) d (px_fit C V m1 m2 hN)) V C.2.2.2.2.2.1 m1 m2 hN (fun H1 locs1 V1 => ?_)
  rw [← px_tol]
  exact kk b G p l e R s m args below meth c n0 s0 Q C H1 locs1 ls V1
theorem px_callS {M' : px_M} {as : List Value} {n ix : Nat} {r : Option Value} {h' : PH} (hM : PM M' as h r h') (d : decode (px_cc M) pc = .ok (.invokestatic ix, 3)) (hl : Cond.methodLink (px_own M) ix (px_y M') ∈ px_TB) (hok : px_ok M' n) (hv : px_okS M') (hln : as.length = n) (hsum : (st.map fun v => v.category).sum ≤ 8) (hrm : px_fr M' + 1 ≤ px_fr M ∧ 19 + px_nL M' + px_lo M' ≤ px_lo M) (hN : hn h' ≤ N1 ∧ hs h' ≤ S1) (kk : PW M N1 S1 Post (pc + 3) lv (r.toList ++ st) h') : PW M N1 S1 Post pc lv (as.reverse ++ st) h := by
  intro b G p l e R s m args below meth c n0 s0 Q C H locs ls V
  obtain ⟨m1, m2, hMet⟩ := hM
  have hMt := hMet l b G C.2.2.1.1
  refine px_after (va_runS (As := as.map (rl b G)) (rest := st.map (rl b G)) (n := n) (g := F0 m pc ls ((as.reverse ++ st).map (rl b G))) C.1 hMt ⟨px_cb0 C.1.2.2.2.2 hok hl (px_room C hrm), C.1.2.2.2.2 _ hv⟩ ⟨px_blind b G _ h, px_pre C.2.1 V⟩ rfl (by rw [List.length_map]; exact hln) V.2.2.2.2.1 (px_stkS b G as st) (lv_room (by rw [rl_cats]; exact hsum)) d (px_fit C V m1 m2 hN)) V C.2.2.2.2.2.1 m1 m2 hN (fun H1 locs1 V1 => ?_)
  rw [← px_tol]
  exact kk b G p l e R s m args below meth c n0 s0 Q C H1 locs1 ls V1
theorem px_callSN {M' : px_M} {as : List Value} {n ix : Nat} {r : Option Value} {h' : PH} {host : String} (hM : PM M' as h r h') (d : decode (px_cc M) pc = .ok (.invokestatic ix, 3)) (hl : (px_own M, ix, px_y M', host) ∈ px_NW) (hok : px_ok M' n) (hv : px_okS M') (hln : as.length = n) (hsum : (st.map fun v => v.category).sum ≤ 8) (hrm : px_fr M' + 1 ≤ px_fr M ∧ 19 + px_nL M' + px_lo M' ≤ px_lo M) (hN : hn h' ≤ N1 ∧ hs h' ≤ S1) (kk : PW M N1 S1 Post (pc + 3) lv (r.toList ++ st) h') : PW M N1 S1 Post pc lv (as.reverse ++ st) h := by
  intro b G p l e R s m args below meth c n0 s0 Q C H locs ls V
  obtain ⟨m1, m2, hMet⟩ := hM
  have hMt := hMet l b G C.2.2.1.1
  refine px_after (va_runSN (As := as.map (rl b G)) (rest := st.map (rl b G)) (n := n) (host := host) (g := F0 m pc ls ((as.reverse ++ st).map (rl b G))) C.1 hMt ⟨px_cn0 C.1.2.2.2.2 hok (C.2.1.2.2.1 _ hl) (px_room C hrm), C.1.2.2.2.2 _ hv, trivial⟩ ⟨px_blind b G _ h, px_pre C.2.1 V⟩ rfl (by rw [List.length_map]; exact hln) V.2.2.2.2.1 (px_stkS b G as st) (lv_room (by rw [rl_cats]; exact hsum)) d (px_fit C V m1 m2 hN)) V C.2.2.2.2.2.1 m1 m2 hN (fun H1 locs1 V1 => ?_)
  rw [← px_tol]
  exact kk b G p l e R s m args below meth c n0 s0 Q C H1 locs1 ls V1
theorem px_callI {M' : px_M} {as : List Value} {k n ix : Nat} {h' : PH} (hM : PM M' (.ref k :: as) h none h') (d : decode (px_cc M) pc = .ok (.invokespecial ix, 3)) (hl : Cond.methodLink (px_own M) ix (px_y M') ∈ px_TB) (hok : px_ok M' n) (hv : px_okI M') (hrt : px_rt M' = none) (hln : as.length = n) (hsum : (st.map fun v => v.category).sum ≤ 8) (hrm : px_fr M' + 1 ≤ px_fr M ∧ 19 + px_nL M' + px_lo M' ≤ px_lo M) (hN : hn h' ≤ N1 ∧ hs h' ≤ S1) (kk : PW M N1 S1 Post (pc + 3) lv st h') : PW M N1 S1 Post pc lv (as.reverse ++ .ref k :: st) h := by
  intro b G p l e R s m args below meth c n0 s0 Q C H locs ls V
  obtain ⟨m1, m2, hMet⟩ := hM
  have hMt := hMet l b G C.2.2.1.1
  have hcb : CallB R s args (px_own M) ix (px_y M') (px_cc M') (px_nL M') none (px_ws M') (px_rm M' h h') (hn h' - hn h) (hs h' - hs h) n := by
    rw [← hrt]; exact px_cb0 C.1.2.2.2.2 hok hl (px_room C hrm)
  refine px_after (va_runI (As := as.map (rl b G)) (rest := st.map (rl b G)) (b := b + k) (n := n) (g := F0 m pc ls ((as.reverse ++ .ref k :: st).map (rl b G))) C.1 hMt ⟨hcb, hv.2, C.1.2.2.2.2 _ hv.1⟩ ⟨px_blind b G _ h, px_pre (as := .ref k :: as) C.2.1 V⟩ rfl (by rw [List.length_map]; exact hln) V.2.2.2.2.1 (px_stk b G as k st) (lv_room (by rw [rl_cats]; exact hsum)) d (px_fit C V m1 m2 hN)) V C.2.2.2.2.2.1 m1 m2 hN (fun H1 locs1 V1 => ?_)
  exact kk b G p l e R s m args below meth c n0 s0 Q C H1 locs1 ls V1
theorem px_callIN {M' : px_M} {as : List Value} {k n ix : Nat} {h' : PH} {host : String} (hM : PM M' (.ref k :: as) h none h') (d : decode (px_cc M) pc = .ok (.invokespecial ix, 3)) (hl : (px_own M, ix, px_y M', host) ∈ px_NW) (hok : px_ok M' n) (hv : px_okI M') (hrt : px_rt M' = none) (hln : as.length = n) (hsum : (st.map fun v => v.category).sum ≤ 8) (hrm : px_fr M' + 1 ≤ px_fr M ∧ 19 + px_nL M' + px_lo M' ≤ px_lo M) (hN : hn h' ≤ N1 ∧ hs h' ≤ S1) (kk : PW M N1 S1 Post (pc + 3) lv st h') : PW M N1 S1 Post pc lv (as.reverse ++ .ref k :: st) h := by
  intro b G p l e R s m args below meth c n0 s0 Q C H locs ls V
  obtain ⟨m1, m2, hMet⟩ := hM
  have hMt := hMet l b G C.2.2.1.1
  have hcb : va_CN R s args (px_own M) ix (px_y M') host (px_cc M') (px_nL M') none (px_ws M') (px_rm M' h h') (hn h' - hn h) (hs h' - hs h) n := by
    rw [← hrt]; exact px_cn0 C.1.2.2.2.2 hok (C.2.1.2.2.1 _ hl) (px_room C hrm)
  refine px_after (va_runIN (As := as.map (rl b G)) (rest := st.map (rl b G)) (b := b + k) (n := n) (host := host) (g := F0 m pc ls ((as.reverse ++ .ref k :: st).map (rl b G))) C.1 hMt ⟨hcb, hv.2, C.1.2.2.2.2 _ hv.1⟩ ⟨px_blind b G _ h, px_pre (as := .ref k :: as) C.2.1 V⟩ rfl (by rw [List.length_map]; exact hln) V.2.2.2.2.1 (px_stk b G as k st) (lv_room (by rw [rl_cats]; exact hsum)) d (px_fit C V m1 m2 hN)) V C.2.2.2.2.2.1 m1 m2 hN (fun H1 locs1 V1 => ?_)
  exact kk b G p l e R s m args below meth c n0 s0 Q C H1 locs1 ls V1
theorem px_obji {k ix : Nat} (d : decode (px_cc M) pc = .ok (.invokespecial ix, 3)) (hl : Cond.methodLink (px_own M) ix Lib.objectInit ∈ px_TB) (h1 : 1 ≤ px_fr M) (h2 : (st.map fun v => v.category).sum + 12 ≤ px_lo M) (kk : PW M N1 S1 Post (pc + 3) lv st h) : PW M N1 S1 Post pc lv (.ref k :: st) h := by
  intro b G p l e R s m args below meth c n0 s0 Q C H locs ls V
  have c1 := C.2.2.2.2.1
  have hts := C.1.2.2.2.2
  refine W.objInit C.1.1 C.1.2.1 C.1.2.2.2.1 (hts _ hl) (hts _ px_oi1) (hts _ px_oi2) rfl (by rw [C.1.2.2.1]; exact V.2.2.2.2.1) (a := b + k) (rest := st.map (rl b G)) rfl d (by omega) ?_ (kk b G p l e R s m args below meth c n0 s0 Q C H locs ls V)
  have hz : 2 * (F0 m pc ls ((Value.ref k :: st).map (rl b G))).monitorRoom + ((st.map (rl b G)).map fun v => v.category).sum = (st.map fun v => v.category).sum := by
    rw [rl_cats]; show 2 * 0 + _ = _; omega
  omega
end PXC
