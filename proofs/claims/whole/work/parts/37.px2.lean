/-! ===== contracts with a picture of what is left; so many cells and slots are made ===== -/
def px_Qy (b : Nat) (G : px_G) (h : PH) (dn ds : Nat) (Q : Option Value → PH → Prop) : Array Value → State → Outcome → State → Prop := fun _ st oc t => ∃ (r : Option Value) (h' : PH), Q r h' ∧ hn h' = hn h + dn ∧ hs h' = hs h + ds ∧ oc = .returned (r.map (rl b G)) ∧ px_Rel b G h' t.heap ∧ ∀ q : Nat, q < b → t.heap[q]? = st.heap[q]?
def px_rm2 (M : px_M) (dn ds : Nat) : Room := { frames := px_fr M, cells := dn, slots := ds, locals := px_lo M }
def PX (M : px_M) (as : List Value) (h : PH) (dn ds : Nat) (Q : Option Value → PH → Prop) : Prop := ∀ (l : Launch) (b : Nat) (G : px_G), l.stackTraces = false →
  Met l (px_y M) (px_ws M) (px_rm2 M dn ds) (px_Pc b G as h) (px_Qy b G h dn ds Q) dn ds (fun q => b ≤ q)
def PXpost (h : PH) (dn ds : Nat) (Q : Option Value → PH → Prop) : Nat → Option Value → PH → Prop := fun k r h' => k = 0 ∧ Q r h' ∧ hn h' = hn h + dn ∧ hs h' = hs h + ds
def PXW (M : px_M) (as : List Value) (h : PH) (dn ds : Nat) (Q : Option Value → PH → Prop) : Prop := ∀ (l : Launch) (b : Nat) (G : px_G), l.stackTraces = false →
  Met l (px_y M) (px_wsW M) (px_rm2 M dn ds) (px_Pc b G as h) (px_Qy b G h dn ds Q) dn ds (fun q => b ≤ q)
theorem PX.of {M : px_M} {as : List Value} {h : PH} {dn ds : Nat} {Q : Option Value → PH → Prop} (hp : plainName (px_own M) = true) (hw : px_own M ≠ "PennyBankLaw") (ha : (as.map fun v => v.category).sum ≤ px_nL M) (k : PW M (hn h + dn) (hs h + ds) (PXpost h dn ds Q) 0 (lv_args 0 as) [] h) : PX M as h dn ds Q := by
  intro l b G hl
  refine Met.ofW (cc := px_cc M) (maxL := px_nL M) (ret := px_rt M) hp rfl ?_
  intro p e s m args below meth c s₁ B hml hv
  obtain ⟨rfl, hRel, hKs, hO⟩ := hv
  have hts := atoms_spec (ws := px_ws M) B.pre
  have hown : s.vm.findClass (px_own M) = some m.cls := findClass_of_methodNamed B.named
  have hlocks := B.notSynchronized
  have htab : c.exceptionTable.toList = tableOf (px_hh M) := by
    obtain ⟨meth9, c9, g1, g2, -, -, -, -, g7, -⟩ := Cond.code_spec B.named (hts _ List.mem_cons_self)
    cases Option.some.inj (g1.symm.trans B.method)
    cases Option.some.inj (g2.symm.trans (Stand.of_body B).code)
    unfold px_hh
    rw [Array.isEmpty_iff.mp g7, if_neg hw]
    rfl
  have hl0 := lv_entry (as.map (rl b G)) (n := px_nL M) (by rw [px_sllen]; exact ha)
  rw [lg_entry_eq]
  generalize (lg_sl (as.map (rl b G)) ++ List.replicate (px_nL M - (lg_sl (as.map (rl b G))).length) Slot.unset).toArray = ls at hl0 ⊢
  rw [px_args] at hl0
  have K := k b G p l e (px_rm2 M dn ds) s m (as.map (rl b G)).toArray below meth c (hn h) (hs h) (MQ below (px_Qy b G h dn ds Q) (as.map (rl b G)).toArray s dn ds (fun q => b ≤ q))
    ⟨⟨B.exec, B.bytes, hml, hown, fun w hw => hts w (List.mem_cons_of_mem _ hw)⟩, hKs, ⟨hl, htab, fun hx hx2 => absurd hx2.1 (by decide)⟩, (name_of_methodNamed B.named B.method).1, ⟨Nat.le_refl _, Nat.le_refl _, Nat.le_refl _, Nat.le_refl _⟩, hRel.1, ?_⟩
    s.heap [] ls ⟨hRel, hO, va_S.rf, ⟨Nat.le_refl _, Nat.le_refl _, Nat.le_add_right _ _, Nat.le_add_right _ _⟩, hl0⟩
  · rw [Nat.sub_self, Nat.sub_self] at K
    exact K
  · intro k' r' pc st h'' H locs ls' ho hP hV
    obtain ⟨rfl, hQ, en, es⟩ := hP
    obtain ⟨vR, vO, vS, -, -⟩ := hV
    rw [en, es, Nat.add_sub_cancel_left, Nat.add_sub_cancel_left]
    have hq : ∀ t : State, t.heap = H → s.WarmedH t.vm → px_Qy b G h dn ds Q (as.map (rl b G)).toArray s (.returned (r'.map (rl b G))) t := fun t ht _ => ⟨r', h'', hQ, en, es, rfl, by rw [ht]; exact vR, fun q hq => by rw [ht]; exact vS.2.1 q (by rw [hRel.1]; omega) (Nat.not_le.mpr hq)⟩
    rcases ho with ⟨-, ho⟩ | ⟨h0, -⟩
    · rcases ho with ⟨d, v, ty, rfl, rfl, hrt, hnr⟩ | ⟨d, rfl, rfl, hrt⟩ | ⟨d, v, rfl, rfl, hrt⟩ | ⟨d, v, ty, rfl, rfl, hrt, hty, hvv⟩
      · exact W.zret (ty := ty) (v := v) B.exec B.bytes (B.returns.trans hrt) hnr hq vS.2.2 d hlocks
      · exact W.vret B.exec B.bytes (B.returns.trans hrt) hq vS.2.2 d hlocks
      · exact W.lret (v := v) B.exec B.bytes (B.returns.trans hrt) hq vS.2.2 d hlocks
      · refine W.aret (v := rl b G v) (rt := ty) B.exec B.bytes (B.returns.trans hrt) hty ?_ hq vS.2.2 d hlocks
        rcases hvv with rfl | ⟨a, rfl⟩
        · exact Or.inl rfl
        · exact Or.inr ⟨b + a, rfl⟩
    · exact absurd h0 (by decide)
theorem PXW.of {M : px_M} {as : List Value} {h : PH} {dn ds : Nat} {Q : Option Value → PH → Prop} (hp : plainName (px_own M) = true) (ha : (as.map fun v => v.category).sum ≤ px_nL M) (k : PW M (hn h + dn) (hs h + ds) (PXpost h dn ds Q) 0 (lv_args 0 as) [] h) : PXW M as h dn ds Q := by
  intro l b G hl
  refine va_MetW (hh := px_hh M) (cc := px_cc M) (maxL := px_nL M) (ret := px_rt M) hp rfl ?_
  intro p e s m args below meth c s₁ B hml hv
  obtain ⟨rfl, hRel, hKs, hO⟩ := hv
  have hts := atoms_spec (ws := px_wsW M) B.pre
  have hown : s.vm.findClass (px_own M) = some m.cls := findClass_of_methodNamed B.named
  have hlocks := B.notSynchronized
  have htab : c.exceptionTable.toList = tableOf (px_hh M) := vx_table (x := px_y M) B (hts _ List.mem_cons_self)
  have hl0 := lv_entry (as.map (rl b G)) (n := px_nL M) (by rw [px_sllen]; exact ha)
  rw [lg_entry_eq]
  generalize (lg_sl (as.map (rl b G)) ++ List.replicate (px_nL M - (lg_sl (as.map (rl b G))).length) Slot.unset).toArray = ls at hl0 ⊢
  rw [px_args] at hl0
  have K := k b G p l e (px_rm2 M dn ds) s m (as.map (rl b G)).toArray below meth c (hn h) (hs h) (MQ below (px_Qy b G h dn ds Q) (as.map (rl b G)).toArray s dn ds (fun q => b ≤ q))
    ⟨⟨B.exec, B.bytes, hml, hown, fun w hw => hts w (List.mem_cons_of_mem _ hw)⟩, hKs, ⟨hl, htab, fun hx hx2 => absurd hx2.1 (by decide)⟩, (name_of_methodNamed B.named B.method).1, ⟨Nat.le_refl _, Nat.le_refl _, Nat.le_refl _, Nat.le_refl _⟩, hRel.1, ?_⟩
    s.heap [] ls ⟨hRel, hO, va_S.rf, ⟨Nat.le_refl _, Nat.le_refl _, Nat.le_add_right _ _, Nat.le_add_right _ _⟩, hl0⟩
  · rw [Nat.sub_self, Nat.sub_self] at K
    exact K
  · intro k' r' pc st h'' H locs ls' ho hP hV
    obtain ⟨rfl, hQ, en, es⟩ := hP
    obtain ⟨vR, vO, vS, -, -⟩ := hV
    rw [en, es, Nat.add_sub_cancel_left, Nat.add_sub_cancel_left]
    have hq : ∀ t : State, t.heap = H → s.WarmedH t.vm → px_Qy b G h dn ds Q (as.map (rl b G)).toArray s (.returned (r'.map (rl b G))) t := fun t ht _ => ⟨r', h'', hQ, en, es, rfl, by rw [ht]; exact vR, fun q hq => by rw [ht]; exact vS.2.1 q (by rw [hRel.1]; omega) (Nat.not_le.mpr hq)⟩
    rcases ho with ⟨-, ho⟩ | ⟨h0, -⟩
    · rcases ho with ⟨d, v, ty, rfl, rfl, hrt, hnr⟩ | ⟨d, rfl, rfl, hrt⟩ | ⟨d, v, rfl, rfl, hrt⟩ | ⟨d, v, ty, rfl, rfl, hrt, hty, hvv⟩
      · exact W.zret (ty := ty) (v := v) B.exec B.bytes (B.returns.trans hrt) hnr hq vS.2.2 d hlocks
      · exact W.vret B.exec B.bytes (B.returns.trans hrt) hq vS.2.2 d hlocks
      · exact W.lret (v := v) B.exec B.bytes (B.returns.trans hrt) hq vS.2.2 d hlocks
      · refine W.aret (v := rl b G v) (rt := ty) B.exec B.bytes (B.returns.trans hrt) hty ?_ hq vS.2.2 d hlocks
        rcases hvv with rfl | ⟨a, rfl⟩
        · exact Or.inl rfl
        · exact Or.inr ⟨b + a, rfl⟩
    · exact absurd h0 (by decide)
theorem PM.toX {M : px_M} {as : List Value} {h h' : PH} {r : Option Value} {dn ds : Nat} (en : hn h' = hn h + dn) (es : hs h' = hs h + ds) (hM : PM M as h r h') : PX M as h dn ds (fun r' h'' => r' = r ∧ h'' = h') := by
  intro l b G hl
  obtain ⟨-, -, hM⟩ := hM
  have hM := hM l b G hl
  unfold px_rm at hM
  rw [en, es, Nat.add_sub_cancel_left, Nat.add_sub_cancel_left] at hM
  intro p e ha hc hk s m args below hf hpre hP hT
  obtain ⟨k, o, h1, h2, h3, ⟨q1, q2, q3⟩, h5⟩ := hM p e ha hc hk s m args below hf hpre hP hT
  exact ⟨k, o, h1, h2, h3, ⟨r, h', ⟨rfl, rfl⟩, en, es, q1, q2, q3⟩, h5⟩
theorem PX.weaken {M : px_M} {as : List Value} {h : PH} {dn ds : Nat} {Q Q' : Option Value → PH → Prop} (hM : PX M as h dn ds Q) (hq : ∀ r h', hn h' = hn h + dn → hs h' = hs h + ds → Q r h' → Q' r h') : PX M as h dn ds Q' := by
  intro l b G hl p e ha hc hk s m args below hf hpre hP hT
  obtain ⟨k, o, h1, h2, h3, ⟨r, h', q0, en, es, q1⟩, h5⟩ := hM l b G hl p e ha hc hk s m args below hf hpre hP hT
  exact ⟨k, o, h1, h2, h3, ⟨r, h', hq _ _ en es q0, en, es, q1⟩, h5⟩
section PXX
variable {M : px_M} {N1 S1 : Nat} {Post : Nat → Option Value → PH → Prop} {pc : Nat} {lv : List (Nat × Value)} {st : List Value} {h : PH}
theorem px_afterX {nL b : Nat} {G : px_G} {p : Program} {l : Launch} {e : Env} {R : Room} {s : State} {m : MethodId} {args a : Array Value} {below : List Frame} {meth : Method} {c : Code} {n0 s0 : Nat} {Q : State → Prop} {H : Heap} {locs : List Loc} {ls : Array Slot} {rest st0 : List Value} {dn ds : Nat} {Qx : Option Value → PH → Prop}
    (hrun : va_Run p l e R s m args below meth c H locs (hn h - n0) (hs h - s0) dn ds (F0 m pc ls st0) rest (px_Qy b G h dn ds Qx a) (fun q => b ≤ q)) (V : px_V nL N1 S1 b G s n0 s0 lv h H locs ls) (hb : s.heap.size = b + n0) (hN : hn h + dn ≤ N1 ∧ hs h + ds ≤ S1)
    (kk : ∀ (r : Option Value) (h' : PH), Qx r h' → hn h' = hn h + dn → hs h' = hs h + ds → ∀ (H1 : Heap) (locs1 : List Loc), px_V nL N1 S1 b G s n0 s0 lv h' H1 locs1 ls → W p l e R s m args below meth c H1 locs1 (hn h' - n0) (hs h' - s0) Q (F0 m (pc + 3) ls ((r.map (rl b G)).toList ++ rest))) : W p l e R s m args below meth c H locs (hn h - n0) (hs h - s0) Q (F0 m pc ls st0) := by
  intro T hT X
  obtain ⟨v, st₀, t, T', L, h0, X', hL, e1, e2, ⟨r, h', q0, en, es, q1, q2, q3⟩, stp⟩ := hrun T hT X
  have hv : v = r.map (rl b G) := Outcome.returned.inj q1
  subst hv
  have v1 := V.2.2.2.1
  have e3 : hn h - n0 + dn = hn h' - n0 := by omega
  have e4 : hs h - s0 + ds = hs h' - s0 := by omega
  rw [e3, e4] at X'
  have hq : ∀ q : Nat, q < b → T'.heap[q]? = H[q]? := fun q hq => by rw [e1, q3 q hq, h0]
  have hz : T'.heap.size = b + hn h' := by rw [e1]; exact q2.1
  obtain ⟨t2, a1, b1⟩ := kk r h' q0 en es T'.heap (locs ++ L) ⟨by rw [e1]; exact q2, V.2.1.kept (by rw [V.1.1]; omega) hq, ⟨by rw [hz, hb]; omega, fun q h1 h2 => (hq q (Nat.not_le.mp h2)).trans (V.2.2.1.2.1 q h1 h2), fun z hz => by
    rcases List.mem_append.mp hz with g | g
    · exact V.2.2.1.2.2 z g
    · exact hL z g⟩, ⟨by omega, by omega, by omega, by omega⟩, V.2.2.2.2⟩ T' rfl X'
  exact ⟨t2, stp t2 a1, b1⟩
theorem px_cbX {M' : px_M} {n ix dn ds : Nat} {R : Room} {s : State} {args : Array Value} (hts : ∀ w ∈ px_TB, w.before args s = true) (hok : px_ok M' n) (hl : Cond.methodLink (px_own M) ix (px_y M') ∈ px_TB) (hR : px_fr M' + 1 ≤ R.frames ∧ 8 + (px_nL M' + 11) + px_lo M' ≤ R.locals) :
    CallB R s args (px_own M) ix (px_y M') (px_cc M') (px_nL M') (px_rt M') (px_ws M') (px_rm2 M' dn ds) dn ds n :=
  callB_of n hts (px_gin hok) rfl rfl rfl (hts _ hok.2.1) (hts _ hl) ⟨hok.2.2.1.1, hok.2.2.1.2, hok.2.2.2⟩ hR
theorem px_fitX {nL b n0 s0 dn ds : Nat} {G : px_G} {p : Program} {l : Launch} {e : Env} {R : Room} {s : State} {m : MethodId} {args : Array Value} {below : List Frame} {meth : Method} {c : Code} {Q : State → Prop} {H : Heap} {locs : List Loc} {ls : Array Slot} (C : px_C M N1 S1 Post b G p l e R s m args below meth c n0 s0 Q) (V : px_V nL N1 S1 b G s n0 s0 lv h H locs ls) (hN : hn h + dn ≤ N1 ∧ hs h + ds ≤ S1) : hn h - n0 + dn ≤ R.cells ∧ hs h - s0 + ds ≤ R.slots := by
  have := C.2.2.2.2.1
  have := V.2.2.2.1
  omega
theorem px_callVX {M' : px_M} {as : List Value} {k ci n ix : Nat} {dn ds : Nat} {Qx : Option Value → PH → Prop} (hM : PX M' (.ref k :: as) h dn ds Qx) (d : decode (px_cc M) pc = .ok (.invokevirtual ix, 3)) (hl : Cond.methodLink (px_own M) ix (px_y M') ∈ px_TB) (hok : px_ok M' n) (hv : px_okV M') (ho : px_ob h k ci) (hc : ci < px_NC) (hcn : (px_CT ci).1 = px_own M') (hln : as.length = n) (hsum : (st.map fun v => v.category).sum ≤ 8) (hrm : px_fr M' + 1 ≤ px_fr M ∧ 19 + px_nL M' + px_lo M' ≤ px_lo M) (hN : hn h + dn ≤ N1 ∧ hs h + ds ≤ S1) (kk : ∀ (r : Option Value) (h' : PH), Qx r h' → hn h' = hn h + dn → hs h' = hs h + ds → PW M N1 S1 Post (pc + 3) lv (r.toList ++ st) h') : PW M N1 S1 Post pc lv (as.reverse ++ .ref k :: st) h := by
  intro b G p l e R s m args below meth c n0 s0 Q C H locs ls V
  refine px_afterX (va_runV (As := as.map (rl b G)) (rest := st.map (rl b G)) (b := b + k) (C := px_own M') (n := n) (g := F0 m pc ls ((as.reverse ++ .ref k :: st).map (rl b G))) C.1 (hM l b G C.2.2.1.1) ⟨px_cbX C.1.2.2.2.2 hok hl (px_room C hrm), C.1.2.2.2.2 _ hv.1, C.1.2.2.2.2 _ hv.2⟩ ⟨px_blind b G _ h, by rw [← hcn]; exact px_recv C.2.1 V.1 ho hc, px_pre C.2.1 V⟩ rfl (by rw [List.length_map]; exact hln) V.2.2.2.2.1 (px_stk b G as k st) (lv_room (by rw [rl_cats]; exact hsum)) d (px_fitX C V hN)) V C.2.2.2.2.2.1 hN (fun r h' q0 en es H1 locs1 V1 => ?_)
  rw [← px_tol]
  exact kk r h' q0 en es b G p l e R s m args below meth c n0 s0 Q C H1 locs1 ls V1
theorem px_callSX {M' : px_M} {as : List Value} {n ix : Nat} {dn ds : Nat} {Qx : Option Value → PH → Prop} (hM : PX M' as h dn ds Qx) (d : decode (px_cc M) pc = .ok (.invokestatic ix, 3)) (hl : Cond.methodLink (px_own M) ix (px_y M') ∈ px_TB) (hok : px_ok M' n) (hv : px_okS M') (hln : as.length = n) (hsum : (st.map fun v => v.category).sum ≤ 8) (hrm : px_fr M' + 1 ≤ px_fr M ∧ 19 + px_nL M' + px_lo M' ≤ px_lo M) (hN : hn h + dn ≤ N1 ∧ hs h + ds ≤ S1) (kk : ∀ (r : Option Value) (h' : PH), Qx r h' → hn h' = hn h + dn → hs h' = hs h + ds → PW M N1 S1 Post (pc + 3) lv (r.toList ++ st) h') : PW M N1 S1 Post pc lv (as.reverse ++ st) h := by
  intro b G p l e R s m args below meth c n0 s0 Q C H locs ls V
  refine px_afterX (va_runS (As := as.map (rl b G)) (rest := st.map (rl b G)) (n := n) (g := F0 m pc ls ((as.reverse ++ st).map (rl b G))) C.1 (hM l b G C.2.2.1.1) ⟨px_cbX C.1.2.2.2.2 hok hl (px_room C hrm), C.1.2.2.2.2 _ hv⟩ ⟨px_blind b G _ h, px_pre C.2.1 V⟩ rfl (by rw [List.length_map]; exact hln) V.2.2.2.2.1 (px_stkS b G as st) (lv_room (by rw [rl_cats]; exact hsum)) d (px_fitX C V hN)) V C.2.2.2.2.2.1 hN (fun r h' q0 en es H1 locs1 V1 => ?_)
  rw [← px_tol]
  exact kk r h' q0 en es b G p l e R s m args below meth c n0 s0 Q C H1 locs1 ls V1
theorem px_callSWX {M' : px_M} {as : List Value} {n ix : Nat} {dn ds : Nat} {Qx : Option Value → PH → Prop} (hM : PXW M' as h dn ds Qx) (d : decode (px_cc M) pc = .ok (.invokestatic ix, 3)) (hl : Cond.methodLink (px_own M) ix (px_y M') ∈ px_TB) (hok : px_okW M' n) (hln : as.length = n) (hsum : (st.map fun v => v.category).sum ≤ 8) (hrm : px_fr M' + 1 ≤ px_fr M ∧ 19 + px_nL M' + px_lo M' ≤ px_lo M) (hN : hn h + dn ≤ N1 ∧ hs h + ds ≤ S1) (kk : ∀ (r : Option Value) (h' : PH), Qx r h' → hn h' = hn h + dn → hs h' = hs h + ds → PW M N1 S1 Post (pc + 3) lv (r.toList ++ st) h') : PW M N1 S1 Post pc lv (as.reverse ++ st) h := by
  intro b G p l e R s m args below meth c n0 s0 Q C H locs ls V
  have hMt := hM l b G C.2.2.1.1
  have hgi : GoodIn px_TB (va_wsS (px_own M) ix (px_y M') (px_wsW M')) := fun w hw => by
    rcases List.mem_append.mp hw with g | g
    · rcases List.mem_cons.mp g with g | g
      · rw [g]; exact px_good _ hl
      · rcases List.mem_cons.mp g with g | g
        · rw [g]; exact px_good _ hok.2.2.2.2
        · rw [List.mem_singleton.mp g]; exact px_good _ hok.2.1
    · rcases List.mem_cons.mp g with g | g
      · rw [g]; exact px_good _ hok.1
      · exact px_good _ g
  refine px_afterX (vx_runSW (As := as.map (rl b G)) (rest := st.map (rl b G)) (n := n) (g := F0 m pc ls ((as.reverse ++ st).map (rl b G))) C.1 hMt (vx_cwSW n C.1.2.2.2.2 hgi rfl rfl rfl ⟨hok.2.2.1.1, hok.2.2.1.2, hok.2.2.2.1⟩ (px_room C hrm)) ⟨px_blind b G _ h, px_pre C.2.1 V⟩ rfl (by rw [List.length_map]; exact hln) V.2.2.2.2.1 (px_stkS b G as st) (lv_room (by rw [rl_cats]; exact hsum)) d (px_fitX C V hN)) V C.2.2.2.2.2.1 hN (fun r h' q0 en es H1 locs1 V1 => ?_)
  rw [← px_tol]
  exact kk r h' q0 en es b G p l e R s m args below meth c n0 s0 Q C H1 locs1 ls V1
end PXX
section PXD
variable {M : px_M} {N1 S1 : Nat} {Post : Nat → Option Value → PH → Prop} {pc : Nat} {lv : List (Nat × Value)} {st : List Value} {h : PH}
theorem px_tabD {dflt lo hi : Int} {offs : Array Int} {len : Nat} {x : Int32} {tgt : Nat} (keys : List Int) (d : decode (px_cc M) pc = .ok (.tableswitch dflt lo hi offs, len)) (hz : (offs.size : Int) = hi - lo + 1) (hk : ∀ i, i < offs.size → offs[i]? = some dflt ∨ (lo + (i : Int)) ∈ keys) (hx : x.toInt ∉ keys) (ht : (pc : Int) + dflt = (tgt : Int)) (k : PW M N1 S1 Post tgt lv st h) : PW M N1 S1 Post pc lv (.int x :: st) h := by
  by_cases h1 : x.toInt < lo ∨ hi < x.toInt
  · exact px_tabO d h1 ht k
  · have h2 : ¬ x.toInt < lo := fun q => h1 (Or.inl q)
    have h3 : ¬ hi < x.toInt := fun q => h1 (Or.inr q)
    have e : lo + (((x.toInt - lo).toNat : Nat) : Int) = x.toInt := by omega
    rcases hk (x.toInt - lo).toNat (by omega) with g | g
    · exact px_tabI d h2 h3 g ht k
    · rw [e] at g
      exact absurd g hx
theorem px_neT {x : Int32} {a : Int} (v : Int32) (hv : v.toInt = a) (hne : ¬ x = v) : x.toInt ≠ a := fun q => hne (Int32.toInt_inj.mp (q.trans hv.symm))
end PXD
