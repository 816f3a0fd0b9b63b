/-! ===== what throws, and where it is caught ===== -/
def px_X : String := "java/util/NoSuchElementException"
def px_Xn : List String := ["java/lang/RuntimeException", "java/lang/Exception"]
def px_Xc (b : Nat) (G : px_G) (h' : PH) : String → State → State → Prop := fun E st t => E = px_X ∧ px_Rel b G h' t.heap ∧ ∀ q : Nat, q < b → t.heap[q]? = st.heap[q]?
/-- called with 'as' in the heap h it throws, and leaves h' -/
def PT (M : px_M) (as : List Value) (h h' : PH) : Prop := hn h ≤ hn h' ∧ hs h ≤ hs h' ∧ ∀ (l : Launch) (b : Nat) (G : px_G), l.stackTraces = false →
  vx_Met l (px_y M) (px_ws M) (px_rm M h h') (px_Pc b G as h) (fun _ _ _ _ => False) (px_Xc b G h') (hn h' - hn h) (hs h' - hs h) (fun q => b ≤ q)
def px_XB : List Cond := px_CA.map (fun q => .castable q.1 q.2) ++ px_DE.map (fun x => .declares x)
theorem px_XB_ok {G : px_G} {s : State} {args : Array Value} (hK : px_K G s) : ∀ w ∈ px_XB, w.before args s = true := by
  intro w hw
  rcases List.mem_append.mp hw with h | h
  · obtain ⟨q, hq, rfl⟩ := List.mem_map.mp h
    exact va_Nw.use rfl (hK.2.2.2.2.2.1 q hq)
  · obtain ⟨x, hx, rfl⟩ := List.mem_map.mp h
    exact va_Nw.use rfl (hK.2.2.2.2.2.2 x hx)
theorem px_th1 : ∀ w ∈ (px_atX "PennyBank" px_ic px_X px_xi px_xr px_Xn).filter goodWord, w ∈ px_TB := by decide +kernel
theorem px_th2 : ∀ w ∈ (px_atX "PennyBank" px_ic px_X px_xi px_xr px_Xn).filter (fun w => !goodWord w), w ∈ px_XB := by decide +kernel
theorem px_th3 : ∀ w ∈ Cond.classLink "PennyBank" px_ik px_X :: Cond.initialized px_X :: px_atX "PennyBank" px_ic px_X px_xi px_xr px_Xn, vx_ot w = true := by decide +kernel
theorem px_th4 : Cond.classLink "PennyBank" px_ik px_X ∈ px_TB := by decide +kernel
theorem px_th5 : Cond.initialized px_X ∈ px_TB := by decide +kernel
theorem px_throw {M : px_M} {N1 S1 : Nat} {Post : Nat → Option Value → PH → Prop} {pc : Nat} {lv : List (Nat × Value)} {h : PH} {is sa : Nat} {tx : String} (d0 : decode (px_cc M) pc = .ok (.new px_ik, 3)) (d1 : decode (px_cc M) (pc + 3) = .ok (.dup, 1)) (d2 : decode (px_cc M) (pc + 4) = .ok (.ldc is, 2)) (d3 : decode (px_cc M) (pc + 6) = .ok (.invokespecial px_ic, 3)) (d4 : decode (px_cc M) (pc + 9) = .ok (.athrow, 1)) (ho : px_own M = "PennyBank") (hs1 : ("PennyBank", is, tx, sa) ∈ px_SR) (hf : 8 ≤ px_fr M) (hlo : 116 ≤ px_lo M) (h1 : hn h + 1 ≤ N1) (h2 : hs h + 6 ≤ S1) (hP : Post 1 none h) : PW M N1 S1 Post pc lv [] h :=
  fun b G p l e R s m args below meth c n0 s0 Q C H locs ls V => C.2.2.2.2.2.2 1 none pc [] h H locs ls (Or.inr ⟨rfl, rfl, rfl, ho, hf, hlo, h1, h2, is, sa, tx, hs1, d0, d1, d2, d3, d4⟩) hP ⟨V.1, V.2.1, V.2.2.1, V.2.2.2.1, V.2.2.2.2.1, V.2.2.2.2.2.1, fun _ hq => nomatch hq⟩
def PTpost (h' : PH) : Nat → Option Value → PH → Prop := fun k _ h'' => k = 1 ∧ pN h'' 30 0 6 = h'
theorem PT.of {M : px_M} {as : List Value} {h h' : PH} (hp : plainName (px_own M) = true) (hw : px_own M ≠ "PennyBankLaw") (h1 : hn h ≤ hn h') (h2 : hs h ≤ hs h') (ha : (as.map fun v => v.category).sum ≤ px_nL M) (k : PW M (hn h') (hs h') (PTpost h') 0 (lv_args 0 as) [] h) : PT M as h h' := by
  refine ⟨h1, h2, fun l b G hl => ?_⟩
  refine vx_ofW (cc := px_cc M) (maxL := px_nL M) (ret := px_rt M) hp rfl ?_
  intro p e s m args below meth c s₁ B hml ht0 hv
  obtain ⟨rfl, hRel, hKs, hO⟩ := hv
  have hts := atoms_spec (ws := px_ws M) B.pre
  have hown : s.vm.findClass (px_own M) = some m.cls := findClass_of_methodNamed B.named
  have hlocks := B.notSynchronized
  have htab : c.exceptionTable.toList = tableOf (px_hh M) := by
    unfold px_hh
    rw [if_neg hw]
    exact List.eq_nil_iff_forall_not_mem.mpr ht0
  have hl0 := lv_entry (as.map (rl b G)) (n := px_nL M) (by rw [px_sllen]; exact ha)
  rw [lg_entry_eq]
  generalize (lg_sl (as.map (rl b G)) ++ List.replicate (px_nL M - (lg_sl (as.map (rl b G))).length) Slot.unset).toArray = ls at hl0 ⊢
  rw [px_args] at hl0
  have K := k b G p l e (px_rm M h h') s m (as.map (rl b G)).toArray below meth c (hn h) (hs h) (vx_MQ below (fun _ _ _ _ => False) (px_Xc b G h') (as.map (rl b G)).toArray s (hn h' - hn h) (hs h' - hs h) (fun q => b ≤ q))
    ⟨⟨B.exec, B.bytes, hml, hown, fun w hw => hts w (List.mem_cons_of_mem _ hw)⟩, hKs, ⟨hl, htab, fun hx hx2 => absurd hx2.1 (by decide)⟩, (name_of_methodNamed B.named B.method).1, ⟨Nat.le_refl _, Nat.le_refl _, by show hn h' ≤ hn h + (hn h' - hn h); omega, by show hs h' ≤ hs h + (hs h' - hs h); omega⟩, hRel.1, ?_⟩
    s.heap [] ls ⟨hRel, hO, va_S.rf, ⟨Nat.le_refl _, Nat.le_refl _, h1, h2⟩, hl0⟩
  · rw [Nat.sub_self, Nat.sub_self] at K
    exact K
  · intro k' r' pc st h'' H locs ls' ho hP hV
    obtain ⟨rfl, rfl⟩ := hP
    obtain ⟨vR, vO, vS, vN, vL⟩ := hV
    rcases ho with ⟨h0, -⟩ | ⟨-, -, rfl, eo, hf, hlo, hc1, hs1, is, sa, tx, hsr, d0, d1, d2, d3, d4⟩
    · exact absurd h0 (by decide)
    · have htb : ∀ w ∈ px_TB, w.before (as.map (rl b G)).toArray s = true := fun w hw => hts w (List.mem_cons_of_mem _ hw)
      have e5 : hn (pN h'' 30 0 6) = hn h'' + 1 := rfl
      have e6 : hs (pN h'' 30 0 6) = hs h'' + 6 := rfl
      rw [eo] at hown
      refine px_throwS (cls := px_X) (names := px_Xn) (A := fun q => b ≤ q) B.exec B.bytes hl (ix := px_xi) (rx := px_xr) (by decide +kernel) (by decide +kernel) (by decide +kernel) (by decide +kernel) hown (by decide +kernel) (by decide +kernel) (htb _ px_th4) (htb _ px_th5) (hKs.2.2.2.1 _ hsr) (vx_hat (fun w hw => htb w (px_th1 w hw)) px_th2 (px_XB_ok hKs)) px_th3 hO.2.2.2.2.1 hO.2.2.2.2.2 vS (by rw [hml]; exact vL.1) d0 d1 d2 d3 d4 (fun x hx => (ht0 x hx).elim) ?_ ?_ ?_ ?_ hlocks ?_ vS.2.2 ?_ ?_
      · show 2 + 3 < px_fr M; omega
      · show 0 + (13 * 3 + 43) ≤ px_lo M; omega
      · show hn h'' - hn h + 1 ≤ hn (pN h'' 30 0 6) - hn h; omega
      · show hs h'' - hs h + 6 ≤ hs (pN h'' 30 0 6) - hs h; omega
      · intro t ht hz hk
        refine ⟨rfl, px_mkR vR hz hk ?_, fun q hq => (hk q (by rw [vR.1]; omega)).trans (vS.2.1 q (by rw [hRel.1]; omega) (Nat.not_le.mpr hq))⟩
        unfold px_at
        rw [show hK (pN h'' 30 0 6) (hn h'') = (30, 0) from up1_s]
        trivial
      · show hn h'' - hn h + 1 ≤ hn (pN h'' 30 0 6) - hn h; omega
      · show hs h'' - hs h + 6 ≤ hs (pN h'' 30 0 6) - hs h; omega
section PXT
variable {M : px_M} {N1 S1 : Nat} {Post : Nat → Option Value → PH → Prop} {pc : Nat} {lv : List (Nat × Value)} {st : List Value} {h : PH}
theorem px_caX : (px_X, px_X) ∈ px_CA := by decide +kernel
/-- a call that throws, caught by the method's one row; the exception goes into a local that is not read -/
theorem px_tryV {M' : px_M} {as : List Value} {k ci n ix i len a0 e0 hp ct : Nat} {h' : PH} (hM : PT M' (.ref k :: as) h h') (d : decode (px_cc M) pc = .ok (.invokevirtual ix, 3)) (hl : Cond.methodLink (px_own M) ix (px_y M') ∈ px_TB) (hok : px_ok M' n) (hv : px_okV M') (ho : px_ob h k ci) (hc : ci < px_NC) (hcn : (px_CT ci).1 = px_own M') (hln : as.length = n) (hsum : (st.map fun v => v.category).sum ≤ 8) (hrm : px_fr M' + 1 ≤ px_fr M ∧ 19 + px_nL M' + px_lo M' ≤ px_lo M) (hN : hn h' ≤ N1 ∧ hs h' ≤ S1)
    (hh : px_hh M = [(a0, e0, hp, ct)]) (hcov : covers ⟨a0, e0, hp, ct⟩ pc = true) (hct : ct ≠ 0) (hcl : Cond.classLink (px_own M) ct px_X ∈ px_TB) (hi : i < px_nL M) (da : (decode (px_cc M) hp = .ok (.astore i, 2) ∧ len = 2) ∨ (∃ j : Fin 4, (j : Nat) = i ∧ decode (px_cc M) hp = .ok (.astore_n j, 1) ∧ len = 1))
    (kk : PW M N1 S1 Post (hp + len) (lv.filter (px_keep i false)) [] h') : PW M N1 S1 Post pc lv (as.reverse ++ .ref k :: st) h := by
  intro b G p l e R s m args below meth c n0 s0 Q C H locs ls V
  obtain ⟨m1, m2, hMet⟩ := hM
  have hMt := hMet l b G C.2.2.1.1
  have hts := C.1.2.2.2.2
  have hb := C.2.2.2.2.2.1
  have v1 := V.2.2.2.1
  have hrun := vx_runV (As := as.map (rl b G)) (rest := st.map (rl b G)) (b := b + k) (C := px_own M') (n := n) (locs := locs) (cells := hn h - n0) (slots := hs h - s0) (e := e) (below := below) (meth := meth) (g := F0 m pc ls ((as.reverse ++ .ref k :: st).map (rl b G))) C.1 hMt ⟨px_cb0 C.1.2.2.2.2 hok hl (px_room C hrm), C.1.2.2.2.2 _ hv.1, C.1.2.2.2.2 _ hv.2⟩ ⟨px_blind b G _ h, by rw [← hcn]; exact px_recv C.2.1 V.1 ho hc, px_pre C.2.1 V⟩ rfl (by rw [List.length_map]; exact hln) V.2.2.2.2.1 (px_stk b G as k st) (lv_room (by rw [rl_cats]; exact hsum)) d (px_fit C V m1 m2 hN)
  intro T hT X
  rcases hrun T hT X with ⟨v, st₀, t, T', L, h0, X', hL, e1, e2, hF, stp⟩ | ⟨q, st₀, t, T', L, E, ce, h0, X', hL, e1, e2, ⟨rfl, q2, q3⟩, hce, hcv, hcl9, stp⟩
  · exact hF.elim
  · have e3 : hn h - n0 + (hn h' - hn h) = hn h' - n0 := by omega
    have e4 : hs h - s0 + (hs h' - hs h) = hs h' - s0 := by omega
    rw [e3, e4] at X'
    have hq : ∀ q : Nat, q < b → T'.heap[q]? = H[q]? := fun q hq => by rw [e1, q3 q hq, h0]
    have hz : T'.heap.size = b + hn h' := by rw [e1]; exact q2.1
    have V1 : px_V (px_nL M) N1 S1 b G s n0 s0 lv h' T'.heap (locs ++ L) ls := ⟨by rw [e1]; exact q2, V.2.1.kept (by rw [V.1.1]; omega) hq, ⟨by rw [hz, hb]; omega, fun q h1 h2 => (hq q (Nat.not_le.mp h2)).trans (V.2.2.1.2.1 q h1 h2), fun z hz => by
      rcases List.mem_append.mp hz with g | g
      · exact V.2.2.1.2.2 z g
      · exact hL z g⟩, ⟨by omega, by omega, hN.1, hN.2⟩, V.2.2.2.2⟩
    have hend : ∀ ls9 : Array Slot, lv_has ls9 (px_nL M) ((i, Value.ref q) :: (px_lv b G lv).filter (fun q => !(q.1 == i) && !(q.1 + 1 == i && q.2.category == 2))) → W p l e R s m args below meth c T'.heap (locs ++ L) (hn h' - n0) (hs h' - s0) Q (F0 m (hp + len) ls9 []) := fun ls9 hl9 =>
      kk b G p l e R s m args below meth c n0 s0 Q C T'.heap (locs ++ L) ls9 ⟨V1.1, V1.2.1, V1.2.2.1, V1.2.2.2.1, hl9.1, hl9.2.1, fun z hz => by
        obtain ⟨y, hy, rfl⟩ := List.mem_map.mp hz
        obtain ⟨y1, y2⟩ := List.mem_filter.mp hy
        exact hl9.2.2 _ (List.mem_cons_of_mem _ (List.mem_filter.mpr ⟨List.mem_map.mpr ⟨y, y1, rfl⟩, px_keep1 y y2⟩))⟩
    have hW : W p l e R s m args below meth c T'.heap (locs ++ L) (hn h' - n0) (hs h' - s0) Q (F0 m hp ls [.ref q]) := by
      rcases da with ⟨d1, rfl⟩ | ⟨j, hj, d1, rfl⟩
      · exact lv_astore C.1.1 C.1.2.1 d1 V.2.2.2.2 hi rfl hend
      · exact lv_astore_n C.1.1 C.1.2.1 d1 hj V.2.2.2.2 hi rfl hend
    have hX := vx_catch (pc := pc) (ls := ls) (rest := st.map (rl b G)) C.1.2.2.2.1 [] ⟨a0, e0, hp, ct⟩ [] (by rw [C.2.2.1.2.1, hh]; rfl) (fun z hz => nomatch hz) hcov hct (hts _ hcl) (va_Nw.use rfl (C.2.1.2.2.2.2.2.1 _ px_caX)) (by rw [e1]; exact hce) hcv hcl9 hW
    obtain ⟨t2, a1, b1⟩ := hX T' rfl X'
    exact ⟨t2, stp.trans a1, b1⟩
end PXT
/-! methods with a table of their own -/
def px_wsW (M : px_M) : List Cond := .codeWith (px_y M) (px_cc M) (px_nL M) (px_rt M) (px_hh M) :: px_TB
def PMW (M : px_M) (as : List Value) (h : PH) (r : Option Value) (h' : PH) : Prop := hn h ≤ hn h' ∧ hs h ≤ hs h' ∧ ∀ (l : Launch) (b : Nat) (G : px_G), l.stackTraces = false →
  Met l (px_y M) (px_wsW M) (px_rm M h h') (px_Pc b G as h) (px_Qc b G r h') (hn h' - hn h) (hs h' - hs h) (fun q => b ≤ q)
theorem PMW.of {M : px_M} {as : List Value} {h h' : PH} {r : Option Value} (hp : plainName (px_own M) = true) (h1 : hn h ≤ hn h') (h2 : hs h ≤ hs h') (ha : (as.map fun v => v.category).sum ≤ px_nL M) (k : PW M (hn h') (hs h') (PMpost r h') 0 (lv_args 0 as) [] h) : PMW M as h r h' := by
  refine ⟨h1, h2, fun l b G hl => ?_⟩
  refine va_MetW (hh := px_hh M) (cc := px_cc M) (maxL := px_nL M) (ret := px_rt M) hp rfl ?_
  intro p e s m args below meth c s₁ B hml hv
  obtain ⟨rfl, hRel, hKs, hO⟩ := hv
  have hts := atoms_spec (ws := px_wsW M) B.pre
  have hown : s.vm.findClass (px_own M) = some m.cls := findClass_of_methodNamed B.named
  have hlocks := B.notSynchronized
  have htab : c.exceptionTable.toList = tableOf (px_hh M) := vx_table (x := px_y M) B (hts _ List.mem_cons_self)
  have hl0 := lv_entry (as.map (rl b G)) (n := px_nL M) (by rw [px_sllen]; exact ha)
  rw [lg_entry_eq]
  generalize (lg_sl (as.map (rl b G)) ++ List.replicate (px_nL M - (lg_sl (as.map (rl b G))).length) Slot.unset).toArray = ls at hl0 ⊢
  rw [px_args] at hl0
  have K := k b G p l e (px_rm M h h') s m (as.map (rl b G)).toArray below meth c (hn h) (hs h) (MQ below (px_Qc b G r h') (as.map (rl b G)).toArray s (hn h' - hn h) (hs h' - hs h) (fun q => b ≤ q))
    ⟨⟨B.exec, B.bytes, hml, hown, fun w hw => hts w (List.mem_cons_of_mem _ hw)⟩, hKs, ⟨hl, htab, fun hx hx2 => absurd hx2.1 (by decide)⟩, (name_of_methodNamed B.named B.method).1, ⟨Nat.le_refl _, Nat.le_refl _, by show hn h' ≤ hn h + (hn h' - hn h); omega, by show hs h' ≤ hs h + (hs h' - hs h); omega⟩, hRel.1, ?_⟩
    s.heap [] ls ⟨hRel, hO, va_S.rf, ⟨Nat.le_refl _, Nat.le_refl _, h1, h2⟩, hl0⟩
  · rw [Nat.sub_self, Nat.sub_self] at K
    exact K
  · intro k' r' pc st h'' H locs ls' ho hP hV
    obtain ⟨rfl, rfl, rfl⟩ := hP
    obtain ⟨vR, vO, vS, -, -⟩ := hV
    have hq : ∀ t : State, t.heap = H → s.WarmedH t.vm → px_Qc b G r' h'' (as.map (rl b G)).toArray s (.returned (r'.map (rl b G))) t := fun t ht _ => ⟨rfl, by rw [ht]; exact vR, fun q hq => by rw [ht]; exact vS.2.1 q (by rw [hRel.1]; omega) (Nat.not_le.mpr hq)⟩
    rcases ho with ⟨-, ho⟩ | ⟨h0, -⟩
    · rcases ho with ⟨d, v, ty, rfl, rfl, hrt, hnr⟩ | ⟨d, rfl, rfl, hrt⟩ | ⟨d, v, rfl, rfl, hrt⟩ | ⟨d, v, ty, rfl, rfl, hrt, hty, hvv⟩
      · exact W.zret (ty := ty) (v := v) B.exec B.bytes (B.returns.trans hrt) hnr hq vS.2.2 d hlocks
      · exact W.vret B.exec B.bytes (B.returns.trans hrt) hq vS.2.2 d hlocks
      · exact W.lret (v := v) B.exec B.bytes (B.returns.trans hrt) hq vS.2.2 d hlocks
      · refine W.aret (v := rl b G v) (rt := ty) B.exec B.bytes (B.returns.trans hrt) hty ?_ hq vS.2.2 d hlocks
        rcases hvv with rfl | ⟨a, rfl⟩
        · exact Or.inl rfl
        · exact Or.inr ⟨b + a, rfl⟩
    · exact absurd h0 (by decide)
section PXU
variable {M : px_M} {N1 S1 : Nat} {Post : Nat → Option Value → PH → Prop} {pc : Nat} {lv : List (Nat × Value)} {st : List Value} {h : PH}
def px_okW (M : px_M) (n : Nat) : Prop := Cond.codeWith (px_y M) (px_cc M) (px_nL M) (px_rt M) (px_hh M) ∈ px_TB ∧ Cond.initialized (px_own M) ∈ px_TB ∧ (px_own M ≠ "java/lang/invoke/MethodHandle" ∧ px_own M ≠ "java/lang/invoke/VarHandle") ∧ (parseMethodDescriptor (px_y M).desc).map (fun d => d.parameters.length) = some n ∧ Cond.static (px_y M) ∈ px_TB
theorem px_callSW {M' : px_M} {as : List Value} {n ix : Nat} {r : Option Value} {h' : PH} (hM : PMW M' as h r h') (d : decode (px_cc M) pc = .ok (.invokestatic ix, 3)) (hl : Cond.methodLink (px_own M) ix (px_y M') ∈ px_TB) (hok : px_okW M' n) (hln : as.length = n) (hsum : (st.map fun v => v.category).sum ≤ 8) (hrm : px_fr M' + 1 ≤ px_fr M ∧ 19 + px_nL M' + px_lo M' ≤ px_lo M) (hN : hn h' ≤ N1 ∧ hs h' ≤ S1) (kk : PW M N1 S1 Post (pc + 3) lv (r.toList ++ st) h') : PW M N1 S1 Post pc lv (as.reverse ++ st) h := by
  intro b G p l e R s m args below meth c n0 s0 Q C H locs ls V
  obtain ⟨m1, m2, hMet⟩ := hM
  have hMt := hMet l b G C.2.2.1.1
  have hgi : GoodIn px_TB (va_wsS (px_own M) ix (px_y M') (px_wsW M')) := fun w hw => by
    rcases List.mem_append.mp hw with g | g
    · rcases List.mem_cons.mp g with g | g
      · rw [g]; exact px_good _ hl
      · rcases List.mem_cons.mp g with g | g
        · rw [g]; exact px_good _ hok.2.2.2.2
        · rw [List.mem_singleton.mp g]; exact px_good _ hok.2.1
    · rcases List.mem_cons.mp g with g | g
      · rw [g]; exact px_good _ hok.1
      · exact px_good _ g
  refine px_after (vx_runSW (As := as.map (rl b G)) (rest := st.map (rl b G)) (n := n) (g := F0 m pc ls ((as.reverse ++ st).map (rl b G))) C.1 hMt (vx_cwSW n C.1.2.2.2.2 hgi rfl rfl rfl ⟨hok.2.2.1.1, hok.2.2.1.2, hok.2.2.2.1⟩ (px_room C hrm)) ⟨px_blind b G _ h, px_pre C.2.1 V⟩ rfl (by rw [List.length_map]; exact hln) V.2.2.2.2.1 (px_stkS b G as st) (lv_room (by rw [rl_cats]; exact hsum)) d (px_fit C V m1 m2 hN)) V C.2.2.2.2.2.1 m1 m2 hN (fun H1 locs1 V1 => ?_)
  rw [← px_tol]
  exact kk b G p l e R s m args below meth c n0 s0 Q C H1 locs1 ls V1
/-! the script -/
theorem px_slen {hx : PH} (d : decode (px_cc M) pc = .ok (.arraylength, 1)) (hX : Post 2 none hx) (kk : PW M N1 S1 Post (pc + 1) lv (.int (nI (hn hx)) :: st) h) : PW M N1 S1 Post pc lv (.retAddr 0 :: st) h := by
  intro b G p l e R s m args below meth c n0 s0 Q C H locs ls V
  obtain ⟨scr, g1, g2, g3, g4, g5⟩ := V.2.1.2.1
  exact W.alen (n := nI (hn hx)) C.1.1 C.1.2.1 g1 g2 (by rw [g4, (C.2.2.1.2.2 hx hX).1]; rfl) rfl rfl d (kk b G p l e R s m args below meth c n0 s0 Q C H locs ls V)
theorem px_sld {hx : PH} {i : Int32} {j : Nat} (d : decode (px_cc M) pc = .ok (.iaload, 1)) (hX : Post 2 none hx) (hi : i = nI j) (hl : j < hn hx) (hb : hn hx ≤ 1000000) (kk : PW M N1 S1 Post (pc + 1) lv (.int (hI hx 0 j) :: st) h) : PW M N1 S1 Post pc lv (.int i :: .retAddr 0 :: st) h := by
  intro b G p l e R s m args below meth c n0 s0 Q C H locs ls V
  obtain ⟨hin, hcl⟩ := px_ix hi hl hb
  obtain ⟨scr, g1, g2, g3, g4, g5⟩ := V.2.1.2.1
  obtain ⟨x1, x2⟩ := C.2.2.1.2.2 hx hX
  exact W.iald (v := .int (hI hx 0 j)) C.1.1 C.1.2.1 g1 g2 g3 (by rw [g4, x1]; exact hin) (by rw [hcl, g5 j (by rw [x1]; exact hl), x2]) rfl rfl d (kk b G p l e R s m args below meth c n0 s0 Q C H locs ls V)
end PXU
