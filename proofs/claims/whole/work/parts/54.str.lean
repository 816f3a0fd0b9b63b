def M_J0_checkIndex_df160 : px_M := (⟨"java/lang/String", "checkIndex", "(II)V"⟩, prog_20_method_155_code, 2, none, 1, 22)
theorem d_J0_checkIndex_df160_0 : decode (px_cc M_J0_checkIndex_df160) 0 = .ok (.iload_n 0, 1) := by decide +kernel
theorem d_J0_checkIndex_df160_1 : decode (px_cc M_J0_checkIndex_df160) 1 = .ok (.iload_n 1, 1) := by decide +kernel
theorem d_J0_checkIndex_df160_2 : decode (px_cc M_J0_checkIndex_df160) 2 = .ok (.getstatic 1053, 3) := by decide +kernel
theorem d_J0_checkIndex_df160_5 : decode (px_cc M_J0_checkIndex_df160) 5 = .ok (.invokestatic 1059, 3) := by decide +kernel
theorem d_J0_checkIndex_df160_8 : decode (px_cc M_J0_checkIndex_df160) 8 = .ok (.pop, 1) := by decide +kernel
theorem d_J0_checkIndex_df160_9 : decode (px_cc M_J0_checkIndex_df160) 9 = .ok (.return_, 1) := by decide +kernel
theorem ok_J0_checkIndex_df160 : px_ok M_J0_checkIndex_df160 2 := ⟨px_t1 449 (by decide +kernel) rfl, px_t1 13 (by decide +kernel) rfl, ⟨by decide +kernel, by decide +kernel⟩, by decide +kernel⟩
theorem os_J0_checkIndex_df160 : px_okS M_J0_checkIndex_df160 := px_t1 448 (by decide +kernel) rfl
def M_J3_checkIndex_8e157 : px_M := (⟨"jdk/internal/util/Preconditions", "checkIndex", "(IILjava/util/function/BiFunction;)I"⟩, prog_27_method_11_code, 3, (some (.int)), 0, 0)
theorem d_J3_checkIndex_8e157_0 : decode (px_cc M_J3_checkIndex_8e157) 0 = .ok (.iload_n 0, 1) := by decide +kernel
theorem d_J3_checkIndex_8e157_1 : decode (px_cc M_J3_checkIndex_8e157) 1 = .ok (.ifCond .lt 8, 3) := by decide +kernel
theorem d_J3_checkIndex_8e157_4 : decode (px_cc M_J3_checkIndex_8e157) 4 = .ok (.iload_n 0, 1) := by decide +kernel
theorem d_J3_checkIndex_8e157_5 : decode (px_cc M_J3_checkIndex_8e157) 5 = .ok (.iload_n 1, 1) := by decide +kernel
theorem d_J3_checkIndex_8e157_6 : decode (px_cc M_J3_checkIndex_8e157) 6 = .ok (.if_icmp .lt 10, 3) := by decide +kernel
theorem d_J3_checkIndex_8e157_9 : decode (px_cc M_J3_checkIndex_8e157) 9 = .ok (.aload_n 2, 1) := by decide +kernel
theorem d_J3_checkIndex_8e157_10 : decode (px_cc M_J3_checkIndex_8e157) 10 = .ok (.iload_n 0, 1) := by decide +kernel
theorem d_J3_checkIndex_8e157_11 : decode (px_cc M_J3_checkIndex_8e157) 11 = .ok (.iload_n 1, 1) := by decide +kernel
theorem d_J3_checkIndex_8e157_12 : decode (px_cc M_J3_checkIndex_8e157) 12 = .ok (.invokestatic 95, 3) := by decide +kernel
theorem d_J3_checkIndex_8e157_15 : decode (px_cc M_J3_checkIndex_8e157) 15 = .ok (.athrow, 1) := by decide +kernel
theorem d_J3_checkIndex_8e157_16 : decode (px_cc M_J3_checkIndex_8e157) 16 = .ok (.iload_n 0, 1) := by decide +kernel
theorem d_J3_checkIndex_8e157_17 : decode (px_cc M_J3_checkIndex_8e157) 17 = .ok (.ireturn, 1) := by decide +kernel
theorem ok_J3_checkIndex_8e157 : px_ok M_J3_checkIndex_8e157 3 := ⟨px_t1 454 (by decide +kernel) rfl, px_t1 15 (by decide +kernel) rfl, ⟨by decide +kernel, by decide +kernel⟩, by decide +kernel⟩
theorem os_J3_checkIndex_8e157 : px_okS M_J3_checkIndex_8e157 := px_t1 453 (by decide +kernel) rfl
theorem lk_J0_1059 : Cond.methodLink "java/lang/String" 1059 (px_y M_J3_checkIndex_8e157) ∈ px_TB := px_t1 452 (by decide +kernel) rfl
theorem fs_9 : Cond.fieldLink "java/lang/String" 9 "java/lang/String" "value" "[B" ∈ px_TB := px_t1 1307 (by decide +kernel) rfl
theorem fs_15 : Cond.fieldLink "java/lang/String" 15 "java/lang/String" "coder" "B" ∈ px_TB := px_t1 1308 (by decide +kernel) rfl
theorem fs_38 : Cond.fieldLink "java/lang/String" 38 "java/lang/String" "COMPACT_STRINGS" "Z" ∈ px_TB := px_t1 434 (by decide +kernel) rfl
theorem fs_1053 : Cond.fieldLink "java/lang/String" 1053 "jdk/internal/util/Preconditions" "SIOOBE_FORMATTER" "Ljava/util/function/BiFunction;" ∈ px_TB := px_t1 450 (by decide +kernel) rfl
theorem ac_nat : Cond.native arraycopyName ∈ px_TB := px_t1 536 (by decide +kernel) rfl
theorem ac_sta : Cond.static arraycopyName ∈ px_TB := px_t1 535 (by decide +kernel) rfl
theorem ac_ini : Cond.initialized "java/lang/System" ∈ px_TB := px_t1 20 (by decide +kernel) rfl
section PXS
variable {M : px_M} {N1 S1 : Nat} {Post : Nat → Option Value → PH → Prop} {pc : Nat} {lv : List (Nat × Value)} {st : List Value} {h : PH}
theorem px_vallS {v w : Value} (e : v = w) (k : PW M N1 S1 Post pc lv (w :: st) h) : PW M N1 S1 Post pc lv (v :: st) h := by subst e; exact k
theorem px_ldcS {is sa : Nat} {tx : String} (d : decode (px_cc M) pc = .ok (.ldc is, 2)) (hs : (px_own M, is, tx, sa) ∈ px_SR) (kk : PW M N1 S1 Post (pc + 2) lv (.retAddr sa :: st) h) : PW M N1 S1 Post pc lv st h := by
  intro b G p l e R s m args below meth c n0 s0 Q C H locs ls V
  exact va_ldcS C.1.1 C.1.2.1 C.1.2.2.2.1 (C.2.1.2.2.2.1 _ hs) d (kk b G p l e R s m args below meth c n0 s0 Q C H locs ls V)
theorem px_getsC {ix : Nat} (d : decode (px_cc M) pc = .ok (.getstatic ix, 3)) (hl : Cond.fieldLink (px_own M) ix "java/lang/String" "COMPACT_STRINGS" "Z" ∈ px_TB) (kk : PW M N1 S1 Post (pc + 3) lv (.int 1 :: st) h) : PW M N1 S1 Post pc lv st h := by
  intro b G p l e R s m args below meth c n0 s0 Q C H locs ls V
  obtain ⟨cf, kf, fi, f, a, cell, h1, h2, h3, h4, h5, h6, h7, h8⟩ := V.2.1.2.2.2.1.1
  exact W.gets C.1.1 C.1.2.1 C.1.2.2.2.1 (C.1.2.2.2.2 _ hl) h1 h2 h3 h4 h5 (fun e => by rw [e] at h6; cases h6) h7 rfl d (kk b G p l e R s m args below meth c n0 s0 Q C H locs ls V)
theorem px_getSc {ix i : Nat} (hi : i < px_SN) (d : decode (px_cc M) pc = .ok (.getfield ix, 3)) (hl : Cond.fieldLink (px_own M) ix "java/lang/String" "coder" "B" ∈ px_TB) (kk : PW M N1 S1 Post (pc + 3) lv (.int 0 :: st) h) : PW M N1 S1 Post pc lv (.retAddr (1 + 2 * i) :: st) h := by
  intro b G p l e R s m args below meth c n0 s0 Q C H locs ls V
  obtain ⟨cf, k, fi, f, cell, h1, h2, h3, h4, h5, h6⟩ := (V.2.1.2.2.1.1 i hi).2.1
  exact W.getf (v := .int 0) C.1.1 C.1.2.1 C.1.2.2.2.1 (C.1.2.2.2.2 _ hl) h1 h2 h3 h4 h5 rfl rfl d (kk b G p l e R s m args below meth c n0 s0 Q C H locs ls V)
theorem px_getSv {ix i : Nat} (hi : i < px_SN) (d : decode (px_cc M) pc = .ok (.getfield ix, 3)) (hl : Cond.fieldLink (px_own M) ix "java/lang/String" "value" "[B" ∈ px_TB) (kk : PW M N1 S1 Post (pc + 3) lv (.retAddr (2 + 2 * i) :: st) h) : PW M N1 S1 Post pc lv (.retAddr (1 + 2 * i) :: st) h := by
  intro b G p l e R s m args below meth c n0 s0 Q C H locs ls V
  obtain ⟨cf, k, fi, f, cell, h1, h2, h3, h4, h5, h6⟩ := (V.2.1.2.2.1.1 i hi).2.2.1
  exact W.getf (v := .ref (G.2.2.2.1 (2 + 2 * i))) C.1.1 C.1.2.1 C.1.2.2.2.1 (C.1.2.2.2.2 _ hl) h1 h2 h3 h4 h5 rfl rfl d (kk b G p l e R s m args below meth c n0 s0 Q C H locs ls V)
theorem px_alenS {i : Nat} (hi : i < px_SN) (d : decode (px_cc M) pc = .ok (.arraylength, 1)) (kk : PW M N1 S1 Post (pc + 1) lv (.int (nI (px_SL.getD i 0)) :: st) h) : PW M N1 S1 Post pc lv (.retAddr (2 + 2 * i) :: st) h := by
  intro b G p l e R s m args below meth c n0 s0 Q C H locs ls V
  obtain ⟨cell, h1, h2, h3, h4, h5, h6, h7⟩ := (V.2.1.2.2.1.1 i hi).2.2.2
  exact W.alen (n := nI (px_SL.getD i 0)) C.1.1 C.1.2.1 h1 h2 h5 rfl rfl d (kk b G p l e R s m args below meth c n0 s0 Q C H locs ls V)
theorem px_baldS {i j : Nat} (hi : i < px_SN) (hj : j < px_SL.getD i 0) (hb : px_SL.getD i 0 ≤ 1000) (d : decode (px_cc M) pc = .ok (.baload, 1)) (kk : PW M N1 S1 Post (pc + 1) lv (.int ((px_SB.getD i []).getD j 0) :: st) h) : PW M N1 S1 Post pc lv (.int (nI j) :: .retAddr (2 + 2 * i) :: st) h := by
  intro b G p l e R s m args below meth c n0 s0 Q C H locs ls V
  obtain ⟨cell, h1, h2, h3, h4, h5, h6, h7⟩ := (V.2.1.2.2.1.1 i hi).2.2.2
  have hc : (nI j).toNatClampNeg = j := nI_clamp (by omega)
  exact W.bald (v := .int ((px_SB.getD i []).getD j 0)) C.1.1 C.1.2.1 h1 h2 h3 (by
    rw [hc]
    rintro (q | q)
    · exact nI_pos (by omega) q
    · omega) (by rw [hc]; exact h6 j hj) rfl rfl d (kk b G p l e R s m args below meth c n0 s0 Q C H locs ls V)
theorem px_stkX (b : Nat) (G : px_G) (as : List Value) (k : Nat) (st : List Value) : (as.reverse ++ .retAddr k :: st).map (rl b G) = (as.map (rl b G)).reverse ++ .ref (G.2.2.2.1 k) :: st.map (rl b G) := by
  rw [List.map_append, List.map_reverse]; rfl
theorem px_callVS {M' : px_M} {as : List Value} {i n ix : Nat} {r : Option Value} {h' : PH} (hi : i < px_SN) (hM : PM M' (.retAddr (1 + 2 * i) :: as) h r h') (d : decode (px_cc M) pc = .ok (.invokevirtual ix, 3)) (hl : Cond.methodLink (px_own M) ix (px_y M') ∈ px_TB) (hok : px_ok M' n) (hv : px_okV M') (hcn : "java/lang/String" = px_own M') (hln : as.length = n) (hsum : (st.map fun v => v.category).sum ≤ 8) (hrm : px_fr M' + 1 ≤ px_fr M ∧ 19 + px_nL M' + px_lo M' ≤ px_lo M) (hN : hn h' ≤ N1 ∧ hs h' ≤ S1) (kk : PW M N1 S1 Post (pc + 3) lv (r.toList ++ st) h') : PW M N1 S1 Post pc lv (as.reverse ++ .retAddr (1 + 2 * i) :: st) h := by
  intro b G p l e R s m args below meth c n0 s0 Q C H locs ls V
  obtain ⟨m1, m2, hMet⟩ := hM
  have hMt := hMet l b G C.2.2.1.1
  obtain ⟨cell, g1, g2, g3, -⟩ := (V.2.1.2.2.1.1 i hi).1
  refine px_after (va_runV (As := as.map (rl b G)) (rest := st.map (rl b G)) (b := G.2.2.2.1 (1 + 2 * i)) (C := px_own M') (n := n) (g := F0 m pc ls ((as.reverse ++ .retAddr (1 + 2 * i) :: st).map (rl b G))) C.1 hMt ⟨px_cb0 C.1.2.2.2.2 hok hl (px_room C hrm), C.1.2.2.2.2 _ hv.1, C.1.2.2.2.2 _ hv.2⟩ ⟨px_blind b G _ h, by rw [← hcn]; exact ⟨cell, g1, g2, g3⟩, px_pre C.2.1 V⟩ rfl (by rw [List.length_map]; exact hln) V.2.2.2.2.1 (px_stkX b G as (1 + 2 * i) st) (lv_room (by rw [rl_cats]; exact hsum)) d (px_fit C V m1 m2 hN)) V C.2.2.2.2.2.1 m1 m2 hN (fun H1 locs1 V1 => ?_)
  rw [← px_tol]
  exact kk b G p l e R s m args below meth c n0 s0 Q C H1 locs1 ls V1
end PXS
theorem pw_J3_checkIndex_8e157 {h : PH} {j n : Nat} (hj : j < n) (hn2 : n < 2 ^ 31) {N S : Nat} {Post : Nat → Option Value → PH → Prop} (hP : Post 0 (some (.int (nI j))) h) : PW M_J3_checkIndex_8e157 N S Post 0 [(0, .int (nI j)), (1, .int (nI n))] [] h := by
  refine px_iload_n d_J3_checkIndex_8e157_0 rfl rfl ?_
  refine px_if_lt (tgt := 9) d_J3_checkIndex_8e157_1 (by decide) (fun c1 => absurd c1 (nI_pos (by omega))) (fun c1 => ?_)
  refine px_iload_n d_J3_checkIndex_8e157_4 rfl rfl ?_
  refine px_iload_n d_J3_checkIndex_8e157_5 rfl rfl ?_
  refine px_icmp_lt (tgt := 16) d_J3_checkIndex_8e157_6 (by decide) (fun c6 => ?_) (fun c6 => absurd (nI_lt hj hn2) c6)
  refine px_iload_n d_J3_checkIndex_8e157_16 rfl rfl ?_
  exact px_ireturn d_J3_checkIndex_8e157_17 rfl rfl hP
def px_Pw (b : Nat) (G : px_G) (as : List Value) (w : Value) (h : PH) : Array Value → State → Prop := fun v U => v = (as.map (rl b G) ++ [w]).toArray ∧ px_Rel b G h U.heap ∧ px_K G U ∧ px_O b G U U.heap
theorem px_blindw (b : Nat) (G : px_G) (as : List Value) (w : Value) (h : PH) : FrameBlind (px_Pw b G as w h) := fun a U g mk q => ⟨q.1, q.2.1, q.2.2.1.blind g mk a, px_O.moved (u := U) (U := U.calling g mk a) (Vm.Alike.refl U.vm) q.2.2.2⟩
theorem met_ci {h : PH} {j n : Nat} (hj : j < n) (hn2 : n < 2 ^ 31) (l : Launch) (hl : l.stackTraces = false) (b : Nat) (G : px_G) (w : Value) (hw : w = .null ∨ ∃ t, w = .ref t) : Met l (px_y M_J3_checkIndex_8e157) (px_ws M_J3_checkIndex_8e157) (px_rm M_J3_checkIndex_8e157 h h) (px_Pw b G [.int (nI j), .int (nI n)] w h) (px_Qc b G (some (.int (nI j))) h) (hn h - hn h) (hs h - hs h) (fun q => b ≤ q) := by
  refine Met.ofW (cc := px_cc M_J3_checkIndex_8e157) (maxL := px_nL M_J3_checkIndex_8e157) (ret := px_rt M_J3_checkIndex_8e157) (by decide +kernel) rfl ?_
  intro p e s m args below meth c s₁ B hml hv
  obtain ⟨rfl, hRel, hK, hO⟩ := hv
  have hts := atoms_spec (ws := px_ws M_J3_checkIndex_8e157) B.pre
  have hown : s.vm.findClass (px_own M_J3_checkIndex_8e157) = some m.cls := findClass_of_methodNamed B.named
  have hlocks := B.notSynchronized
  have htab : c.exceptionTable.toList = tableOf (px_hh M_J3_checkIndex_8e157) := by
    obtain ⟨meth9, c9, g1, g2, -, -, -, -, g7, -⟩ := Cond.code_spec B.named (hts _ List.mem_cons_self)
    cases Option.some.inj (g1.symm.trans B.method)
    cases Option.some.inj (g2.symm.trans (Stand.of_body B).code)
    unfold px_hh
    rw [Array.isEmpty_iff.mp g7, if_neg (by decide +kernel)]
    rfl
  have hwc : w.category = 1 := by rcases hw with rfl | ⟨t, rfl⟩ <;> rfl
  have hl0 := lv_entry ([Value.int (nI j), .int (nI n)].map (rl b G) ++ [w]) (n := px_nL M_J3_checkIndex_8e157) (by
    rcases hw with rfl | ⟨t, rfl⟩ <;> exact Nat.le_of_ble_eq_true rfl)
  rw [lg_entry_eq]
  generalize (lg_sl ([Value.int (nI j), .int (nI n)].map (rl b G) ++ [w]) ++ List.replicate (px_nL M_J3_checkIndex_8e157 - (lg_sl ([Value.int (nI j), .int (nI n)].map (rl b G) ++ [w])).length) Slot.unset).toArray = ls at hl0 ⊢
  have hl1 : lv_has ls (px_nL M_J3_checkIndex_8e157) (px_lv b G [(0, .int (nI j)), (1, .int (nI n))]) := lv_sub hl0 [0, 1] rfl
  have K := (pw_J3_checkIndex_8e157 (h := h) hj hn2 (N := hn h) (S := hs h) (Post := PMpost (some (.int (nI j))) h) ⟨rfl, rfl, rfl⟩) b G p l e (px_rm M_J3_checkIndex_8e157 h h) s m (([Value.int (nI j), .int (nI n)].map (rl b G) ++ [w]).toArray) below meth c (hn h) (hs h) (MQ below (px_Qc b G (some (.int (nI j))) h) ([Value.int (nI j), .int (nI n)].map (rl b G) ++ [w]).toArray s (hn h - hn h) (hs h - hs h) (fun q => b ≤ q))
    ⟨⟨B.exec, B.bytes, hml, hown, fun w hw => hts w (List.mem_cons_of_mem _ hw)⟩, hK, ⟨hl, htab, fun hx hx2 => absurd hx2.1 (by decide)⟩, (name_of_methodNamed B.named B.method).1, ⟨Nat.le_refl _, Nat.le_refl _, by show hn h ≤ hn h + (hn h - hn h); omega, by show hs h ≤ hs h + (hs h - hs h); omega⟩, hRel.1, ?_⟩
    s.heap [] ls ⟨hRel, hO, va_S.rf, ⟨Nat.le_refl _, Nat.le_refl _, Nat.le_refl _, Nat.le_refl _⟩, hl1⟩
  · rw [Nat.sub_self, Nat.sub_self] at K ⊢
    exact K
  · intro k' r' pc st h'' H locs ls' ho hP hV
    obtain ⟨rfl, rfl, rfl⟩ := hP
    obtain ⟨vR, vO, vS, -, -⟩ := hV
    have hq : ∀ t : State, t.heap = H → s.WarmedH t.vm → px_Qc b G (some (.int (nI j))) h'' ([Value.int (nI j), .int (nI n)].map (rl b G) ++ [w]).toArray s (.returned ((some (Value.int (nI j))).map (rl b G))) t := fun t ht _ => ⟨rfl, by rw [ht]; exact vR, fun q hq => by rw [ht]; exact vS.2.1 q (by rw [hRel.1]; omega) (Nat.not_le.mpr hq)⟩
    rcases ho with ⟨-, ho⟩ | ⟨h0, -⟩
    · rcases ho with ⟨d, v, ty, rfl, e2, hrt, hnr⟩ | ⟨d, -, e2, -⟩ | ⟨d, v, -, e2, -⟩ | ⟨d, v, ty, rfl, e2, hrt, hty, hvv⟩
      · cases e2
        exact W.zret (ty := ty) B.exec B.bytes (B.returns.trans hrt) hnr hq vS.2.2 d hlocks
      · cases e2
      · cases e2
      · cases e2
        rcases hvv with q | ⟨a, q⟩ <;> cases q
    · exact absurd h0 (by decide)
theorem px_chk {M : px_M} {N1 S1 : Nat} {Post : Nat → Option Value → PH → Prop} {pc : Nat} {lv : List (Nat × Value)} {h : PH} {i1 i2 j n : Nat} (hj : j < n) (hn2 : n < 2 ^ 31) (d : decode (px_cc M) pc = .ok (.getstatic i1, 3)) (d2 : decode (px_cc M) (pc + 3) = .ok (.invokestatic i2, 3)) (hl : Cond.fieldLink (px_own M) i1 "jdk/internal/util/Preconditions" "SIOOBE_FORMATTER" "Ljava/util/function/BiFunction;" ∈ px_TB) (hl2 : Cond.methodLink (px_own M) i2 (px_y M_J3_checkIndex_8e157) ∈ px_TB) (hrm : px_fr M_J3_checkIndex_8e157 + 1 ≤ px_fr M ∧ 19 + px_nL M_J3_checkIndex_8e157 + px_lo M_J3_checkIndex_8e157 ≤ px_lo M) (hN : hn h ≤ N1 ∧ hs h ≤ S1) (kk : PW M N1 S1 Post (pc + 6) lv [.int (nI j)] h) : PW M N1 S1 Post pc lv [.int (nI n), .int (nI j)] h := by
  intro b G p l e R s m args below meth c n0 s0 Q C H locs ls V
  have key : ∀ w : Value, (w = .null ∨ ∃ t, w = .ref t) → W p l e R s m args below meth c H locs (hn h - n0) (hs h - s0) Q (F0 m (pc + 3) ls [w, .int (nI n), .int (nI j)]) := fun w hw => by
    have hMt := met_ci (h := h) hj hn2 l C.2.2.1.1 b G w hw
    refine px_after (h := h) (h' := h) (va_runS (As := [Value.int (nI j), .int (nI n)].map (rl b G) ++ [w]) (rest := []) (n := 3) (g := F0 m (pc + 3) ls [w, .int (nI n), .int (nI j)]) C.1 hMt ⟨px_cb0 C.1.2.2.2.2 ok_J3_checkIndex_8e157 hl2 (px_room C hrm), C.1.2.2.2.2 _ os_J3_checkIndex_8e157⟩ ⟨px_blindw b G _ w h, fun U hU hW => ⟨rfl, by rw [hU]; exact V.1, C.2.1.moved hW, by rw [hU]; exact V.2.1.moved hW.alike⟩⟩ rfl rfl V.2.2.2.2.1 rfl (lv_room (by decide)) d2 (px_fit C V (Nat.le_refl _) (Nat.le_refl _) hN)) V C.2.2.2.2.2.1 (Nat.le_refl _) (Nat.le_refl _) hN (fun H1 locs1 V1 => ?_)
    exact kk b G p l e R s m args below meth c n0 s0 Q C H1 locs1 ls V1
  rcases V.2.1.2.2.2.1.2 with hz | ⟨t, hz⟩
  · obtain ⟨cf, kf, fi, f, a, cell, h1, h2, h3, h4, h5, h6, h7, h8⟩ := hz
    exact W.gets C.1.1 C.1.2.1 C.1.2.2.2.1 (C.1.2.2.2.2 _ hl) h1 h2 h3 h4 h5 (fun e => by rw [e] at h6; cases h6) h7 rfl d (key .null (Or.inl rfl))
  · obtain ⟨cf, kf, fi, f, a, cell, h1, h2, h3, h4, h5, h6, h7, h8⟩ := hz
    exact W.gets C.1.1 C.1.2.1 C.1.2.2.2.1 (C.1.2.2.2.2 _ hl) h1 h2 h3 h4 h5 (fun e => by rw [e] at h6; cases h6) h7 rfl d (key (.ref t) (Or.inr ⟨t, rfl⟩))
/-- a copy between rows of ints -/
theorem px_copy {M : px_M} {N1 S1 : Nat} {Post : Nat → Option Value → PH → Prop} {pc : Nat} {lv : List (Nat × Value)} {st : List Value} {h : PH} {k1 k2 len1 len2 n ix : Nat} (d : decode (px_cc M) pc = .ok (.invokestatic ix, 3)) (hl : Cond.methodLink (px_own M) ix arraycopyName ∈ px_TB) (ha1 : px_ar h k1 20 len1) (ha2 : px_ar h k2 20 len2) (h4 : n ≤ len1) (h5 : n ≤ len2) (hfr : 1 ≤ px_fr M) (hlo : (st.map fun v => v.category).sum + (nativeFrameWords "java/lang/System" "arraycopy" 5 + 11) ≤ px_lo M) (kk : PW M N1 S1 Post (pc + 3) lv st (rI h k2 (fun j => if j < n then hI h k1 j else hI h k2 j))) : PW M N1 S1 Post pc lv (.int (nI n) :: .int 0 :: .ref k2 :: .int 0 :: .ref k1 :: st) h := by
  intro b G p l e R s m args below meth c n0 s0 Q C H locs ls V
  have hts := C.1.2.2.2.2
  have hb1 := ha1.2.2
  have c1 := C.2.2.2.2.1
  have cn : (nI n).toNatClampNeg = n := nI_clamp (by omega)
  have c0 : (0 : Int32).toNatClampNeg = 0 := by decide
  have hc1 : H[b + k1]? = some (vp_cell (G.2.2.1 20) (len1, .inl (hI h k1))) := px_arr V.1 ha1 (by decide) (by decide)
  have hc2 : H[b + k2]? = some (vp_cell (G.2.2.1 20) (len2, .inl (hI h k2))) := px_arr V.1 ha2 (by decide) (by decide)
  obtain ⟨-, k0, hk0, cm0, hkk0⟩ := (C.2.1.2.1 20 (by decide) (by decide)).1 0 (fun _ => .null)
  intro T hT X
  obtain ⟨vm', X', step⟩ := X.arraycopy C.1.1 C.1.2.2.2.1 (hts _ hl) (hts _ ac_nat) (hts _ ac_sta) (hts _ ac_ini) (src := b + k1) (dst := b + k2) (cs := vp_cell (G.2.2.1 20) (len1, .inl (hI h k1))) (cd := vp_cell (G.2.2.1 20) (len2, .inl (hI h k2))) (srcPos := 0) (destPos := 0) (n := nI n) (by rw [hT]; exact hc1) (by rw [hT]; exact hc2)
    (fun _ h => by cases h) (fun _ h => by cases h) (fun h => by cases h) (fun h => by cases h) hk0 hk0 hkk0 hkk0 (by simp [px_ty, refKind]) (by decide) (by decide) (nI_pos (by omega))
    (by rw [nI_toInt (by omega)]; show ¬ _ > ((arrV (G.2.2.1 20) len1 (fun j => .int (hI h k1 j))).slots.size : Int); rw [arrV_size]; show ¬ (0 : Int) + (n : Int) > (len1 : Int); omega)
    (by rw [nI_toInt (by omega)]; show ¬ _ > ((arrV (G.2.2.1 20) len2 (fun j => .int (hI h k2 j))).slots.size : Int); rw [arrV_size]; show ¬ (0 : Int) + (n : Int) > (len2 : Int); omega)
    (fun vm₁ _ i hi => by
      rw [cn] at hi
      have e9 : (vp_cell (G.2.2.1 20) (len1, .inl (hI h k1))).slots.getD ((0 : Int32).toNatClampNeg + i) .null = .int (hI h k1 i) := by
        rw [c0, Nat.zero_add]
        show (arrV (G.2.2.1 20) len1 (fun j => .int (hI h k1 j))).slots.getD _ _ = _
        rw [Array.getD_eq_getD_getElem?, arrV_read _ _ (by omega)]
        rfl
      refine ⟨?_, ?_⟩
      · rw [e9]
        rfl
      · rw [e9]
        exact trivial)
    (g := F0 m pc ls ((.int (nI n) :: .int 0 :: .ref k2 :: .int 0 :: .ref k1 :: st).map (rl b G))) rfl (by rw [C.1.2.2.1, ← V.2.2.2.2.1]) (rest := st.map (rl b G)) rfl (by rw [C.1.2.1]; exact d) (by omega) (by show 2 * 0 + _ + _ ≤ _; rw [rl_cats]; omega)
  have e1 : copied (vp_cell (G.2.2.1 20) (len1, .inl (hI h k1))) (vp_cell (G.2.2.1 20) (len2, .inl (hI h k2))) 0 0 (nI n) = vp_cell (G.2.2.1 20) (len2, .inl (va_cpy (hI h k1) (hI h k2) (0 : Int32).toNatClampNeg (0 : Int32).toNatClampNeg (nI n).toNatClampNeg)) := va_copied (fun z => .int z) _ _ _ _ (by rw [c0, cn]; omega)
  rw [e1] at X' step
  have hl9 : b + k2 < H.size := (Array.getElem?_eq_some_iff.mp hc2).1
  generalize hcp : vp_cell (G.2.2.1 20) (len2, .inl (va_cpy (hI h k1) (hI h k2) (0 : Int32).toNatClampNeg (0 : Int32).toNatClampNeg (nI n).toNatClampNeg)) = cN at X' step
  have hheap : ((T.setVm vm').setCell (b + k2) cN).heap = H.setIfInBounds (b + k2) cN := by rw [← hT]; rfl
  have oq : ∀ q : Nat, q ≠ b + k2 → (H.setIfInBounds (b + k2) cN)[q]? = H[q]? := fun q hq => by simp [Array.getElem?_setIfInBounds, Ne.symm hq]
  have eq9 : (H.setIfInBounds (b + k2) cN)[b + k2]? = some cN := by simp [Array.getElem?_setIfInBounds, hl9]
  have hz : (H.setIfInBounds (b + k2) cN).size = H.size := by simp
  obtain ⟨t, a1, b1⟩ := kk b G p l e R s m args below meth c n0 s0 Q C (H.setIfInBounds (b + k2) cN) _ ls ⟨px_Rel.upd V.1 rfl rfl (fun x hx => hI_rn _ _ _ hx) (fun _ _ => rfl) (fun _ _ => rfl) hz oq (by
      unfold px_at
      rw [show hK (rI h k2 (fun j => if j < n then hI h k1 j else hI h k2 j)) k2 = (20, len2) from ha2.2.1]
      rw [if_neg (show ¬ (20 : Nat) < 20 by decide), if_pos (show (20 : Nat) < 26 by decide), eq9, ← hcp]
      refine congrArg some (show arrV (G.2.2.1 20) len2 (fun x => Value.int (va_cpy (hI h k1) (hI h k2) (0 : Int32).toNatClampNeg (0 : Int32).toNatClampNeg (nI n).toNatClampNeg x)) = arrV (G.2.2.1 20) len2 (fun x => Value.int (hI (rI h k2 (fun j => if j < n then hI h k1 j else hI h k2 j)) k2 x)) from congrArg (arrV (G.2.2.1 20) len2) (funext fun x => ?_))
      rw [hI_rs, c0, cn]
      unfold va_cpy
      by_cases q : x < n
      · simp [q]
      · simp [q]), px_Okp V.2.1 V.1 (Nat.le_add_right b k2) oq, ⟨by rw [hz]; exact V.2.2.1.1, fun q g1 g2 => by
        rw [oq q (fun e => g2 (by rw [e]; exact Nat.le_add_right b k2))]
        exact V.2.2.1.2.1 q g1 g2, fun q hq => by
        rcases List.mem_append.mp hq with h | h
        · exact V.2.2.1.2.2 q h
        · obtain ⟨z, -, hz⟩ := List.mem_map.mp h
          rw [← hz]
          exact Nat.le_add_right b k2⟩, V.2.2.2.1, V.2.2.2.2⟩ _ hheap X'
  exact ⟨t, step t a1, b1⟩
theorem c_J0_coder_7d493 {h : PH} {i : Nat} (hi : i < px_SN) : PM M_J0_coder_7d493 [.retAddr (1 + 2 * i)] h (some (.int 0)) h := by
  refine PM.of (by decide +kernel) (by decide +kernel) (Nat.le_refl _) (Nat.le_refl _) (Nat.le_of_ble_eq_true rfl) ?_
  refine px_getsC d_J0_coder_7d493_0 fs_38 ?_
  refine px_if_eq (tgt := 13) d_J0_coder_7d493_3 (by decide) (fun c3 => absurd c3 (by decide)) (fun c3 => ?_)
  refine px_aload_nX d_J0_coder_7d493_6 rfl rfl ?_
  refine px_getSc hi d_J0_coder_7d493_7 fs_15 ?_
  refine px_goto (tgt := 14) d_J0_coder_7d493_10 (by decide) ?_
  exact px_ireturn d_J0_coder_7d493_14 rfl rfl ⟨rfl, rfl, rfl⟩
theorem c_J0_isLatin1_aae02 {h : PH} {i : Nat} (hi : i < px_SN) : PM M_J0_isLatin1_aae02 [.retAddr (1 + 2 * i)] h (some (.int 1)) h := by
  refine PM.of (by decide +kernel) (by decide +kernel) (Nat.le_refl _) (Nat.le_refl _) (Nat.le_of_ble_eq_true rfl) ?_
  refine px_getsC d_J0_isLatin1_aae02_0 fs_38 ?_
  refine px_if_eq (tgt := 17) d_J0_isLatin1_aae02_3 (by decide) (fun c3 => absurd c3 (by decide)) (fun c3 => ?_)
  refine px_aload_nX d_J0_isLatin1_aae02_6 rfl rfl ?_
  refine px_getSc hi d_J0_isLatin1_aae02_7 fs_15 ?_
  refine px_if_ne (tgt := 17) d_J0_isLatin1_aae02_10 (by decide) (fun c10 => absurd rfl c10) (fun c10 => ?_)
  refine px_iconst (v := 1) d_J0_isLatin1_aae02_13 (by decide) ?_
  refine px_goto (tgt := 18) d_J0_isLatin1_aae02_14 (by decide) ?_
  exact px_ireturn d_J0_isLatin1_aae02_18 rfl rfl ⟨rfl, rfl, rfl⟩
theorem c_J0_length_8abf5 {h : PH} {i : Nat} (hi : i < px_SN) : PM M_J0_length_8abf5 [.retAddr (1 + 2 * i)] h (some (.int (nI (px_SL.getD i 0)))) h := by
  refine PM.of (by decide +kernel) (by decide +kernel) (Nat.le_refl _) (Nat.le_refl _) (Nat.le_of_ble_eq_true rfl) ?_
  refine px_aload_nX d_J0_length_8abf5_0 rfl rfl ?_
  refine px_getSv hi d_J0_length_8abf5_1 fs_9 ?_
  refine px_alenS hi d_J0_length_8abf5_4 ?_
  refine px_aload_nX d_J0_length_8abf5_5 rfl rfl ?_
  refine px_callVS (as := []) hi (c_J0_coder_7d493 hi) d_J0_length_8abf5_6 lk_J0_335 ok_J0_coder_7d493 ov_J0_coder_7d493 rfl rfl (Nat.le_of_ble_eq_true rfl) (by decide) ⟨Nat.le_refl _, Nat.le_refl _⟩ ?_
  refine px_ishr d_J0_length_8abf5_9 ?_
  exact px_ireturn d_J0_length_8abf5_10 rfl rfl ⟨rfl, px_si (show _ >>> ((0 : Int32) &&& 31) = _ from by rw [show (0 : Int32) &&& 31 = 0 by decide]; exact Int32.shiftRight_zero), rfl⟩
theorem c_J0_checkIndex_df160 {h : PH} {j n : Nat} (hj : j < n) (hn2 : n < 2 ^ 31) : PM M_J0_checkIndex_df160 [.int (nI j), .int (nI n)] h none h := by
  refine PM.of (by decide +kernel) (by decide +kernel) (Nat.le_refl _) (Nat.le_refl _) (Nat.le_of_ble_eq_true rfl) ?_
  refine px_iload_n d_J0_checkIndex_df160_0 rfl rfl ?_
  refine px_iload_n d_J0_checkIndex_df160_1 rfl rfl ?_
  refine px_chk hj hn2 d_J0_checkIndex_df160_2 d_J0_checkIndex_df160_5 fs_1053 lk_J0_1059 (by decide) ⟨Nat.le_refl _, Nat.le_refl _⟩ ?_
  refine px_pop d_J0_checkIndex_df160_8 rfl ?_
  exact px_return d_J0_checkIndex_df160_9 rfl ⟨rfl, rfl, rfl⟩
theorem px_SBc : ∀ i, i < px_SN → ∀ j, j < px_SL.getD i 0 → ((((px_SB.getD i []).getD j 0 &&& 255).toUInt32 % 65536).toInt32 = (px_SB.getD i []).getD j 0 ∧ narrow .char (.int ((px_SB.getD i []).getD j 0)) = .int ((px_SB.getD i []).getD j 0)) := by decide +kernel
theorem px_SLb : ∀ i, i < px_SN → px_SL.getD i 0 ≤ 1000 := by decide +kernel
theorem c_J1_charAt_3b067 {h : PH} {i : Nat} (hi : i < px_SN) {j : Nat} (hj : j < px_SL.getD i 0) : PM M_J1_charAt_3b067 [.retAddr (2 + 2 * i), .int (nI j)] h (some (.int ((px_SB.getD i []).getD j 0))) h := by
  refine PM.of (by decide +kernel) (by decide +kernel) (Nat.le_refl _) (Nat.le_refl _) (Nat.le_of_ble_eq_true rfl) ?_
  refine px_iload_n d_J1_charAt_3b067_0 rfl rfl ?_
  refine px_aload_nX d_J1_charAt_3b067_1 rfl rfl ?_
  refine px_alenS hi d_J1_charAt_3b067_2 ?_
  refine px_callS (c_J0_checkIndex_df160 hj (Nat.lt_of_le_of_lt (px_SLb i hi) (by decide))) d_J1_charAt_3b067_3 lk_J1_9 ok_J0_checkIndex_df160 os_J0_checkIndex_df160 rfl (Nat.le_of_ble_eq_true rfl) (by decide) ⟨Nat.le_refl _, Nat.le_refl _⟩ ?_
  refine px_aload_nX d_J1_charAt_3b067_6 rfl rfl ?_
  refine px_iload_n d_J1_charAt_3b067_7 rfl rfl ?_
  refine px_baldS hi hj (px_SLb i hi) d_J1_charAt_3b067_8 ?_
  refine px_sipush (v := 255) d_J1_charAt_3b067_9 (by decide) ?_
  refine px_iand d_J1_charAt_3b067_12 ?_
  refine px_i2c d_J1_charAt_3b067_13 ?_
  refine px_val (y := ((px_SB.getD i []).getD j 0)) (px_SBc i hi j hj).1 ?_
  exact px_ireturn d_J1_charAt_3b067_14 rfl (px_SBc i hi j hj).2 ⟨rfl, rfl, rfl⟩
theorem c_J0_charAt_5068e {h : PH} {i : Nat} (hi : i < px_SN) {j : Nat} (hj : j < px_SL.getD i 0) : PM M_J0_charAt_5068e [.retAddr (1 + 2 * i), .int (nI j)] h (some (.int ((px_SB.getD i []).getD j 0))) h := by
  refine PM.of (by decide +kernel) (by decide +kernel) (Nat.le_refl _) (Nat.le_refl _) (Nat.le_of_ble_eq_true rfl) ?_
  refine px_aload_nX d_J0_charAt_5068e_0 rfl rfl ?_
  refine px_callVS (as := []) hi (c_J0_isLatin1_aae02 hi) d_J0_charAt_5068e_1 lk_J0_492 ok_J0_isLatin1_aae02 ov_J0_isLatin1_aae02 rfl rfl (Nat.le_of_ble_eq_true rfl) (by decide) ⟨Nat.le_refl _, Nat.le_refl _⟩ ?_
  refine px_if_eq (tgt := 16) d_J0_charAt_5068e_4 (by decide) (fun c4 => absurd c4 (by decide)) (fun c4 => ?_)
  refine px_aload_nX d_J0_charAt_5068e_7 rfl rfl ?_
  refine px_getSv hi d_J0_charAt_5068e_8 fs_9 ?_
  refine px_iload_n d_J0_charAt_5068e_11 rfl rfl ?_
  refine px_callS (c_J1_charAt_3b067 hi hj) d_J0_charAt_5068e_12 lk_J0_495 ok_J1_charAt_3b067 os_J1_charAt_3b067 rfl (Nat.le_of_ble_eq_true rfl) (by decide) ⟨Nat.le_refl _, Nat.le_refl _⟩ ?_
  exact px_ireturn d_J0_charAt_5068e_15 rfl (px_SBc i hi j hj).2 ⟨rfl, rfl, rfl⟩
theorem x_J7_copyOf_59c91 {h : PH} {k0 len n : Nat} (ha : px_ar h k0 20 len) (hn2 : n < len) : PM M_J7_copyOf_59c91 [.ref k0, .int (nI n)] h (some (.ref (hn h))) (rI (pN h 20 n n) (hn h) (fun j => if j < n then hI h k0 j else 0)) := by
  have hlt := ha.1
  have hle := ha.2.2
  have ha2 : px_ar (pN h 20 n n) k0 20 len := ⟨Nat.lt_succ_of_lt hlt, (up1_ne (Nat.ne_of_lt hlt)).trans ha.2.1, hle⟩
  have ha3 : px_ar (pN h 20 n n) (hn h) 20 n := ⟨Nat.lt_succ_self _, up1_s, by omega⟩
  refine PM.of (by decide +kernel) (by decide +kernel) (Nat.le_succ _) (Nat.le_add_right _ _) (Nat.le_of_ble_eq_true rfl) ?_
  refine px_iload_n d_J7_copyOf_59c91_0 rfl rfl ?_
  refine px_aload_n d_J7_copyOf_59c91_1 rfl rfl ?_
  refine px_alen d_J7_copyOf_59c91_2 ha (by decide) (by decide) ?_
  refine px_icmp_ne (tgt := 14) d_J7_copyOf_59c91_3 (by decide) (fun c3 => ?_) (fun c3 => absurd ((nI_eq (a := n) (b := len) (by omega) (by omega)).mp (by first | exact c3 | exact Classical.not_not.mp c3)) (by omega))
  refine px_iload_n d_J7_copyOf_59c91_14 rfl rfl ?_
  refine px_newI (len := n) d_J7_copyOf_59c91_15 ac_int rfl (by omega) (Nat.le_refl _) (Nat.le_refl _) ?_
  refine px_astore_n d_J7_copyOf_59c91_17 rfl (by decide) ?_
  refine px_aload_n d_J7_copyOf_59c91_18 rfl rfl ?_
  refine px_iconst (v := 0) d_J7_copyOf_59c91_19 (by decide) ?_
  refine px_aload_n d_J7_copyOf_59c91_20 rfl rfl ?_
  refine px_iconst (v := 0) d_J7_copyOf_59c91_21 (by decide) ?_
  refine px_aload_n d_J7_copyOf_59c91_22 rfl rfl ?_
  refine px_alen d_J7_copyOf_59c91_23 ha2 (by decide) (by decide) ?_
  refine px_iload_n d_J7_copyOf_59c91_24 rfl rfl ?_
  refine px_mmin d_J7_copyOf_59c91_25 lk_J7_304 (by decide) (Nat.le_of_ble_eq_true rfl) ?_
  refine px_val (y := nI n) (if_pos (nI_lt hn2 (by omega))) ?_
  refine px_copy d_J7_copyOf_59c91_28 lk_J7_150 ha2 ha3 (Nat.le_of_lt hn2) (Nat.le_refl _) (by decide) (Nat.le_of_ble_eq_true rfl) ?_
  refine px_heap (h2 := rI (pN h 20 n n) (hn h) (fun j => if j < n then hI h k0 j else 0)) (congrArg (rI (pN h 20 n n) (hn h)) (funext fun j => by rw [show hI (pN h 20 n n) k0 = hI h k0 from up1_ne (Nat.ne_of_lt hlt), show hI (pN h 20 n n) (hn h) = fun _ => 0 from up1_s])) ?_
  refine px_aload_n d_J7_copyOf_59c91_31 rfl rfl ?_
  exact px_areturn d_J7_copyOf_59c91_32 rfl (by first | exact Or.inl ⟨_, rfl⟩ | exact Or.inr ⟨_, rfl⟩) ⟨rfl, rfl, rfl⟩
