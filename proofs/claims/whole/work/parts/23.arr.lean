/-! ===== rules of arrays and of making ===== -/
theorem px_aT {G : px_G} {s : State} {kd : Nat} (hK : px_K G s) (h1 : 20 ≤ kd) (h2 : kd < 26) (n : Nat) (z : Nat → Value) : s.isArrayOf (arrV (G.2.2.1 kd) n z) (px_ty kd) := (hK.2.1 kd h1 h2).1 n z
theorem px_ix {i : Int32} {j len : Nat} (hi : i = nI j) (hl : j < len) (hb : len ≤ 1000000) : vp_in i len ∧ i.toNatClampNeg = j := by
  subst hi
  exact ⟨vp_in_nI hl (by omega), nI_clamp (by omega)⟩
section PXA
variable {M : px_M} {N1 S1 : Nat} {Post : Nat → Option Value → PH → Prop} {pc : Nat} {lv : List (Nat × Value)} {st : List Value} {h : PH}
theorem px_alen {k kd len : Nat} (d : decode (px_cc M) pc = .ok (.arraylength, 1)) (ha : px_ar h k kd len) (h1 : 20 ≤ kd) (h2 : kd < 26) (kk : PW M N1 S1 Post (pc + 1) lv (.int (nI len) :: st) h) : PW M N1 S1 Post pc lv (.ref k :: st) h := by
  intro b G p l e R s m args below meth c n0 s0 Q C H locs ls V
  exact W.alen (n := nI len) C.1.1 C.1.2.1 (px_arr V.1 ha h1 h2) (px_aT C.2.1 h1 h2 len _) (by rw [arrV_size]; rfl) rfl rfl d (kk b G p l e R s m args below meth c n0 s0 Q C H locs ls V)
theorem px_iald {k len j : Nat} {i : Int32} (d : decode (px_cc M) pc = .ok (.iaload, 1)) (ha : px_ar h k 20 len) (hi : i = nI j) (hl : j < len) (kk : PW M N1 S1 Post (pc + 1) lv (.int (hI h k j) :: st) h) : PW M N1 S1 Post pc lv (.int i :: .ref k :: st) h := by
  intro b G p l e R s m args below meth c n0 s0 Q C H locs ls V
  obtain ⟨hin, hcl⟩ := px_ix hi hl ha.2.2
  exact W.iald (v := .int (hI h k j)) C.1.1 C.1.2.1 (px_arr V.1 ha (by decide) (by decide)) (px_aT C.2.1 (kd := 20) (by decide) (by decide) len _) (fun q => by cases q) (by rw [arrV_size]; exact hin) (by rw [arrV_read _ _ (by rw [hcl]; exact hl), hcl]; rfl) rfl rfl d (kk b G p l e R s m args below meth c n0 s0 Q C H locs ls V)
theorem px_zald {k len j : Nat} {i : Int32} (d : decode (px_cc M) pc = .ok (.baload, 1)) (ha : px_ar h k 21 len) (hi : i = nI j) (hl : j < len) (kk : PW M N1 S1 Post (pc + 1) lv (.int (hI h k j) :: st) h) : PW M N1 S1 Post pc lv (.int i :: .ref k :: st) h := by
  intro b G p l e R s m args below meth c n0 s0 Q C H locs ls V
  obtain ⟨hin, hcl⟩ := px_ix hi hl ha.2.2
  exact W.zald (v := .int (hI h k j)) C.1.1 C.1.2.1 (px_arr V.1 ha (by decide) (by decide)) (px_aT C.2.1 (kd := 21) (by decide) (by decide) len _) (fun q => by cases q) (by rw [arrV_size]; exact hin) (by rw [arrV_read _ _ (by rw [hcl]; exact hl), hcl]; rfl) rfl rfl d (kk b G p l e R s m args below meth c n0 s0 Q C H locs ls V)
theorem px_cald {k len j : Nat} {i : Int32} (d : decode (px_cc M) pc = .ok (.caload, 1)) (ha : px_ar h k 22 len) (hi : i = nI j) (hl : j < len) (kk : PW M N1 S1 Post (pc + 1) lv (.int (hI h k j) :: st) h) : PW M N1 S1 Post pc lv (.int i :: .ref k :: st) h := by
  intro b G p l e R s m args below meth c n0 s0 Q C H locs ls V
  obtain ⟨hin, hcl⟩ := px_ix hi hl ha.2.2
  exact W.cald (v := .int (hI h k j)) C.1.1 C.1.2.1 (px_arr V.1 ha (by decide) (by decide)) (px_aT C.2.1 (kd := 22) (by decide) (by decide) len _) (fun q => by cases q) (by rw [arrV_size]; exact hin) (by rw [arrV_read _ _ (by rw [hcl]; exact hl), hcl]; rfl) rfl rfl d (kk b G p l e R s m args below meth c n0 s0 Q C H locs ls V)
theorem px_lald {k len j : Nat} {i : Int32} (d : decode (px_cc M) pc = .ok (.laload, 1)) (ha : px_ar h k 23 len) (hi : i = nI j) (hl : j < len) (kk : PW M N1 S1 Post (pc + 1) lv (.long (hJ h k j) :: st) h) : PW M N1 S1 Post pc lv (.int i :: .ref k :: st) h := by
  intro b G p l e R s m args below meth c n0 s0 Q C H locs ls V
  obtain ⟨hin, hcl⟩ := px_ix hi hl ha.2.2
  exact W.lald (v := .long (hJ h k j)) C.1.1 C.1.2.1 (px_arr V.1 ha (by decide) (by decide)) (px_aT C.2.1 (kd := 23) (by decide) (by decide) len _) (fun q => by cases q) (by rw [arrV_size]; exact hin) (by rw [arrV_read _ _ (by rw [hcl]; exact hl), hcl]; rfl) rfl rfl d (kk b G p l e R s m args below meth c n0 s0 Q C H locs ls V)
theorem px_aaldA {k len j r : Nat} {i : Int32} (d : decode (px_cc M) pc = .ok (.aaload, 1)) (ha : px_ar h k 24 len) (hi : i = nI j) (hl : j < len) (hr : hR h k j = some r) (kk : PW M N1 S1 Post (pc + 1) lv (.ref r :: st) h) : PW M N1 S1 Post pc lv (.int i :: .ref k :: st) h := by
  intro b G p l e R s m args below meth c n0 s0 Q C H locs ls V
  obtain ⟨hin, hcl⟩ := px_ix hi hl ha.2.2
  exact W.aald (v := rl b G (.ref r)) C.1.1 C.1.2.1 (px_arr V.1 ha (by decide) (by decide)) (px_aT C.2.1 (kd := 24) (by decide) (by decide) len _) rfl (fun q => by cases q) (by rw [arrV_size]; exact hin) (by rw [arrV_read _ _ (by rw [hcl]; exact hl), hcl]; unfold px_av; rw [if_neg (by decide), if_neg (by decide), hr]; rfl) rfl rfl d (kk b G p l e R s m args below meth c n0 s0 Q C H locs ls V)
theorem px_aaldNA {k len j r : Nat} {i : Int32} (d : decode (px_cc M) pc = .ok (.aaload, 1)) (ha : px_ar h k 24 len) (hi : i = nI j) (hl : j < len) (hr : hR h k j = none) (kk : PW M N1 S1 Post (pc + 1) lv (.null :: st) h) : PW M N1 S1 Post pc lv (.int i :: .ref k :: st) h := by
  intro b G p l e R s m args below meth c n0 s0 Q C H locs ls V
  obtain ⟨hin, hcl⟩ := px_ix hi hl ha.2.2
  exact W.aald (v := rl b G (.null)) C.1.1 C.1.2.1 (px_arr V.1 ha (by decide) (by decide)) (px_aT C.2.1 (kd := 24) (by decide) (by decide) len _) rfl (fun q => by cases q) (by rw [arrV_size]; exact hin) (by rw [arrV_read _ _ (by rw [hcl]; exact hl), hcl]; unfold px_av; rw [if_neg (by decide), if_neg (by decide), hr]; rfl) rfl rfl d (kk b G p l e R s m args below meth c n0 s0 Q C H locs ls V)
theorem px_aaldB {k len j r : Nat} {i : Int32} (d : decode (px_cc M) pc = .ok (.aaload, 1)) (ha : px_ar h k 25 len) (hi : i = nI j) (hl : j < len) (hr : hR h k j = some r) (kk : PW M N1 S1 Post (pc + 1) lv (.ref r :: st) h) : PW M N1 S1 Post pc lv (.int i :: .ref k :: st) h := by
  intro b G p l e R s m args below meth c n0 s0 Q C H locs ls V
  obtain ⟨hin, hcl⟩ := px_ix hi hl ha.2.2
  exact W.aald (v := rl b G (.ref r)) C.1.1 C.1.2.1 (px_arr V.1 ha (by decide) (by decide)) (px_aT C.2.1 (kd := 25) (by decide) (by decide) len _) rfl (fun q => by cases q) (by rw [arrV_size]; exact hin) (by rw [arrV_read _ _ (by rw [hcl]; exact hl), hcl]; unfold px_av; rw [if_neg (by decide), if_neg (by decide), hr]; rfl) rfl rfl d (kk b G p l e R s m args below meth c n0 s0 Q C H locs ls V)
theorem px_aaldNB {k len j r : Nat} {i : Int32} (d : decode (px_cc M) pc = .ok (.aaload, 1)) (ha : px_ar h k 25 len) (hi : i = nI j) (hl : j < len) (hr : hR h k j = none) (kk : PW M N1 S1 Post (pc + 1) lv (.null :: st) h) : PW M N1 S1 Post pc lv (.int i :: .ref k :: st) h := by
  intro b G p l e R s m args below meth c n0 s0 Q C H locs ls V
  obtain ⟨hin, hcl⟩ := px_ix hi hl ha.2.2
  exact W.aald (v := rl b G (.null)) C.1.1 C.1.2.1 (px_arr V.1 ha (by decide) (by decide)) (px_aT C.2.1 (kd := 25) (by decide) (by decide) len _) rfl (fun q => by cases q) (by rw [arrV_size]; exact hin) (by rw [arrV_read _ _ (by rw [hcl]; exact hl), hcl]; unfold px_av; rw [if_neg (by decide), if_neg (by decide), hr]; rfl) rfl rfl d (kk b G p l e R s m args below meth c n0 s0 Q C H locs ls V)
theorem px_stR {b : Nat} {G : px_G} {h h' : PH} {H H1 : Heap} {k kd len j : Nat} {v : Value} (hR0 : px_Rel b G h H) (ha : px_ar h k kd len) (h1 : 20 ≤ kd) (h2 : kd < 26) (e : H1[b + k]? = some ((arrV (G.2.2.1 kd) len (px_av b h kd k)).setSlot j v)) (z : H1.size = H.size) (oq : ∀ q : Nat, q ≠ b + k → H1[q]? = H[q]?) (en : hn h' = hn h) (ek : hK h' = hK h) (ei : ∀ x, x ≠ k → hI h' x = hI h x) (ej : ∀ x, x ≠ k → hJ h' x = hJ h x) (er : ∀ x, x ≠ k → hR h' x = hR h x) (ev : ∀ x, updV (px_av b h kd k) j v x = px_av b h' kd k x) : px_Rel b G h' H1 := by
  refine px_Rel.upd hR0 en ek ei ej er z oq ?_
  unfold px_at
  rw [ek, ha.2.1]
  rw [if_neg (Nat.not_lt.mpr h1), if_pos h2, e, arrV_store]
  congr 2
  funext x
  exact ev x
theorem px_iast {k len j : Nat} {i : Int32} {x : Int32} (d : decode (px_cc M) pc = .ok (.iastore, 1)) (ha : px_ar h k 20 len) (hi : i = nI j) (hl : j < len) (kk : PW M N1 S1 Post (pc + 1) lv st (pI h k j x)) : PW M N1 S1 Post pc lv (.int x :: .int i :: .ref k :: st) h := by
  intro b G p l e R s m args below meth c n0 s0 Q C H locs ls V
  obtain ⟨hin, hcl⟩ := px_ix hi hl ha.2.2
  refine W.iast C.1.1 C.1.2.1 (px_arr V.1 ha (by decide) (by decide)) (px_aT C.2.1 (kd := 20) (by decide) (by decide) len _) (fun q => by cases q) (by rw [arrV_size]; exact hin) rfl rfl d fun H1 eh z oq => ?_
  rw [hcl] at eh ⊢
  refine kk b G p l e R s m args below meth c n0 s0 Q C H1 _ ls ⟨px_stR (h' := pI h k j x) V.1 ha (by decide) (by decide) eh z oq rfl rfl (fun y hy => up2_ne hy) (fun y _ => rfl) (fun y _ => rfl) (fun y => ?_), px_Okp V.2.1 V.1 (Nat.le_add_right b k) oq, px_vS (n0 := n0) V.2.2.1 (Nat.le_add_right b k) z oq, V.2.2.2.1, V.2.2.2.2⟩
  by_cases hy : y = j
  · subst hy
    have e9 : hI (pI h k y x) k y = x := up2_ss
    simp [updV, px_av, e9]
  · have e9 : hI (pI h k j x) k y = hI h k y := up2_sn hy
    simp [updV, px_av, hy, e9]
theorem px_zast {k len j : Nat} {i : Int32} {x : Int32} (d : decode (px_cc M) pc = .ok (.bastore, 1)) (ha : px_ar h k 21 len) (hi : i = nI j) (hl : j < len) (hz : narrow .boolean (.int x) = .int x) (kk : PW M N1 S1 Post (pc + 1) lv st (pI h k j x)) : PW M N1 S1 Post pc lv (.int x :: .int i :: .ref k :: st) h := by
  intro b G p l e R s m args below meth c n0 s0 Q C H locs ls V
  obtain ⟨hin, hcl⟩ := px_ix hi hl ha.2.2
  refine W.zast C.1.1 C.1.2.1 (px_arr V.1 ha (by decide) (by decide)) (px_aT C.2.1 (kd := 21) (by decide) (by decide) len _) (fun q => by cases q) (by rw [arrV_size]; exact hin) rfl rfl d fun H1 eh z oq => ?_
  rw [hcl] at eh ⊢
  rw [hz] at eh
  refine kk b G p l e R s m args below meth c n0 s0 Q C H1 _ ls ⟨px_stR (h' := pI h k j x) V.1 ha (by decide) (by decide) eh z oq rfl rfl (fun y hy => up2_ne hy) (fun y _ => rfl) (fun y _ => rfl) (fun y => ?_), px_Okp V.2.1 V.1 (Nat.le_add_right b k) oq, px_vS (n0 := n0) V.2.2.1 (Nat.le_add_right b k) z oq, V.2.2.2.1, V.2.2.2.2⟩
  by_cases hy : y = j
  · subst hy
    have e9 : hI (pI h k y x) k y = x := up2_ss
    simp [updV, px_av, e9]
  · have e9 : hI (pI h k j x) k y = hI h k y := up2_sn hy
    simp [updV, px_av, hy, e9]
theorem px_cast {k len j : Nat} {i : Int32} {x : Int32} (d : decode (px_cc M) pc = .ok (.castore, 1)) (ha : px_ar h k 22 len) (hi : i = nI j) (hl : j < len) (hz : narrow .char (.int x) = .int x) (kk : PW M N1 S1 Post (pc + 1) lv st (pI h k j x)) : PW M N1 S1 Post pc lv (.int x :: .int i :: .ref k :: st) h := by
  intro b G p l e R s m args below meth c n0 s0 Q C H locs ls V
  obtain ⟨hin, hcl⟩ := px_ix hi hl ha.2.2
  refine W.cast C.1.1 C.1.2.1 (px_arr V.1 ha (by decide) (by decide)) (px_aT C.2.1 (kd := 22) (by decide) (by decide) len _) (fun q => by cases q) (by rw [arrV_size]; exact hin) rfl rfl d fun H1 eh z oq => ?_
  rw [hcl] at eh ⊢
  rw [hz] at eh
  refine kk b G p l e R s m args below meth c n0 s0 Q C H1 _ ls ⟨px_stR (h' := pI h k j x) V.1 ha (by decide) (by decide) eh z oq rfl rfl (fun y hy => up2_ne hy) (fun y _ => rfl) (fun y _ => rfl) (fun y => ?_), px_Okp V.2.1 V.1 (Nat.le_add_right b k) oq, px_vS (n0 := n0) V.2.2.1 (Nat.le_add_right b k) z oq, V.2.2.2.1, V.2.2.2.2⟩
  by_cases hy : y = j
  · subst hy
    have e9 : hI (pI h k y x) k y = x := up2_ss
    simp [updV, px_av, e9]
  · have e9 : hI (pI h k j x) k y = hI h k y := up2_sn hy
    simp [updV, px_av, hy, e9]
theorem px_last {k len j : Nat} {i : Int32} {x : Int64} (d : decode (px_cc M) pc = .ok (.lastore, 1)) (ha : px_ar h k 23 len) (hi : i = nI j) (hl : j < len) (kk : PW M N1 S1 Post (pc + 1) lv st (pJ h k j x)) : PW M N1 S1 Post pc lv (.long x :: .int i :: .ref k :: st) h := by
  intro b G p l e R s m args below meth c n0 s0 Q C H locs ls V
  obtain ⟨hin, hcl⟩ := px_ix hi hl ha.2.2
  refine W.last C.1.1 C.1.2.1 (px_arr V.1 ha (by decide) (by decide)) (px_aT C.2.1 (kd := 23) (by decide) (by decide) len _) (fun q => by cases q) (by rw [arrV_size]; exact hin) rfl rfl d fun H1 eh z oq => ?_
  rw [hcl] at eh ⊢
  refine kk b G p l e R s m args below meth c n0 s0 Q C H1 _ ls ⟨px_stR (h' := pJ h k j x) V.1 ha (by decide) (by decide) eh z oq rfl rfl (fun y _ => rfl) (fun y hy => up2_ne hy) (fun y _ => rfl) (fun y => ?_), px_Okp V.2.1 V.1 (Nat.le_add_right b k) oq, px_vS (n0 := n0) V.2.2.1 (Nat.le_add_right b k) z oq, V.2.2.2.1, V.2.2.2.2⟩
  by_cases hy : y = j
  · subst hy
    have e9 : hJ (pJ h k y x) k y = x := up2_ss
    simp [updV, px_av, e9]
  · have e9 : hJ (pJ h k j x) k y = hJ h k y := up2_sn hy
    simp [updV, px_av, hy, e9]
theorem px_aastA {k len j v ci : Nat} {i : Int32} (d : decode (px_cc M) pc = .ok (.aastore, 1)) (ha : px_ar h k 24 len) (hi : i = nI j) (hl : j < len) (hv : px_ob h v ci) (hc : ci < px_NC) (hcn : (px_CT ci).1 = px_C24) (kk : PW M N1 S1 Post (pc + 1) lv st (pR h k j (some v))) : PW M N1 S1 Post pc lv (.ref v :: .int i :: .ref k :: st) h := by
  intro b G p l e R s m args below meth c n0 s0 Q C H locs ls V
  obtain ⟨hin, hcl⟩ := px_ix hi hl ha.2.2
  have h0 : ¬ i < 0 := fun q => hin (Or.inl q)
  obtain ⟨cellV, g1, g2, g3, -⟩ := px_obj V.1 hv hc
  have hcls := (C.2.1.1 ci hc).2
  obtain ⟨kA, comp, k1, k2, k3, -⟩ := (C.2.1.2.1 24 (by decide) (by decide)).2
  have hcomp : comp = G.1 ci := Option.some.inj (k3.symm.trans (by rw [← hcn]; exact hcls.1))
  subst hcomp
  obtain ⟨kC, hkC, -⟩ := id hcls.2
  refine W.aast C.1.1 C.1.2.1 (px_arr V.1 ha (by decide) (by decide)) (fun q h => by cases h) (fun h => by cases h) k1 k2 rfl hkC ⟨h0, by rw [arrV_size, hcl]; exact hl⟩ g1 (fun q h => by rw [g3] at h; cases h) (by rw [g2]; exact hkC) (by rw [g2]; exact va_assign hcls) rfl rfl d fun H1 eh z oq => ?_
  rw [hcl] at eh ⊢
  refine kk b G p l e R s m args below meth c n0 s0 Q C H1 _ ls ⟨px_stR (h' := pR h k j (some v)) V.1 ha (by decide) (by decide) eh z oq rfl rfl (fun y _ => rfl) (fun y _ => rfl) (fun y hy => up2_ne hy) (fun y => ?_), px_Okp V.2.1 V.1 (Nat.le_add_right b k) oq, px_vS (n0 := n0) V.2.2.1 (Nat.le_add_right b k) z oq, V.2.2.2.1, V.2.2.2.2⟩
  by_cases hy : y = j
  · subst hy
    have e9 : hR (pR h k y (some v)) k y = some v := up2_ss
    simp [updV, px_av, e9, px_rf, va_rf]
  · have e9 : hR (pR h k j (some v)) k y = hR h k y := up2_sn hy
    simp [updV, px_av, hy, e9]
theorem px_aastB {k len j v ci : Nat} {i : Int32} (d : decode (px_cc M) pc = .ok (.aastore, 1)) (ha : px_ar h k 25 len) (hi : i = nI j) (hl : j < len) (hv : px_ob h v ci) (hc : ci < px_NC) (hcn : (px_CT ci).1 = px_C25) (kk : PW M N1 S1 Post (pc + 1) lv st (pR h k j (some v))) : PW M N1 S1 Post pc lv (.ref v :: .int i :: .ref k :: st) h := by
  intro b G p l e R s m args below meth c n0 s0 Q C H locs ls V
  obtain ⟨hin, hcl⟩ := px_ix hi hl ha.2.2
  have h0 : ¬ i < 0 := fun q => hin (Or.inl q)
  obtain ⟨cellV, g1, g2, g3, -⟩ := px_obj V.1 hv hc
  have hcls := (C.2.1.1 ci hc).2
  obtain ⟨kA, comp, k1, k2, k3, -⟩ := (C.2.1.2.1 25 (by decide) (by decide)).2
  have hcomp : comp = G.1 ci := Option.some.inj (k3.symm.trans (by rw [← hcn]; exact hcls.1))
  subst hcomp
  obtain ⟨kC, hkC, -⟩ := id hcls.2
  refine W.aast C.1.1 C.1.2.1 (px_arr V.1 ha (by decide) (by decide)) (fun q h => by cases h) (fun h => by cases h) k1 k2 rfl hkC ⟨h0, by rw [arrV_size, hcl]; exact hl⟩ g1 (fun q h => by rw [g3] at h; cases h) (by rw [g2]; exact hkC) (by rw [g2]; exact va_assign hcls) rfl rfl d fun H1 eh z oq => ?_
  rw [hcl] at eh ⊢
  refine kk b G p l e R s m args below meth c n0 s0 Q C H1 _ ls ⟨px_stR (h' := pR h k j (some v)) V.1 ha (by decide) (by decide) eh z oq rfl rfl (fun y _ => rfl) (fun y _ => rfl) (fun y hy => up2_ne hy) (fun y => ?_), px_Okp V.2.1 V.1 (Nat.le_add_right b k) oq, px_vS (n0 := n0) V.2.2.1 (Nat.le_add_right b k) z oq, V.2.2.2.1, V.2.2.2.2⟩
  by_cases hy : y = j
  · subst hy
    have e9 : hR (pR h k y (some v)) k y = some v := up2_ss
    simp [updV, px_av, e9, px_rf, va_rf]
  · have e9 : hR (pR h k j (some v)) k y = hR h k y := up2_sn hy
    simp [updV, px_av, hy, e9]
end PXA
