/-! ===== rules of the heap ===== -/
def px_ob (h : PH) (k ci : Nat) : Prop := k < hn h ∧ (hK h k).1 = ci
def px_ar (h : PH) (k kd len : Nat) : Prop := k < hn h ∧ hK h k = (kd, len) ∧ len ≤ 1000000
def px_FL (own : String) (ix ci j : Nat) : Prop := ci < px_NC ∧ j < (px_CT ci).2.2 ∧ Cond.fieldLink own ix ((px_CT ci).2.1 j).1 ((px_CT ci).2.1 j).2.1 ((px_CT ci).2.1 j).2.2.1 ∈ px_TB
theorem px_c20 {ci : Nat} (h : ci < px_NC) : ci < 20 := Nat.lt_of_lt_of_le h (by decide)
theorem px_obj {b : Nat} {G : px_G} {h : PH} {H : Heap} {k ci : Nat} (hR : px_Rel b G h H) (ho : px_ob h k ci) (hc : ci < px_NC) : t_OB (b + k) (G.1 ci) (px_CT ci).2.2 (G.2.1 ci) H (px_fv b h ci k) := by
  have h1 := hR.2 k ho.1
  unfold px_at at h1
  rw [ho.2, if_pos (px_c20 hc)] at h1
  exact h1
theorem px_arr {b : Nat} {G : px_G} {h : PH} {H : Heap} {k kd len : Nat} (hR : px_Rel b G h H) (ha : px_ar h k kd len) (h1 : 20 ≤ kd) (h2 : kd < 26) : H[b + k]? = some (arrV (G.2.2.1 kd) len (px_av b h kd k)) := by
  have h3 := hR.2 k ha.1
  unfold px_at at h3
  rw [ha.2.1] at h3
  rw [if_neg (Nat.not_lt.mpr h1), if_pos h2] at h3
  exact h3
theorem px_at.kept {b : Nat} {G : px_G} {h h' : PH} {H H1 : Heap} {k : Nat} (ek : hK h' k = hK h k) (ei : hI h' k = hI h k) (ej : hJ h' k = hJ h k) (er : hR h' k = hR h k) (hq : H1[b + k]? = H[b + k]?) (a : px_at b G h H k) : px_at b G h' H1 k := by
  have ef : ∀ c, px_fv b h' c k = px_fv b h c k := fun c => by funext j; unfold px_fv; rw [ei, er]
  have ea : ∀ c, px_av b h' c k = px_av b h c k := fun c => by funext j; unfold px_av; rw [ei, ej, er]
  unfold px_at at a ⊢
  rw [ek]
  by_cases h1 : (hK h k).1 < 20
  · rw [if_pos h1] at a ⊢
    rw [ef]
    exact a.kept hq
  · rw [if_neg h1] at a ⊢
    by_cases h2 : (hK h k).1 < 26
    · rw [if_pos h2] at a ⊢
      rw [ea, hq]
      exact a
    · rw [if_neg h2]
      trivial
/-- one cell changes -/
theorem px_Rel.upd {b : Nat} {G : px_G} {h h' : PH} {H H1 : Heap} {k : Nat} (hR0 : px_Rel b G h H) (en : hn h' = hn h) (ek : hK h' = hK h) (ei : ∀ x, x ≠ k → hI h' x = hI h x) (ej : ∀ x, x ≠ k → hJ h' x = hJ h x) (er : ∀ x, x ≠ k → hR h' x = hR h x) (z : H1.size = H.size) (oq : ∀ q : Nat, q ≠ b + k → H1[q]? = H[q]?) (a : px_at b G h' H1 k) : px_Rel b G h' H1 := by
  refine ⟨by rw [z, en]; exact hR0.1, fun x hx => ?_⟩
  by_cases e : x = k
  · rw [e]; exact a
  · exact px_at.kept (by rw [ek]) (ei x e) (ej x e) (er x e) (oq _ (by omega)) (hR0.2 x (by rw [← en]; exact hx))
theorem up2_ne {α : Type} {f : Nat → Nat → α} {a i x : Nat} {v : α} (h : x ≠ a) : up2 f a i v x = f x := by funext j; simp [up2, h]
theorem up2_ss {α : Type} {f : Nat → Nat → α} {a i : Nat} {v : α} : up2 f a i v a i = v := by simp [up2]
theorem up2_sn {α : Type} {f : Nat → Nat → α} {a i j : Nat} {v : α} (h : j ≠ i) : up2 f a i v a j = f a j := by simp [up2, h]
theorem px_vS {b n0 : Nat} {s : State} {H H1 : Heap} {locs : List Loc} {a i : Nat} (hS : va_S (fun q => b ≤ q) s.heap H locs) (ha : b ≤ a) (z : H1.size = H.size) (oq : ∀ q : Nat, q ≠ a → H1[q]? = H[q]?) : va_S (fun q => b ≤ q) s.heap H1 (locs ++ [⟨a, i⟩]) := hS.put z oq ha
theorem px_Okp {b : Nat} {G : px_G} {s : State} {h : PH} {H H1 : Heap} {a : Nat} (hO : px_O b G s H) (hR : px_Rel b G h H) (ha : b ≤ a) (oq : ∀ q : Nat, q ≠ a → H1[q]? = H[q]?) : px_O b G s H1 := hO.kept (by rw [hR.1]; omega) (fun q hq => oq q (by omega))
theorem px_pty {ci j : Nat} (hc : ci < px_NC) (hj : j < (px_CT ci).2.2) : ∃ t, parseFieldDescriptor ((px_CT ci).2.1 j).2.2.1 = some t ∧ ((((px_CT ci).2.1 j).2.2.1 = "I" ∧ t = .int) ∨ (((px_CT ci).2.1 j).2.2.1 ≠ "I" ∧ ((∃ n, t = .object n) ∨ ∃ u, t = .array u))) := by
  by_cases e : ((px_CT ci).2.1 j).2.2.1 = "I"
  · exact ⟨.int, by rw [e]; decide +kernel, Or.inl ⟨e, rfl⟩⟩
  · rcases px_parse ci hc j hj with h | h
    · exact absurd h e
    · cases ht : parseFieldDescriptor ((px_CT ci).2.1 j).2.2.1 with
      | none => rw [ht] at h; cases h
      | some t =>
        rw [ht] at h
        cases t <;> first | exact ⟨_, rfl, Or.inr ⟨e, Or.inl ⟨_, rfl⟩⟩⟩ | exact ⟨_, rfl, Or.inr ⟨e, Or.inr ⟨_, rfl⟩⟩⟩ | cases h
theorem px_apart {G : px_G} {s : State} {args : Array Value} {ci : Nat} (hts : ∀ w ∈ px_TB, w.before args s = true) (hK : px_K G s) (hc : ci < px_NC) : ∀ x y, x < (px_CT ci).2.2 → y < (px_CT ci).2.2 → x ≠ y → G.2.1 ci x ≠ G.2.1 ci y := by
  intro x y hx hy hne
  obtain ⟨hS, -⟩ := hK.1 ci hc
  obtain ⟨_, _, _, fa, hia, ea⟩ := hS x hx
  obtain ⟨_, _, _, fb, hib, eb⟩ := hS y hy
  obtain ⟨tx, htx, -⟩ := px_pty hc hx
  obtain ⟨ty, hty, -⟩ := px_pty hc hy
  rw [← ea, ← eb]
  refine u_apart (u_lays hts (px_lays ci hc) hx) (u_lays hts (px_lays ci hc) hy) hia hib ?_
  rw [(State.fieldFound?_type hia htx).1, (State.fieldFound?_type hib hty).1]
  exact px_names ci hc x hx y hy hne
section PXH
variable {M : px_M} {N1 S1 : Nat} {Post : Nat → Option Value → PH → Prop} {pc : Nat} {lv : List (Nat × Value)} {st : List Value} {h : PH}
theorem px_getV {b : Nat} {G : px_G} {p : Program} {l : Launch} {e : Env} {R : Room} {s : State} {m : MethodId} {args : Array Value} {below : List Frame} {meth : Method} {c : Code} {n0 s0 : Nat} {Q : State → Prop} {H : Heap} {locs : List Loc} {ls : Array Slot} {cells slots k ci j ix : Nat} {rest : List Value}
    (C : px_C M N1 S1 Post b G p l e R s m args below meth c n0 s0 Q) (hR0 : px_Rel b G h H) (d : decode (px_cc M) pc = .ok (.getfield ix, 3)) (f : px_FL (px_own M) ix ci j) (ho : px_ob h k ci)
    (kk : W p l e R s m args below meth c H locs cells slots Q (F0 m (pc + 3) ls (px_fv b h ci k j :: rest))) : W p l e R s m args below meth c H locs cells slots Q (F0 m pc ls (.ref (b + k) :: rest)) := by
  obtain ⟨hc, hj, hfl⟩ := f
  obtain ⟨cell, q1, q2, q3, q4⟩ := px_obj hR0 ho hc
  obtain ⟨hS, hfc, kC, hkC, hkind⟩ := C.2.1.1 ci hc
  obtain ⟨cf, kf, fi, fd, hi, hsl⟩ := hS j hj
  refine W.getf C.1.1 C.1.2.1 C.1.2.2.2.1 (C.1.2.2.2.2 _ hfl) hi (u_facts hfc hkC (u_lays C.1.2.2.2.2 (px_lays ci hc) hj) hi).1 q1 (by rw [q3]; exact fun h => by cases h) (v := px_fv b h ci k j) ?_ rfl rfl d kk
  rw [hsl, q4 j hj]
theorem px_getI {k ci j ix : Nat} (d : decode (px_cc M) pc = .ok (.getfield ix, 3)) (f : px_FL (px_own M) ix ci j) (hd : ((px_CT ci).2.1 j).2.2.1 = "I") (ho : px_ob h k ci) (kk : PW M N1 S1 Post (pc + 3) lv (.int (hI h k j) :: st) h) : PW M N1 S1 Post pc lv (.ref k :: st) h := by
  intro b G p l e R s m args below meth c n0 s0 Q C H locs ls V
  refine px_getV C V.1 d f ho ?_
  unfold px_fv
  rw [if_pos hd]
  exact kk b G p l e R s m args below meth c n0 s0 Q C H locs ls V
theorem px_getR {k ci j ix r : Nat} (d : decode (px_cc M) pc = .ok (.getfield ix, 3)) (f : px_FL (px_own M) ix ci j) (hd : ((px_CT ci).2.1 j).2.2.1 ≠ "I") (ho : px_ob h k ci) (hr : hR h k j = some r) (kk : PW M N1 S1 Post (pc + 3) lv (.ref r :: st) h) : PW M N1 S1 Post pc lv (.ref k :: st) h := by
  intro b G p l e R s m args below meth c n0 s0 Q C H locs ls V
  refine px_getV C V.1 d f ho ?_
  unfold px_fv
  rw [if_neg hd, hr]
  exact kk b G p l e R s m args below meth c n0 s0 Q C H locs ls V
theorem px_putI {k ci j ix : Nat} {v : Int32} (d : decode (px_cc M) pc = .ok (.putfield ix, 3)) (f : px_FL (px_own M) ix ci j) (hd : ((px_CT ci).2.1 j).2.2 = ("I", false)) (ho : px_ob h k ci) (kk : PW M N1 S1 Post (pc + 3) lv st (pI h k j v)) : PW M N1 S1 Post pc lv (.int v :: .ref k :: st) h := by
  intro b G p l e R s m args below meth c n0 s0 Q C H locs ls V
  obtain ⟨hc, hj, hfl⟩ := f
  have hts := C.1.2.2.2.2
  have hap := px_apart hts C.2.1 hc
  obtain ⟨cell, q1, q2, q3, q4⟩ := px_obj V.1 ho hc
  obtain ⟨hS, hfc, kC, hkC, hkind⟩ := C.2.1.1 ci hc
  obtain ⟨cf, kf, fi, fd, hi, hsl⟩ := hS j hj
  have hlay := hts _ (px_lays ci hc _ (u_in_lay hj))
  unfold u_lay at hlay
  rw [if_neg (by rw [hd]; decide)] at hlay
  have hst := (u_facts hfc hkC (u_lays hts (px_lays ci hc) hj) hi).1
  have hparse : parseFieldDescriptor ((px_CT ci).2.1 j).2.2.1 = some .int := by rw [hd]; decide +kernel
  have h6 := u_store (v := .int v) hfc hkC hkind hlay hi hparse rfl rfl
  refine W.putK C.1.1 C.1.2.1 (f := fd) ⟨C.1.2.2.2.1, hts _ hfl, ⟨_, _, _, hi⟩, hst⟩ (by rw [q2]; exact h6) q1 q3 (by rw [hsl]; exact k2_hasslot (q4 j hj)) rfl rfl d fun H' e1 e2 e3 => ?_
  rw [hsl] at e1 ⊢
  refine kk b G p l e R s m args below meth c n0 s0 Q C H' _ ls ⟨px_Rel.upd (h' := pI h k j v) V.1 rfl rfl (fun x hx => up2_ne hx) (fun x _ => rfl) (fun x _ => rfl) e2 e3 ?_, px_Okp V.2.1 V.1 (Nat.le_add_right b k) e3, px_vS (n0 := n0) V.2.2.1 (Nat.le_add_right b k) e2 e3, V.2.2.2.1, V.2.2.2.2⟩
  unfold px_at
  rw [show hK (pI h k j v) k = hK h k from rfl, ho.2, if_pos (px_c20 hc)]
  refine t_OB.to (V := updV (px_fv b h ci k) j (.int v)) ⟨_, e1, q2, q3, t_set q4 hap hj (.int v)⟩ (fun x hx => ?_)
  by_cases ex : x = j
  · subst ex
    simp [updV, px_fv, hd, pI, hI, up2]
  · have e9 : hI (pI h k j v) k x = hI h k x := up2_sn ex
    simp [updV, px_fv, ex, e9]
    rfl
/-- a field in its constructor, final or not -/
theorem px_putW {b : Nat} {G : px_G} {p : Program} {l : Launch} {e : Env} {R : Room} {s : State} {m : MethodId} {args : Array Value} {below : List Frame} {meth : Method} {c : Code} {n0 s0 : Nat} {Q : State → Prop} {H : Heap} {locs : List Loc} {ls : Array Slot} {cells slots k ci j ix : Nat} {rest : List Value} {v : Value} {h' : PH}
    (C : px_C M N1 S1 Post b G p l e R s m args below meth c n0 s0 Q) (hR0 : px_Rel b G h H) (d : decode (px_cc M) pc = .ok (.putfield ix, 3)) (f : px_FL (px_own M) ix ci j) (hfin : ((px_CT ci).2.1 j).2.2.2 = true) (hin : (px_y M).name = "<init>") (hdecl : ((px_CT ci).2.1 j).1 = px_own M) (ho : px_ob h k ci)
    (hn9 : ∀ t, parseFieldDescriptor ((px_CT ci).2.1 j).2.2.1 = some t → narrow t v = v ∧ fits t v = true) (en : hn h' = hn h) (ek : hK h' = hK h) (ei : ∀ x, x ≠ k → hI h' x = hI h x) (ej : ∀ x, x ≠ k → hJ h' x = hJ h x) (er : ∀ x, x ≠ k → hR h' x = hR h x) (ev : ∀ x, x < (px_CT ci).2.2 → updV (px_fv b h ci k) j v x = px_fv b h' ci k x)
    (kk : ∀ (H' : Heap) (i : Nat), px_Rel b G h' H' → H'.size = H.size → (∀ q : Nat, q ≠ b + k → H'[q]? = H[q]?) → W p l e R s m args below meth c H' (locs ++ [⟨b + k, i⟩]) cells slots Q (F0 m (pc + 3) ls rest)) : W p l e R s m args below meth c H locs cells slots Q (F0 m pc ls (v :: .ref (b + k) :: rest)) := by
  obtain ⟨hc, hj, hfl⟩ := f
  have hts := C.1.2.2.2.2
  have hap := px_apart hts C.2.1 hc
  obtain ⟨cell, q1, q2, q3, q4⟩ := px_obj hR0 ho hc
  obtain ⟨hS, hfc, kC, hkC, hkind⟩ := C.2.1.1 ci hc
  obtain ⟨cf, kf, fi, fd, hi, hsl⟩ := hS j hj
  obtain ⟨t, ht, -⟩ := px_pty hc hj
  have hlay := hts _ (px_lays ci hc _ (u_in_lay hj))
  unfold u_lay at hlay
  rw [if_pos hfin] at hlay
  have hst := (u_facts hfc hkC (u_lays hts (px_lays ci hc) hj) hi).1
  have hcf : m.cls = cf := by
    obtain ⟨_, _, c', _, _, _, -, -, hf', -, -, -, hown2, -⟩ := Cond.laysFinal_spec hlay
    have e1 : c' = cf := by have := hi.symm.trans hf'; simp at this; exact this.1.symm
    rw [hdecl] at hown2
    rw [← e1]; exact Option.some.inj (C.1.2.2.2.1.symm.trans hown2)
  have h6 := u_fits hfc hkC hkind (Or.inr hlay) hi ht (hn9 t ht).1 (hn9 t ht).2
  refine W.putFinK C.1.1 C.1.2.1 C.1.2.2.2.1 (hts _ hfl) hi hst hcf (C.2.2.2.1.trans hin) (by rw [q2]; exact h6) q1 q3 (by rw [hsl]; exact k2_hasslot (q4 j hj)) rfl rfl d fun H' e1 e2 e3 => ?_
  rw [hsl] at e1 ⊢
  refine kk H' _ (px_Rel.upd (h' := h') hR0 en ek ei ej er e2 e3 ?_) e2 e3
  unfold px_at
  rw [ek, ho.2, if_pos (px_c20 hc)]
  exact t_OB.to (V := updV (px_fv b h ci k) j v) ⟨_, e1, q2, q3, t_set q4 hap hj v⟩ ev
theorem px_putIF {k ci j ix : Nat} {v : Int32} (d : decode (px_cc M) pc = .ok (.putfield ix, 3)) (f : px_FL (px_own M) ix ci j) (hd : ((px_CT ci).2.1 j) = (px_own M, ((px_CT ci).2.1 j).2.1, "I", true)) (hin : (px_y M).name = "<init>") (ho : px_ob h k ci) (kk : PW M N1 S1 Post (pc + 3) lv st (pI h k j v)) : PW M N1 S1 Post pc lv (.int v :: .ref k :: st) h := by
  intro b G p l e R s m args below meth c n0 s0 Q C H locs ls V
  have hI0 : ((px_CT ci).2.1 j).2.2.1 = "I" := by rw [hd]
  refine px_putW (h' := pI h k j v) C V.1 d f (by rw [hd]) hin (by rw [hd]) ho (fun t ht => ?_) rfl rfl (fun x hx => up2_ne hx) (fun x _ => rfl) (fun x _ => rfl) (fun x hx => ?_) (fun H' i r1 e2 e3 => kk b G p l e R s m args below meth c n0 s0 Q C H' _ ls ⟨r1, px_Okp V.2.1 V.1 (Nat.le_add_right b k) e3, px_vS (n0 := n0) V.2.2.1 (Nat.le_add_right b k) e2 e3, V.2.2.2.1, V.2.2.2.2⟩)
  · rw [hI0] at ht
    have e9 : t = .int := Option.some.inj (ht.symm.trans (by decide +kernel))
    subst e9
    exact ⟨rfl, rfl⟩
  · by_cases ex : x = j
    · subst ex
      simp [updV, px_fv, hI0, pI, hI, up2]
      rfl
    · have e9 : hI (pI h k j v) k x = hI h k x := up2_sn ex
      simp [updV, px_fv, ex, e9]
      rfl
theorem px_putRF {k ci j ix r : Nat} (d : decode (px_cc M) pc = .ok (.putfield ix, 3)) (f : px_FL (px_own M) ix ci j) (hd : ((px_CT ci).2.1 j).2.2.1 ≠ "I") (hfin : ((px_CT ci).2.1 j).2.2.2 = true) (hdecl : ((px_CT ci).2.1 j).1 = px_own M) (hin : (px_y M).name = "<init>") (ho : px_ob h k ci) (kk : PW M N1 S1 Post (pc + 3) lv st (pR h k j (some r))) : PW M N1 S1 Post pc lv (.ref r :: .ref k :: st) h := by
  intro b G p l e R s m args below meth c n0 s0 Q C H locs ls V
  refine px_putW (v := .ref (b + r)) (h' := pR h k j (some r)) C V.1 d f hfin hin hdecl ho (fun t ht => ?_) rfl rfl (fun x _ => rfl) (fun x _ => rfl) (fun x hx => up2_ne hx) (fun x hx => ?_) (fun H' i r1 e2 e3 => kk b G p l e R s m args below meth c n0 s0 Q C H' _ ls ⟨r1, px_Okp V.2.1 V.1 (Nat.le_add_right b k) e3, px_vS (n0 := n0) V.2.2.1 (Nat.le_add_right b k) e2 e3, V.2.2.2.1, V.2.2.2.2⟩)
  · obtain ⟨t', ht', hh⟩ := px_pty f.1 f.2.1
    have e9 : t' = t := Option.some.inj (ht'.symm.trans ht)
    subst e9
    rcases hh with ⟨h1, -⟩ | ⟨-, ⟨n, rfl⟩ | ⟨u, rfl⟩⟩
    · exact absurd h1 hd
    · exact ⟨rfl, rfl⟩
    · exact ⟨rfl, rfl⟩
  · by_cases ex : x = j
    · subst ex
      have e9 : hR (pR h k x (some r)) k x = some r := up2_ss
      simp [updV, px_fv, hd, e9, px_rf, va_rf]
    · have e9 : hR (pR h k j (some r)) k x = hR h k x := up2_sn ex
      simp [updV, px_fv, ex, e9]
      rfl
end PXH
