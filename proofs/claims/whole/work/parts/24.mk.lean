section PXA2
variable {M : px_M} {N1 S1 : Nat} {Post : Nat → Option Value → PH → Prop} {pc : Nat} {lv : List (Nat × Value)} {st : List Value} {h : PH}
theorem px_cb (t : ArrayType) : componentBytes (newarray.typeOf t) ≤ 8 := by cases t <;> decide
theorem up1_ne {α : Type} {f : Nat → α} {a x : Nat} {v : α} (h : x ≠ a) : up1 f a v x = f x := by simp [up1, h]
theorem up1_s {α : Type} {f : Nat → α} {a : Nat} {v : α} : up1 f a v a = v := by simp [up1]
theorem px_mkR {b : Nat} {G : px_G} {h : PH} {H H1 : Heap} {kd len sl : Nat} (hR0 : px_Rel b G h H) (z : H1.size = H.size + 1) (oq : ∀ q : Nat, q < H.size → H1[q]? = H[q]?) (a : px_at b G (pN h kd len sl) H1 (hn h)) : px_Rel b G (pN h kd len sl) H1 := by
  refine ⟨by rw [z, hR0.1]; rfl, fun x hx => ?_⟩
  have hx : x < hn h + 1 := hx
  by_cases e : x = hn h
  · rw [e]; exact a
  · exact px_at.kept (up1_ne e) (up1_ne e) (up1_ne e) (up1_ne e) (oq _ (by rw [hR0.1]; omega)) (hR0.2 x (by omega))
theorem px_mkV {nL n0 s0 b : Nat} {G : px_G} {s : State} {H H1 : Heap} {locs : List Loc} {ls : Array Slot} {kd len sl : Nat} (V : px_V nL N1 S1 b G s n0 s0 lv h H locs ls) (z : H1.size = H.size + 1) (oq : ∀ q : Nat, q < H.size → H1[q]? = H[q]?) (a : px_at b G (pN h kd len sl) H1 (hn h)) (hc : hn h + 1 ≤ N1) (hl : hs h + sl ≤ S1) : px_V nL N1 S1 b G s n0 s0 lv (pN h kd len sl) H1 locs ls :=
  ⟨px_mkR V.1 z oq a, V.2.1.kept (by rw [V.1.1]; omega) (fun q hq => oq q (by rw [V.1.1]; omega)), ⟨Nat.le_trans V.2.2.1.1 (by omega), fun q h1 h2 => (oq q (Nat.lt_of_lt_of_le h1 V.2.2.1.1)).trans (V.2.2.1.2.1 q h1 h2), V.2.2.1.2.2⟩, ⟨by show n0 ≤ hn h + 1; have := V.2.2.2.1.1; omega, by show s0 ≤ hs h + sl; have := V.2.2.2.1.2.1; omega, hc, hl⟩, V.2.2.2.2⟩
theorem px_new {ci ix : Nat} (d : decode (px_cc M) pc = .ok (.new ix, 3)) (hc : ci < px_NC) (hcl : Cond.classLink (px_own M) ix (px_CT ci).1 ∈ px_TB) (hin : Cond.instantiable (px_CT ci).1 (px_CT ci).2.2 ∈ px_TB) (hini : Cond.initialized (px_CT ci).1 ∈ px_TB) (h1 : hn h + 1 ≤ N1) (h2 : hs h + (px_CT ci).2.2 ≤ S1) (kk : PW M N1 S1 Post (pc + 3) lv (.ref (hn h) :: st) (pN h ci 0 (px_CT ci).2.2)) : PW M N1 S1 Post pc lv st h := by
  intro b G p l e R s m args below meth c n0 s0 Q C H locs ls V
  have hts := C.1.2.2.2.2
  have hKn := C.2.1.1 ci hc
  have v1 := V.2.2.2.1
  have c1 := C.2.2.2.2.1
  refine W.newcK C.1.1 C.1.2.1 C.1.2.2.2.1 (hts _ hcl) (hts _ hin) (hts _ hini) rfl d (by omega) (by omega) hKn.2.1 V.1.1 fun H1 kC hkC e1 z1 o1 => ?_
  refine W.cs (cells' := hn (pN h ci 0 (px_CT ci).2.2) - n0) (slots' := hs (pN h ci 0 (px_CT ci).2.2) - s0) (by show _ = hn h + 1 - n0; omega) (by show _ = hs h + (px_CT ci).2.2 - s0; omega) ?_
  refine kk b G p l e R s m args below meth c n0 s0 Q C H1 locs ls (px_mkV V (by rw [z1, V.1.1]) (fun q hq => o1 q (by rw [← V.1.1]; exact hq)) ?_ h1 h2)
  unfold px_at
  rw [show hK (pN h ci 0 (px_CT ci).2.2) (hn h) = (ci, 0) from up1_s]
  rw [if_pos (px_c20 hc)]
  have hty : ∀ j, ∃ t, j < (px_CT ci).2.2 → parseFieldDescriptor ((px_CT ci).2.1 j).2.2.1 = some t ∧ ((((px_CT ci).2.1 j).2.2.1 = "I" ∧ t = .int) ∨ (((px_CT ci).2.1 j).2.2.1 ≠ "I" ∧ ((∃ n, t = .object n) ∨ ∃ u, t = .array u))) := by
    intro j
    by_cases hj : j < (px_CT ci).2.2
    · obtain ⟨t, ht⟩ := px_pty hc hj
      exact ⟨t, fun _ => ht⟩
    · exact ⟨.int, fun q => absurd q hj⟩
  obtain ⟨tf, htf⟩ := Classical.axiomOfChoice hty
  refine (u_born tf hts (px_lays ci hc) hKn hkC e1 (fun j hj => (htf j hj).1)).to (fun j hj => ?_)
  have ei : hI (pN h ci 0 (px_CT ci).2.2) (hn h) = fun _ => 0 := up1_s
  have er : hR (pN h ci 0 (px_CT ci).2.2) (hn h) = fun _ => none := up1_s
  rcases (htf j hj).2 with ⟨a1, a2⟩ | ⟨a1, ⟨n, a2⟩ | ⟨u, a2⟩⟩
  · unfold px_fv; rw [if_pos a1, a2, ei]; rfl
  · unfold px_fv; rw [if_neg a1, a2, er]; rfl
  · unfold px_fv; rw [if_neg a1, a2, er]; rfl
theorem px_newI {n : Int32} {len : Nat} (d : decode (px_cc M) pc = .ok (.newarray .int, 2)) (hac : Cond.arrayClass .int ∈ px_TB) (hn0 : n = nI len) (hb : len ≤ 1000000) (h1 : hn h + 1 ≤ N1) (h2 : hs h + len ≤ S1) (kk : PW M N1 S1 Post (pc + 2) lv (.ref (hn h) :: st) (pN h 20 len len)) : PW M N1 S1 Post pc lv (.int n :: st) h := by
  intro b G p l e R s m args below meth c n0 s0 Q C H locs ls V
  have v1 := V.2.2.2.1
  have c1 := C.2.2.2.2.1
  refine va_newaK (atype := .int) C.1.1 C.1.2.1 (C.1.2.2.2.2 _ hac) rfl d rfl (by rw [hn0]; exact nI_pos (by omega)) (N := len) (by rw [hn0]; exact nI_clamp (by omega)) (Nat.le_trans (Nat.mul_le_mul hb (px_cb _)) (by decide)) (by omega) (by omega) V.1.1 fun H1 cA e1 z1 o1 hA hf => ?_
  refine W.cs (cells' := hn (pN h 20 len len) - n0) (slots' := hs (pN h 20 len len) - s0) (by show _ = hn h + 1 - n0; omega) (by show _ = hs h + len - s0; omega) ?_
  refine kk b G p l e R s m args below meth c n0 s0 Q C H1 locs ls (px_mkV V (by rw [z1, V.1.1]) (fun q hq => o1 q (by rw [← V.1.1]; exact hq)) ?_ h1 h2)
  have hcA : G.2.2.1 20 = cA := Option.some.inj ((C.2.1.2.1 20 (by decide) (by decide)).2.symm.trans hf)
  unfold px_at
  rw [show hK (pN h 20 len len) (hn h) = (20, len) from up1_s]
  rw [if_neg (show ¬ (20 : Nat) < 20 by decide), if_pos (show (20 : Nat) < 26 by decide), hcA, e1]
  congr 2
  funext j
  have ei : hI (pN h 20 len len) (hn h) = fun _ => 0 := up1_s
  have ej : hJ (pN h 20 len len) (hn h) = fun _ => 0 := up1_s
  simp [px_av, ei, ej]
  rfl
theorem px_newZ {n : Int32} {len : Nat} (d : decode (px_cc M) pc = .ok (.newarray .boolean, 2)) (hac : Cond.arrayClass .boolean ∈ px_TB) (hn0 : n = nI len) (hb : len ≤ 1000000) (h1 : hn h + 1 ≤ N1) (h2 : hs h + len ≤ S1) (kk : PW M N1 S1 Post (pc + 2) lv (.ref (hn h) :: st) (pN h 21 len len)) : PW M N1 S1 Post pc lv (.int n :: st) h := by
  intro b G p l e R s m args below meth c n0 s0 Q C H locs ls V
  have v1 := V.2.2.2.1
  have c1 := C.2.2.2.2.1
  refine va_newaK (atype := .boolean) C.1.1 C.1.2.1 (C.1.2.2.2.2 _ hac) rfl d rfl (by rw [hn0]; exact nI_pos (by omega)) (N := len) (by rw [hn0]; exact nI_clamp (by omega)) (Nat.le_trans (Nat.mul_le_mul hb (px_cb _)) (by decide)) (by omega) (by omega) V.1.1 fun H1 cA e1 z1 o1 hA hf => ?_
  refine W.cs (cells' := hn (pN h 21 len len) - n0) (slots' := hs (pN h 21 len len) - s0) (by show _ = hn h + 1 - n0; omega) (by show _ = hs h + len - s0; omega) ?_
  refine kk b G p l e R s m args below meth c n0 s0 Q C H1 locs ls (px_mkV V (by rw [z1, V.1.1]) (fun q hq => o1 q (by rw [← V.1.1]; exact hq)) ?_ h1 h2)
  have hcA : G.2.2.1 21 = cA := Option.some.inj ((C.2.1.2.1 21 (by decide) (by decide)).2.symm.trans hf)
  unfold px_at
  rw [show hK (pN h 21 len len) (hn h) = (21, len) from up1_s]
  rw [if_neg (show ¬ (21 : Nat) < 20 by decide), if_pos (show (21 : Nat) < 26 by decide), hcA, e1]
  congr 2
  funext j
  have ei : hI (pN h 21 len len) (hn h) = fun _ => 0 := up1_s
  have ej : hJ (pN h 21 len len) (hn h) = fun _ => 0 := up1_s
  simp [px_av, ei, ej]
  rfl
theorem px_newC {n : Int32} {len : Nat} (d : decode (px_cc M) pc = .ok (.newarray .char, 2)) (hac : Cond.arrayClass .char ∈ px_TB) (hn0 : n = nI len) (hb : len ≤ 1000000) (h1 : hn h + 1 ≤ N1) (h2 : hs h + len ≤ S1) (kk : PW M N1 S1 Post (pc + 2) lv (.ref (hn h) :: st) (pN h 22 len len)) : PW M N1 S1 Post pc lv (.int n :: st) h := by
  intro b G p l e R s m args below meth c n0 s0 Q C H locs ls V
  have v1 := V.2.2.2.1
  have c1 := C.2.2.2.2.1
  refine va_newaK (atype := .char) C.1.1 C.1.2.1 (C.1.2.2.2.2 _ hac) rfl d rfl (by rw [hn0]; exact nI_pos (by omega)) (N := len) (by rw [hn0]; exact nI_clamp (by omega)) (Nat.le_trans (Nat.mul_le_mul hb (px_cb _)) (by decide)) (by omega) (by omega) V.1.1 fun H1 cA e1 z1 o1 hA hf => ?_
  refine W.cs (cells' := hn (pN h 22 len len) - n0) (slots' := hs (pN h 22 len len) - s0) (by show _ = hn h + 1 - n0; omega) (by show _ = hs h + len - s0; omega) ?_
  refine kk b G p l e R s m args below meth c n0 s0 Q C H1 locs ls (px_mkV V (by rw [z1, V.1.1]) (fun q hq => o1 q (by rw [← V.1.1]; exact hq)) ?_ h1 h2)
  have hcA : G.2.2.1 22 = cA := Option.some.inj ((C.2.1.2.1 22 (by decide) (by decide)).2.symm.trans hf)
  unfold px_at
  rw [show hK (pN h 22 len len) (hn h) = (22, len) from up1_s]
  rw [if_neg (show ¬ (22 : Nat) < 20 by decide), if_pos (show (22 : Nat) < 26 by decide), hcA, e1]
  congr 2
  funext j
  have ei : hI (pN h 22 len len) (hn h) = fun _ => 0 := up1_s
  have ej : hJ (pN h 22 len len) (hn h) = fun _ => 0 := up1_s
  simp [px_av, ei, ej]
  rfl
theorem px_newJ {n : Int32} {len : Nat} (d : decode (px_cc M) pc = .ok (.newarray .long, 2)) (hac : Cond.arrayClass .long ∈ px_TB) (hn0 : n = nI len) (hb : len ≤ 1000000) (h1 : hn h + 1 ≤ N1) (h2 : hs h + len ≤ S1) (kk : PW M N1 S1 Post (pc + 2) lv (.ref (hn h) :: st) (pN h 23 len len)) : PW M N1 S1 Post pc lv (.int n :: st) h := by
  intro b G p l e R s m args below meth c n0 s0 Q C H locs ls V
  have v1 := V.2.2.2.1
  have c1 := C.2.2.2.2.1
  refine va_newaK (atype := .long) C.1.1 C.1.2.1 (C.1.2.2.2.2 _ hac) rfl d rfl (by rw [hn0]; exact nI_pos (by omega)) (N := len) (by rw [hn0]; exact nI_clamp (by omega)) (Nat.le_trans (Nat.mul_le_mul hb (px_cb _)) (by decide)) (by omega) (by omega) V.1.1 fun H1 cA e1 z1 o1 hA hf => ?_
  refine W.cs (cells' := hn (pN h 23 len len) - n0) (slots' := hs (pN h 23 len len) - s0) (by show _ = hn h + 1 - n0; omega) (by show _ = hs h + len - s0; omega) ?_
  refine kk b G p l e R s m args below meth c n0 s0 Q C H1 locs ls (px_mkV V (by rw [z1, V.1.1]) (fun q hq => o1 q (by rw [← V.1.1]; exact hq)) ?_ h1 h2)
  have hcA : G.2.2.1 23 = cA := Option.some.inj ((C.2.1.2.1 23 (by decide) (by decide)).2.symm.trans hf)
  unfold px_at
  rw [show hK (pN h 23 len len) (hn h) = (23, len) from up1_s]
  rw [if_neg (show ¬ (23 : Nat) < 20 by decide), if_pos (show (23 : Nat) < 26 by decide), hcA, e1]
  congr 2
  funext j
  have ei : hI (pN h 23 len len) (hn h) = fun _ => 0 := up1_s
  have ej : hJ (pN h 23 len len) (hn h) = fun _ => 0 := up1_s
  simp [px_av, ei, ej]
  rfl
theorem px_newA {n : Int32} {len ix : Nat} (d : decode (px_cc M) pc = .ok (.anewarray ix, 3)) (hcl : Cond.classLink (px_own M) ix px_C24 ∈ px_TB) (hao : px_C24 ∈ px_AO) (hn0 : n = nI len) (hb : len ≤ 1000000) (h1 : hn h + 1 ≤ N1) (h2 : hs h + len ≤ S1) (kk : PW M N1 S1 Post (pc + 3) lv (.ref (hn h) :: st) (pN h 24 len len)) : PW M N1 S1 Post pc lv (.int n :: st) h := by
  intro b G p l e R s m args below meth c n0 s0 Q C H locs ls V
  have v1 := V.2.2.2.1
  have c1 := C.2.2.2.2.1
  have hcn : n.toNatClampNeg = len := by rw [hn0]; exact nI_clamp (by omega)
  refine W.anew C.1.1 C.1.2.1 C.1.2.2.2.1 (C.1.2.2.2.2 _ hcl) (va_AO.use (C.2.1.2.2.2.2.1 _ hao)) rfl d rfl (by rw [hn0]; exact nI_pos (by omega)) (by rw [hcn]; omega) (by omega) (by rw [hcn]; omega) fun cA kA comp f1 f2 f3 f4 => ?_
  rw [hcn]
  generalize hH1 : H.push ({ cls := cA, slots := Array.replicate len .null, vm := .none } : Cell) = H1
  have z1 : H1.size = H.size + 1 := by rw [← hH1, Array.size_push]
  have e1 : H1[H.size]? = some (arrV cA len (fun _ => .null)) := by rw [← hH1, Array.getElem?_push_size, ← arrV_new]
  have o1 : ∀ q : Nat, q < H.size → H1[q]? = H[q]? := fun q hq => by rw [← hH1, Array.getElem?_push, if_neg (Nat.ne_of_lt hq)]
  refine W.cs (cells' := hn (pN h 24 len len) - n0) (slots' := hs (pN h 24 len len) - s0) (by show _ = hn h + 1 - n0; omega) (by show _ = hs h + len - s0; omega) ?_
  have hz : H.size = b + hn h := V.1.1
  rw [hz]
  refine kk b G p l e R s m args below meth c n0 s0 Q C H1 locs ls (px_mkV V z1 o1 ?_ h1 h2)
  obtain ⟨kA', comp', g1, g2, g3, g4⟩ := (C.2.1.2.1 24 (by decide) (by decide)).2
  have hcA : G.2.2.1 24 = cA := Option.some.inj (g4.symm.trans f1)
  unfold px_at
  rw [show hK (pN h 24 len len) (hn h) = (24, len) from up1_s]
  rw [if_neg (show ¬ (24 : Nat) < 20 by decide), if_pos (show (24 : Nat) < 26 by decide), hcA, ← hz, e1]
  congr 2
  funext j
  have er : hR (pN h 24 len len) (hn h) = fun _ => none := up1_s
  simp [px_av, er, px_rf, va_rf]
theorem px_newB {n : Int32} {len ix : Nat} (d : decode (px_cc M) pc = .ok (.anewarray ix, 3)) (hcl : Cond.classLink (px_own M) ix px_C25 ∈ px_TB) (hao : px_C25 ∈ px_AO) (hn0 : n = nI len) (hb : len ≤ 1000000) (h1 : hn h + 1 ≤ N1) (h2 : hs h + len ≤ S1) (kk : PW M N1 S1 Post (pc + 3) lv (.ref (hn h) :: st) (pN h 25 len len)) : PW M N1 S1 Post pc lv (.int n :: st) h := by
  intro b G p l e R s m args below meth c n0 s0 Q C H locs ls V
  have v1 := V.2.2.2.1
  have c1 := C.2.2.2.2.1
  have hcn : n.toNatClampNeg = len := by rw [hn0]; exact nI_clamp (by omega)
  refine W.anew C.1.1 C.1.2.1 C.1.2.2.2.1 (C.1.2.2.2.2 _ hcl) (va_AO.use (C.2.1.2.2.2.2.1 _ hao)) rfl d rfl (by rw [hn0]; exact nI_pos (by omega)) (by rw [hcn]; omega) (by omega) (by rw [hcn]; omega) fun cA kA comp f1 f2 f3 f4 => ?_
  rw [hcn]
  generalize hH1 : H.push ({ cls := cA, slots := Array.replicate len .null, vm := .none } : Cell) = H1
  have z1 : H1.size = H.size + 1 := by rw [← hH1, Array.size_push]
  have e1 : H1[H.size]? = some (arrV cA len (fun _ => .null)) := by rw [← hH1, Array.getElem?_push_size, ← arrV_new]
  have o1 : ∀ q : Nat, q < H.size → H1[q]? = H[q]? := fun q hq => by rw [← hH1, Array.getElem?_push, if_neg (Nat.ne_of_lt hq)]
  refine W.cs (cells' := hn (pN h 25 len len) - n0) (slots' := hs (pN h 25 len len) - s0) (by show _ = hn h + 1 - n0; omega) (by show _ = hs h + len - s0; omega) ?_
  have hz : H.size = b + hn h := V.1.1
  rw [hz]
  refine kk b G p l e R s m args below meth c n0 s0 Q C H1 locs ls (px_mkV V z1 o1 ?_ h1 h2)
  obtain ⟨kA', comp', g1, g2, g3, g4⟩ := (C.2.1.2.1 25 (by decide) (by decide)).2
  have hcA : G.2.2.1 25 = cA := Option.some.inj (g4.symm.trans f1)
  unfold px_at
  rw [show hK (pN h 25 len len) (hn h) = (25, len) from up1_s]
  rw [if_neg (show ¬ (25 : Nat) < 20 by decide), if_pos (show (25 : Nat) < 26 by decide), hcA, ← hz, e1]
  congr 2
  funext j
  have er : hR (pN h 25 len len) (hn h) = fun _ => none := up1_s
  simp [px_av, er, px_rf, va_rf]
end PXA2
