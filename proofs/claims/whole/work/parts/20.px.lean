/-! ===== A pure picture of the heap, and the machine's walk over it ===== -/
/-- pure heaps: ints, longs, references by cell and place; a cell's kind and length; how many cells; how many slots -/
abbrev PH : Type := (Nat → Nat → Int32) × (Nat → Nat → Int64) × (Nat → Nat → Option Nat) × (Nat → Nat × Nat) × Nat × Nat
def hI (h : PH) : Nat → Nat → Int32 := h.1
def hJ (h : PH) : Nat → Nat → Int64 := h.2.1
def hR (h : PH) : Nat → Nat → Option Nat := h.2.2.1
def hK (h : PH) : Nat → Nat × Nat := h.2.2.2.1
def hn (h : PH) : Nat := h.2.2.2.2.1
def hs (h : PH) : Nat := h.2.2.2.2.2
def up2 {α : Type} (f : Nat → Nat → α) (a i : Nat) (v : α) : Nat → Nat → α := fun a' i' => if a' = a ∧ i' = i then v else f a' i'
def up1 {α : Type} (f : Nat → α) (a : Nat) (v : α) : Nat → α := fun a' => if a' = a then v else f a'
def pI (h : PH) (a i : Nat) (v : Int32) : PH := (up2 (hI h) a i v, h.2)
def pJ (h : PH) (a i : Nat) (v : Int64) : PH := (h.1, up2 (hJ h) a i v, h.2.2)
def pR (h : PH) (a i : Nat) (v : Option Nat) : PH := (h.1, h.2.1, up2 (hR h) a i v, h.2.2.2)
/-- a new cell of a kind and length, with its slots -/
def pN (h : PH) (kd len sl : Nat) : PH := (up1 (hI h) (hn h) (fun _ => 0), up1 (hJ h) (hn h) (fun _ => 0), up1 (hR h) (hn h) (fun _ => none), up1 (hK h) (hn h) (kd, len), hn h + 1, hs h + sl)
/-- the class ids, the fields' slots, the array classes, the places of what lies outside (script, strings), the script's length and ints -/
abbrev px_G : Type := (Nat → ClassId) × (Nat → Nat → Nat) × (Nat → ClassId) × (Nat → Nat) × Nat × (Nat → Int32)
/-- a pure value as the machine's: references count from b on; 'retAddr' stands for what lies outside -/
def rl (b : Nat) (G : px_G) : Value → Value
  | .ref k => .ref (b + k)
  | .retAddr j => .ref (G.2.2.2.1 j)
  | v => v
theorem rl_cat (b : Nat) (G : px_G) (v : Value) : (rl b G v).category = v.category := by cases v <;> rfl
theorem rl_cats (b : Nat) (G : px_G) (l : List Value) : ((l.map (rl b G)).map fun v => v.category).sum = (l.map fun v => v.category).sum := by
  rw [List.map_map]
  congr 1
  exact List.map_congr_left fun v _ => rl_cat b G v
def px_rf (b : Nat) (r : Option Nat) : Value := va_rf (r.map fun x => b + x)
theorem px_rf_some (b k : Nat) : px_rf b (some k) = .ref (b + k) := rfl
theorem px_rf_none (b : Nat) : px_rf b none = .null := rfl
/-- what place j of an object of class ci holds -/
def px_fv (b : Nat) (h : PH) (ci k j : Nat) : Value := if ((px_CT ci).2.1 j).2.2.1 = "I" then .int (hI h k j) else px_rf b (hR h k j)
/-- what place j of an array holds: kinds 20 int, 21 boolean, 22 char, 23 long, 24, 25 references -/
def px_av (b : Nat) (h : PH) (kd k j : Nat) : Value := if kd ≤ 22 then .int (hI h k j) else if kd = 23 then .long (hJ h k j) else px_rf b (hR h k j)
def px_ty (kd : Nat) : FieldType := match kd with
  | 20 => .int
  | 21 => .boolean
  | 22 => .char
  | 23 => .long
  | 24 => .object px_C24
  | _ => .object px_C25
def px_at (b : Nat) (G : px_G) (h : PH) (H : Heap) (k : Nat) : Prop :=
  if (hK h k).1 < 20 then t_OB (b + k) (G.1 (hK h k).1) (px_CT (hK h k).1).2.2 (G.2.1 (hK h k).1) H (px_fv b h (hK h k).1 k)
  else if (hK h k).1 < 26 then H[b + k]? = some (arrV (G.2.2.1 (hK h k).1) (hK h k).2 (px_av b h (hK h k).1 k))
  else True
def px_Rel (b : Nat) (G : px_G) (h : PH) (H : Heap) : Prop := H.size = b + hn h ∧ ∀ k, k < hn h → px_at b G h H k
/-- what the tables say of the classes -/
def px_K (G : px_G) (U : State) : Prop := (∀ ci, ci < px_NC → u_Kn U (px_CT ci).1 (px_CT ci).2.1 (px_CT ci).2.2 (G.1 ci) (G.2.1 ci)) ∧ (∀ kd, 20 ≤ kd → kd < 26 → ArrOfT U (G.2.2.1 kd) (px_ty kd) ∧ va_RA U (G.2.2.1 kd) (px_ty kd)) ∧ (∀ q ∈ px_NW, va_Nw (.methodLinkNest q.1 q.2.1 q.2.2.1 q.2.2.2) U) ∧ (∀ q ∈ px_SR, vk_R q.1 q.2.1 q.2.2.1 (G.2.2.2.1 q.2.2.2) U) ∧ (∀ C ∈ px_AO, va_AO C U) ∧ (∀ q ∈ px_CA, va_Nw (.castable q.1 q.2) U) ∧ (∀ x ∈ px_DE, va_Nw (.declares x) U)
/-- what lies outside: the script, the strings, the statics that a throw reads -/
def px_O (b : Nat) (G : px_G) (U : State) (H : Heap) : Prop :=
  (∀ j, j < 32 → G.2.2.2.1 j < b) ∧ va_X (G.2.2.2.1 0) G.2.2.2.2.1 G.2.2.2.2.2 U H ∧
  vk_S px_SN px_SL px_SB (fun i => G.2.2.2.1 (1 + 2 * i)) (fun i => G.2.2.2.1 (2 + 2 * i)) (fun q => b ≤ q) U H ∧
  (va_Z "java/lang/String" "COMPACT_STRINGS" "Z" (.int 1) (fun q => b ≤ q) U H ∧ va_Zq "jdk/internal/util/Preconditions" "SIOOBE_FORMATTER" "Ljava/util/function/BiFunction;" (fun q => b ≤ q) U H) ∧
  vx_Zq Bundle.tN "UNASSIGNED_STACK" Bundle.steD (fun q => b ≤ q) U H ∧ vx_Zq Bundle.tN "SUPPRESSED_SENTINEL" Bundle.listD (fun q => b ≤ q) U H
theorem px_K.moved {G : px_G} {u U : State} (hW : u.WarmedH U.vm) (h : px_K G u) : px_K G U :=
  ⟨fun ci hc => u_Kn_moved hW.alike (h.1 ci hc), fun kd h1 h2 => ⟨arrOfT_moved hW.alike (h.2.1 kd h1 h2).1, (h.2.1 kd h1 h2).2.moved hW.alike⟩, fun q hq => va_Nw.warmM hW (h.2.2.1 q hq), fun q hq => vk_R.warm hW (h.2.2.2.1 q hq), fun C hC => va_AO.moved hW.alike (h.2.2.2.2.1 C hC), fun q hq => va_Nw.warmC hW (h.2.2.2.2.2.1 q hq), fun x hx => va_Nw.warmD hW (h.2.2.2.2.2.2 x hx)⟩
theorem px_K.blind {G : px_G} {U : State} (g : JFrame) (mk : MethodId) (a : Array Value) (h : px_K G U) : px_K G (U.calling g mk a) := px_K.moved (State.WarmedH.refl U) h
theorem px_O.kept {b : Nat} {G : px_G} {U : State} {H H1 : Heap} (h : px_O b G U H) (hz : b ≤ H.size) (hq : ∀ q : Nat, q < b → H1[q]? = H[q]?) : px_O b G U H1 := by
  obtain ⟨h1, h2, h3, h4, h5, h6⟩ := h
  have hk : ∀ a : Nat, a < H.size → ¬ (fun q => b ≤ q) a → H1[a]? = H[a]? := fun a _ ha => hq a (Nat.not_le.mp ha)
  exact ⟨h1, h2.kept (hq _ (h1 0 (by decide))), h3.kept hk, ⟨h4.1.kept hk, h4.2.kept hk⟩, h5.kept hk, h6.kept hk⟩
theorem px_O.moved {b : Nat} {G : px_G} {u U : State} {H : Heap} (hvm : u.vm.Alike U.vm) (h : px_O b G u H) : px_O b G U H :=
  ⟨h.1, h.2.1.moved hvm, h.2.2.1.moved hvm, ⟨h.2.2.2.1.1.moved hvm, h.2.2.2.1.2.moved hvm⟩, h.2.2.2.2.1.moved hvm, h.2.2.2.2.2.moved hvm⟩
def px_hh (M : px_M) : List (Nat × Nat × Nat × Nat) := if px_own M = "PennyBankLaw" then px_LH (px_y M).name else []
def px_ws (M : px_M) : List Cond := .code (px_y M) (px_cc M) (px_nL M) (px_rt M) :: px_TB
def px_lv (b : Nat) (G : px_G) (lv : List (Nat × Value)) : List (Nat × Value) := lv.map fun q => (q.1, rl b G q.2)
/-- where a walk stands: the heap's picture, what lies outside, what was written, the room, the locals -/
def px_V (nL N1 S1 b : Nat) (G : px_G) (s : State) (n0 s0 : Nat) (lv : List (Nat × Value)) (h : PH) (H : Heap) (locs : List Loc) (ls : Array Slot) : Prop :=
  px_Rel b G h H ∧ px_O b G s H ∧ va_S (fun q => b ≤ q) s.heap H locs ∧ (n0 ≤ hn h ∧ s0 ≤ hs h ∧ hn h ≤ N1 ∧ hs h ≤ S1) ∧ lv_has ls nL (px_lv b G lv)
/-- how a walk may end at a place: 0 it returns r, 1 it throws -/
def px_out (M : px_M) (N1 S1 : Nat) (h : PH) (k : Nat) (r : Option Value) (pc : Nat) (st : List Value) : Prop :=
  (k = 0 ∧ ((decode (px_cc M) pc = .ok (.ireturn, 1) ∧ ∃ (v : Int32) (ty : FieldType), st = [.int v] ∧ r = some (.int v) ∧ px_rt M = some ty ∧ narrow ty (.int v) = .int v) ∨
    (decode (px_cc M) pc = .ok (.return_, 1) ∧ st = [] ∧ r = none ∧ px_rt M = none) ∨
    (decode (px_cc M) pc = .ok (.lreturn, 1) ∧ ∃ v : Int64, st = [.long v] ∧ r = some (.long v) ∧ px_rt M = some .long) ∨
    (decode (px_cc M) pc = .ok (.areturn, 1) ∧ ∃ (v : Value) (ty : FieldType), st = [v] ∧ r = some v ∧ px_rt M = some ty ∧ ((∃ n, ty = .object n) ∨ ∃ t, ty = .array t) ∧ (v = .null ∨ ∃ a, v = .ref a)))) ∨
  (k = 1 ∧ r = none ∧ st = [] ∧ px_own M = "PennyBank" ∧ 8 ≤ px_fr M ∧ 116 ≤ px_lo M ∧ hn h + 1 ≤ N1 ∧ hs h + 6 ≤ S1 ∧ ∃ (is sa : Nat) (tx : String), ("PennyBank", is, tx, sa) ∈ px_SR ∧
    decode (px_cc M) pc = .ok (.new px_ik, 3) ∧ decode (px_cc M) (pc + 3) = .ok (.dup, 1) ∧ decode (px_cc M) (pc + 4) = .ok (.ldc is, 2) ∧ decode (px_cc M) (pc + 6) = .ok (.invokespecial px_ic, 3) ∧ decode (px_cc M) (pc + 9) = .ok (.athrow, 1))
/-- what holds all through a method's body -/
def px_C (M : px_M) (N1 S1 : Nat) (Post : Nat → Option Value → PH → Prop) (b : Nat) (G : px_G) (p : Program) (l : Launch) (e : Env) (R : Room) (s : State) (m : MethodId) (args : Array Value) (below : List Frame) (meth : Method) (c : Code) (n0 s0 : Nat) (Q : State → Prop) : Prop :=
  (p.tables.exec = Jvm.exec ∧ c.code = px_cc M ∧ c.maxLocals = px_nL M ∧ s.vm.findClass (px_own M) = some m.cls ∧ ∀ w ∈ px_TB, w.before args s = true) ∧ px_K G s ∧ (l.stackTraces = false ∧ c.exceptionTable.toList = tableOf (px_hh M) ∧ ∀ hx : PH, Post 2 none hx → G.2.2.2.2.1 = hn hx ∧ G.2.2.2.2.2 = hI hx 0) ∧ meth.name = (px_y M).name ∧
  (px_fr M ≤ R.frames ∧ px_lo M ≤ R.locals ∧ N1 ≤ n0 + R.cells ∧ S1 ≤ s0 + R.slots) ∧ s.heap.size = b + n0 ∧
  (∀ (k : Nat) (r : Option Value) (pc : Nat) (st : List Value) (h : PH) (H : Heap) (locs : List Loc) (ls : Array Slot), px_out M N1 S1 h k r pc st → Post k r h → px_V (px_nL M) N1 S1 b G s n0 s0 [] h H locs ls → W p l e R s m args below meth c H locs (hn h - n0) (hs h - s0) Q (F0 m pc ls (st.map (rl b G))))
/-- the walk: at pc, with locals lv, stack st, heap h, it comes to an end with Post -/
def PW (M : px_M) (N1 S1 : Nat) (Post : Nat → Option Value → PH → Prop) (pc : Nat) (lv : List (Nat × Value)) (st : List Value) (h : PH) : Prop :=
  ∀ (b : Nat) (G : px_G) (p : Program) (l : Launch) (e : Env) (R : Room) (s : State) (m : MethodId) (args : Array Value) (below : List Frame) (meth : Method) (c : Code) (n0 s0 : Nat) (Q : State → Prop), px_C M N1 S1 Post b G p l e R s m args below meth c n0 s0 Q →
  ∀ (H : Heap) (locs : List Loc) (ls : Array Slot), px_V (px_nL M) N1 S1 b G s n0 s0 lv h H locs ls → W p l e R s m args below meth c H locs (hn h - n0) (hs h - s0) Q (F0 m pc ls (st.map (rl b G)))
/-! a method's contract: called with 'as' in the heap h it returns r, and leaves h' -/
def px_Pc (b : Nat) (G : px_G) (as : List Value) (h : PH) : Array Value → State → Prop := fun v U => v = (as.map (rl b G)).toArray ∧ px_Rel b G h U.heap ∧ px_K G U ∧ px_O b G U U.heap
def px_Qc (b : Nat) (G : px_G) (r : Option Value) (h' : PH) : Array Value → State → Outcome → State → Prop := fun _ st oc t => oc = .returned (r.map (rl b G)) ∧ px_Rel b G h' t.heap ∧ ∀ q : Nat, q < b → t.heap[q]? = st.heap[q]?
def px_rm (M : px_M) (h h' : PH) : Room := { frames := px_fr M, cells := hn h' - hn h, slots := hs h' - hs h, locals := px_lo M }
def PM (M : px_M) (as : List Value) (h : PH) (r : Option Value) (h' : PH) : Prop := hn h ≤ hn h' ∧ hs h ≤ hs h' ∧ ∀ (l : Launch) (b : Nat) (G : px_G), l.stackTraces = false →
  Met l (px_y M) (px_ws M) (px_rm M h h') (px_Pc b G as h) (px_Qc b G r h') (hn h' - hn h) (hs h' - hs h) (fun q => b ≤ q)
def PMpost (r : Option Value) (h' : PH) : Nat → Option Value → PH → Prop := fun k r' h'' => k = 0 ∧ r' = r ∧ h'' = h'
theorem px_blind (b : Nat) (G : px_G) (as : List Value) (h : PH) : FrameBlind (px_Pc b G as h) := fun a U g mk q => ⟨q.1, q.2.1, q.2.2.1.blind g mk a, px_O.moved (u := U) (U := U.calling g mk a) (Vm.Alike.refl U.vm) q.2.2.2⟩
theorem px_args (b : Nat) (G : px_G) : ∀ (as : List Value) (i : Nat), lv_args i (as.map (rl b G)) = px_lv b G (lv_args i as)
  | [], _ => rfl
  | v :: vs, i => by
    show (i, rl b G v) :: lv_args (if (rl b G v).category = 2 then i + 2 else i + 1) (vs.map (rl b G)) = (i, rl b G v) :: px_lv b G (lv_args (if v.category = 2 then i + 2 else i + 1) vs)
    rw [rl_cat, px_args b G vs]
theorem px_sllen (b : Nat) (G : px_G) (as : List Value) : (lg_sl (as.map (rl b G))).length = (as.map fun v => v.category).sum := by
  induction as with
  | nil => rfl
  | cons v t ih =>
    have e : (lg_sl ((v :: t).map (rl b G))).length = (if (rl b G v).category = 2 then [Slot.val (rl b G v), Slot.second] else [Slot.val (rl b G v)]).length + (lg_sl (t.map (rl b G))).length := by
      simp [lg_sl]
    rw [e, ih, rl_cat]
    rcases lv_cat v with h | h
    · rw [if_neg (by omega)]; simp [h]
    · rw [if_pos h]; simp [h]
/-- a body's walk gives the contract -/
theorem PM.of {M : px_M} {as : List Value} {h h' : PH} {r : Option Value} (hp : plainName (px_own M) = true) (hw : px_own M ≠ "PennyBankLaw") (h1 : hn h ≤ hn h') (h2 : hs h ≤ hs h') (ha : (as.map fun v => v.category).sum ≤ px_nL M) (k : PW M (hn h') (hs h') (PMpost r h') 0 (lv_args 0 as) [] h) : PM M as h r h' := by
  refine ⟨h1, h2, fun l b G hl => ?_⟩
  refine Met.ofW (cc := px_cc M) (maxL := px_nL M) (ret := px_rt M) hp rfl ?_
  intro p e s m args below meth c s₁ B hml hv
  obtain ⟨rfl, hRel, hK, hO⟩ := hv
  have hts := atoms_spec (ws := px_ws M) B.pre
  have hown : s.vm.findClass (px_own M) = some m.cls := findClass_of_methodNamed B.named
  have hlocks := B.notSynchronized
  have htab : c.exceptionTable.toList = tableOf (px_hh M) := by
    obtain ⟨meth9, c9, g1, g2, -, -, -, -, g7, -⟩ := Cond.code_spec B.named (hts _ List.mem_cons_self)
    cases Option.some.inj (g1.symm.trans B.method)
    cases Option.some.inj (g2.symm.trans (Stand.of_body B).code)
    unfold px_hh
    rw [Array.isEmpty_iff.mp g7, if_neg hw]
    rfl
  have hl0 := lv_entry (as.map (rl b G)) (n := px_nL M) (by rw [px_sllen]; exact ha)
  rw [lg_entry_eq]
  generalize (lg_sl (as.map (rl b G)) ++ List.replicate (px_nL M - (lg_sl (as.map (rl b G))).length) Slot.unset).toArray = ls at hl0 ⊢
  rw [px_args] at hl0
  have K := k b G p l e (px_rm M h h') s m (as.map (rl b G)).toArray below meth c (hn h) (hs h) (MQ below (px_Qc b G r h') (as.map (rl b G)).toArray s (hn h' - hn h) (hs h' - hs h) (fun q => b ≤ q))
    ⟨⟨B.exec, B.bytes, hml, hown, fun w hw => hts w (List.mem_cons_of_mem _ hw)⟩, hK, ⟨hl, htab, fun hx hx2 => absurd hx2.1 (by decide)⟩, (name_of_methodNamed B.named B.method).1, ⟨Nat.le_refl _, Nat.le_refl _, by show hn h' ≤ hn h + (hn h' - hn h); omega, by show hs h' ≤ hs h + (hs h' - hs h); omega⟩, hRel.1, ?_⟩
    s.heap [] ls ⟨hRel, hO, va_S.rf, ⟨Nat.le_refl _, Nat.le_refl _, h1, h2⟩, hl0⟩
  · rw [Nat.sub_self, Nat.sub_self] at K
    exact K
  · intro k' r' pc st h'' H locs ls' ho hP hV
    obtain ⟨rfl, rfl, rfl⟩ := hP
    obtain ⟨vR, vO, vS, -, -⟩ := hV
    have hq : ∀ t : State, t.heap = H → s.WarmedH t.vm → px_Qc b G r' h'' (as.map (rl b G)).toArray s (.returned (r'.map (rl b G))) t := fun t ht _ => ⟨rfl, by rw [ht]; exact vR, fun q hq => by rw [ht]; exact vS.2.1 q (by rw [hRel.1]; omega) (Nat.not_le.mpr hq)⟩
    rcases ho with ⟨-, ho⟩ | ⟨h0, -⟩
    · rcases ho with ⟨d, v, ty, rfl, rfl, hrt, hnr⟩ | ⟨d, rfl, rfl, hrt⟩ | ⟨d, v, rfl, rfl, hrt⟩ | ⟨d, v, ty, rfl, rfl, hrt, hty, hvv⟩
      · exact W.zret (ty := ty) (v := v) B.exec B.bytes (B.returns.trans hrt) hnr hq vS.2.2 d hlocks
      · exact W.vret B.exec B.bytes (B.returns.trans hrt) hq vS.2.2 d hlocks
      · exact W.lret (v := v) B.exec B.bytes (B.returns.trans hrt) hq vS.2.2 d hlocks
      · refine W.aret (v := rl b G v) (rt := ty) B.exec B.bytes (B.returns.trans hrt) hty ?_ hq vS.2.2 d hlocks
        rcases hvv with rfl | ⟨a, rfl⟩
        · exact Or.inl rfl
        · exact Or.inr ⟨b + a, rfl⟩
    · exact absurd h0 (by decide)
