/-! ===== the machine at the law's entry ===== -/
section ENTRY
variable {s : State} {b : Nat}
theorem e_w (hts : ∀ w ∈ lw_tbl, w.before #[Value.ref b] s = true) {w : Cond} (i : Nat) (h : tables_1[i]? = some w) : w.before #[Value.ref b] s = true := hts w (List.mem_append_right _ (List.mem_of_getElem? h))
theorem e_cls (hts : ∀ w ∈ lw_tbl, w.before #[Value.ref b] s = true) : ∃ (dC : Nat → ClassId) (dI : Nat → Nat → Nat), ∀ ci, ci < px_NC → u_Kn s (px_CT ci).1 (px_CT ci).2.1 (px_CT ci).2.2 (dC ci) (dI ci) := by
  have ht : ∀ w ∈ px_TB, w.before #[Value.ref b] s = true := fun w hw => hts w (List.mem_filter.mp hw).1
  have h1 : ∀ ci, ci < px_NC → ∃ q : ClassId × (Nat → Nat), u_Kn s (px_CT ci).1 (px_CT ci).2.1 (px_CT ci).2.2 q.1 q.2 := fun ci hc => by
    obtain ⟨a, i, h⟩ := u_known (C := (px_CT ci).1) (T := (px_CT ci).2.1) (N := (px_CT ci).2.2) (n := (px_CT ci).2.2) ht (px_lays ci hc) (ht _ (px_ci (P := fun ci => Cond.instantiable (px_CT ci).1 (px_CT ci).2.2 ∈ px_TB) in_X0 in_X1 in_X2 in_X3 in_X4 in_X5 in_X6 in_X7 in_X8 in_X9 in_X10 in_X11 in_X12 ci hc))
    exact ⟨(a, i), h⟩
  obtain ⟨q0, -⟩ := h1 0 (by decide)
  have h0 : ∀ ci, ∃ q : ClassId × (Nat → Nat), ci < px_NC → u_Kn s (px_CT ci).1 (px_CT ci).2.1 (px_CT ci).2.2 q.1 q.2 := by
    intro ci
    by_cases hc : ci < px_NC
    · obtain ⟨q, h⟩ := h1 ci hc
      exact ⟨q, fun _ => h⟩
    · exact ⟨q0, fun h => absurd h hc⟩
  obtain ⟨f, hf⟩ := Classical.axiomOfChoice h0
  exact ⟨fun ci => (f ci).1, fun ci => (f ci).2, hf⟩
theorem e_arr (hts : ∀ w ∈ lw_tbl, w.before #[Value.ref b] s = true) : ∃ dA : Nat → ClassId, ∀ kd, 20 ≤ kd → kd < 26 → ArrOfT s (dA kd) (px_ty kd) ∧ va_RA s (dA kd) (px_ty kd) := by
  obtain ⟨c20, k20, m20, a20, b20, d20⟩ := Cond.arrayClass_spec (type := .int) (args := #[Value.ref b]) (first := s) (o := none) (s := s) (idx := []) (e_w hts 59 (by decide +kernel))
  obtain ⟨c21, k21, m21, a21, b21, d21⟩ := Cond.arrayClass_spec (type := .boolean) (args := #[Value.ref b]) (first := s) (o := none) (s := s) (idx := []) (e_w hts 110 (by decide +kernel))
  obtain ⟨c22, k22, m22, a22, b22, d22⟩ := Cond.arrayClass_spec (type := .char) (args := #[Value.ref b]) (first := s) (o := none) (s := s) (idx := []) (e_w hts 81 (by decide +kernel))
  obtain ⟨c23, k23, m23, a23, b23, d23⟩ := Cond.arrayClass_spec (type := .long) (args := #[Value.ref b]) (first := s) (o := none) (s := s) (idx := []) (e_w hts 265 (by decide +kernel))
  obtain ⟨m24, c24, k24, f24, -, b24, d24, a24⟩ := Cond.arrayOver_spec (n := "PennyBank$Account") (args := #[Value.ref b]) (first := s) (o := none) (s := s) (idx := []) (e_w hts 35 (by decide +kernel))
  obtain ⟨m25, c25, k25, f25, -, b25, d25, a25⟩ := Cond.arrayOver_spec (n := "PennyBank$RuleText") (args := #[Value.ref b]) (first := s) (o := none) (s := s) (idx := []) (e_w hts 118 (by decide +kernel))
  refine ⟨fun kd => if kd = 20 then c20 else if kd = 21 then c21 else if kd = 22 then c22 else if kd = 23 then c23 else if kd = 24 then c24 else c25, fun kd h1 h2 => ?_⟩
  have e : kd = 20 ∨ kd = 21 ∨ kd = 22 ∨ kd = 23 ∨ kd = 24 ∨ kd = 25 := by omega
  rcases e with e | e | e | e | e | e <;> subst e
  · exact ⟨fun n z => ⟨fun k h => (by cases h), k20, b20, m20, d20⟩, a20⟩
  · exact ⟨fun n z => ⟨fun k h => (by cases h), k21, b21, m21, d21⟩, a21⟩
  · exact ⟨fun n z => ⟨fun k h => (by cases h), k22, b22, m22, d22⟩, a22⟩
  · exact ⟨fun n z => ⟨fun k h => (by cases h), k23, b23, m23, d23⟩, a23⟩
  · exact ⟨fun n z => ⟨fun k h => (by cases h), k24, b24, m24, d24⟩, k24, m24, b24, d24, f24, a24⟩
  · exact ⟨fun n z => ⟨fun k h => (by cases h), k25, b25, m25, d25⟩, k25, m25, b25, d25, f25, a25⟩
def tpT (i : Nat) : Term := .string "PennyBank$Tape" ([43, 49, 51, 53, 55, 57, 59, 61, 63].getD i 0)
def flN : List Cond := flatC (Jvm.Cond.and given_1 narrow_1)
theorem fl_ex : ∀ i, i < 9 → Cond.exactly (tpT i) "java/lang/String" ∈ flN := by decide +kernel
theorem fl_co : ∀ i, i < 9 → Cond.eq (.field (tpT i) "java/lang/String" "coder" "B") (.int 0) ∈ flN := by decide +kernel
theorem fl_ar : ∀ i, i < 9 → Cond.arrayOf (.field (tpT i) "java/lang/String" "value" "[B") .byte ∈ flN := by decide +kernel
theorem fl_le : ∀ i, i < 9 → Cond.eq (.length (.field (tpT i) "java/lang/String" "value" "[B")) (.int (Int32.ofNat (px_SL.getD i 0))) ∈ flN := by decide +kernel
theorem fl_el : ∀ i, i < 9 → ∀ j, j < px_SL.getD i 0 → Cond.eq (.elem (.field (tpT i) "java/lang/String" "value" "[B") (.int (Int32.ofNat j))) (.int ((px_SB.getD i []).getD j 0)) ∈ flN := by decide +kernel
theorem fl_ne : ∀ i, i < 9 → ∀ j, j < 9 → i ≠ j → (Cond.not (Cond.eq (tpT i) (tpT j)) ∈ flN ∨ Cond.not (Cond.eq (tpT j) (tpT i)) ∈ flN) := by decide +kernel
theorem fl_er : ∀ k ∈ [146, 155, 199, 208, 213], Cond.exactly (.string "PennyBank" k) "java/lang/String" ∈ flN := by decide +kernel
theorem fl_z1 : Cond.eq (.static "java/lang/String" "COMPACT_STRINGS" "Z") (.int 1) ∈ flN := by decide +kernel
theorem fl_z2 : Cond.isRef (.static "jdk/internal/util/Preconditions" "SIOOBE_FORMATTER" "Ljava/util/function/BiFunction;") ∈ flN := by decide +kernel
theorem fl_z3 : Cond.isRef (.static Bundle.tN "UNASSIGNED_STACK" Bundle.steD) ∈ flN := by decide +kernel
theorem fl_z4 : Cond.isRef (.static Bundle.tN "SUPPRESSED_SENTINEL" Bundle.listD) ∈ flN := by decide +kernel
theorem e_hs (hgv : (Jvm.Cond.and given_1 narrow_1).before #[Value.ref b] s = true) : ∀ w ∈ flN, w.before #[Value.ref b] s = true := flat_of_before _ hgv
theorem e_A : ∀ a : Nat, a < s.heap.size → ¬ (fun q : Nat => s.heap.size ≤ q) a := fun _ h => Nat.not_le.mpr h
theorem e_str (hs : ∀ w ∈ flN, w.before #[Value.ref b] s = true) : ∃ adK adV : Nat → Nat, vk_S px_SN px_SL px_SB adK adV (fun q => s.heap.size ≤ q) s s.heap ∧ ∀ i : Nat, i < 9 → (tpT i).eval #[Value.ref b] s none [] s = some (.ref (adK i)) :=
  vk_Sof (args := #[Value.ref b]) (N := 9) (tm := tpT) (len := px_SL) (byt := px_SB) (A := fun q => s.heap.size ≤ q) (by decide) (fun i hi => hs _ (fl_ex i hi)) (fun i hi => hs _ (fl_co i hi)) (fun i hi => hs _ (fl_ar i hi)) (fun i hi => hs _ (fl_le i hi)) (fun i hi j hj => hs _ (fl_el i hi j hj)) (fun i j hi hj hn => (fl_ne i hi j hj hn).imp (hs _) (hs _)) e_A
theorem e_err (hs : ∀ w ∈ flN, w.before #[Value.ref b] s = true) {k : Nat} (hk : k ∈ [146, 155, 199, 208, 213]) : ∃ a : Nat, a < s.heap.size ∧ (Term.string "PennyBank" k).eval #[Value.ref b] s none [] s = some (.ref a) := by
  obtain ⟨a, c, cA, kA, q1, q2, q3, -⟩ := Cond.exactly_spec (args := #[Value.ref b]) (first := s) (o := none) (s := s) (idx := []) (t := .string "PennyBank" k) (cls := "java/lang/String") (hs _ (fl_er k hk))
  exact ⟨a, (Array.getElem?_eq_some_iff.mp q3).1, q1⟩
def plE (b : Nat) (adK adV : Nat → Nat) (a0 a1 a2 a3 a4 : Nat) (j : Nat) : Nat := if j = 0 then b else if j ≤ 18 then (if j % 2 = 1 then adK (j / 2) else adV (j / 2 - 1)) else if j = 19 then a0 else if j = 20 then a1 else if j = 21 then a2 else if j = 22 then a3 else if j = 23 then a4 else b
theorem plE_K {adK adV : Nat → Nat} {a0 a1 a2 a3 a4 i : Nat} (hi : i < 9) : plE b adK adV a0 a1 a2 a3 a4 (1 + 2 * i) = adK i := by
  unfold plE
  rw [if_neg (by omega), if_pos (by omega), if_pos (by omega)]
  congr 1
  omega
theorem plE_V {adK adV : Nat → Nat} {a0 a1 a2 a3 a4 i : Nat} (hi : i < 9) : plE b adK adV a0 a1 a2 a3 a4 (2 + 2 * i) = adV i := by
  unfold plE
  rw [if_neg (by omega), if_pos (by omega), if_neg (by omega)]
  congr 1
  omega
theorem plE_lt {adK adV : Nat → Nat} {a0 a1 a2 a3 a4 n : Nat} (hb : b < n) (hK : ∀ i, i < 9 → adK i < n) (hV : ∀ i, i < 9 → adV i < n) (h0 : a0 < n) (h1 : a1 < n) (h2 : a2 < n) (h3 : a3 < n) (h4 : a4 < n) (j : Nat) : plE b adK adV a0 a1 a2 a3 a4 j < n := by
  unfold plE
  split
  · exact hb
  · split
    · split
      · exact hK _ (by omega)
      · exact hV _ (by omega)
    · split
      · exact h0
      · split
        · exact h1
        · split
          · exact h2
          · split
            · exact h3
            · split
              · exact h4
              · exact hb
theorem vk_S.cg {N : Nat} {len : List Nat} {byt : List (List Int32)} {adK adV adK' adV' : Nat → Nat} {A : Nat → Prop} {U : State} {H : Heap} (h : vk_S N len byt adK adV A U H) (e : ∀ i, i < N → adK' i = adK i ∧ adV' i = adV i) : vk_S N len byt adK' adV' A U H := ⟨fun i hi => by rw [(e i hi).1, (e i hi).2]; exact h.1 i hi, fun i j hi hj q => h.2 i j hi hj (by rw [← (e i hi).1, ← (e j hj).1]; exact q)⟩
theorem e_world (hts : ∀ w ∈ lw_tbl, w.before #[Value.ref b] s = true) (hgv : (Jvm.Cond.and given_1 narrow_1).before #[Value.ref b] s = true) {L : Nat} {xs : Nat → Int32} (hX : va_X b L xs s s.heap) (hbl : b < s.heap.size) : ∃ G : px_G, px_K G s ∧ px_O s.heap.size G s s.heap ∧ G.2.2.2.1 0 = b ∧ G.2.2.2.2.1 = L ∧ G.2.2.2.2.2 = xs := by
  have hs := e_hs hgv
  obtain ⟨dC, dI, hC⟩ := e_cls hts
  obtain ⟨dA, hA⟩ := e_arr hts
  obtain ⟨adK, adV, hS, hev⟩ := e_str hs
  obtain ⟨a0, l0, v0⟩ := e_err hs (k := 146) (by decide)
  obtain ⟨a1, l1, v1⟩ := e_err hs (k := 155) (by decide)
  obtain ⟨a2, l2, v2⟩ := e_err hs (k := 199) (by decide)
  obtain ⟨a3, l3, v3⟩ := e_err hs (k := 208) (by decide)
  obtain ⟨a4, l4, v4⟩ := e_err hs (k := 213) (by decide)
  have hKl : ∀ i, i < 9 → adK i < s.heap.size := fun i hi => by
    obtain ⟨cell, -, -, -, q⟩ := (hS.1 i hi).1
    exact Nat.lt_of_not_le q
  have hVl : ∀ i, i < 9 → adV i < s.heap.size := fun i hi => by
    obtain ⟨cell, -, -, -, -, -, -, q⟩ := (hS.1 i hi).2.2.2
    exact Nat.lt_of_not_le q
  refine ⟨(dC, dI, dA, plE b adK adV a0 a1 a2 a3 a4, L, xs), ⟨hC, hA, ?_, ?_, ?_, ?_, ?_⟩, ⟨fun j _ => plE_lt hbl hKl hVl l0 l1 l2 l3 l4 j, hX, hS.cg (fun i hi => ⟨plE_K hi, plE_V hi⟩), ⟨?_, ?_⟩, ?_, ?_⟩, rfl, rfl, rfl⟩
  · exact List.forall_mem_cons.mpr ⟨va_Nw.of rfl (e_w hts 38 (by decide +kernel)), List.forall_mem_cons.mpr ⟨va_Nw.of rfl (e_w hts 62 (by decide +kernel)), List.forall_mem_cons.mpr ⟨va_Nw.of rfl (e_w hts 84 (by decide +kernel)), List.forall_mem_cons.mpr ⟨va_Nw.of rfl (e_w hts 113 (by decide +kernel)), List.forall_mem_cons.mpr ⟨va_Nw.of rfl (e_w hts 129 (by decide +kernel)), List.forall_mem_cons.mpr ⟨va_Nw.of rfl (e_w hts 200 (by decide +kernel)), List.forall_mem_cons.mpr ⟨va_Nw.of rfl (e_w hts 223 (by decide +kernel)), List.forall_mem_cons.mpr ⟨va_Nw.of rfl (e_w hts 238 (by decide +kernel)), List.forall_mem_cons.mpr ⟨va_Nw.of rfl (e_w hts 380 (by decide +kernel)), List.forall_mem_cons.mpr ⟨va_Nw.of rfl (e_w hts 579 (by decide +kernel)), fun _ h => absurd h List.not_mem_nil⟩⟩⟩⟩⟩⟩⟩⟩⟩⟩
  · exact List.forall_mem_cons.mpr ⟨vk_R.of (e_w hts 421 (by decide +kernel)) (hev 0 (by omega)), List.forall_mem_cons.mpr ⟨vk_R.of (e_w hts 474 (by decide +kernel)) (hev 1 (by omega)), List.forall_mem_cons.mpr ⟨vk_R.of (e_w hts 475 (by decide +kernel)) (hev 2 (by omega)), List.forall_mem_cons.mpr ⟨vk_R.of (e_w hts 476 (by decide +kernel)) (hev 3 (by omega)), List.forall_mem_cons.mpr ⟨vk_R.of (e_w hts 477 (by decide +kernel)) (hev 4 (by omega)), List.forall_mem_cons.mpr ⟨vk_R.of (e_w hts 478 (by decide +kernel)) (hev 5 (by omega)), List.forall_mem_cons.mpr ⟨vk_R.of (e_w hts 479 (by decide +kernel)) (hev 6 (by omega)), List.forall_mem_cons.mpr ⟨vk_R.of (e_w hts 480 (by decide +kernel)) (hev 7 (by omega)), List.forall_mem_cons.mpr ⟨vk_R.of (e_w hts 481 (by decide +kernel)) (hev 8 (by omega)), List.forall_mem_cons.mpr ⟨vk_R.of (e_w hts 816 (by decide +kernel)) v0, List.forall_mem_cons.mpr ⟨vk_R.of (e_w hts 849 (by decide +kernel)) v1, List.forall_mem_cons.mpr ⟨vk_R.of (e_w hts 861 (by decide +kernel)) v2, List.forall_mem_cons.mpr ⟨vk_R.of (e_w hts 874 (by decide +kernel)) v3, List.forall_mem_cons.mpr ⟨vk_R.of (e_w hts 886 (by decide +kernel)) v4, fun _ h => absurd h List.not_mem_nil⟩⟩⟩⟩⟩⟩⟩⟩⟩⟩⟩⟩⟩⟩
  · exact List.forall_mem_cons.mpr ⟨va_AO.of (e_w hts 35 (by decide +kernel)), List.forall_mem_cons.mpr ⟨va_AO.of (e_w hts 118 (by decide +kernel)), fun _ h => absurd h List.not_mem_nil⟩⟩
  · exact List.forall_mem_cons.mpr ⟨va_Nw.of rfl (e_w hts 529 (by decide +kernel)), List.forall_mem_cons.mpr ⟨va_Nw.of rfl (e_w hts 779 (by decide +kernel)), List.forall_mem_cons.mpr ⟨va_Nw.of rfl (e_w hts 1291 (by decide +kernel)), List.forall_mem_cons.mpr ⟨va_Nw.of rfl (e_w hts 1292 (by decide +kernel)), List.forall_mem_cons.mpr ⟨va_Nw.of rfl (e_w hts 1293 (by decide +kernel)), List.forall_mem_cons.mpr ⟨va_Nw.of rfl (e_w hts 1294 (by decide +kernel)), List.forall_mem_cons.mpr ⟨va_Nw.of rfl (e_w hts 1295 (by decide +kernel)), List.forall_mem_cons.mpr ⟨va_Nw.of rfl (e_w hts 1296 (by decide +kernel)), List.forall_mem_cons.mpr ⟨va_Nw.of rfl (e_w hts 1297 (by decide +kernel)), List.forall_mem_cons.mpr ⟨va_Nw.of rfl (e_w hts 1298 (by decide +kernel)), List.forall_mem_cons.mpr ⟨va_Nw.of rfl (e_w hts 1299 (by decide +kernel)), List.forall_mem_cons.mpr ⟨va_Nw.of rfl (e_w hts 1300 (by decide +kernel)), List.forall_mem_cons.mpr ⟨va_Nw.of rfl (e_w hts 1301 (by decide +kernel)), List.forall_mem_cons.mpr ⟨va_Nw.of rfl (e_w hts 1302 (by decide +kernel)), List.forall_mem_cons.mpr ⟨va_Nw.of rfl (e_w hts 1303 (by decide +kernel)), List.forall_mem_cons.mpr ⟨va_Nw.of rfl (e_w hts 1304 (by decide +kernel)), List.forall_mem_cons.mpr ⟨va_Nw.of rfl (e_w hts 1305 (by decide +kernel)), List.forall_mem_cons.mpr ⟨va_Nw.of rfl (e_w hts 1306 (by decide +kernel)), fun _ h => absurd h List.not_mem_nil⟩⟩⟩⟩⟩⟩⟩⟩⟩⟩⟩⟩⟩⟩⟩⟩⟩⟩
  · exact List.forall_mem_cons.mpr ⟨va_Nw.of rfl (e_w hts 780 (by decide +kernel)), List.forall_mem_cons.mpr ⟨va_Nw.of rfl (e_w hts 781 (by decide +kernel)), List.forall_mem_cons.mpr ⟨va_Nw.of rfl (e_w hts 782 (by decide +kernel)), List.forall_mem_cons.mpr ⟨va_Nw.of rfl (e_w hts 783 (by decide +kernel)), List.forall_mem_cons.mpr ⟨va_Nw.of rfl (e_w hts 784 (by decide +kernel)), List.forall_mem_cons.mpr ⟨va_Nw.of rfl (e_w hts 785 (by decide +kernel)), fun _ h => absurd h List.not_mem_nil⟩⟩⟩⟩⟩⟩
  · exact va_Zof (e_w hts 435 (by decide +kernel)) (e_w hts 13 (by decide +kernel)) (va_eqt (hs _ fl_z1)) e_A
  · exact va_Zqof (e_w hts 451 (by decide +kernel)) (e_w hts 15 (by decide +kernel)) (hs _ fl_z2) e_A
  · exact vx_Zqof (e_w hts 804 (by decide +kernel)) (e_w hts 21 (by decide +kernel)) (hs _ fl_z3) e_A
  · exact vx_Zqof (e_w hts 806 (by decide +kernel)) (e_w hts 21 (by decide +kernel)) (hs _ fl_z4) e_A
end ENTRY
