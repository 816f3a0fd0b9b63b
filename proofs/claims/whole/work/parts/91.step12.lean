/-! ===== a text ===== -/
theorem AG.rh {D E : Nat → Nat → Bool} {h g : PH} (p : AG D E h g) {a : Nat} {f : Nat → Int32} (e : a < hn h → ∀ j, D a j = false) : AG D E h (rI g a f) := ⟨p.1, fun x hx => ⟨(p.2 x hx).1, fun j => ⟨fun d => by
  have z : ¬ x = a := fun q => by
    rw [q, e (q ▸ hx) j] at d
    cases d
  exact (congrFun (hI_rn g a f z) j).trans (((p.2 x hx).2 j).1 d), ((p.2 x hx).2 j).2⟩⟩⟩
def Cch : Nat → Bool := fun a => a == 7 || a == 9 || a == 10 || a == 11 || a == 12
def Rch : Nat → Nat → Bool := fun a j => a == 38 || a == 39 || (decide (42 ≤ a) && decide (a ≤ 52)) || (a == 36 && (j == 0 || j == 2 || j == 3 || j == 7 || j == 8 || j == 10 || j == 19 || j == 20))
def DTc : Nat → Nat → Bool := fun a _ => !(Cch a)
def DTn : Nat → Nat → Bool := fun a j => !(Cch a) && !(Rch a j)
def ETn (n : Nat) : Nat → Nat → Bool := fun a j => !(a == 13 && j == n)
section TEXT
variable {h : PH}
theorem fl_AG {D E : Nat → Nat → Bool} {tk : Nat → Int32} {i p a : Nat} {g : GS} (d : ∀ a j, Cch a = true → D a j = false) : AG D E h (flH h tk i p a g) := AG.r ((((((((AG.r AG.rf (d 10 · rfl)).I fun _ => d 9 1 rfl).I fun _ => d 7 2 rfl).I fun _ => d 7 3 rfl).I fun _ => d 9 2 rfl).I fun _ => d 9 3 rfl).I fun _ => d 9 4 rfl).I fun _ => d 9 5 rfl) (d 11 · rfl)
theorem tn_AG {D E : Nat → Nat → Bool} {x : PH} {k t : Nat} {dd nw : Int32} (p : AG D E h x) (en : hn x = hn h) (d : ∀ a j, Cch a = true → D a j = false) (e : E 13 t = false) : AG D E h (txNew x k t dd nw) := (((AG.R (AG.R (((AG.rh p.N.N (fun z => absurd z (by omega))).I (fun z => absurd z (by omega))).I (fun z => absurd z (by omega))) (fun z => absurd z (by omega))) (fun _ => e)).I fun _ => d 12 1 rfl).I fun _ => d 7 1 rfl)
theorem rf_AG {D E : Nat → Nat → Bool} {x : PH} {q : Nat} {so pl : Nat → Int32} {va : Nat → Int64} {l : LiS} {m : MS} (p : AG D E h x) (d : ∀ a j, Rch a j = true → D a j = false) : AG D E h (setM (setL (cutS (pI (pI (th0 x) 36 3 (nI q)) 36 2 0) so pl va) l) m) := AG.r (AG.r (AG.r (AG.r (AG.r (AG.I (AG.I (AG.I (AG.I (AG.r (AG.r (AG.r (AG.I (AG.jj (AG.r (AG.r (AG.I (AG.I (AG.I p fun _ => d 36 0 rfl) fun _ => d 36 3 rfl) fun _ => d 36 2 rfl) (fun j => d 38 j rfl)) (fun j => d 39 j rfl))) fun _ => d 44 8 rfl) (fun j => d 45 j rfl)) (fun j => d 46 j rfl)) (fun j => d 47 j rfl)) fun _ => d 36 7 rfl) fun _ => d 36 8 rfl) fun _ => d 36 19 rfl) fun _ => d 36 20 rfl) (fun j => d 50 j rfl)) (fun j => d 51 j rfl)) (fun j => d 52 j rfl)) (fun j => d 48 j rfl)) (fun j => d 49 j rfl)
theorem kp_AG {D E : Nat → Nat → Bool} {x : PH} {t c : Nat} {dd nw : Int32} (p : AG D E h x) (d : ∀ a j, Rch a j = true → D a j = false) : AG D E h (kpH x t c dd nw) := (((AG.I (AG.r (AG.r (AG.r (AG.r (AG.r p (d 45 · rfl)) (d 46 · rfl)) (d 47 · rfl)) (d 48 · rfl)) (d 49 · rfl)) fun _ => d 44 t rfl).I fun _ => d 42 t rfl).I fun _ => d 43 t rfl).I fun _ => d 36 10 rfl
theorem DTn_al {a j : Nat} (z : (DCk a j || DEn a j || DCo a j || DNt a j || DHl a j || DAc a j) = true) : DTn a j = true := by
  unfold DCk DEn DCo DNt DHl DAc at z
  unfold DTn Cch Rch
  simp only [Bool.or_eq_true, Bool.and_eq_true, decide_eq_true_eq, beq_iff_eq, Bool.not_eq_true', Bool.or_eq_false_iff, Bool.and_eq_false_iff, decide_eq_false_iff_not, beq_eq_false_iff_ne] at z ⊢
  omega
theorem ETn_1 {n a j : Nat} (z : a ≠ 13) : ETn n a j = true := by
  unfold ETn
  simp only [Bool.not_eq_true', Bool.and_eq_false_iff, beq_eq_false_iff_ne]
  exact Or.inl z
theorem tx_fin (i : INV h) {g : PH} {n : Nat} (p : AG DTn (ETn n) h g) (e7 : hI g 7 1 = 0) (e36 : hI g 36 2 = 0) (w : WRD g) (c : IAT g) : INV g := by
  obtain ⟨hL, -, ⟨t, ne, nn, nt, cC, cE, cO, cN, cT⟩, hH, -⟩ := i
  have h78 : 78 ≤ hn h := hL.1
  have q : ∀ D : Nat → Nat → Bool, (∀ a j, D a j = true → (DCk a j || DEn a j || DCo a j || DNt a j || DHl a j || DAc a j) = true) → AG D D0 h g := fun D d => p.mono (fun a j _ z => DTn_al (d a j z)) (fun _ _ _ e => absurd (show false = true from e) (by decide))
  refine ⟨hL.ag (D := D0) (p.mono (fun _ _ _ e => absurd (show false = true from e) (by decide)) (fun a j _ e => ETn_1 (fun z => by rw [z] at e; exact absurd e (by unfold EL; decide)))), w, ⟨t, ne, nn, 0, cC.ag hL (q _ fun a j z => by rw [z]; rfl), cE.ag hL (q _ fun a j z => by rw [z]; simp), cO.ag hL (q _ fun a j z => by rw [z]; simp), cN.ag hL (q _ fun a j z => by rw [z]; simp), ⟨by omega, e7, e36, ?_⟩⟩, hH.ag hL (q _ fun a j z => by rw [z]; simp), c⟩
  funext j
  rw [p.i (show 8 < hn h by omega) rfl, p.i (show 37 < hn h by omega) rfl]
  exact congrFun cT.2.2.2 j
/-- one text of both, apart -/
def TXi (h : PH) (i r l : Nat) (f k : Int32) (e : (Nat → Int32) → Int32 → Int32) : Prop := (hR h 13 i = some r ∧ px_ob h r 8 ∧ hR h r 2 = some (r + 1) ∧ px_ar h (r + 1) 20 l) ∧ (78 ≤ r ∧ 78 ≤ r + 1 ∧ hI h r 0 = f ∧ hI h r 1 = k) ∧ ∀ (F : Nat → Int32) (rule : Int32) (J : JS), nOf F (hI h (r + 1)) rule l 0 0 J = e F rule
def RXi (h : PH) (i nl : Nat) (W : Nat → (Nat → Int32) → Int32) : Prop := (hI h 44 i = nI nl ∧ nl ≤ 16) ∧ ∀ k, k < nl → 0 ≤ hI h 46 (16 * i + k) ∧ ∃ c fu : Nat, hI h 47 (16 * i + k) = nI c ∧ c + fu ≤ 660 ∧ ∀ kn : Nat → Int32, wrun (hI h 48) (hI h 49) kn fu (660 * i + c) [] = some (W k kn)
def VXi (h : PH) (i : Nat) (f k : Int32) (e : (Nat → Int32) → Int32 → Int32) (nl : Nat) (W : Nat → (Nat → Int32) → Int32) : Prop := (hI h 42 i = f ∧ hI h 43 i = k) ∧ ∀ F : Nat → Int32, e F (-3) = fLn (fun k => hI h 45 (16 * i + k)) (fun k => hI h 46 (16 * i + k)) (fun k => W k F) 0 nl 0 ∧ e F (-4) = fLn (fun k => hI h 45 (16 * i + k)) (fun k => hI h 46 (16 * i + k)) (fun k => W k F) 1 nl 0
theorem TXS.of {g : PH} {n : Nat} {ro ln : Nat → Nat} {fr kf : Nat → Int32} {ev : Nat → (Nat → Int32) → Int32 → Int32} {nl : Nat → Nat} {W : Nat → Nat → (Nat → Int32) → Int32} (n8 : n ≤ 8) (e12 : hI g 12 1 = nI n) (e10 : hI g 36 10 = nI n) (a : ∀ i, i < n → TXi g i (ro i) (ln i) (fr i) (kf i) (ev i) ∧ RXi g i (nl i) (W i) ∧ VXi g i (fr i) (kf i) (ev i) (nl i) (W i)) (b : ∀ j, hI g 45 j = 0 ∨ hI g 45 j = 1) (d : ∃ d0, hI g 36 20 = nI d0) : TXS g n ro ln fr kf ev nl W := by
  refine ⟨⟨n8, e12, fun i hi => (a i hi).1⟩, ⟨n8, e10, fun i hi => ⟨(a i hi).2.1.1, fun k hk => ?_⟩⟩, fun i hi => ⟨(a i hi).2.2.1, fun k hk => (a i hi).2.1.2 k hk, fun F => (a i hi).2.2.2 F⟩, b, d⟩
  obtain ⟨-, c, fu, e1, e2, e3⟩ := (a i hi).2.1.2 k hk
  exact ⟨c, fu, e1, ⟨by omega, by omega⟩, e3⟩
theorem TXS.keep {g : PH} {n : Nat} {ro ln : Nat → Nat} {fr kf : Nat → Int32} {ev : Nat → (Nat → Int32) → Int32 → Int32} {nl : Nat → Nat} {W : Nat → Nat → (Nat → Int32) → Int32} (hL : px_L h) (c : TXS h n ro ln fr kf ev nl W) (p : AG DTn (ETn n) h g) (r4 : ∀ i, i < n → hI g 42 i = hI h 42 i ∧ hI g 43 i = hI h 43 i ∧ hI g 44 i = hI h 44 i) (r5 : ∀ x, x < 16 * n → hI g 45 x = hI h 45 x ∧ hI g 46 x = hI h 46 x ∧ hI g 47 x = hI h 47 x) (r8 : ∀ x, x < 660 * n → hI g 48 x = hI h 48 x ∧ hI g 49 x = hI h 49 x) (i : Nat) (hi : i < n) : TXi g i (ro i) (ln i) (fr i) (kf i) (ev i) ∧ RXi g i (nl i) (W i) ∧ VXi g i (fr i) (kf i) (ev i) (nl i) (W i) := by
  have h78 : 78 ≤ hn h := hL.1
  obtain ⟨⟨a1, a2, a3⟩, ⟨b1, b2, b3⟩, c3, -, -⟩ := c
  obtain ⟨⟨y1, y2, y3, y4⟩, ⟨z1, z2, z3, z4⟩, z5⟩ := a3 i hi
  obtain ⟨⟨u1, u2⟩, -⟩ := b3 i hi
  obtain ⟨⟨v1, v2⟩, v3, v4⟩ := c3 i hi
  obtain ⟨w1, w2, w3⟩ := r4 i hi
  have dh : ∀ a j, 78 ≤ a → DTn a j = true := fun a j z => DTn_al (by unfold DAc; rw [decide_eq_true z]; simp)
  have e0 : ∀ q, hI g (ro i) q = hI h (ro i) q := fun q => p.i y2.1 (dh _ _ z1)
  have e1 : hI g (ro i + 1) = hI h (ro i + 1) := funext fun q => p.i y4.1 (dh _ _ z2)
  have e13 : ETn n 13 i = true := by
    unfold ETn
    simp only [Bool.not_eq_true', Bool.and_eq_false_iff, beq_eq_false_iff_ne]
    omega
  refine ⟨⟨⟨(p.rr (by omega) e13).trans y1, p.ob y2, (p.rr y2.1 (ETn_1 (by omega))).trans y3, p.ar y4⟩, ⟨z1, z2, (e0 0).trans z3, (e0 1).trans z4⟩, fun F rule J => ?_⟩, ⟨⟨w3.trans u1, u2⟩, fun k hk => ?_⟩, ⟨⟨w1.trans v1, w2.trans v2⟩, fun F => ?_⟩⟩
  · rw [e1]; exact z5 F rule J
  · obtain ⟨s5, s6, s7⟩ := r5 (16 * i + k) (by omega)
    obtain ⟨x1, c, fu, x2, x3, x4⟩ := v3 k hk
    rw [s6, s7]
    refine ⟨x1, c, fu, x2, x3, fun kn => ?_⟩
    rw [wrun_c2 (op' := hI h 48) (on' := hI h 49) fu (660 * i + c) [] (fun x _ hx => r8 x (by omega))]
    exact x4 kn
  · have q : ∀ lim, fLn (fun k => hI g 45 (16 * i + k)) (fun k => hI g 46 (16 * i + k)) (fun k => W i k F) lim (nl i) 0 = fLn (fun k => hI h 45 (16 * i + k)) (fun k => hI h 46 (16 * i + k)) (fun k => W i k F) lim (nl i) 0 := fun lim => fLn_c2 (nl i) 0 (fun k _ hk => ⟨(r5 (16 * i + k) (by omega)).1, (r5 (16 * i + k) (by omega)).2.1, rfl⟩)
    rw [q, q]
    exact v4 F
def upG {α : Type} (f : Nat → α) (n : Nat) (v : α) : Nat → α := fun i => if i = n then v else f i
theorem upG_n {α : Type} {f : Nat → α} {n : Nat} {v : α} : upG f n v n = v := if_pos rfl
theorem upG_l {α : Type} {f : Nat → α} {n i : Nat} {v : α} (h : i < n) : upG f n v i = f i := if_neg (by omega)
theorem cpR_in {g : Nat → Int32} {fr to K k : Nat} (h : k < K) : cpR g fr to K (to + k) = g (fr + k) := by
  unfold cpR
  rw [if_pos (by omega), Nat.add_sub_cancel_left]
theorem cpR_lo {g : Nat → Int32} {fr to K x : Nat} (h : x < to) : cpR g fr to K x = g x := if_neg (by omega)
end TEXT
