/-! ===== the best plan, by trying all; both are one ===== -/
theorem shl_18 {x : Nat} : lN x <<< (18 : Int64) = lN (x * 262144) := by
  apply Int64.toBitVec_inj.mp
  rw [Int64.toBitVec_shiftLeft]
  show BitVec.ofNat 64 x <<< ((18 : Int64).toBitVec.smod 64) = BitVec.ofNat 64 (x * 262144)
  rw [BitVec.shiftLeft_eq', show ((18 : Int64).toBitVec.smod 64).toNat = 18 by decide]
  apply BitVec.eq_of_toNat_eq
  rw [BitVec.toNat_shiftLeft, BitVec.toNat_ofNat, BitVec.toNat_ofNat, Nat.shiftLeft_eq]
  omega
theorem shl_w : ∀ j, j < 6 → ∀ w, w < 7 → (nI w).toInt64 <<< shJ j = lN (w * 8 ^ (5 - j)) := by decide +kernel
theorem gnC_lN {p c : Int32} {w j x : Nat} (hj : j < 6) (hw : w < 7) (hx : p + nI (min w 5) * c = nI x) (hx1 : x ≤ 10000) : gnC p c w j = lN (x * 262144 + w * 8 ^ (5 - j)) := by
  unfold gnC
  rw [hx, nI_l (by omega), shl_18, shl_w j hj w hw, lN_add]
def q8 : Nat → Nat → Nat
  | 0, _ => 0
  | n + 1, k => 8 * q8 n (k / 7) + k % 7
theorem dgr_lt (k n j : Nat) : dgr k n j < 7 := Nat.mod_lt _ (by decide)
theorem dgr_s {k n j : Nat} (hj : j < n) : dgr k (n + 1) j = dgr (k / 7) n j := by
  unfold dgr
  rw [show n + 1 - 1 - j = (n - 1 - j) + 1 by omega, Nat.pow_succ, Nat.mul_comm, ← Nat.div_div_eq_div_mul]
theorem dgr_e (k n : Nat) : dgr k (n + 1) n = k % 7 := by
  unfold dgr
  rw [show n + 1 - 1 - n = 0 by omega, Nat.pow_zero, Nat.div_one]
theorem pls_cg {d e : Nat → Nat} : ∀ {k : Nat}, (∀ j, j < k → d j = e j) → pls d k = pls e k
  | 0, _ => rfl
  | k + 1, q => by
    show pls d k + _ = pls e k + _
    rw [pls_cg fun j hj => q j (Nat.lt_succ_of_lt hj), q k (Nat.lt_succ_self k)]
theorem pls_q8 : ∀ (n k : Nat), n ≤ 6 → pls (dgr k n) n = q8 n k * 8 ^ (6 - n)
  | 0, k, _ => by show 0 = 0 * _; omega
  | n + 1, k, hn => by
    have e : 8 ^ (6 - n) = 8 * 8 ^ (5 - n) := by rw [show 6 - n = (5 - n) + 1 by omega, Nat.pow_succ, Nat.mul_comm]
    show pls (dgr k (n + 1)) n + (if dgr k (n + 1) n = 7 then 0 else dgr k (n + 1) n * 8 ^ (5 - n)) = (8 * q8 n (k / 7) + k % 7) * 8 ^ (6 - (n + 1))
    rw [pls_cg (e := dgr (k / 7) n) fun j hj => dgr_s hj, pls_q8 n (k / 7) (by omega), dgr_e, if_neg (by omega), show 6 - (n + 1) = 5 - n by omega, e, Nat.add_mul, Nat.mul_comm 8 (q8 n (k / 7)), Nat.mul_assoc]
theorem q8_lt : ∀ (n k' k : Nat), k' < k → k < 7 ^ n → q8 n k' < q8 n k
  | 0, k', k, h1, h2 => by
    have : k < 1 := h2
    omega
  | n + 1, k', k, h1, h2 => by
    show 8 * q8 n (k' / 7) + k' % 7 < 8 * q8 n (k / 7) + k % 7
    rcases Nat.lt_or_ge (k' / 7) (k / 7) with z | z
    · have := q8_lt n (k' / 7) (k / 7) z (by rw [Nat.pow_succ] at h2; omega)
      omega
    · rw [show k' / 7 = k / 7 by omega]; omega
theorem q8_dg : ∀ (n k i : Nat), i < n → q8 n k / 8 ^ (n - 1 - i) % 8 = dgr k n i
  | n + 1, k, i, hi => by
    show (8 * q8 n (k / 7) + k % 7) / 8 ^ (n + 1 - 1 - i) % 8 = _
    rcases Nat.lt_or_eq_of_le (Nat.le_of_lt_succ hi) with z | z
    · rw [dgr_s z, ← q8_dg n (k / 7) i z, show n + 1 - 1 - i = (n - 1 - i) + 1 by omega, Nat.pow_succ, Nat.mul_comm (8 ^ (n - 1 - i)) 8, ← Nat.div_div_eq_div_mul, show (8 * q8 n (k / 7) + k % 7) / 8 = q8 n (k / 7) by omega]
    · subst z
      rw [dgr_e, show i + 1 - 1 - i = 0 by omega, Nat.pow_zero, Nat.div_one]
      omega
theorem V_dg {n T q i : Nat} (hn : n ≤ 6) (hi : i < n) : (T * 262144 + q * 8 ^ (6 - n)) / 8 ^ (5 - i) % 8 = q / 8 ^ (n - 1 - i) % 8 := by
  have e1 : 262144 = 8 ^ n * 8 ^ (6 - n) := by rw [← Nat.pow_add, show n + (6 - n) = 6 by omega]
  have e2 : 8 ^ (5 - i) = 8 ^ (6 - n) * 8 ^ (n - 1 - i) := by rw [← Nat.pow_add, show 6 - n + (n - 1 - i) = 5 - i by omega]
  have e3 : 8 ^ n = 8 ^ (n - 1 - i) * (8 * 8 ^ i) := by rw [Nat.mul_comm 8, ← Nat.pow_succ, ← Nat.pow_add, show n - 1 - i + (i + 1) = n by omega]
  have p1 : 0 < 8 ^ (6 - n) := Nat.pow_pos (by decide)
  have p2 : 0 < 8 ^ (n - 1 - i) := Nat.pow_pos (by decide)
  rw [e1, ← Nat.mul_assoc, ← Nat.add_mul, e2, ← Nat.div_div_eq_div_mul, Nat.mul_div_cancel _ p1, e3, show T * (8 ^ (n - 1 - i) * (8 * 8 ^ i)) + q = q + 8 ^ (n - 1 - i) * (T * (8 * 8 ^ i)) by rw [Nat.add_comm]; congr 1; rw [← Nat.mul_assoc, Nat.mul_comm T, Nat.mul_assoc], Nat.add_mul_div_left _ _ p2, show T * (8 * 8 ^ i) = 8 * (T * 8 ^ i) by rw [← Nat.mul_assoc, Nat.mul_comm T 8, Nat.mul_assoc]]
  omega
def encF (d : Nat → Nat) : Nat → Nat
  | 0 => 0
  | n + 1 => 7 * encF d n + d n
theorem encF_lt {d : Nat → Nat} : ∀ n, (∀ j, j < n → d j ≤ 6) → encF d n < 7 ^ n
  | 0, _ => by show 0 < 1; decide
  | n + 1, h => by
    have ih := encF_lt n (fun j hj => h j (Nat.lt_succ_of_lt hj))
    have := h n (Nat.lt_succ_self n)
    show 7 * encF d n + d n < 7 ^ (n + 1)
    rw [Nat.pow_succ]; omega
theorem encF_dg {d : Nat → Nat} : ∀ n, (∀ j, j < n → d j ≤ 6) → ∀ j, j < n → dgr (encF d n) n j = d j
  | n + 1, h, j, hj => by
    have hn := h n (Nat.lt_succ_self n)
    rcases Nat.lt_or_eq_of_le (Nat.le_of_lt_succ hj) with z | z
    · rw [dgr_s z, show encF d (n + 1) / 7 = encF d n from by show (7 * encF d n + d n) / 7 = _; omega]
      exact encF_dg n (fun j hj => h j (Nat.lt_succ_of_lt hj)) j z
    · subst z
      rw [dgr_e]
      show (7 * encF d j + d j) % 7 = d j
      omega
/-! what a draft comes to -/
def SLs (P : Nat → Nat → Nat) (d : Nat → Nat) (w : Nat) : Nat → Nat
  | 0 => 0
  | j + 1 => SLs P d w j + (if d j < w then P j (d j) else 0)
theorem SLs_S (P : Nat → Nat → Nat) (d : Nat → Nat) (w : Nat) : ∀ k, SLs P d (w + 1) k = SPs P d w k
  | 0 => rfl
  | k + 1 => by
    show SLs P d (w + 1) k + _ = SPs P d w k + _
    rw [SLs_S P d w k]
    congr 1
    by_cases h : d k ≤ w
    · rw [if_pos h, if_pos (by omega)]
    · rw [if_neg h, if_neg (by omega)]
theorem SLs_0 (P : Nat → Nat → Nat) (d : Nat → Nat) : ∀ k, SLs P d 0 k = 0
  | 0 => rfl
  | k + 1 => by
    show SLs P d 0 k + _ = 0
    rw [SLs_0 P d k, if_neg (Nat.not_lt_zero _)]
theorem slW_S {P : Nat → Nat → Nat} {d : Nat → Nat} {pr : Nat → Int32} {w v n : Nat} {x : Int32} (hd : ∀ j, j < n → d j ≤ 6) (hw : w ≤ 6) (hp : ∀ j, j < n → pr (6 * j + v) = nI (P j w)) (hx : x = nI (SLs P d w n)) : slW (fun j => nI (d j)) pr (nI w) v x n = nI (SLs P d (w + 1) n) := by
  have key : ∀ k, k ≤ n → slW (fun j => nI (d j)) pr (nI w) v x k + nI (SLs P d w k) = x + nI (SLs P d (w + 1) k) := by
    intro k
    induction k with
    | zero => intro _; rfl
    | succ k ih =>
      intro hk
      have ih := ih (by omega)
      have hdk := hd k (by omega)
      show slW (fun j => nI (d j)) pr (nI w) v x k + (if nI (d k) = nI w then pr (6 * k + v) else 0) + nI (SLs P d w k + (if d k < w then P k (d k) else 0)) = x + nI (SLs P d (w + 1) k + (if d k < w + 1 then P k (d k) else 0))
      rw [← nI_add, ← nI_add, ← Int32.add_assoc x, ← ih]
      by_cases h1 : d k = w
      · rw [h1, if_pos rfl, if_neg (Nat.lt_irrefl w), if_pos (Nat.lt_succ_self w), hp k (by omega), show nI 0 = 0 from rfl, Int32.add_zero, Int32.add_assoc, Int32.add_assoc, Int32.add_comm (nI (P k w))]
      · rw [if_neg (fun q => h1 ((nI_eq (by omega) (by omega)).mp q)), Int32.add_zero, ← Int32.add_assoc]
        by_cases h2 : d k < w
        · rw [if_pos h2, if_pos (by omega)]
        · rw [if_neg h2, if_neg (by omega)]
  have k1 := key n (Nat.le_refl _)
  rw [hx, Int32.add_comm (nI (SLs P d w n))] at k1
  have k2 := congrArg (· - nI (SLs P d w n)) k1
  simp only [Int32.add_sub_cancel] at k2
  rw [hx]
  exact k2
def NBs (D : Nat → Nat) : Nat → Nat
  | 0 => 0
  | w + 1 => NBs D w + D w
theorem NBs_le {D : Nat → Nat} : ∀ w, (∀ v, v < w → D v ≤ 60000) → NBs D w ≤ 60000 * w
  | 0, _ => Nat.le_refl _
  | w + 1, h => by
    have := NBs_le w (fun v hv => h v (Nat.lt_succ_of_lt hv))
    have := h w (Nat.lt_succ_self w)
    show NBs D w + D w ≤ _
    omega
section PBR
variable {P : Nat → Nat → Nat} {D : Nat → Nat} {n : Nat} {pr nd : Nat → Int32}
theorem cmW_S {d : Nat → Nat} (hn : n ≤ 6) (hP : ∀ j x, j < n → P j x ≤ 10000) (hP6 : ∀ j, j < n → P j 6 = P j 5) (hpr : ∀ j w, j < n → w < 6 → pr (6 * j + w) = nI (P j w)) (hD : ∀ v, v < 6 → D v ≤ 60000) (hnd : ∀ v, v < 6 → nd v = nI (D v)) (hd : ∀ j, j < n → d j ≤ 6) : ∀ k w, w + k = 6 → ((∀ v, w ≤ v → v < 6 → NBs D (v + 1) ≤ SPs P d v n) → cmW (fun j => nI (d j)) pr nd n k w (nI (SLs P d w n)) (nI (NBs D w)) = nI (SPs P d 6 n)) ∧ (¬ (∀ v, w ≤ v → v < 6 → NBs D (v + 1) ≤ SPs P d v n) → cmW (fun j => nI (d j)) pr nd n k w (nI (SLs P d w n)) (nI (NBs D w)) = -1)
  | 0, w, hw => by
    have e : w = 6 := by omega
    subst e
    refine ⟨fun _ => ?_, fun q => absurd (fun v h1 h2 => absurd h1 (by omega)) q⟩
    show slW (fun j => nI (d j)) pr 6 5 _ n = _
    rw [show (6 : Int32) = nI 6 from rfl, slW_S hd (Nat.le_refl 6) (fun j hj => by rw [hpr j 5 hj (by decide), hP6 j hj]) rfl, SLs_S]
  | k + 1, w, hw => by
    have ih := cmW_S hn hP hP6 hpr hD hnd hd k (w + 1) (by omega)
    have e1 : slW (fun j => nI (d j)) pr (nI w) w (nI (SLs P d w n)) n = nI (SLs P d (w + 1) n) := slW_S hd (by omega) (fun j hj => hpr j w hj (by omega)) rfl
    have e2 : nI (NBs D w) + nd w = nI (NBs D (w + 1)) := by rw [hnd w (by omega), nI_add]; rfl
    have b1 := SPs_le (P := P) (d := d) hP (v := w) n (Nat.le_refl _)
    have b2 := NBs_le (D := D) (w + 1) (fun v hv => hD v (by omega))
    have c : (nI (NBs D (w + 1)) ≤ nI (SLs P d (w + 1) n)) ↔ NBs D (w + 1) ≤ SPs P d w n := by
      rw [SLs_S]; exact nI_leI (by omega) (by omega)
    unfold cmW
    rw [e1, e2]
    refine ⟨fun q => ?_, fun q => ?_⟩
    · rw [if_pos (c.mpr (q w (Nat.le_refl _) (by omega)))]
      exact ih.1 (fun v h1 h2 => q v (by omega) h2)
    · by_cases z : NBs D (w + 1) ≤ SPs P d w n
      · rw [if_pos (c.mpr z)]
        refine ih.2 (fun y => q (fun v h1 h2 => ?_))
        rcases Nat.lt_or_eq_of_le h1 with a | a
        · exact y v a h2
        · subst a; exact z
      · rw [if_neg (fun y => z (c.mp y))]
theorem FE_cg {N : Nat → Nat} {d e : Nat → Nat} (h : ∀ j, j < n → d j = e j) (q : FE P N n d) : FE P N n e := ⟨fun j hj => by rw [← h j hj]; exact q.1 j hj, fun v hv => by rw [← SPs_cg (d := d) (e := e) fun j hj => by rw [h j hj]]; exact q.2 v hv⟩
theorem cmK_S (hn : n ≤ 6) (hP : ∀ j x, j < n → P j x ≤ 10000) (hP6 : ∀ j, j < n → P j 6 = P j 5) (hpr : ∀ j w, j < n → w < 6 → pr (6 * j + w) = nI (P j w)) (hD : ∀ v, v < 6 → D v ≤ 60000) (hnd : ∀ v, v < 6 → nd v = nI (D v)) (k : Nat) : (FE P (fun v => NBs D (v + 1)) n (dgr k n) → cmK pr nd n k = nI (SPs P (dgr k n) 6 n)) ∧ (¬ FE P (fun v => NBs D (v + 1)) n (dgr k n) → cmK pr nd n k = -1) := by
  have h6 : ∀ j, j < n → dgr k n j ≤ 6 := fun j _ => Nat.le_of_lt_succ (dgr_lt k n j)
  have q := cmW_S (d := dgr k n) hn hP hP6 hpr hD hnd h6 6 0 rfl
  rw [SLs_0] at q
  refine ⟨fun z => q.1 (fun v _ hv => z.2 v hv), fun z => q.2 (fun y => z ⟨h6, fun v hv => y v (Nat.zero_le _) hv⟩)⟩
/-- what the trying has found, from the number k on -/
def BIV (P : Nat → Nat → Nat) (N : Nat → Nat) (n k M : Nat) (so0 : Nat → Int32) (sm0 : Int32) (B : BS) : Prop := (B = (-1, so0, sm0) ∧ ∀ k', k ≤ k' → k' < M → ¬ FE P N n (dgr k' n)) ∨ ∃ ks, k ≤ ks ∧ ks < M ∧ FE P N n (dgr ks n) ∧ B.1 = nI (SPs P (dgr ks n) 6 n) ∧ (∀ j, j < n → B.2.1 j = nI (dgr ks n j)) ∧ B.2.2 = nI n ∧ ∀ k', k ≤ k' → k' < M → FE P N n (dgr k' n) → SPs P (dgr k' n) 6 n < SPs P (dgr ks n) 6 n ∨ (SPs P (dgr k' n) 6 n = SPs P (dgr ks n) 6 n ∧ k' ≤ ks)
theorem bLp_S (hn : n ≤ 6) (hP : ∀ j x, j < n → P j x ≤ 10000) (hP6 : ∀ j, j < n → P j 6 = P j 5) (hpr : ∀ j w, j < n → w < 6 → pr (6 * j + w) = nI (P j w)) (hD : ∀ v, v < 6 → D v ≤ 60000) (hnd : ∀ v, v < 6 → nd v = nI (D v)) {M : Nat} {so0 : Nat → Int32} {sm0 : Int32} : ∀ k B, k ≤ M → BIV P (fun v => NBs D (v + 1)) n k M so0 sm0 B → BIV P (fun v => NBs D (v + 1)) n 0 M so0 sm0 (bLp pr nd n k B)
  | 0, B, _, H => H
  | k + 1, B, hk, H => by
    show BIV P (fun v => NBs D (v + 1)) n 0 M so0 sm0 (bLp pr nd n k (bst pr nd n k B))
    refine bLp_S hn hP hP6 hpr hD hnd k _ (by omega) ?_
    have cS := cmK_S hn hP hP6 hpr hD hnd k
    have bd : ∀ x, SPs P (dgr x n) 6 n ≤ 60000 := fun x => Nat.le_trans (SPs_le hP n (Nat.le_refl _)) (by omega)
    unfold bst
    by_cases f : FE P (fun v => NBs D (v + 1)) n (dgr k n)
    · rw [cS.1 f]
      rcases H with ⟨rfl, H2⟩ | ⟨ks, h1, h2, h3, h4, h5, h6, h7⟩
      · rw [if_neg (show ¬ nI (SPs P (dgr k n) 6 n) ≤ -1 from fun q => by
          have b := bd k
          rw [Int32.le_iff_toInt_le, nI_toInt (by omega)] at q
          have : (-1 : Int32).toInt = -1 := by decide
          omega)]
        refine Or.inr ⟨k, Nat.le_refl _, by omega, f, rfl, fun j hj => if_pos hj, rfl, fun k' w1 w2 w3 => ?_⟩
        rcases Nat.lt_or_eq_of_le w1 with z | z
        · exact absurd w3 (H2 k' z w2)
        · subst z; exact Or.inr ⟨rfl, Nat.le_refl _⟩
      · have b1 := bd k
        have b2 := bd ks
        by_cases c : SPs P (dgr k n) 6 n ≤ SPs P (dgr ks n) 6 n
        · rw [if_pos (show nI (SPs P (dgr k n) 6 n) ≤ B.1 by rw [h4]; exact nI_le c (by omega))]
          refine Or.inr ⟨ks, by omega, h2, h3, h4, h5, h6, fun k' w1 w2 w3 => ?_⟩
          rcases Nat.lt_or_eq_of_le w1 with z | z
          · exact h7 k' z w2 w3
          · subst z
            rcases Nat.lt_or_eq_of_le c with y | y
            · exact Or.inl y
            · exact Or.inr ⟨y, by omega⟩
        · rw [if_neg (show ¬ nI (SPs P (dgr k n) 6 n) ≤ B.1 by rw [h4]; exact nI_ge (by omega) (by omega))]
          refine Or.inr ⟨k, Nat.le_refl _, by omega, f, rfl, fun j hj => if_pos hj, rfl, fun k' w1 w2 w3 => ?_⟩
          rcases Nat.lt_or_eq_of_le w1 with z | z
          · rcases h7 k' z w2 w3 with y | y
            · exact Or.inl (by omega)
            · exact Or.inl (by omega)
          · subst z; exact Or.inr ⟨rfl, Nat.le_refl _⟩
    · rw [cS.2 f]
      have hm : -1 ≤ B.1 := by
        rcases H with ⟨rfl, -⟩ | ⟨ks, h1, h2, h3, h4, -⟩
        · show (-1 : Int32) ≤ -1; decide
        · have b2 := bd ks
          rw [h4, Int32.le_iff_toInt_le, nI_toInt (by omega)]
          have : (-1 : Int32).toInt = -1 := by decide
          omega
      rw [if_pos hm]
      rcases H with ⟨H1, H2⟩ | ⟨ks, h1, h2, h3, h4, h5, h6, h7⟩
      · refine Or.inl ⟨H1, fun k' w1 w2 => ?_⟩
        rcases Nat.lt_or_eq_of_le w1 with z | z
        · exact H2 k' z w2
        · subst z; exact f
      · refine Or.inr ⟨ks, by omega, h2, h3, h4, h5, h6, fun k' w1 w2 w3 => ?_⟩
        rcases Nat.lt_or_eq_of_le w1 with z | z
        · exact h7 k' z w2 w3
        · subst z; exact absurd w3 f
theorem shrJ : ∀ j, j < 6 → ((shJ j).toBitVec.smod 64).toNat = 3 * (5 - j) := by decide +kernel
theorem lN_shr {v : Nat} (hv : v < 2 ^ 60) (c : Int64) (k : Nat) (hk : (c.toBitVec.smod 64).toNat = k) : lN v >>> c = lN (v / 2 ^ k) := by
  have hle := Nat.div_le_self v (2 ^ k)
  apply Int64.toInt_inj.mp
  rw [shr_t _ c k hk, lN_t hv, lN_t (by omega)]
  rfl
theorem nI_and7 (x : Nat) : nI x &&& 7 = nI (x % 8) := by
  apply Int32.toBitVec_inj.mp
  rw [Int32.toBitVec_and]
  show BitVec.ofNat 32 x &&& 7#32 = BitVec.ofNat 32 (x % 8)
  apply BitVec.eq_of_toNat_eq
  rw [BitVec.toNat_and, BitVec.toNat_ofNat]
  show x % 2 ^ 32 &&& (2 ^ 3 - 1) = _
  rw [Nat.and_two_pow_sub_one_eq_mod, BitVec.toNat_ofNat]
  omega
/-- both find the same -/
theorem best_E (hn : n ≤ 6) (hP : ∀ j x, j < n → P j x ≤ 10000) (hP6 : ∀ j, j < n → P j 6 = P j 5) (hpr : ∀ j w, j < n → w < 6 → pr (6 * j + w) = nI (P j w)) (hD : ∀ v, v < 6 → D v ≤ 60000) (hnd : ∀ v, v < 6 → nd v = nI (D v)) {r : Nat → Int64} (H : DPI P (fun v => NBs D (v + 1)) n 6 n r) (so0 : Nat → Int32) (sm0 : Int32) :
    (r (2 ^ n - 1) < 0 ∧ bLp pr nd n (7 ^ n) (-1, so0, sm0) = (-1, so0, sm0)) ∨ (¬ r (2 ^ n - 1) < 0 ∧ (r (2 ^ n - 1) >>> (18 : Int64)).toInt32 = (bLp pr nd n (7 ^ n) (-1, so0, sm0)).1 ∧ (bLp pr nd n (7 ^ n) (-1, so0, sm0)).2.2 = nI n ∧ ∀ j, j < n → kpV (r (2 ^ n - 1)) j = (bLp pr nd n (7 ^ n) (-1, so0, sm0)).2.1 j) := by
  have B := bLp_S (P := P) (D := D) (so0 := so0) (sm0 := sm0) hn hP hP6 hpr hD hnd (7 ^ n) (-1, so0, sm0) (Nat.le_refl _) (Or.inl ⟨rfl, fun k' h1 h2 => absurd h1 (by omega)⟩)
  obtain ⟨F1, F2⟩ := DPI.fin H
  have z0 : (0 : Int64).toInt = 0 := by decide
  rcases B with ⟨b1, b2⟩ | ⟨ks, h1, h2, h3, h4, h5, h6, h7⟩
  · left
    refine ⟨?_, b1⟩
    rcases F1 with q | ⟨d, q1, q2⟩
    · rw [q]; decide
    · have e := encF_dg n q1.1
      exact absurd (FE_cg (fun j hj => (e j hj).symm) q1) (b2 (encF d n) (Nat.zero_le _) (encF_lt n q1.1))
  · right
    have d6 : ∀ k j, j < n → dgr k n j ≤ 6 ∨ dgr k n j = 7 := fun k j _ => Or.inl (Nat.le_of_lt_succ (dgr_lt k n j))
    have hV : ∀ k, VVs P (dgr k n) n = SPs P (dgr k n) 6 n * 262144 + q8 n k * 8 ^ (6 - n) := fun k => by rw [VVs_eq (d6 k) (Nat.le_refl 6) n (Nat.le_refl _), pls_q8 n k hn]
    have hpl : ∀ k, q8 n k * 8 ^ (6 - n) < 262144 := fun k => by
      have h1 := pls_le (d := dgr k n) (n := n) (fun j hj => by rcases d6 k j hj with q | q <;> omega) n (Nat.le_refl _) hn
      have h2 : 0 < 8 ^ (6 - n) := Nat.pow_pos (by decide)
      rw [pls_q8 n k hn] at h1
      omega
    have key : r (2 ^ n - 1) = lN (VVs P (dgr ks n) n) := by
      have f2 := F2 _ h3
      rcases F1 with q | ⟨d, q1, q2⟩
      · rw [q, m1_t] at f2; omega
      · have e := encF_dg n q1.1
        have q1' := FE_cg (fun j hj => (e j hj).symm) q1
        have m := h7 (encF d n) (Nat.zero_le _) (encF_lt n q1.1) q1'
        have eV : VVs P d n = VVs P (dgr (encF d n) n) n := VVs_cg fun j hj => (e j hj).symm
        have lt := VVs_lt hn hP (d6 (encF d n))
        rw [q2, eV, lN_t (by omega)] at f2
        rw [q2, eV]
        have le : VVs P (dgr (encF d n) n) n ≤ VVs P (dgr ks n) n := by
          have p1 := hpl (encF d n)
          have p2 := hpl ks
          rw [hV, hV]
          rcases m with m | ⟨m1, m2⟩
          · omega
          · rw [m1]
            have : q8 n (encF d n) ≤ q8 n ks := by
              rcases Nat.lt_or_eq_of_le m2 with y | y
              · exact Nat.le_of_lt (q8_lt n _ _ y h2)
              · rw [y]; exact Nat.le_refl _
            exact Nat.add_le_add_left (Nat.mul_le_mul_right _ this) _
        congr 1
        omega
    have lt := VVs_lt hn hP (d6 ks)
    have hdv : VVs P (dgr ks n) n / 262144 = SPs P (dgr ks n) 6 n := VVs_div hn (d6 ks) (Nat.le_refl _)
    refine ⟨?_, ?_, h6, fun j hj => ?_⟩
    · rw [key, Int64.lt_iff_toInt_lt, lN_t (by omega), z0]; omega
    · rw [key, lN_shr (by omega) 18 18 (by decide), lN_i, h4]
      congr 1
    · unfold kpV
      rw [key, lN_shr (by omega) _ _ (shrJ j (by omega)), lN_i, nI_and7, h5 j hj, show 2 ^ (3 * (5 - j)) = 8 ^ (5 - j) by rw [Nat.pow_mul], hV, V_dg hn hj, q8_dg n ks j hj]
end PBR
