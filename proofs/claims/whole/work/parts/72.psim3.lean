/-! ===== a line's rest, by induction on what is left ===== -/
section PSIM3
variable {tk : Nat → Int32} {pl : Nat → Nat} {N la b0 : Nat} {op0 on0 : Nat → Int32} {ln ru : Int32}
theorem stepB {i cd dp f : Nat} {cm sw gw aw op on : Nat → Int32} {cs : List (Int32 × Int32)} (hN6 : N ≤ 600) (hlast : N = 600 → pl N = 600) (hE : ∀ i, i < N → ¬ tk i = -1) (hEN : tk N = -1) (hpl : ∀ i, i ≤ N → pl i ≤ 600)
    (R : RC N la b0 op0 on0 i cm cd dp sw gw aw op on cs) (S : SmB tk b0 i dp sw gw aw cs)
    (hP : i < N → ∀ (cm : Nat → Int32) (cd dp : Nat) (sw gw aw op on : Nat → Int32) (cs : List (Int32 × Int32)), RC N la b0 op0 on0 (i + 1) cm cd dp sw gw aw op on cs → SmP tk b0 (i + 1) dp sw gw aw cs → ∃ m5, boM tk pl f (i + 1, 0, cd, dp, sw, gw, aw, op, on) = some m5 ∧ Out tk pl N la b0 op0 on0 (i + 1) (3, ln, ru, dp, cm) m5)
    (hB : i < N → ∀ (cm : Nat → Int32) (cd dp : Nat) (sw gw aw op on : Nat → Int32) (cs : List (Int32 × Int32)), RC N la b0 op0 on0 (i + 1) cm cd dp sw gw aw op on cs → SmB tk b0 (i + 1) dp sw gw aw cs → ∃ m5, reB tk pl f dp (i + 1, 0, cd, dp, sw, gw, aw, op, on) = some m5 ∧ Out tk pl N la b0 op0 on0 (i + 1) (4, ln, ru, dp, cm) m5) :
    ∃ m5, reB tk pl f dp (i, 0, cd, dp, sw, gw, aw, op, on) = some m5 ∧ Out tk pl N la b0 op0 on0 i (4, ln, ru, dp, cm) m5 := by
  obtain ⟨rN, rd, rb, rc, rk, rf, rbud⟩ := R
  have hbud : cd + (pnd sw gw aw dp + (nz (sw dp) + nz (gw dp) + nz (aw dp))) ≤ i := rbud
  have hcf := CF_s (pl := pl) hN6 hlast hE hEN rN (g := (4, ln, ru, dp, cm)) (fun q => absurd (show (4 : Int32) = 0 from q) (by decide))
  have lt : ∀ x : Int32, ¬ x = -1 → tk i = x → i < N := fun x hx q => by
    rcases Nat.lt_or_eq_of_le rN with z | z
    · exact z
    · rw [z, hEN] at q; exact absurd q.symm hx
  obtain ⟨k, hk, hk13⟩ : ∃ k : MS → Option (Bool × MS), (∀ m, goM tk pl dp m = goA tk pl k m) ∧ ∀ m, 0 < dp → k m = goM tk pl (dp - 1) m := by
    cases dp with
    | zero => exact ⟨fun _ => none, fun m => rfl, fun m h => absurd h (Nat.lt_irrefl 0)⟩
    | succ d => exact ⟨goM tk pl d, fun m => rfl, fun m _ => rfl⟩
  unfold reB
  rw [hk, goA_f (by omega)]
  -- the sum
  have F1 := flush (row := sw) (dp := dp) rk (sw dp) (fun q => q)
  have S1 := Sm1.of S
  generalize (if sw dp = 0 then op else upf op (5280 + cd) (sw dp)) = op1 at F1 ⊢
  generalize (if sw dp = 0 then on else upf on (5280 + cd) 0) = on1 at F1 ⊢
  generalize (if sw dp = 0 then cs else cs ++ [(sw dp, 0)]) = cs1 at F1 S1
  obtain ⟨k1, fr1⟩ := F1
  have frm1 : ∀ x, x < 5280 + la → op1 x = op0 x ∧ on1 x = on0 x := fun x hx => ⟨(fr1 x hx).1.trans (rf x hx).1, (fr1 x hx).2.trans (rf x hx).2⟩
  have hc1 : cd + nz (sw dp) + (pnd sw gw aw dp + (nz (gw dp) + nz (aw dp))) ≤ i := by omega
  generalize cd + nz (sw dp) = cd1 at k1 hc1 ⊢
  unfold goB
  simp only
  by_cases t16 : tk i = -16
  · rw [if_pos t16]
    have hw : wrG (4, ln, ru, dp, cm) (tk i) = 0 := by rw [wr4, t16]; rfl
    have hs : stG (4, ln, ru, dp, cm) (tk i) = (3, ln, ru, dp, cm) := by rw [st4, t16]; rfl
    rw [if_pos hw, hs] at hcf
    obtain ⟨m5, e5, O5⟩ := hP (lt (-16) (by decide) t16) cm cd1 dp (upf (upf sw dp 0) dp 3) gw aw op1 on1 cs1 ⟨lt (-16) (by decide) t16, rd, by omega, rc, k1, frm1, by
      show cd1 + (pnd _ gw aw dp + (nz (upf (upf sw dp 0) dp 3 dp) + nz (gw dp) + nz (aw dp))) ≤ i + 1
      rw [pnd_cg (sw' := sw) (gw' := gw) (aw' := aw) (fun d hd => ⟨by rw [upf_n _ _ (by omega), upf_n _ _ (by omega)], rfl, rfl⟩), upf_s, show nz 3 = 1 from by decide]
      omega⟩ (ns_pm (Or.inl ⟨t16, rfl⟩) rb S1)
    exact ⟨m5, e5, O5.back hcf rfl rfl (by rw [t16]; decide)⟩
  rw [if_neg t16]
  by_cases t17 : tk i = -17
  · rw [if_pos t17]
    have hw : wrG (4, ln, ru, dp, cm) (tk i) = 0 := by rw [wr4, t17]; rfl
    have hs : stG (4, ln, ru, dp, cm) (tk i) = (3, ln, ru, dp, cm) := by rw [st4, t17]; rfl
    rw [if_pos hw, hs] at hcf
    obtain ⟨m5, e5, O5⟩ := hP (lt (-17) (by decide) t17) cm cd1 dp (upf (upf sw dp 0) dp 4) gw aw op1 on1 cs1 ⟨lt (-17) (by decide) t17, rd, by omega, rc, k1, frm1, by
      show cd1 + (pnd _ gw aw dp + (nz (upf (upf sw dp 0) dp 4 dp) + nz (gw dp) + nz (aw dp))) ≤ i + 1
      rw [pnd_cg (sw' := sw) (gw' := gw) (aw' := aw) (fun d hd => ⟨by rw [upf_n _ _ (by omega), upf_n _ _ (by omega)], rfl, rfl⟩), upf_s, show nz 4 = 1 from by decide]
      omega⟩ (ns_pm (Or.inr ⟨t17, rfl⟩) rb S1)
    exact ⟨m5, e5, O5.back hcf rfl rfl (by rw [t17]; decide)⟩
  rw [if_neg t17]
  by_cases tc : gw dp = 0 ∧ (tk i = -14 ∨ tk i = -15)
  · obtain ⟨g0, tt⟩ := tc
    have cm0 : cm dp = 0 := (rc dp (Nat.le_refl _)).mpr g0
    have hi : i < N := by rcases tt with q | q; exact lt (-14) (by decide) q; exact lt (-15) (by decide) q
    have hw : wrG (4, ln, ru, dp, cm) (tk i) = 0 := by
      rw [wr4]
      have : mbT dp cm (tk i) = true := by
        unfold mbT
        rcases tt with q | q <;> (rw [q]; simp [cm0])
      rw [this]; rfl
    have hs : stG (4, ln, ru, dp, cm) (tk i) = (3, ln, ru, dp, upf cm dp 1) := by
      rw [st4]
      rcases tt with q | q <;> (rw [q]; rfl)
    rw [if_pos hw, hs] at hcf
    obtain ⟨c, hc, hgo⟩ : ∃ c : Int32, ((tk i = -14 ∧ c = 5) ∨ (tk i = -15 ∧ c = 6)) ∧ goC tk pl k (i, 0, cd1, dp, upf sw dp 0, gw, aw, op1, on1) = some (true, (i + 1, 0, cd1, dp, upf sw dp 0, upf gw dp c, aw, op1, on1)) := by
      unfold goC
      simp only
      rw [if_pos g0]
      rcases tt with q | q
      · exact ⟨5, Or.inl ⟨q, rfl⟩, by rw [if_pos q]⟩
      · exact ⟨6, Or.inr ⟨q, rfl⟩, by rw [if_neg (by rw [q]; decide), if_pos q]⟩
    have c0 : ¬ c = 0 := by rcases hc with ⟨-, a⟩ | ⟨-, a⟩ <;> (rw [a]; decide)
    rw [hgo]
    obtain ⟨m5, e5, O5⟩ := hP hi (upf cm dp 1) cd1 dp (upf sw dp 0) (upf gw dp c) aw op1 on1 cs1 ⟨hi, rd, by omega, fun d hd => by
      by_cases q : d = dp
      · subst q; rw [upf_s, upf_s]; exact ⟨fun w => absurd w (by decide), fun w => absurd w c0⟩
      · rw [upf_n _ _ q, upf_n _ _ q]; exact rc d hd, k1, frm1, by
      show cd1 + (pnd _ _ aw dp + (nz (upf sw dp 0 dp) + nz (upf gw dp c dp) + nz (aw dp))) ≤ i + 1
      rw [pnd_cg (sw' := sw) (gw' := gw) (aw' := aw) (fun d hd => ⟨by rw [upf_n _ _ (by omega)], by rw [upf_n _ _ (by omega)], rfl⟩), upf_s, upf_s, show nz 0 = 0 from by decide, show nz c = 1 from by unfold nz; rw [if_neg c0]]
      omega⟩ (ns_cmp hc g0 rb S1)
    exact ⟨m5, e5, O5.back hcf rfl rfl (by rcases tt with q | q <;> (rw [q]; decide))⟩
  have tc1 : gw dp = 0 → ¬ tk i = -14 ∧ ¬ tk i = -15 := fun q => ⟨fun w => tc ⟨q, Or.inl w⟩, fun w => tc ⟨q, Or.inr w⟩⟩
  have tc2 : tk i = -14 ∨ tk i = -15 → ¬ cm dp = 0 := fun w q => tc ⟨(rc dp (Nat.le_refl _)).mp q, w⟩
  rw [goC_f (by omega) tc1, goD_f (by unfold nz; split <;> omega)]
  -- the comparison, the and
  have F2 := flush (row := gw) (dp := dp) k1 (gw dp) (fun q => q)
  have S3 := Sm3.of (by omega) S1
  generalize (if gw dp = 0 then op1 else upf op1 (5280 + cd1) (gw dp)) = op2 at F2 ⊢
  generalize (if gw dp = 0 then on1 else upf on1 (5280 + cd1) 0) = on2 at F2 ⊢
  generalize (if gw dp = 0 then cs1 else cs1 ++ [(gw dp, 0)]) = cs2 at F2 S3
  obtain ⟨k2, fr2⟩ := F2
  have hc2 : cd1 + nz (gw dp) + (pnd sw gw aw dp + nz (aw dp)) ≤ i := by omega
  generalize cd1 + nz (gw dp) = cd2 at k2 hc2 ⊢
  have F3 := flush (row := aw) (dp := dp) k2 7 (fun _ => by decide)
  generalize (if aw dp = 0 then op2 else upf op2 (5280 + cd2) 7) = op3 at F3 ⊢
  generalize (if aw dp = 0 then on2 else upf on2 (5280 + cd2) 0) = on3 at F3 ⊢
  generalize (if aw dp = 0 then cs2 else cs2 ++ [(7, 0)]) = cs3 at F3 S3
  obtain ⟨k3, fr3⟩ := F3
  have hc3 : cd2 + nz (aw dp) + pnd sw gw aw dp ≤ i := by omega
  generalize cd2 + nz (aw dp) = cd3 at k3 hc3 ⊢
  have frm3 : ∀ x, x < 5280 + la → op3 x = op0 x ∧ on3 x = on0 x := fun x hx => ⟨(fr3 x hx).1.trans ((fr2 x hx).1.trans (frm1 x hx).1), (fr3 x hx).2.trans ((fr2 x hx).2.trans (frm1 x hx).2)⟩
  have hpn : pnd (upf sw dp 0) (upf gw dp 0) (upf aw dp 0) dp = pnd sw gw aw dp := pnd_cg (fun d hd => ⟨by rw [upf_n _ _ (by omega)], by rw [upf_n _ _ (by omega)], by rw [upf_n _ _ (by omega)]⟩)
  unfold goE
  simp only
  by_cases t6 : tk i = -6
  · rw [if_pos t6]
    have hw : wrG (4, ln, ru, dp, cm) (tk i) = 0 := by rw [wr4, t6]; rfl
    have hs : stG (4, ln, ru, dp, cm) (tk i) = (3, ln, ru, dp, upf cm dp 0) := by rw [st4, t6]; rfl
    rw [if_pos hw, hs] at hcf
    obtain ⟨m5, e5, O5⟩ := hP (lt (-6) (by decide) t6) (upf cm dp 0) cd3 dp (upf sw dp 0) (upf gw dp 0) (upf (upf aw dp 0) dp 7) op3 on3 cs3 ⟨lt (-6) (by decide) t6, rd, by omega, fun d hd => by
      by_cases q : d = dp
      · subst q; rw [upf_s, upf_s]
      · rw [upf_n _ _ q, upf_n _ _ q]; exact rc d hd, k3, frm3, by
      show cd3 + (pnd _ _ _ dp + (nz (upf sw dp 0 dp) + nz (upf gw dp 0 dp) + nz (upf (upf aw dp 0) dp 7 dp))) ≤ i + 1
      rw [pnd_cg (sw' := sw) (gw' := gw) (aw' := aw) (fun d hd => ⟨by rw [upf_n _ _ (by omega)], by rw [upf_n _ _ (by omega)], by rw [upf_n _ _ (by omega), upf_n _ _ (by omega)]⟩), upf_s, upf_s, upf_s, show nz 0 = 0 from by decide, show nz 7 = 1 from by decide]
      omega⟩ (ns_and t6 rb S3)
    exact ⟨m5, e5, O5.back hcf rfl rfl (by rw [t6]; decide)⟩
  rw [if_neg t6]
  by_cases d0 : dp = 0
  · rw [if_pos d0]
    subst d0
    refine ⟨_, rfl, ?_⟩
    by_cases t18 : tk i = -18
    · have hi := lt (-18) (by decide) t18
      have hw : wrG (4, ln, ru, 0, cm) (tk i) = 0 := by rw [wr4, t18]; rfl
      have hs : stG (4, ln, ru, 0, cm) (tk i) = (0, ln, ru, 0, cm) := by rw [st4, t18]; rfl
      rw [if_pos hw, hs] at hcf
      have et : tkM tk pl (emM (i, 0, cd3, 0, upf sw 0 0, upf gw 0 0, upf aw 0 0, op3, on3) 0 0) (-18) = (i + 1, (emM (i, 0, cd3, 0, upf sw 0 0, upf gw 0 0, upf aw 0 0, op3, on3) 0 0).2) := if_pos ⟨rfl, t18⟩
      refine ⟨by show cd3 < 660; omega, Or.inr ⟨by rw [et]; rfl, i, cm, cs3, ⟨Nat.le_refl _, hi, t18, fun q h1 h2 => absurd h1 (by omega)⟩, by rw [et], hcf, k3, frm3, by show cd3 ≤ i; omega, fun F J0 => ?_⟩⟩
      obtain ⟨J1, v, e1, e2, e3, e4⟩ := S3 F J0
      rw [e4, e1]
      rfl
    · have hw : wrG (4, ln, ru, 0, cm) (tk i) = 1 := by
        rw [wr4, mb_no t16 t17 t6 tc2 (fun q => absurd q t18) (fun _ => Nat.lt_irrefl 0)]; rfl
      rw [hw, if_neg (by decide)] at hcf
      have et : (tkM tk pl (emM (i, 0, cd3, 0, upf sw 0 0, upf gw 0 0, upf aw 0 0, op3, on3) 0 0) (-18)).2.1 = nI (1 + 16 * pl i) := by
        unfold tkM
        rw [if_neg (show ¬ ((emM (i, 0, cd3, 0, upf sw 0 0, upf gw 0 0, upf aw 0 0, op3, on3) 0 0).2.1 = 0 ∧ tk (emM (i, 0, cd3, 0, upf sw 0 0, upf gw 0 0, upf aw 0 0, op3, on3) 0 0).1 = -18) from fun q => t18 q.2)]
        unfold wrM
        rw [if_pos (show (emM (i, 0, cd3, 0, upf sw 0 0, upf gw 0 0, upf aw 0 0, op3, on3) 0 0).2.1 = 0 from rfl)]
        rfl
      refine ⟨by show cd3 < 660; omega, Or.inl ⟨by rw [et]; exact nI_ne0 (by omega) (by have := hpl i rN; omega), ?_⟩⟩
      rw [et, hcf]
      exact i16 1 (pl i)
  rw [if_neg d0]
  by_cases t13 : tk i = -13
  · rw [if_pos t13, hk13 _ (by omega)]
    have hi := lt (-13) (by decide) t13
    obtain ⟨d, rfl⟩ : ∃ d, dp = d + 1 := ⟨dp - 1, by omega⟩
    have hw : wrG (4, ln, ru, d + 1, cm) (tk i) = 0 := by rw [wr4, t13]; rfl
    have hs : stG (4, ln, ru, d + 1, cm) (tk i) = (4, ln, ru, d, cm) := by rw [st4, t13]; rfl
    rw [if_pos hw, hs] at hcf
    obtain ⟨m5, e5, O5⟩ := hB hi cm cd3 d (upf sw (d + 1) 0) (upf gw (d + 1) 0) (upf aw (d + 1) 0) op3 on3 cs3 ⟨hi, by omega, by omega, fun d1 hd1 => by
      rw [upf_n _ _ (by omega)]; exact rc d1 (by omega), k3, frm3, by rw [hpn]; omega⟩ (ns_cl t13 rb S3)
    exact ⟨m5, e5, O5.back hcf rfl rfl (by rw [t13]; decide)⟩
  · rw [if_neg t13]
    refine ⟨_, rfl, ?_⟩
    have hw : wrG (4, ln, ru, dp, cm) (tk i) = 1 := by
      rw [wr4, mb_no t16 t17 t6 tc2 (fun _ => d0) (fun q => absurd q t13)]; rfl
    rw [hw, if_neg (by decide)] at hcf
    exact Out.fault (w := 1) (by decide) (by decide) (hpl i rN) (by omega) hcf
theorem stepP {i cd dp f : Nat} {cm sw gw aw op on : Nat → Int32} {cs : List (Int32 × Int32)} (hN6 : N ≤ 600) (hlast : N = 600 → pl N = 600) (hE : ∀ i, i < N → ¬ tk i = -1) (hEN : tk N = -1) (hpl : ∀ i, i ≤ N → pl i ≤ 600)
    (R : RC N la b0 op0 on0 i cm cd dp sw gw aw op on cs) (S : SmP tk b0 i dp sw gw aw cs)
    (hP : i < N → ∀ (cm : Nat → Int32) (cd dp : Nat) (sw gw aw op on : Nat → Int32) (cs : List (Int32 × Int32)), RC N la b0 op0 on0 (i + 1) cm cd dp sw gw aw op on cs → SmP tk b0 (i + 1) dp sw gw aw cs → ∃ m5, boM tk pl f (i + 1, 0, cd, dp, sw, gw, aw, op, on) = some m5 ∧ Out tk pl N la b0 op0 on0 (i + 1) (3, ln, ru, dp, cm) m5)
    (hB : i < N → ∀ (cm : Nat → Int32) (cd dp : Nat) (sw gw aw op on : Nat → Int32) (cs : List (Int32 × Int32)), RC N la b0 op0 on0 (i + 1) cm cd dp sw gw aw op on cs → SmB tk b0 (i + 1) dp sw gw aw cs → ∃ m5, reB tk pl f dp (i + 1, 0, cd, dp, sw, gw, aw, op, on) = some m5 ∧ Out tk pl N la b0 op0 on0 (i + 1) (4, ln, ru, dp, cm) m5) :
    ∃ m5, boM tk pl (f + 1) (i, 0, cd, dp, sw, gw, aw, op, on) = some m5 ∧ Out tk pl N la b0 op0 on0 i (3, ln, ru, dp, cm) m5 := by
  obtain ⟨rN, rd, rb, rc, rk, rf, rbud⟩ := R
  have hcf := CF_s (pl := pl) hN6 hlast hE hEN rN (g := (3, ln, ru, dp, cm)) (fun q => absurd (show (3 : Int32) = 0 from q) (by decide))
  unfold boM
  rw [if_pos rfl]
  by_cases qb : bgT (tk i) = true
  · rw [if_pos qb]
    have hi : i < N := bg_lt hEN rN qb
    have n18 : ¬ tk i = -18 := fun q => by rw [q] at qb; exact absurd qb (by decide)
    by_cases d5 : dp = 5
    · rw [if_pos d5]
      refine ⟨_, rfl, ?_⟩
      have hw : wrG (3, ln, ru, dp, cm) (tk i) = 5 := by rw [wr3, if_pos qb, d5]; rfl
      rw [hw, if_neg (by decide)] at hcf
      exact Out.fault (w := 5) (by decide) (by decide) (hpl i rN) (by omega) hcf
    · rw [if_neg d5]
      have hw : wrG (3, ln, ru, dp, cm) (tk i) = 0 := by rw [wr3, if_pos qb, if_pos (show nI dp < 5 from nI_lt (b := 5) (by omega) (by decide))]
      rw [if_pos hw] at hcf
      by_cases t12 : tk i = -12
      · rw [if_pos t12]
        have hs : stG (3, ln, ru, dp, cm) (tk i) = (3, ln, ru, dp + 1, upf cm (dp + 1) 0) := by
          rw [st3]
          unfold ipG
          exact (if_pos t12).trans (if_neg (show ¬ (5 : Int32) ≤ nI dp from nI_ge (b := 5) (by omega) (by decide)))
        rw [hs] at hcf
        obtain ⟨m5, e5, O5⟩ := hP hi (upf cm (dp + 1) 0) cd (dp + 1) (upf sw (dp + 1) 0) (upf gw (dp + 1) 0) (upf aw (dp + 1) 0) op on cs ⟨hi, by omega, by omega, fun d hd => by
          by_cases q : d = dp + 1
          · subst q; rw [upf_s, upf_s]
          · rw [upf_n _ _ q, upf_n _ _ q]; exact rc d (by omega), rk, rf, by
          show cd + (pnd _ _ _ (dp + 1) + (nz (upf sw (dp + 1) 0 (dp + 1)) + nz (upf gw (dp + 1) 0 (dp + 1)) + nz (upf aw (dp + 1) 0 (dp + 1)))) ≤ i + 1
          rw [pnd_cg (sw' := sw) (gw' := gw) (aw' := aw) (fun d hd => ⟨by rw [upf_n _ _ (by omega)], by rw [upf_n _ _ (by omega)], by rw [upf_n _ _ (by omega)]⟩), upf_s, upf_s, upf_s, show nz 0 = 0 from by decide]
          omega⟩ (ns_op t12 (by omega) rb S)
        exact ⟨m5, e5, O5.back hcf rfl rfl n18⟩
      · rw [if_neg t12, if_pos (show cd < 660 by omega)]
        have hs : stG (3, ln, ru, dp, cm) (tk i) = (4, ln, ru, dp, cm) := by
          rw [st3]
          unfold ipG
          rw [if_neg t12]
        rw [hs] at hcf
        have c0 : ¬ (if 0 ≤ tk i then (1 : Int32) else 2) = 0 := by split <;> decide
        have rk2 := rk.push (if 0 ≤ tk i then 1 else 2) (if 0 ≤ tk i then tk i else pwV (tk i)) c0
        have hla := rk.1
        obtain ⟨m5, e5, O5⟩ := hB hi cm (cd + 1) dp sw gw aw _ _ _ ⟨hi, rd, by omega, rc, rk2, fun x hx => by rw [upf_n _ _ (by omega), upf_n _ _ (by omega)]; exact rf x hx, by omega⟩ (ns_val qb t12 rb S)
        exact ⟨m5, e5, O5.back hcf rfl rfl n18⟩
  · rw [if_neg qb]
    refine ⟨_, rfl, ?_⟩
    have hw : wrG (3, ln, ru, dp, cm) (tk i) = 1 := by rw [wr3, if_neg qb]
    rw [hw, if_neg (by decide)] at hcf
    exact Out.fault (w := 1) (by decide) (by decide) (hpl i rN) (by omega) hcf
/-- a line's rest -/
theorem simPB (hN6 : N ≤ 600) (hlast : N = 600 → pl N = 600) (hE : ∀ i, i < N → ¬ tk i = -1) (hEN : tk N = -1) (hpl : ∀ i, i ≤ N → pl i ≤ 600) : ∀ (M i f : Nat), N - i ≤ M → N < i + f → (∀ (cm : Nat → Int32) (cd dp : Nat) (sw gw aw op on : Nat → Int32) (cs : List (Int32 × Int32)), RC N la b0 op0 on0 i cm cd dp sw gw aw op on cs → SmP tk b0 i dp sw gw aw cs → ∃ m5, boM tk pl f (i, 0, cd, dp, sw, gw, aw, op, on) = some m5 ∧ Out tk pl N la b0 op0 on0 i (3, ln, ru, dp, cm) m5) ∧ (∀ (cm : Nat → Int32) (cd dp : Nat) (sw gw aw op on : Nat → Int32) (cs : List (Int32 × Int32)), RC N la b0 op0 on0 i cm cd dp sw gw aw op on cs → SmB tk b0 i dp sw gw aw cs → ∃ m5, reB tk pl f dp (i, 0, cd, dp, sw, gw, aw, op, on) = some m5 ∧ Out tk pl N la b0 op0 on0 i (4, ln, ru, dp, cm) m5) := by
  intro M
  induction M with
  | zero =>
    intro i f hM hf
    refine ⟨fun cm cd dp sw gw aw op on cs R S => ?_, fun cm cd dp sw gw aw op on cs R S => stepB hN6 hlast hE hEN hpl R S (fun q => absurd q (by omega)) (fun q => absurd q (by omega))⟩
    obtain ⟨f', rfl⟩ : ∃ f', f = f' + 1 := ⟨f - 1, by have := R.1; omega⟩
    exact stepP hN6 hlast hE hEN hpl R S (fun q => absurd q (by omega)) (fun q => absurd q (by omega))
  | succ M ih =>
    intro i f hM hf
    refine ⟨fun cm cd dp sw gw aw op on cs R S => ?_, fun cm cd dp sw gw aw op on cs R S => stepB hN6 hlast hE hEN hpl R S (fun q => (ih (i + 1) f (by omega) (by omega)).1) (fun q => (ih (i + 1) f (by omega) (by omega)).2)⟩
    obtain ⟨f', rfl⟩ : ∃ f', f = f' + 1 := ⟨f - 1, by have := R.1; omega⟩
    exact stepP hN6 hlast hE hEN hpl R S (fun q => (ih (i + 1) f' (by omega) (by omega)).1) (fun q => (ih (i + 1) f' (by omega) (by omega)).2)
end PSIM3
