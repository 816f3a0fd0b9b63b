/-! ===== a line written; an account opened ===== -/
section WRITE
variable {h : PH} {r c j : Nat} {d s : Int32}
def wrH (h : PH) (r j c : Nat) (d s : Int32) : PH := moLn (th0 (accLn h r (r + 1) (r + 2) c d s)) j c d s
theorem wr_row (x k : Nat) : hI (wrH h r j c d s) x k = if x = 69 ∧ k = j then nI (c + 1) else if x = 71 ∧ k = 40 * j + c then s else if x = 70 ∧ k = 40 * j + c then d else if x = 36 ∧ k = 0 then 0 else if x = r ∧ k = 6 then nI (c + 1) else if x = r + 2 ∧ k = c then s else if x = r + 1 ∧ k = c then d else hI h x k := by
  unfold wrH moLn th0 accLn
  rw [gI, gI, gI, gI, gI, gI, gI]
theorem ln_row (x k : Nat) : hI (accLn h r (r + 1) (r + 2) c d s) x k = if x = r ∧ k = 6 then nI (c + 1) else if x = r + 2 ∧ k = c then s else if x = r + 1 ∧ k = c then d else hI h x k := by
  unfold accLn
  rw [gI, gI, gI]
theorem ln_lo (hr : 78 ≤ r) {x : Nat} (hx : x < 78) (k : Nat) : hI (accLn h r (r + 1) (r + 2) c d s) x k = hI h x k := by
  rw [ln_row, if_neg (by omega), if_neg (by omega), if_neg (by omega)]
theorem wr_AG {D E : Nat → Nat → Bool} (h1 : D (r + 1) c = false) (h2 : D (r + 2) c = false) (h3 : D r 6 = false) (h4 : D 36 0 = false) (h5 : D 70 (40 * j + c) = false) (h6 : D 71 (40 * j + c) = false) (h7 : D 69 j = false) : AG D E h (wrH h r j c d s) := ((((((AG.rf.I fun _ => h1).I fun _ => h2).I fun _ => h3).I fun _ => h4).I fun _ => h5).I fun _ => h6).I fun _ => h7
theorem wr_no {x k : Nat} (z : ¬ (x = 69 ∧ k = j) ∧ ¬ (x = 71 ∧ k = 40 * j + c) ∧ ¬ (x = 70 ∧ k = 40 * j + c) ∧ ¬ (x = 36 ∧ k = 0) ∧ ¬ (x = r ∧ k = 6) ∧ ¬ (x = r + 2 ∧ k = c) ∧ ¬ (x = r + 1 ∧ k = c)) : hI (wrH h r j c d s) x k = hI h x k := by
  rw [wr_row, if_neg z.1, if_neg z.2.1, if_neg z.2.2.1, if_neg z.2.2.2.1, if_neg z.2.2.2.2.1, if_neg z.2.2.2.2.2.1, if_neg z.2.2.2.2.2.2]
theorem wr_acc (a : AC1 h j r) (hc : hI h 69 j = nI c) (c4 : c < 40) : AC1 (wrH h r j c d s) j r := by
  obtain ⟨⟨c1, o, ⟨e4, e5⟩, ⟨r1, r2⟩, ne⟩, ⟨c2, c3, c5, c6, c7⟩, n, n4, c8, c9, c10⟩ := a
  have en : n = c := (nI_eq (by omega) (by omega)).mp (c9.symm.trans hc)
  subst en
  refine ⟨⟨c1, o, ⟨e4, e5⟩, ⟨r1, r2⟩, ne⟩, ⟨?_, ?_, ?_, ?_, ?_⟩, n + 1, c4, ?_, ?_, fun q hq => ?_⟩
  · rw [wr_no (x := r) (k := 0) (by omega)]; exact c2
  · rw [wr_no (x := r) (k := 1) (by omega), wr_no (x := 55) (k := j) (by omega)]; exact c3
  · rw [wr_no (x := r) (k := 2) (by omega), wr_no (x := 55) (k := j) (by omega), wr_no (x := 56) (k := j) (by omega)]; exact c5
  · rw [wr_no (x := r) (k := 3) (by omega), wr_no (x := 57) (k := j) (by omega)]; exact c6
  · rw [wr_no (x := r) (k := 7) (by omega), wr_no (x := 58) (k := j) (by omega)]; exact c7
  · rw [wr_row, if_neg (by omega), if_neg (by omega), if_neg (by omega), if_neg (by omega), if_pos ⟨rfl, rfl⟩]
  · rw [wr_row, if_pos ⟨rfl, rfl⟩]
  · rw [wr_row (r + 1), wr_row (r + 2), wr_row 70, wr_row 71]
    rw [if_neg (by omega), if_neg (by omega), if_neg (by omega), if_neg (by omega), if_neg (by omega), if_neg (by omega)]
    rw [if_neg (show ¬ (r + 2 = 69 ∧ q = j) by omega), if_neg (show ¬ (r + 2 = 71 ∧ q = 40 * j + n) by omega), if_neg (show ¬ (r + 2 = 70 ∧ q = 40 * j + n) by omega), if_neg (show ¬ (r + 2 = 36 ∧ q = 0) by omega), if_neg (show ¬ (r + 2 = r ∧ q = 6) by omega)]
    rw [if_neg (show ¬ (70 = 69 ∧ 40 * j + q = j) by omega), if_neg (show ¬ (70 = 71 ∧ 40 * j + q = 40 * j + n) by omega), if_neg (show ¬ (71 = 69 ∧ 40 * j + q = j) by omega)]
    by_cases e : q = n
    · subst e
      rw [if_pos ⟨rfl, rfl⟩, if_pos ⟨rfl, rfl⟩, if_pos ⟨rfl, rfl⟩, if_pos ⟨rfl, rfl⟩]
      exact ⟨rfl, rfl⟩
    · rw [if_neg (show ¬ (r + 1 = r + 1 ∧ q = n) by omega), if_neg (show ¬ (70 = 70 ∧ 40 * j + q = 40 * j + n) by omega), if_neg (show ¬ (70 = 36 ∧ 40 * j + q = 0) by omega), if_neg (show ¬ (70 = r ∧ 40 * j + q = 6) by omega), if_neg (show ¬ (70 = r + 2 ∧ 40 * j + q = n) by omega), if_neg (show ¬ (70 = r + 1 ∧ 40 * j + q = n) by omega), if_neg (show ¬ (r + 2 = r + 2 ∧ q = n) by omega), if_neg (show ¬ (r + 2 = r + 1 ∧ q = n) by omega), if_neg (show ¬ (71 = 71 ∧ 40 * j + q = 40 * j + n) by omega), if_neg (show ¬ (71 = 70 ∧ 40 * j + q = 40 * j + n) by omega), if_neg (show ¬ (71 = 36 ∧ 40 * j + q = 0) by omega), if_neg (show ¬ (71 = r ∧ 40 * j + q = 6) by omega), if_neg (show ¬ (71 = r + 2 ∧ 40 * j + q = n) by omega), if_neg (show ¬ (71 = r + 1 ∧ 40 * j + q = n) by omega)]
      exact c10 q (by omega)
theorem s_write (i : INV h) (a d s : Int32) : ST M_X11_write M_X12_write [.int a, .int d, .int s] h := by
  obtain ⟨hL, w, hC, hH, ⟨m, n', ra, ro, ln, fr, kf, ev, nl, W, cA, cX, cS⟩⟩ := id i
  obtain ⟨⟨m2, a1, a2, a4⟩, a3⟩ := id cA
  by_cases ha : ¬ a < 0 ∧ ¬ hI h 0 10 ≤ a
  · rw [a1] at ha
    obtain ⟨j, hj, rfl⟩ := acc_N m2 ha
    obtain ⟨r1, cj⟩ := a3 j hj
    obtain ⟨⟨r2, r3⟩, r4, c, c4, c5, c6, c7⟩ := id cj
    by_cases hv : ¬ d < 0 ∧ ¬ 719 < d
    · by_cases h4 : c = 40
      · subst h4
        exact ST.m0 (f_X11_write hL a1 m2 hj r1 r3 c5 hv) rfl rfl hL (n_X12_write hL a2 m2 hj (fun q => q.2.2 c6)) rfl rfl (i.all (AG.rf.I fun _ => rfl) w)
      · have M2 := c_X12_write (h := accLn h (ra j) (ra j + 1) (ra j + 2) c d s) hL (m := m) ((ln_lo r2 (by omega) _).trans a2) m2 hj (d := d) (s := s) (c := c) ((ln_lo r2 (by omega) _).trans c6) (by omega) hv
        refine ST.m0 (c_X11_write hL a1 m2 hj r1 r3 c5 (by omega) hv) rfl rfl hL M2 (h2 := wrH h (ra j) j c d s) rfl rfl ?_
        refine i.iat (E := E1) (wr_AG (hi_aA (by omega)) (hi_aA (by omega)) (hi_aA r2) rfl rfl rfl rfl) hL w ?_
        refine IAT.upd hL cA cX cS hj (wr_AG ?_ ?_ ?_ ?_ ?_ ?_ ?_) (wr_acc cj c6 (by omega))
        · unfold DxA DA1; simp
        · unfold DxA DA1; simp
        · unfold DxA DA1; simp
        · unfold DxA; rw [show DAT 36 0 = false from rfl]; rfl
        · unfold DxA DA1; simp; omega
        · unfold DxA DA1; simp; omega
        · unfold DxA DA1; simp
    · exact ST.m0 (n_X11_write hL a1 m2 hj r1 r3 hv) rfl rfl hL (n_X12_write hL a2 m2 hj (fun q => hv ⟨q.1, q.2.1⟩)) rfl rfl (i.all (AG.rf.I fun _ => rfl) w)
  · exact ST.m0 (i_X11_write hL ha) rfl rfl hL (i_X12_write hL (by rw [a2, ← a1]; exact ha)) rfl rfl (i.all (AG.rf.I fun _ => rfl) w)
end WRITE
