/-! ===== the best plan ===== -/
section BEST
variable {h : PH} {n pm : Nat} {P : Nat → Nat → Nat} {N : Nat → Nat}
theorem ndS_E {nd : Nat → Int32} (e : ∀ w, w < 6 → N w ≤ 60000 ∧ nd w = nI (N w)) : ∀ k, k ≤ 6 → ndS nd k = nI (NBs N k)
  | 0, _ => rfl
  | k + 1, hk => by
    show ndS nd k + nd k = nI (NBs N k + N k)
    rw [ndS_E e k (by omega), (e k (by omega)).2, nI_add]
theorem fbW_D (c : HLD h n pm P N) : ∀ w, w ≤ 6 → DPI (fun j x => P j (min x 5)) (fun v => NBs N (v + 1)) n w 0 (fbW h n w)
  | 0, _ => DPI.zero (show (if 0 = 0 then (0 : Int64) else ffl (-1) 64 (hJ h 35) 0) = 0 from if_pos rfl) (fun s hs h0 => by
      show (if s = 0 then 0 else ffl (-1) 64 (hJ h 35) s) = -1
      rw [if_neg h0]
      exact if_pos hs) c.1.1
  | w + 1, hw => by
    have H := fbW_D c w (by omega)
    have hP : ∀ j x, j < n → (fun j x => P j (min x 5)) j x ≤ 10000 := fun j x hj => (c.2.1 j hj (min x 5) (by omega)).1
    have G := DPI.goN (g := gC h w) c.1.1 hP (by omega) (fun j hj => gnC_lN (by have := c.1.1; omega) (by omega) (c.2.1 j hj (min w 5) (by omega)).2.2 (c.2.1 j hj (min w 5) (by omega)).1) H n (Nat.le_refl _)
    refine DPI.week c.1.1 hP (by omega) ?_ G
    have le := NBs_le (D := N) (w + 1) (fun v hv => (c.2.2.1 v (by omega)).1)
    rw [Int32.toInt_toInt64, ndS_E (N := N) (fun w hw => ⟨(c.2.2.1 w hw).1, (c.2.2.1 w hw).2.1⟩) (w + 1) (by omega), nI_toInt (by omega)]
theorem fbE_D (c : HLD h n pm P N) : DPI (fun j x => P j (min x 5)) (fun v => NBs N (v + 1)) n 6 n (fbE h n) := DPI.goN (g := gC h 6) c.1.1 (fun j x hj => (c.2.1 j hj (min x 5) (by omega)).1) (by omega) (fun j hj => gnC_lN (by have := c.1.1; omega) (by omega) (c.2.1 j hj (min 6 5) (by omega)).2.2 (c.2.1 j hj (min 6 5) (by omega)).1) (fbW_D c 6 (by omega)) n (Nat.le_refl _)
def DHr : Nat → Nat → Bool := fun a j => a == 31 || a == 32 || a == 33 || a == 73 || a == 74 || (a == 30 && j == 3) || (a == 36 && j == 49)
theorem HLD.re {g : PH} (hL : px_L h) (c : HLD h n pm P N) (p : AG DHr D0 h g) {pm' : Nat} (hp : pm' ≤ 6) (e1 : hI g 30 5 = nI pm') (e2 : hI g 36 54 = nI pm') (e3 : ∀ j, j < pm' → hI g 34 j = hI g 76 j) : HLD g n pm' P N := by
  have h78 : 78 ≤ hn h := hL.1
  obtain ⟨⟨c1, c2, c3, c4, c5, c6⟩, c7, c8, c9⟩ := c
  refine ⟨⟨c1, hp, (p.i (by omega) rfl).trans c3, (p.i (by omega) rfl).trans c4, e1, e2⟩, fun j hj w hw => ?_, fun w hw => ?_, e3⟩
  · rw [p.i (show 73 < hn h by omega) rfl, p.i (show 31 < hn h by omega) rfl, p.i (show 32 < hn h by omega) rfl]
    exact c7 j hj w hw
  · rw [p.i (show 33 < hn h by omega) rfl, p.i (show 74 < hn h by omega) rfl]
    exact c8 w hw
theorem kpl_v {b : Int64} {o : Nat → Int32} {j : Nat} : ∀ n, j < n → kpl b o n j = kpV b j
  | 0, hj => absurd hj (by omega)
  | n + 1, hj => by
    show (if j = n then kpV b n else kpl b o n j) = _
    by_cases e : j = n
    · rw [if_pos e, e]
    · rw [if_neg e]; exact kpl_v n (by omega)
theorem s_best (i : INV h) : ST M_X11_best M_X12_best [] h := by
  obtain ⟨hL, w, hC, ⟨n, pm, P, N, c⟩, hA⟩ := id i
  obtain ⟨⟨n6, pm6, k1, k2, k3, k4⟩, kp, kn, kl⟩ := id c
  have B := best_E (P := fun j x => P j (min x 5)) (D := N) (pr := hI h 73) (nd := hI h 74) n6 (fun j x hj => (kp j hj (min x 5) (by omega)).1) (fun j hj => rfl) (fun j w hj hw => by
    show _ = nI (P j (min w 5))
    rw [show min w 5 = w by omega]
    exact (kp j hj w hw).2.1) (fun v hv => (kn v hv).1) (fun v hv => (kn v hv).2.2) (fbE_D c) (hI h 76) (hI h 36 54)
  have wr : ∀ (f : Nat → Int64) w', hJ (rJ h 35 f) 41 w' = hJ h 41 w' := fun f w' => congrFun (if_neg (by decide) : up1 (hJ h) 35 f 41 = hJ h 41) w'
  rcases B with ⟨b1, b2⟩ | ⟨b1, b2, b3, b4⟩
  · have X2 := x_X12_best (h := rJ h 35 (fbE h n)) hL (n := n) k2 n6
    have X2' : PX M_X12_best [.ref 36] (rJ h 35 (fbE h n)) 0 0 (bsQ (th0 (rJ h 35 (fbE h n))) (-1, hI h 76, hI h 36 54)) := by rw [← b2]; exact X2
    refine ⟨0, 0, _, ⟨by omega, by omega⟩, PM.toX (h' := rJ h 35 (fbE h n)) (dn := 0) (ds := 0) rfl rfl (n_X11_best hL k1 n6 b1), fun r1 h1 q _ _ => ?_⟩
    obtain ⟨rfl, rfl⟩ := q
    refine ⟨hL, -1, _, rfl, X2', fun r2 h2 q => ?_⟩
    obtain ⟨rfl, d, rfl⟩ := q
    have A : ∀ D E, D 36 0 = false → (∀ j, D 75 j = false) → (∀ j, D 76 j = false) → D 36 54 = false → AG D E h (setB (th0 (rJ h 35 (fbE h n))) d (hI h 76) (hI h 36 54)) := fun D E x1 x2 x3 x4 => AG.I (AG.r (AG.r (AG.I (AG.jj AG.rf) fun _ => x1) x2) x3) fun _ => x4
    refine ⟨rfl, i.ihl (A _ _ rfl (fun _ => rfl) (fun _ => rfl) rfl) (fun w' hw => (wr _ w').trans (w w' hw)) ⟨n, pm, P, N, c.re hL (A _ _ rfl (fun _ => rfl) (fun _ => rfl) rfl) pm6 k3 k4 kl⟩⟩
  · have hb : ¬ fbB h n < 0 := b1
    have X2 := x_X12_best (h := rI (pI (rJ h 35 (fbE h n)) 30 5 (nI n)) 34 (kpl (fbB h n) (hI h 34) n)) hL (n := n) k2 n6
    generalize eB : bLp (hI h 73) (hI h 74) n (7 ^ n) (-1, hI h 76, hI h 36 54) = B at b2 b3 b4
    have X2' : PX M_X12_best [.ref 36] (rI (pI (rJ h 35 (fbE h n)) 30 5 (nI n)) 34 (kpl (fbB h n) (hI h 34) n)) 0 0 (bsQ (th0 (rI (pI (rJ h 35 (fbE h n)) 30 5 (nI n)) 34 (kpl (fbB h n) (hI h 34) n))) B) := by rw [← eB]; exact X2
    refine ⟨0, 0, _, ⟨by omega, by omega⟩, PM.toX (h' := rI (pI (rJ h 35 (fbE h n)) 30 5 (nI n)) 34 (kpl (fbB h n) (hI h 34) n)) (dn := 0) (ds := 0) rfl rfl (c_X11_best hL k1 n6 hb), fun r1 h1 q _ _ => ?_⟩
    obtain ⟨rfl, rfl⟩ := q
    refine ⟨hL, _, _, rfl, X2', fun r2 h2 q => ?_⟩
    obtain ⟨rfl, d, rfl⟩ := q
    have A : ∀ D E, D 30 5 = false → (∀ j, D 34 j = false) → D 36 0 = false → (∀ j, D 75 j = false) → (∀ j, D 76 j = false) → D 36 54 = false → AG D E h (setB (th0 (rI (pI (rJ h 35 (fbE h n)) 30 5 (nI n)) 34 (kpl (fbB h n) (hI h 34) n))) d B.2.1 B.2.2) := fun D E y1 y2 x1 x2 x3 x4 => AG.I (AG.r (AG.r (AG.I (AG.r (AG.I (AG.jj AG.rf) fun _ => y1) y2) fun _ => x1) x2) x3) fun _ => x4
    refine ⟨by rw [← b2]; rfl, i.ihl (A _ _ rfl (fun _ => rfl) rfl (fun _ => rfl) (fun _ => rfl) rfl) (fun w' hw => (wr _ w').trans (w w' hw)) ⟨n, n, P, N, c.re hL (A _ _ rfl (fun _ => rfl) rfl (fun _ => rfl) (fun _ => rfl) rfl) n6 rfl b3 (fun j hj => ?_)⟩⟩
    show kpl (fbB h n) (hI h 34) n j = B.2.1 j
    rw [kpl_v n hj, ← b4 j hj]
    rfl
end BEST
