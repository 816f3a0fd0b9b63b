theorem bal_cg {mv mv' : Nat → Int32} (hm : ∀ j, j < 720 → mv j = mv' j) (b : Int32) (i : Nat) : ∀ k, i + k ≤ 720 → bal mv b i k = bal mv' b i k
  | 0, _ => rfl
  | k + 1, h => by
    unfold bal
    rw [bal_cg hm b i k (by omega), hm (i + k) (by omega)]
theorem lea_cg {mv mv' : Nat → Int32} (hm : ∀ j, j < 720 → mv j = mv' j) (b : Int32) (i : Nat) (hi : i < 720) : ∀ k, i + k ≤ 720 → lea mv b i k = lea mv' b i k
  | 0, _ => by unfold lea; rw [hm i hi]
  | k + 1, h => by
    unfold lea
    rw [lea_cg hm b i hi k (by omega), bal_cg hm b i (k + 1) h]
theorem RK_cg {mv mv' : Nat → Int32} (hm : ∀ j, j < 720 → mv j = mv' j) (rate : Nat → Int32 → Int32) : ∀ m, m ≤ 24 → RK mv rate m = RK mv' rate m
  | 0, _ => rfl
  | m + 1, h => by
    rw [RK_s, RK_s, RK_cg hm rate m (by omega), lea_cg hm _ _ (by omega) 30 (by omega), bal_cg hm _ _ 30 (by omega)]
theorem balC_cg {mv mv' : Nat → Int32} (hm : ∀ j, j < 720 → mv j = mv' j) (rate : Nat → Int32 → Int32) {d : Nat} (hd : d < 720) : balC mv rate d = balC mv' rate d := by
  unfold balC
  rw [RK_cg hm rate (d / 30) (by omega), bal_cg hm _ _ _ (by omega)]
theorem y_X7_balanceAt {h : PH} {kn : Int32} {d : Nat} (hL : px_L h) {n : Nat} {ro to ln : Nat → Nat} {fr kf : Nat → Int32} {ev : Nat → (Nat → Int32) → Int32 → Int32} (hT : TX h n ro to ln fr kf ev) {r r1 r2 : Nat} (hA : px_acc h r r1 r2) (h78 : 78 ≤ r) {kd op : Int32} (hkd : hI h r 1 = kd) (hop : hI h r 3 = op) {ne : Nat} (hs1 : hI h 2 4 = nI ne) (hn4 : ne ≤ 400) (hd : ∀ i, i < ne → ∃ j, j < 720 ∧ hI h 4 i = nI j) {a : Int32} (ha : hI h r 0 = a) (hd7 : d < 720) : PX M_X7_balanceAt [.ref 21, .ref r, .int (nI d), .int kn] h 0 0 (sQ SC h (balC (gat (hI h 3) (hI h 4) (hI h 5) (hI h 6) a kn ne) (rtF ev fr kf n kd op kn) d)) := by
  have q := x_X7_balanceAt (kn := kn) hL hT hA h78 hkd hop hs1 hn4 hd ha hd7
  rwa [balC_cg (mv := mvC h a kn ne) (mv' := (gat (hI h 3) (hI h 4) (hI h 5) (hI h 6) a kn ne)) (fun j hj => if_pos hj) _ hd7] at q
theorem y_X7_earnedIn {h : PH} {kn : Int32} {m : Nat} (hL : px_L h) {n : Nat} {ro to ln : Nat → Nat} {fr kf : Nat → Int32} {ev : Nat → (Nat → Int32) → Int32 → Int32} (hT : TX h n ro to ln fr kf ev) {r r1 r2 : Nat} (hA : px_acc h r r1 r2) (h78 : 78 ≤ r) {kd op : Int32} (hkd : hI h r 1 = kd) (hop : hI h r 3 = op) {ne : Nat} (hs1 : hI h 2 4 = nI ne) (hn4 : ne ≤ 400) (hd : ∀ i, i < ne → ∃ j, j < 720 ∧ hI h 4 i = nI j) {a : Int32} (ha : hI h r 0 = a) (hm : m < 24) : PX M_X7_earnedIn [.ref 21, .ref r, .int (nI m), .int kn] h 0 0 (sQ SC h (RK (gat (hI h 3) (hI h 4) (hI h 5) (hI h 6) a kn ne) (rtF ev fr kf n kd op kn) (m + 1)).2.2) := by
  have q := x_X7_earnedIn (kn := kn) hL hT hA h78 hkd hop hs1 hn4 hd ha hm
  rwa [RK_cg (mv := mvC h a kn ne) (mv' := (gat (hI h 3) (hI h 4) (hI h 5) (hI h 6) a kn ne)) (fun j hj => if_pos hj) _ _ (by omega)] at q
theorem y_X7_earnedAhead {h : PH} {kn : Int32} {d : Nat} (hL : px_L h) {n : Nat} {ro to ln : Nat → Nat} {fr kf : Nat → Int32} {ev : Nat → (Nat → Int32) → Int32 → Int32} (hT : TX h n ro to ln fr kf ev) {r r1 r2 : Nat} (hA : px_acc h r r1 r2) (h78 : 78 ≤ r) {kd op : Int32} (hkd : hI h r 1 = kd) (hop : hI h r 3 = op) {ne : Nat} (hs1 : hI h 2 4 = nI ne) (hn4 : ne ≤ 400) (hd : ∀ i, i < ne → ∃ j, j < 720 ∧ hI h 4 i = nI j) {a : Int32} (ha : hI h r 0 = a) (hd7 : d < 720) : PX M_X7_earnedAhead [.ref 21, .ref r, .int (nI d), .int kn] h 0 0 (sQ SC h (RK (gat (hI h 3) (hI h 4) (hI h 5) (hI h 6) a kn ne) (rtF ev fr kf n kd op kn) (d / 30)).2.1) := by
  have q := x_X7_earnedAhead (kn := kn) hL hT hA h78 hkd hop hs1 hn4 hd ha hd7
  rwa [RK_cg (mv := mvC h a kn ne) (mv' := (gat (hI h 3) (hI h 4) (hI h 5) (hI h 6) a kn ne)) (fun j hj => if_pos hj) _ _ (by omega)] at q
def prevC (mv : Nat → Int32) (rate : Nat → Int32 → Int32) : Nat → Int32
  | 0 => 0
  | d + 1 => balC mv rate d
theorem PM.toS {M : px_M} {as : List Value} {h : PH} {v : Int32} {S : Nat → Bool} (hM : PM M as h (some (.int v)) h) : PX M as h 0 0 (sQ S h v) := (hM.toX (Nat.add_zero _).symm (Nat.add_zero _).symm).weaken fun r h' _ _ q => ⟨q.1, by rw [q.2]; exact px_same.rf⟩
theorem y_X7_prev {h : PH} {kn : Int32} {d : Nat} (hL : px_L h) {n : Nat} {ro to ln : Nat → Nat} {fr kf : Nat → Int32} {ev : Nat → (Nat → Int32) → Int32 → Int32} (hT : TX h n ro to ln fr kf ev) {r r1 r2 : Nat} (hA : px_acc h r r1 r2) (h78 : 78 ≤ r) {kd op : Int32} (hkd : hI h r 1 = kd) (hop : hI h r 3 = op) {ne : Nat} (hs1 : hI h 2 4 = nI ne) (hn4 : ne ≤ 400) (hd : ∀ i, i < ne → ∃ j, j < 720 ∧ hI h 4 i = nI j) {a : Int32} (ha : hI h r 0 = a) (hd7 : d < 720) : PX M_X7_balanceAt [.ref 21, .ref r, .int (nI d - 1), .int kn] h 0 0 (sQ SC h (prevC (gat (hI h 3) (hI h 4) (hI h 5) (hI h 6) a kn ne) (rtF ev fr kf n kd op kn) d)) := by
  cases d with
  | zero => exact PM.toS (n_X7_balanceAt (by decide))
  | succ d =>
    rw [nI_pred]
    exact y_X7_balanceAt hL hT hA h78 hkd hop hs1 hn4 hd ha (by omega)
theorem fst1_cg {p p' : Nat → Prop} {q : ∀ i, Decidable (p i)} {q' : ∀ i, Decidable (p' i)} (hp : ∀ i, p i ↔ p' i) : ∀ k i, fst1 p q i k = fst1 p' q' i k
  | 0, _ => rfl
  | k + 1, i => by
    unfold fst1
    by_cases g : p i
    · rw [if_pos g, if_pos ((hp i).mp g)]
    · rw [if_neg g, if_neg fun w => g ((hp i).mpr w)]
      exact fst1_cg hp k (i + 1)
theorem ntc_same {S : Nat → Bool} {h g : PH} (a : px_same S h g) (s1 : S 24 = false) (s2 : S 25 = false) (s3 : S 26 = false) (s4 : S 27 = false) {x y z : Int32} (k i : Nat) : fst1 (ntc g x y z) (ntcD g x y z) i k = fst1 (ntc h x y z) (ntcD h x y z) i k := fst1_cg (fun j => by unfold ntc; rw [a.2 24 s1, a.2 25 s2, a.2 26 s3, a.2 27 s4]) k i
theorem x_X11_limitFor {h : PH} {b nw : Int32} (hL : px_L h) {n : Nat} {ro to ln : Nat → Nat} {fr kf : Nat → Int32} {ev : Nat → (Nat → Int32) → Int32 → Int32} (hT : TX h n ro to ln fr kf ev) {r r1 r2 : Nat} (hA : px_acc h r r1 r2) (h78 : 78 ≤ r) {kd op : Int32} (hkd : hI h r 1 = kd) (hop : hI h r 3 = op) (hnw : hI h 0 11 = nw) : PX M_X11_limitFor [.ref 0, .ref r, .int b] h 0 0 (sQ SJ h (txC ev (fctD kd op (if 0 ≤ b then b / 240 else 0) nw) (-4) (-1) (lastT (frcP fr kf nw nw) n))) := by
  have cF := c_X10_inForce (d := nw) (kn := nw) hL hT
  subst hkd hop
  rcases hq : lastT (frcP fr kf nw nw) n with _ | i
  · rw [hq] at cF
    refine PX.of (by decide +kernel) (by decide +kernel) (Nat.le_of_ble_eq_true rfl) ?_

    refine px_aload_n d_X11_limitFor_0 rfl rfl ?_
    refine px_getR d_X11_limitFor_1 fl_X11_39 (by decide) (so0 hL) (sr0_4 hL) ?_
    refine px_aload_n d_X11_limitFor_4 rfl rfl ?_
    refine px_getI d_X11_limitFor_5 fl_X11_88 rfl (so0 hL) ?_
    refine px_val (y := nw) hnw ?_
    refine px_aload_n d_X11_limitFor_8 rfl rfl ?_
    refine px_getI d_X11_limitFor_9 fl_X11_88 rfl (so0 hL) ?_
    refine px_val (y := nw) hnw ?_
    refine px_callV (cF) d_X11_limitFor_12 lk_X11_259 ok_X10_inForce ov_X10_inForce (so12 hL) (by decide) rfl rfl (Nat.le_of_ble_eq_true rfl) (by decide) ⟨Nat.le_refl (hn h), Nat.le_refl (hs h)⟩ ?_
    refine px_astore_nN d_X11_limitFor_15 rfl (by decide) ?_
    refine px_aload_nN d_X11_limitFor_16 rfl rfl ?_
    refine px_ifnonnullN d_X11_limitFor_17 ?_
    refine px_iconst (v := (-1)) d_X11_limitFor_20 (by decide) ?_
    exact px_ireturn d_X11_limitFor_21 rfl rfl ⟨rfl, ⟨rfl, px_same.rf⟩, rfl, rfl⟩
  · rw [hq] at cF
    have hi : i < n := lastT_lt hq
    have hs9 := looked_s h r (if 0 ≤ b then b / 240 else 0) nw
    have hT9 : TX (looked h r (if 0 ≤ b then b / 240 else 0) nw) n ro to ln fr kf ev := hT.same hs9 (by decide) (fun x hx => SJ_C (SC_hi hx))
    obtain ⟨J, hJ⟩ := setJ_of (looked h r (if 0 ≤ b then b / 240 else 0) nw)
    have cN := x_X5_numberOf (h := (looked h r (if 0 ≤ b then b / 240 else 0) nw)) hL (hT9.2.2 i hi).1.2.2.2 (hT9.2.2 i hi).2.1.2.1 (rule := -4) hJ
    rw [(hT9.2.2 i hi).2.2, hT.cg hi (looked_F h r (if 0 ≤ b then b / 240 else 0) nw)] at cN
    refine PX.of (by decide +kernel) (by decide +kernel) (Nat.le_of_ble_eq_true rfl) ?_

    refine px_aload_n d_X11_limitFor_0 rfl rfl ?_
    refine px_getR d_X11_limitFor_1 fl_X11_39 (by decide) (so0 hL) (sr0_4 hL) ?_
    refine px_aload_n d_X11_limitFor_4 rfl rfl ?_
    refine px_getI d_X11_limitFor_5 fl_X11_88 rfl (so0 hL) ?_
    refine px_val (y := nw) hnw ?_
    refine px_aload_n d_X11_limitFor_8 rfl rfl ?_
    refine px_getI d_X11_limitFor_9 fl_X11_88 rfl (so0 hL) ?_
    refine px_val (y := nw) hnw ?_
    refine px_callV (cF) d_X11_limitFor_12 lk_X11_259 ok_X10_inForce ov_X10_inForce (so12 hL) (by decide) rfl rfl (Nat.le_of_ble_eq_true rfl) (by decide) ⟨Nat.le_refl (hn h), Nat.le_refl (hs h)⟩ ?_
    refine px_astore_n d_X11_limitFor_15 rfl (by decide) ?_
    refine px_aload_n d_X11_limitFor_16 rfl rfl ?_
    refine px_ifnonnull (tgt := 22) d_X11_limitFor_17 (by decide) ?_
    refine px_aload_n d_X11_limitFor_22 rfl rfl ?_
    refine px_getR d_X11_limitFor_23 fl_X11_46 (by decide) (so0 hL) (sr0_5 hL) ?_
    refine px_aload_n d_X11_limitFor_26 rfl rfl ?_
    refine px_iload_n d_X11_limitFor_27 rfl rfl ?_
    refine px_if_ge (tgt := 35) d_X11_limitFor_28 (by decide) (fun c28 => ?_) (fun c28 => ?_)
    · refine px_iload_n d_X11_limitFor_35 rfl rfl ?_
      refine px_sipush (v := 240) d_X11_limitFor_36 (by decide) ?_
      refine px_idiv d_X11_limitFor_39 (by decide) ?_
      refine px_val (y := (if 0 ≤ b then b / 240 else 0)) (by first | exact (if_pos c28).symm | exact (if_neg c28).symm) ?_
      refine px_aload_n d_X11_limitFor_40 rfl rfl ?_
      refine px_getI d_X11_limitFor_41 fl_X11_88 rfl (so0 hL) ?_
      refine px_val (y := nw) hnw ?_
      refine px_callV (c_X5_look hL hA h78) d_X11_limitFor_44 lk_X11_263 ok_X5_look ov_X5_look (so14 hL) (by decide) rfl rfl (Nat.le_of_ble_eq_true rfl) (by decide) ⟨Nat.le_refl (hn h), Nat.le_refl (hs h)⟩ ?_
      refine px_aload_n d_X11_limitFor_47 rfl rfl ?_
      refine px_getR d_X11_limitFor_48 fl_X11_46 (by decide) (so0 hL) (sr0_5 hL) ?_
      refine px_aload_n d_X11_limitFor_51 rfl rfl ?_
      refine px_getR d_X11_limitFor_52 fl_X11_267 (by decide) (hT9.2.2 i hi).1.2.1 (hT9.2.2 i hi).1.2.2.1 ?_
      refine px_bipush (v := (-4)) d_X11_limitFor_55 (by decide) ?_
      refine px_callVX (cN) d_X11_limitFor_57 lk_X11_270 ok_X5_numberOf ov_X5_numberOf (so14 hL) (by decide) rfl rfl (Nat.le_of_ble_eq_true rfl) (by decide) ⟨Nat.le_refl (hn h), Nat.le_refl (hs h)⟩ (fun r1 h1 q1 n1 s1 => ?_)
      obtain ⟨rfl, J2, rfl⟩ := q1
      exact px_ireturn d_X11_limitFor_60 rfl rfl ⟨rfl, ⟨rfl, hs9.tr (setJ_s _ J2)⟩, rfl, rfl⟩
    · refine px_iconst (v := 0) d_X11_limitFor_31 (by decide) ?_
      refine px_goto (tgt := 40) d_X11_limitFor_32 (by decide) ?_
      refine px_val (y := (if 0 ≤ b then b / 240 else 0)) (by first | exact (if_pos c28).symm | exact (if_neg c28).symm) ?_
      refine px_aload_n d_X11_limitFor_40 rfl rfl ?_
      refine px_getI d_X11_limitFor_41 fl_X11_88 rfl (so0 hL) ?_
      refine px_val (y := nw) hnw ?_
      refine px_callV (c_X5_look hL hA h78) d_X11_limitFor_44 lk_X11_263 ok_X5_look ov_X5_look (so14 hL) (by decide) rfl rfl (Nat.le_of_ble_eq_true rfl) (by decide) ⟨Nat.le_refl (hn h), Nat.le_refl (hs h)⟩ ?_
      refine px_aload_n d_X11_limitFor_47 rfl rfl ?_
      refine px_getR d_X11_limitFor_48 fl_X11_46 (by decide) (so0 hL) (sr0_5 hL) ?_
      refine px_aload_n d_X11_limitFor_51 rfl rfl ?_
      refine px_getR d_X11_limitFor_52 fl_X11_267 (by decide) (hT9.2.2 i hi).1.2.1 (hT9.2.2 i hi).1.2.2.1 ?_
      refine px_bipush (v := (-4)) d_X11_limitFor_55 (by decide) ?_
      refine px_callVX (cN) d_X11_limitFor_57 lk_X11_270 ok_X5_numberOf ov_X5_numberOf (so14 hL) (by decide) rfl rfl (Nat.le_of_ble_eq_true rfl) (by decide) ⟨Nat.le_refl (hn h), Nat.le_refl (hs h)⟩ (fun r1 h1 q1 n1 s1 => ?_)
      obtain ⟨rfl, J2, rfl⟩ := q1
      exact px_ireturn d_X11_limitFor_60 rfl rfl ⟨rfl, ⟨rfl, hs9.tr (setJ_s _ J2)⟩, rfl, rfl⟩
def whyR (d1 bl s sg kd eld lim dn : Int32) : Int32 := if d1 = 0 then 1 else if s ≤ bl then (if sg = 0 then 3 else if kd = 3 ∧ eld = -1 then 4 else if ¬ lim = -1 ∧ ¬ dn + s ≤ lim then 5 else 0) else 2
theorem w2_X11_whyNot {h h9 : PH} {s sg : Int32} (hL : px_L h) {n : Nat} {ro to ln : Nat → Nat} {fr kf : Nat → Int32} {ev : Nat → (Nat → Int32) → Int32 → Int32} (hT : TX h n ro to ln fr kf ev) {r r1 r2 : Nat} (hA : px_acc h r r1 r2) (h78 : 78 ≤ r) {kd op : Int32} (hkd : hI h r 1 = kd) (hop : hI h r 3 = op) {ne : Nat} (hs1 : hI h 2 4 = nI ne) (hn4 : ne ≤ 400) (hd : ∀ i, i < ne → ∃ j, j < 720 ∧ hI h 4 i = nI j) {a : Int32} (ha : hI h r 0 = a) {t : Nat} (hnw : hI h 0 11 = nI t) (ht : t < 720) {wi : Int32} (hwi : hI h r 2 = wi) {nn : Nat} (hnn : hI h 23 4 = nI nn) (hnn6 : nn ≤ 60) (hs9 : px_same SC h h9) (n9 : hn h9 = hn h + 0) (s9 : hs h9 = hs h + 0) (c8 : ¬ bI (¬ s < 1 ∧ ¬ 100000 < s) = 0) (c30 : s ≤ (balC (gat (hI h 3) (hI h 4) (hI h 5) (hI h 6) a (nI t) ne) (rtF ev fr kf n kd op (nI t)) t)) (c44 : ¬ (@bI (sgnC kd wi (nI t) sg) (sgnD kd wi (nI t) sg)) = 0) (c79 : ¬ (kd = 3 ∧ (fst1 (ntc h a s (nI t - wi)) (ntcD h a s (nI t - wi)) 0 nn) = -1)) : PW M_X11_whyNot (hn h + 0) (hs h + 0) (PXpost h 0 0 (sQ SC h (whyR (bI (¬ s < 1 ∧ ¬ 100000 < s)) (balC (gat (hI h 3) (hI h 4) (hI h 5) (hI h 6) a (nI t) ne) (rtF ev fr kf n kd op (nI t)) t) s (@bI (sgnC kd wi (nI t) sg) (sgnD kd wi (nI t) sg)) kd (fst1 (ntc h a s (nI t - wi)) (ntcD h a s (nI t - wi)) 0 nn) (txC ev (fctD kd op (if 0 ≤ (prevC (gat (hI h 3) (hI h 4) (hI h 5) (hI h 6) a (nI t) ne) (rtF ev fr kf n kd op (nI t)) t) then (prevC (gat (hI h 3) (hI h 4) (hI h 5) (hI h 6) a (nI t) ne) (rtF ev fr kf n kd op (nI t)) t) / 240 else 0) (nI t)) (-4) (-1) (lastT (frcP fr kf (nI t) (nI t)) n)) (drw (hI h 3) (hI h 4) (hI h 5) a (nI t) ne)))) 84 [(0, .ref 0), (1, .ref r), (2, .int s), (3, .int sg)] [] h9 := by
  have hL9 := hL.same hs9
  have hA9 := hA.same hs9
  have hT9 := hT.same hs9 (by decide) (fun x hx => SC_hi hx)
  have hr9 : hI h9 r = hI h r := hs9.2 r (SC_hi h78)
  have eN : hn h9 ≤ hn h := Nat.le_of_eq n9
  have eS : hs h9 ≤ hs h := Nat.le_of_eq s9
  have hnw9 : hI h9 0 11 = nI t := (congrFun (hs9.2 0 (by decide)) _).trans hnw
  have cP := y_X7_prev (h := h9) (kn := nI t) (ne := ne) hL9 hT9 hA9 h78 ((congrFun hr9 _).trans hkd) ((congrFun hr9 _).trans hop) ((congrFun (hs9.2 2 (by decide)) _).trans hs1) hn4 (fun i hi => by rw [hs9.2 4 (by decide)]; exact hd i hi) ((congrFun hr9 _).trans ha) ht
  rw [hs9.2 3 (by decide), hs9.2 4 (by decide), hs9.2 5 (by decide), hs9.2 6 (by decide)] at cP
  refine px_aload_n d_X11_whyNot_84 rfl rfl ?_
  refine px_aload_n d_X11_whyNot_85 rfl rfl ?_
  refine px_aload_n d_X11_whyNot_86 rfl rfl ?_
  refine px_getR d_X11_whyNot_87 fl_X11_55 (by decide) (so0 hL9) (sr0_6 hL9) ?_
  refine px_aload_n d_X11_whyNot_90 rfl rfl ?_
  refine px_aload_n d_X11_whyNot_91 rfl rfl ?_
  refine px_getI d_X11_whyNot_92 fl_X11_88 rfl (so0 hL9) ?_
  refine px_val (y := nI t) hnw9 ?_
  refine px_iconst (v := 1) d_X11_whyNot_95 (by decide) ?_
  refine px_isub d_X11_whyNot_96 ?_
  refine px_aload_n d_X11_whyNot_97 rfl rfl ?_
  refine px_getI d_X11_whyNot_98 fl_X11_88 rfl (so0 hL9) ?_
  refine px_val (y := nI t) hnw9 ?_
  refine px_callVX (cP) d_X11_whyNot_101 lk_X11_151 ok_X7_balanceAt ov_X7_balanceAt (so21 hL9) (by decide) rfl rfl (Nat.le_of_ble_eq_true rfl) (by decide) ⟨eN, eS⟩ (fun ra ha1 qa na sa => ?_)
  obtain ⟨rfl, hsa0⟩ := qa
  have hsa := hs9.tr hsa0
  have hLa := hL.same hsa
  have hAa := hA.same hsa
  have hTa := hT.same hsa (by decide) (fun x hx => SC_hi hx)
  have hra : hI ha1 r = hI h r := hsa.2 r (SC_hi h78)
  have eNa : hn ha1 ≤ hn h := Nat.le_of_eq (hsa.1.2.2.2.1)
  have eSa : hs ha1 ≤ hs h := Nat.le_of_eq (hsa.1.2.2.2.2)
  have hnwa : hI ha1 0 11 = nI t := (congrFun (hsa.2 0 (by decide)) _).trans hnw
  refine px_callVX (x_X11_limitFor (h := ha1) hLa hTa hAa h78 ((congrFun hra _).trans hkd) ((congrFun hra _).trans hop) hnwa) d_X11_whyNot_104 lk_X11_252 ok_X11_limitFor ov_X11_limitFor (so0 hLa) (by decide) rfl rfl (Nat.le_of_ble_eq_true rfl) (by decide) ⟨eNa, eSa⟩ (fun rb hb qb nb sb => ?_)
  obtain ⟨rfl, hsb0⟩ := qb
  have hsb := hsa.tr (hsb0.mono (fun a ha => SJ_C ha))
  have hLb := hL.same hsb
  have hAa := hA.same hsb
  have hrb : hI hb r = hI h r := hsb.2 r (SC_hi h78)
  have nb1 : hn hb = hn h := hsb.1.2.2.2.1
  have sb1 : hs hb = hs h := hsb.1.2.2.2.2
  have hnwb : hI hb 0 11 = nI t := (congrFun (hsb.2 0 (by decide)) _).trans hnw
  have cD := c_X2_drawnOn (h := hb) (a := a) (d := nI t) hLb ((congrFun (hsb.2 2 (by decide)) _).trans hs1) hn4
  rw [hsb.2 3 (by decide), hsb.2 4 (by decide), hsb.2 5 (by decide)] at cD
  refine px_istore d_X11_whyNot_107 (by decide) ?_
  refine px_iload d_X11_whyNot_109 rfl ?_
  refine px_iconst (v := (-1)) d_X11_whyNot_111 (by decide) ?_
  refine px_icmp_eq (tgt := 139) d_X11_whyNot_112 (by decide) (fun c112 => ?_) (fun c112 => ?_)
  · refine px_iconst (v := 0) d_X11_whyNot_139 (by decide) ?_
    exact px_ireturn d_X11_whyNot_140 rfl rfl ⟨rfl, ⟨px_si ((if_neg c8).trans ((if_pos c30).trans ((if_neg c44).trans ((if_neg c79).trans (if_neg (fun q => by first | exact q.1 c112 | exact q.2 c134)))))).symm, hsb⟩, nb1, sb1⟩
  · refine px_aload_n d_X11_whyNot_115 rfl rfl ?_
    refine px_getR d_X11_whyNot_116 fl_X11_18 (by decide) (so0 hLb) (sr0_1 hLb) ?_
    refine px_aload_n d_X11_whyNot_119 rfl rfl ?_
    refine px_getI d_X11_whyNot_120 fl_X11_249 rfl hAa.1 ?_
    refine px_val (y := a) ((congrFun hrb _).trans ha) ?_
    refine px_aload_n d_X11_whyNot_123 rfl rfl ?_
    refine px_getI d_X11_whyNot_124 fl_X11_88 rfl (so0 hLb) ?_
    refine px_val (y := nI t) hnwb ?_
    refine px_callV (cD) d_X11_whyNot_127 lk_X11_256 ok_X2_drawnOn ov_X2_drawnOn (so2 hLb) (by decide) rfl rfl (Nat.le_of_ble_eq_true rfl) (by decide) ⟨Nat.le_of_eq nb1, Nat.le_of_eq sb1⟩ ?_
    refine px_iload_n d_X11_whyNot_130 rfl rfl ?_
    refine px_iadd d_X11_whyNot_131 ?_
    refine px_iload d_X11_whyNot_132 rfl ?_
    refine px_icmp_le (tgt := 139) d_X11_whyNot_134 (by decide) (fun c134 => ?_) (fun c134 => ?_)
    · refine px_iconst (v := 0) d_X11_whyNot_139 (by decide) ?_
      exact px_ireturn d_X11_whyNot_140 rfl rfl ⟨rfl, ⟨px_si ((if_neg c8).trans ((if_pos c30).trans ((if_neg c44).trans ((if_neg c79).trans (if_neg (fun q => by first | exact q.1 c112 | exact q.2 c134)))))).symm, hsb⟩, nb1, sb1⟩
    · refine px_iconst (v := 5) d_X11_whyNot_137 (by decide) ?_
      exact px_ireturn d_X11_whyNot_138 rfl rfl ⟨rfl, ⟨px_si ((if_neg c8).trans ((if_pos c30).trans ((if_neg c44).trans ((if_neg c79).trans (if_pos ⟨c112, c134⟩))))).symm, hsb⟩, nb1, sb1⟩
theorem x_X11_whyNot {h : PH} {s sg : Int32} (hL : px_L h) {n : Nat} {ro to ln : Nat → Nat} {fr kf : Nat → Int32} {ev : Nat → (Nat → Int32) → Int32 → Int32} (hT : TX h n ro to ln fr kf ev) {r r1 r2 : Nat} (hA : px_acc h r r1 r2) (h78 : 78 ≤ r) {kd op : Int32} (hkd : hI h r 1 = kd) (hop : hI h r 3 = op) {ne : Nat} (hs1 : hI h 2 4 = nI ne) (hn4 : ne ≤ 400) (hd : ∀ i, i < ne → ∃ j, j < 720 ∧ hI h 4 i = nI j) {a : Int32} (ha : hI h r 0 = a) {t : Nat} (hnw : hI h 0 11 = nI t) (ht : t < 720) {wi : Int32} (hwi : hI h r 2 = wi) {nn : Nat} (hnn : hI h 23 4 = nI nn) (hnn6 : nn ≤ 60) : PX M_X11_whyNot [.ref 0, .ref r, .int s, .int sg] h 0 0 (sQ SC h (whyR (bI (¬ s < 1 ∧ ¬ 100000 < s)) (balC (gat (hI h 3) (hI h 4) (hI h 5) (hI h 6) a (nI t) ne) (rtF ev fr kf n kd op (nI t)) t) s (@bI (sgnC kd wi (nI t) sg) (sgnD kd wi (nI t) sg)) kd (fst1 (ntc h a s (nI t - wi)) (ntcD h a s (nI t - wi)) 0 nn) (txC ev (fctD kd op (if 0 ≤ (prevC (gat (hI h 3) (hI h 4) (hI h 5) (hI h 6) a (nI t) ne) (rtF ev fr kf n kd op (nI t)) t) then (prevC (gat (hI h 3) (hI h 4) (hI h 5) (hI h 6) a (nI t) ne) (rtF ev fr kf n kd op (nI t)) t) / 240 else 0) (nI t)) (-4) (-1) (lastT (frcP fr kf (nI t) (nI t)) n)) (drw (hI h 3) (hI h 4) (hI h 5) a (nI t) ne))) := by
  refine PX.of (by decide +kernel) (by decide +kernel) (Nat.le_of_ble_eq_true rfl) ?_
  refine px_aload_n d_X11_whyNot_0 rfl rfl ?_
  refine px_ifnull d_X11_whyNot_1 ?_
  refine px_iload_n d_X11_whyNot_4 rfl rfl ?_
  refine px_callS (c_X11_isDrawable) d_X11_whyNot_5 lk_X11_177 ok_X11_isDrawable os_X11_isDrawable rfl (Nat.le_of_ble_eq_true rfl) (by decide) ⟨Nat.le_refl (hn h), Nat.le_refl (hs h)⟩ ?_
  refine px_if_ne (tgt := 13) d_X11_whyNot_8 (by decide) (fun c8 => ?_) (fun c8 => ?_)
  · refine px_aload_n d_X11_whyNot_13 rfl rfl ?_
    refine px_getR d_X11_whyNot_14 fl_X11_55 (by decide) (so0 hL) (sr0_6 hL) ?_
    refine px_aload_n d_X11_whyNot_17 rfl rfl ?_
    refine px_aload_n d_X11_whyNot_18 rfl rfl ?_
    refine px_getI d_X11_whyNot_19 fl_X11_88 rfl (so0 hL) ?_
    refine px_val (y := nI t) hnw ?_
    refine px_aload_n d_X11_whyNot_22 rfl rfl ?_
    refine px_getI d_X11_whyNot_23 fl_X11_88 rfl (so0 hL) ?_
    refine px_val (y := nI t) hnw ?_
    refine px_callVX (y_X7_balanceAt (kn := nI t) hL hT hA h78 hkd hop hs1 hn4 hd ha ht) d_X11_whyNot_26 lk_X11_151 ok_X7_balanceAt ov_X7_balanceAt (so21 hL) (by decide) rfl rfl (Nat.le_of_ble_eq_true rfl) (by decide) ⟨Nat.le_refl (hn h), Nat.le_refl (hs h)⟩ (fun r9 h9 q9 n9 s9 => ?_)
    obtain ⟨rfl, hs9⟩ := q9
    have hL9 := hL.same hs9
    have hA9 := hA.same hs9
    have hT9 := hT.same hs9 (by decide) (fun x hx => SC_hi hx)
    have hr9 : hI h9 r = hI h r := hs9.2 r (SC_hi h78)
    have eN : hn h9 ≤ hn h := Nat.le_of_eq n9
    have eS : hs h9 ≤ hs h := Nat.le_of_eq s9
    have hnw9 : hI h9 0 11 = nI t := (congrFun (hs9.2 0 (by decide)) _).trans hnw
    refine px_iload_n d_X11_whyNot_29 rfl rfl ?_
    refine px_icmp_ge (tgt := 35) d_X11_whyNot_30 (by decide) (fun c30 => ?_) (fun c30 => ?_)
    · refine px_aload_n d_X11_whyNot_35 rfl rfl ?_
      refine px_iload_n d_X11_whyNot_36 rfl rfl ?_
      refine px_aload_n d_X11_whyNot_37 rfl rfl ?_
      refine px_getI d_X11_whyNot_38 fl_X11_88 rfl (so0 hL9) ?_
      refine px_val (y := nI t) hnw9 ?_
      refine px_callV (c_X0_isSigned hA9) d_X11_whyNot_41 lk_X11_246 ok_X0_isSigned ov_X0_isSigned hA9.1 (by decide) rfl rfl (Nat.le_of_ble_eq_true rfl) (by decide) ⟨eN, eS⟩ ?_
      refine px_val (y := (@bI (sgnC kd wi (nI t) sg) (sgnD kd wi (nI t) sg))) (by rw [hr9, hkd, hwi]) ?_
      refine px_if_ne (tgt := 49) d_X11_whyNot_44 (by decide) (fun c44 => ?_) (fun c44 => ?_)
      · refine px_aload_n d_X11_whyNot_49 rfl rfl ?_
        refine px_getI d_X11_whyNot_50 fl_X11_163 rfl hA9.1 ?_
        refine px_val (y := kd) ((congrFun hr9 _).trans hkd) ?_
        refine px_iconst (v := 3) d_X11_whyNot_53 (by decide) ?_
        refine px_icmp_ne (tgt := 84) d_X11_whyNot_54 (by decide) (fun c54 => ?_) (fun c54 => ?_)
        · refine w2_X11_whyNot hL hT hA h78 hkd hop hs1 hn4 hd ha hnw ht hwi hnn hnn6 hs9 n9 s9 c8 c30 c44 ?_
          rintro ⟨w1, w2⟩
          first | exact c54 w1 | exact c79 w2
        · refine px_aload_n d_X11_whyNot_57 rfl rfl ?_
          refine px_getR d_X11_whyNot_58 fl_X11_62 (by decide) (so0 hL9) (sr0_7 hL9) ?_
          refine px_aload_n d_X11_whyNot_61 rfl rfl ?_
          refine px_getI d_X11_whyNot_62 fl_X11_249 rfl hA9.1 ?_
          refine px_val (y := a) ((congrFun hr9 _).trans ha) ?_
          refine px_iload_n d_X11_whyNot_65 rfl rfl ?_
          refine px_aload_n d_X11_whyNot_66 rfl rfl ?_
          refine px_getI d_X11_whyNot_67 fl_X11_88 rfl (so0 hL9) ?_
          refine px_val (y := nI t) hnw9 ?_
          refine px_aload_n d_X11_whyNot_70 rfl rfl ?_
          refine px_getI d_X11_whyNot_71 fl_X11_166 rfl hA9.1 ?_
          refine px_val (y := wi) ((congrFun hr9 _).trans hwi) ?_
          refine px_isub d_X11_whyNot_74 ?_
          refine px_callV (c_X6_eldest (h := h9) hL9 ((congrFun (hs9.2 23 (by decide)) _).trans hnn) hnn6) d_X11_whyNot_75 lk_X11_169 ok_X6_eldest ov_X6_eldest (so23 hL9) (by decide) rfl rfl (Nat.le_of_ble_eq_true rfl) (by decide) ⟨eN, eS⟩ ?_
          refine px_val (y := (fst1 (ntc h a s (nI t - wi)) (ntcD h a s (nI t - wi)) 0 nn)) (ntc_same hs9 (by decide) (by decide) (by decide) (by decide) nn 0) ?_
          refine px_iconst (v := (-1)) d_X11_whyNot_78 (by decide) ?_
          refine px_icmp_ne (tgt := 84) d_X11_whyNot_79 (by decide) (fun c79 => ?_) (fun c79 => ?_)
          · refine w2_X11_whyNot hL hT hA h78 hkd hop hs1 hn4 hd ha hnw ht hwi hnn hnn6 hs9 n9 s9 c8 c30 c44 ?_
            rintro ⟨w1, w2⟩
            first | exact c54 w1 | exact c79 w2
          · refine px_iconst (v := 4) d_X11_whyNot_82 (by decide) ?_
            exact px_ireturn d_X11_whyNot_83 rfl rfl ⟨rfl, ⟨px_si ((if_neg c8).trans ((if_pos c30).trans ((if_neg c44).trans (if_pos ⟨by first | exact c54 | exact Classical.not_not.mp c54, c79⟩)))).symm, hs9⟩, n9, s9⟩
      · refine px_iconst (v := 3) d_X11_whyNot_47 (by decide) ?_
        exact px_ireturn d_X11_whyNot_48 rfl rfl ⟨rfl, ⟨px_si ((if_neg c8).trans ((if_pos c30).trans (if_pos c44))).symm, hs9⟩, n9, s9⟩
    · refine px_iconst (v := 2) d_X11_whyNot_33 (by decide) ?_
      exact px_ireturn d_X11_whyNot_34 rfl rfl ⟨rfl, ⟨px_si ((if_neg c8).trans (if_neg c30)).symm, hs9⟩, n9, s9⟩
  · refine px_iconst (v := 1) d_X11_whyNot_11 (by decide) ?_
    exact px_ireturn d_X11_whyNot_12 rfl rfl ⟨rfl, ⟨px_si (if_pos c8).symm, px_same.rf⟩, rfl, rfl⟩
