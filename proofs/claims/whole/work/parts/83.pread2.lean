/-! ===== rules that are not told; what the class's text answers ===== -/
theorem LNS_N {F tk : Nat → Int32} {rule : Int32} {N : Nat} {il lN lA op on : Nat → Int32} {C : Nat} (h3 : ¬ rule = -3) (h4 : ¬ rule = -4) : ∀ (r a k : Nat) (J : JS), LNS tk N il lN lA op on C r a k → nOf F tk rule (N - a) a a J = -1
  | 0, a, k, J, h => by
    have h : a = N := h
    rw [h, Nat.sub_self]
    rfl
  | r + 1, a, k, J, ⟨sc, c, cs, ⟨⟨hv, h0, hs3, hsN, hs, hno⟩, _⟩, hC, hR⟩ => by
    obtain ⟨J2, e⟩ := nOf_line (F := F) (tk := tk) (rule := rule) (r := N - (sc + 1)) (J := J) hs3 hs hno
    rw [show N - a = N - (sc + 1) + (sc + 1 - a) by omega, e, if_neg (fun q => hv.elim (fun v => h3 (q.1.symm.trans v)) (fun v => h4 (q.1.symm.trans v)))]
    exact LNS_N h3 h4 r (sc + 1) (k + 1) J2 hR
theorem lastT_cg {p q : Nat → Bool} : ∀ {n : Nat}, (∀ i, i < n → p i = q i) → lastT p n = lastT q n
  | 0, _ => rfl
  | n + 1, h => by
    unfold lastT
    rw [h n (Nat.lt_succ_self n), lastT_cg fun i hi => h i (Nat.lt_succ_of_lt hi)]
theorem frcP_cg {h : PH} {n : Nat} {fr kf : Nat → Int32} {d k : Int32} (e : ∀ i, i < n → hI h 42 i = fr i ∧ hI h 43 i = kf i) : lastT (frcP (hI h 42) (hI h 43) d k) n = lastT (frcP fr kf d k) n := lastT_cg fun i hi => by
  unfold frcP
  rw [(e i hi).1, (e i hi).2]
