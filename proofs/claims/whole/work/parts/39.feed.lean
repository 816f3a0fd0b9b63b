/-- one sign more on a tape -/
def lay1 (c : Int32) (s : (Nat → Int32) × Nat) : (Nat → Int32) × Nat := if (c = 10 ∨ (¬ c < 32 ∧ ¬ 126 < c)) ∧ ¬ 600 ≤ nI s.2 then (fun j => if j = s.2 then c else s.1 j, s.2 + 1) else s
def layN (B : Nat → Int32) : Nat → (Nat → Int32) × Nat → (Nat → Int32) × Nat
  | 0, s => s
  | k + 1, s => layN B k (lay1 (B k) s)
theorem lay1_le {c : Int32} {s : (Nat → Int32) × Nat} (h : s.2 ≤ 600) : (lay1 c s).2 ≤ 600 := by
  unfold lay1
  by_cases q : (c = 10 ∨ (¬ c < 32 ∧ ¬ 126 < c)) ∧ ¬ 600 ≤ nI s.2
  · rw [if_pos q]
    rcases Nat.lt_or_ge s.2 600 with g | g
    · exact g
    · exact absurd (by rw [show s.2 = 600 by omega]; decide) q.2
  · rw [if_neg q]; exact h
theorem layN_le {B : Nat → Int32} : ∀ {k : Nat} {s : (Nat → Int32) × Nat}, s.2 ≤ 600 → (layN B k s).2 ≤ 600
  | 0, _, h => h
  | k + 1, s, h => layN_le (k := k) (s := lay1 (B k) s) (lay1_le h)
theorem layN_cg {B B' : Nat → Int32} : ∀ {k : Nat} {s : (Nat → Int32) × Nat}, (∀ j, j < k → B j = B' j) → layN B k s = layN B' k s
  | 0, _, _ => rfl
  | k + 1, s, h => by
    unfold layN
    rw [h k (Nat.lt_succ_self k)]
    exact layN_cg fun j hj => h j (Nat.lt_succ_of_lt hj)
def byC (v : Int64) (k : Nat) : Int32 := (v.toUInt64 >>> ((nI (8 * k)).toInt64.toUInt64 &&& Int64.toUInt64 63)).toInt64.toInt32 &&& 255
def byM (v : Int64) (k : Nat) : Int32 := (v >>> ((nI (8 * k)).toInt64 &&& 63)).toInt32 &&& 255
theorem tape_st (h : PH) {a o : Nat} (hne : o ≠ a) (f : Nat → Int32) (i n : Nat) (v w c : Int32) : pI (pI (pI (rI h a f) o i v) a n c) o i w = pI (rI h a (fun j => if j = n then c else f j)) o i w := by
  refine PH.ext (fun x j => ?_) rfl
  simp only [gI, hI_rI]
  by_cases h1 : x = o
  · subst h1
    by_cases h2 : j = i
    · simp [h2]
    · simp [h2, hne]
  · by_cases h3 : x = a
    · subst h3; simp [h1]
    · simp [h1, h3]
def tapC (h : PH) (s : (Nat → Int32) × Nat) : PH := pI (rI h 8 s.1) 7 1 (nI s.2)
def tapM (h : PH) (s : (Nat → Int32) × Nat) : PH := pI (rI h 37 s.1) 36 2 (nI s.2)
theorem tapC_L {h : PH} (hL : px_L h) (s : (Nat → Int32) × Nat) : px_L (tapC h s) := hL
theorem tapM_L {h : PH} (hL : px_L h) (s : (Nat → Int32) × Nat) : px_L (tapM h s) := hL
theorem tapC_self {h : PH} {n : Nat} (hs1 : hI h 7 1 = nI n) : tapC h (hI h 8, n) = h := by
  unfold tapC
  rw [rI_self]
  refine PH.ext (fun x j => ?_) rfl
  rw [gI]
  by_cases q : x = 7 ∧ j = 1
  · rw [if_pos q, q.1, q.2]; exact hs1.symm
  · rw [if_neg q]
theorem tapM_self {h : PH} {n : Nat} (hs1 : hI h 36 2 = nI n) : tapM h (hI h 37, n) = h := by
  unfold tapM
  rw [rI_self]
  refine PH.ext (fun x j => ?_) rfl
  rw [gI]
  by_cases q : x = 36 ∧ j = 2
  · rw [if_pos q, q.1, q.2]; exact hs1.symm
  · rw [if_neg q]
theorem sh_s (k : Nat) : nI (8 * (k + 1)) - 8 = nI (8 * k) := by
  rw [show 8 * (k + 1) = 8 * k + 1 + 1 + 1 + 1 + 1 + 1 + 1 + 1 by omega]
  simp only [← nI_s1]
  rw [show ∀ x : Int32, x + 1 + 1 + 1 + 1 + 1 + 1 + 1 + 1 - 8 = x from fun x => by
    simp only [Int32.add_assoc]
    exact Int32.add_sub_cancel x 8]
theorem sh_m (k : Nat) : nI (8 * k) + Int32.ofInt (-8) = nI (8 * k) - 8 := by
  generalize nI (8 * k) = x
  rw [Int32.sub_eq_add_neg]; rfl
theorem n600 {n : Nat} (hn : n ≤ 600) (c : ¬ 600 ≤ nI n) : n < 600 := by
  rcases Nat.lt_or_ge n 600 with g | g
  · exact g
  · exact absurd (by rw [show n = 600 by omega]; decide) c
theorem b255 (x : Int32) : 0 ≤ (x &&& 255).toUInt32.toNat ∧ (x &&& 255).toUInt32.toNat < 256 := by
  refine ⟨Nat.zero_le _, ?_⟩
  show (x.toBitVec &&& 255#32).toNat < 256
  rw [BitVec.toNat_and]
  exact Nat.lt_of_le_of_lt Nat.and_le_right (by decide)
theorem i2c255 (x : Int32) : ((x &&& 255).toUInt32 % 65536).toInt32 = x &&& 255 := by
  have h := (b255 x).2
  rw [show (x &&& 255).toUInt32 % 65536 = (x &&& 255).toUInt32 from UInt32.toNat_inj.mp (by
    rw [UInt32.toNat_mod]
    exact Nat.mod_eq_of_lt (Nat.lt_trans h (by decide)))]
  rfl
theorem narC {c : Int32} (h : c.toUInt32.toNat < 65536) : narrow .char (.int c) = .int c := by
  show Value.int (c.toUInt32 % 65536).toInt32 = .int c
  rw [show c.toUInt32 % 65536 = c.toUInt32 from UInt32.toNat_inj.mp (by
    rw [UInt32.toNat_mod]
    exact Nat.mod_eq_of_lt h)]
  rfl
theorem sx_and (x : BitVec 64) (j : Nat) (hj : j ≤ 56) : (x >>> j).signExtend 32 &&& 255#32 = (x.sshiftRight j).signExtend 32 &&& 255#32 := by
  rw [BitVec.signExtend_eq_setWidth_of_le _ (by decide), BitVec.signExtend_eq_setWidth_of_le _ (by decide)]
  apply BitVec.eq_of_getLsbD_eq
  intro i hi
  simp only [BitVec.getLsbD_and, BitVec.getLsbD_setWidth, BitVec.getLsbD_ushiftRight, BitVec.getLsbD_sshiftRight]
  by_cases h8 : i < 8
  · simp only [hi, decide_true, Bool.true_and]
    have h1 : j + i < 64 := by omega
    have h2 : ¬ 64 ≤ i := by omega
    simp [h1, h2]
  · have h9 : (255#32).getLsbD i = false := by
      rw [show (255#32) = BitVec.ofNat 32 (2 ^ 8 - 1) by rfl, BitVec.getLsbD_ofNat, Nat.testBit_two_pow_sub_one]
      simp [h8]
    simp [h9]
theorem byE1 (v : Int64) {k : Nat} (c : Nat) (hc : c ≤ 56) (e1 : (nI (8 * k)).toInt64 &&& 63 = Int64.ofNat c) (e2 : (nI (8 * k)).toInt64.toUInt64 &&& Int64.toUInt64 63 = UInt64.ofNat c) (e3 : ((Int64.ofNat c).toBitVec.smod 64).toNat = c) (e4 : ((UInt64.ofNat c) % 64).toBitVec.toNat = c) : byC v k = byM v k := by
  unfold byC byM
  rw [e1, e2]
  apply Int32.toBitVec_inj.mp
  have e5 := sx_and v.toBitVec c hc
  simp only [Int32.toBitVec_and, Int64.toBitVec_toInt32, Int64.toBitVec_shiftRight]
  unfold BitVec.sshiftRight'
  rw [e3]
  refine Eq.trans ?_ e5
  have e6 : (v.toUInt64 >>> UInt64.ofNat c).toInt64.toBitVec = v.toBitVec >>> c := by
    show (v.toUInt64 >>> UInt64.ofNat c).toBitVec = _
    rw [UInt64.toBitVec_shiftRight]
    show v.toBitVec >>> (UInt64.toBitVec (UInt64.ofNat c) % 64) = _
    rw [BitVec.ushiftRight_eq']
    exact congrArg _ e4
  rw [e6]
  rfl
theorem byE (v : Int64) (k : Nat) (hk : k < 8) : byC v k = byM v k := by
  obtain rfl | rfl | rfl | rfl | rfl | rfl | rfl | rfl : k = 0 ∨ k = 1 ∨ k = 2 ∨ k = 3 ∨ k = 4 ∨ k = 5 ∨ k = 6 ∨ k = 7 := by omega
  · exact byE1 v 0 (by decide) (by decide) (by decide) (by decide) (by decide)
  · exact byE1 v 8 (by decide) (by decide) (by decide) (by decide) (by decide)
  · exact byE1 v 16 (by decide) (by decide) (by decide) (by decide) (by decide)
  · exact byE1 v 24 (by decide) (by decide) (by decide) (by decide) (by decide)
  · exact byE1 v 32 (by decide) (by decide) (by decide) (by decide) (by decide)
  · exact byE1 v 40 (by decide) (by decide) (by decide) (by decide) (by decide)
  · exact byE1 v 48 (by decide) (by decide) (by decide) (by decide) (by decide)
  · exact byE1 v 56 (by decide) (by decide) (by decide) (by decide) (by decide)
theorem lp_X9_takeBytes {h : PH} (hL : px_L h) {v : Int64} : ∀ (k : Nat) (g : Nat → Int32) (n : Nat), k ≤ 8 → n ≤ 600 → PW M_X9_takeBytes (hn h) (hs h) (PMpost none (tapC h (layN (byC v) k (g, n)))) 3 [(0, .ref 7), (1, .long v), (3, .int (nI (8 * (k)) - 8))] [] (tapC h (g, n)) := by
  intro k
  induction k with
  | zero =>
    intro g n hk8 hn6
    refine px_iload_n d_X9_takeBytes_3 rfl rfl ?_
    refine px_if_lt (tgt := 76) d_X9_takeBytes_4 (by decide) (fun c4 => ?_) (fun c4 => absurd (by decide) c4)
    exact px_return d_X9_takeBytes_76 rfl ⟨rfl, rfl, rfl⟩
  | succ k ih =>
    intro g n hk8 hn6
    rw [sh_s]
    refine px_iload_n d_X9_takeBytes_3 rfl rfl ?_
    refine px_if_lt (tgt := 76) d_X9_takeBytes_4 (by decide) (fun c4 => absurd c4 (nI_pos (by omega))) (fun c4 => ?_)
    refine px_lload_n d_X9_takeBytes_7 rfl rfl ?_
    refine px_iload_n d_X9_takeBytes_8 rfl rfl ?_
    refine px_lushr d_X9_takeBytes_9 ?_
    refine px_l2i d_X9_takeBytes_10 ?_
    refine px_sipush (v := 255) d_X9_takeBytes_11 (by decide) ?_
    refine px_iand d_X9_takeBytes_14 ?_
    refine px_istore d_X9_takeBytes_15 (by decide) ?_
    refine px_iload d_X9_takeBytes_17 rfl ?_
    refine px_bipush (v := 10) d_X9_takeBytes_19 (by decide) ?_
    refine px_icmp_eq (tgt := 38) d_X9_takeBytes_21 (by decide) (fun c21 => ?_) (fun c21 => ?_)
    · refine px_aload_n d_X9_takeBytes_38 rfl rfl ?_
      refine px_getI d_X9_takeBytes_39 fl_X9_15 rfl (so7 hL) ?_
      refine px_val (y := nI n) rfl ?_
      refine px_sipush (v := 600) d_X9_takeBytes_42 (by decide) ?_
      refine px_icmp_ge (tgt := 70) d_X9_takeBytes_45 (by decide) (fun c45 => ?_) (fun c45 => ?_)
      · refine px_iinc d_X9_takeBytes_70 rfl rfl (by decide) ?_
        refine px_goto (tgt := 3) d_X9_takeBytes_73 (by decide) ?_
        first
          | (have e9 : layN (byC v) (k + 1) (g, n) = layN (byC v) k (fun j => if j = n then byC v k else g j, n + 1) := by
               show layN _ k (lay1 _ _) = _
               congr 1
               exact if_pos ⟨by first | exact Or.inl c21 | exact Or.inr ⟨c28, c35⟩, c45⟩
             rw [e9]
             refine px_drop (lv' := [(0, .ref 7), (1, .long v), (3, .int (nI (8 * (k)) - 8))]) ⟨rfl, rfl, px_si (sh_m _), trivial⟩ ?_
             exact ih _ _ (by omega) (n600 hn6 c45))
          | (have e9 : layN (byC v) (k + 1) (g, n) = layN (byC v) k (g, n) := by
               show layN _ k (lay1 _ _) = _
               congr 1
               exact if_neg (by rintro ⟨q1, q2⟩; first | exact q2 c45 | (rcases q1 with q | ⟨q3, q4⟩; exact absurd q c21; first | exact q3 c28 | exact q4 c35))
             rw [e9]
             refine px_drop (lv' := [(0, .ref 7), (1, .long v), (3, .int (nI (8 * (k)) - 8))]) ⟨rfl, rfl, px_si (sh_m _), trivial⟩ ?_
             exact ih g n (by omega) hn6)
      · refine px_aload_n d_X9_takeBytes_48 rfl rfl ?_
        refine px_getR d_X9_takeBytes_49 fl_X9_9 (by decide) (so7 hL) (sr7_0 hL) ?_
        refine px_aload_n d_X9_takeBytes_52 rfl rfl ?_
        refine px_getI d_X9_takeBytes_53 fl_X9_15 rfl (so7 hL) ?_
        refine px_val (y := nI n) rfl ?_
        refine px_iload d_X9_takeBytes_56 rfl ?_
        refine px_i2c d_X9_takeBytes_58 ?_
        refine px_val (y := byC v k) (i2c255 _) ?_
        refine px_cast d_X9_takeBytes_59 (sa8 hL) rfl (n600 hn6 c45) (narC (Nat.lt_trans (b255 _).2 (by decide))) ?_
        refine px_aload_n d_X9_takeBytes_60 rfl rfl ?_
        refine px_dup d_X9_takeBytes_61 rfl ?_
        refine px_getI d_X9_takeBytes_62 fl_X9_15 rfl (so7 hL) ?_
        refine px_val (y := nI n) rfl ?_
        refine px_iconst (v := 1) d_X9_takeBytes_65 (by decide) ?_
        refine px_iadd d_X9_takeBytes_66 ?_
        refine px_putI d_X9_takeBytes_67 fl_X9_15 rfl (so7 hL) ?_
        refine px_heap (h2 := tapC h (fun j => if j = n then byC v k else g j, n + 1)) (by unfold tapC; rw [tape_st _ (by decide)]; rw [← nI_s1]; try rfl) ?_
        refine px_iinc d_X9_takeBytes_70 rfl rfl (by decide) ?_
        refine px_goto (tgt := 3) d_X9_takeBytes_73 (by decide) ?_
        first
          | (have e9 : layN (byC v) (k + 1) (g, n) = layN (byC v) k (fun j => if j = n then byC v k else g j, n + 1) := by
               show layN _ k (lay1 _ _) = _
               congr 1
               exact if_pos ⟨by first | exact Or.inl c21 | exact Or.inr ⟨c28, c35⟩, c45⟩
             rw [e9]
             refine px_drop (lv' := [(0, .ref 7), (1, .long v), (3, .int (nI (8 * (k)) - 8))]) ⟨rfl, rfl, px_si (sh_m _), trivial⟩ ?_
             exact ih _ _ (by omega) (n600 hn6 c45))
          | (have e9 : layN (byC v) (k + 1) (g, n) = layN (byC v) k (g, n) := by
               show layN _ k (lay1 _ _) = _
               congr 1
               exact if_neg (by rintro ⟨q1, q2⟩; first | exact q2 c45 | (rcases q1 with q | ⟨q3, q4⟩; exact absurd q c21; first | exact q3 c28 | exact q4 c35))
             rw [e9]
             refine px_drop (lv' := [(0, .ref 7), (1, .long v), (3, .int (nI (8 * (k)) - 8))]) ⟨rfl, rfl, px_si (sh_m _), trivial⟩ ?_
             exact ih g n (by omega) hn6)
    · refine px_iload d_X9_takeBytes_24 rfl ?_
      refine px_bipush (v := 32) d_X9_takeBytes_26 (by decide) ?_
      refine px_icmp_lt (tgt := 70) d_X9_takeBytes_28 (by decide) (fun c28 => ?_) (fun c28 => ?_)
      · refine px_iinc d_X9_takeBytes_70 rfl rfl (by decide) ?_
        refine px_goto (tgt := 3) d_X9_takeBytes_73 (by decide) ?_
        first
          | (have e9 : layN (byC v) (k + 1) (g, n) = layN (byC v) k (fun j => if j = n then byC v k else g j, n + 1) := by
               show layN _ k (lay1 _ _) = _
               congr 1
               exact if_pos ⟨by first | exact Or.inl c21 | exact Or.inr ⟨c28, c35⟩, c45⟩
             rw [e9]
             refine px_drop (lv' := [(0, .ref 7), (1, .long v), (3, .int (nI (8 * (k)) - 8))]) ⟨rfl, rfl, px_si (sh_m _), trivial⟩ ?_
             exact ih _ _ (by omega) (n600 hn6 c45))
          | (have e9 : layN (byC v) (k + 1) (g, n) = layN (byC v) k (g, n) := by
               show layN _ k (lay1 _ _) = _
               congr 1
               exact if_neg (by rintro ⟨q1, q2⟩; first | exact q2 c45 | (rcases q1 with q | ⟨q3, q4⟩; exact absurd q c21; first | exact q3 c28 | exact q4 c35))
             rw [e9]
             refine px_drop (lv' := [(0, .ref 7), (1, .long v), (3, .int (nI (8 * (k)) - 8))]) ⟨rfl, rfl, px_si (sh_m _), trivial⟩ ?_
             exact ih g n (by omega) hn6)
      · refine px_iload d_X9_takeBytes_31 rfl ?_
        refine px_bipush (v := 126) d_X9_takeBytes_33 (by decide) ?_
        refine px_icmp_gt (tgt := 70) d_X9_takeBytes_35 (by decide) (fun c35 => ?_) (fun c35 => ?_)
        · refine px_iinc d_X9_takeBytes_70 rfl rfl (by decide) ?_
          refine px_goto (tgt := 3) d_X9_takeBytes_73 (by decide) ?_
          first
            | (have e9 : layN (byC v) (k + 1) (g, n) = layN (byC v) k (fun j => if j = n then byC v k else g j, n + 1) := by
                 show layN _ k (lay1 _ _) = _
                 congr 1
                 exact if_pos ⟨by first | exact Or.inl c21 | exact Or.inr ⟨c28, c35⟩, c45⟩
               rw [e9]
               refine px_drop (lv' := [(0, .ref 7), (1, .long v), (3, .int (nI (8 * (k)) - 8))]) ⟨rfl, rfl, px_si (sh_m _), trivial⟩ ?_
               exact ih _ _ (by omega) (n600 hn6 c45))
            | (have e9 : layN (byC v) (k + 1) (g, n) = layN (byC v) k (g, n) := by
                 show layN _ k (lay1 _ _) = _
                 congr 1
                 exact if_neg (by rintro ⟨q1, q2⟩; first | exact q2 c45 | (rcases q1 with q | ⟨q3, q4⟩; exact absurd q c21; first | exact q3 c28 | exact q4 c35))
               rw [e9]
               refine px_drop (lv' := [(0, .ref 7), (1, .long v), (3, .int (nI (8 * (k)) - 8))]) ⟨rfl, rfl, px_si (sh_m _), trivial⟩ ?_
               exact ih g n (by omega) hn6)
        · refine px_aload_n d_X9_takeBytes_38 rfl rfl ?_
          refine px_getI d_X9_takeBytes_39 fl_X9_15 rfl (so7 hL) ?_
          refine px_val (y := nI n) rfl ?_
          refine px_sipush (v := 600) d_X9_takeBytes_42 (by decide) ?_
          refine px_icmp_ge (tgt := 70) d_X9_takeBytes_45 (by decide) (fun c45 => ?_) (fun c45 => ?_)
          · refine px_iinc d_X9_takeBytes_70 rfl rfl (by decide) ?_
            refine px_goto (tgt := 3) d_X9_takeBytes_73 (by decide) ?_
            first
              | (have e9 : layN (byC v) (k + 1) (g, n) = layN (byC v) k (fun j => if j = n then byC v k else g j, n + 1) := by
                   show layN _ k (lay1 _ _) = _
                   congr 1
                   exact if_pos ⟨by first | exact Or.inl c21 | exact Or.inr ⟨c28, c35⟩, c45⟩
                 rw [e9]
                 refine px_drop (lv' := [(0, .ref 7), (1, .long v), (3, .int (nI (8 * (k)) - 8))]) ⟨rfl, rfl, px_si (sh_m _), trivial⟩ ?_
                 exact ih _ _ (by omega) (n600 hn6 c45))
              | (have e9 : layN (byC v) (k + 1) (g, n) = layN (byC v) k (g, n) := by
                   show layN _ k (lay1 _ _) = _
                   congr 1
                   exact if_neg (by rintro ⟨q1, q2⟩; first | exact q2 c45 | (rcases q1 with q | ⟨q3, q4⟩; exact absurd q c21; first | exact q3 c28 | exact q4 c35))
                 rw [e9]
                 refine px_drop (lv' := [(0, .ref 7), (1, .long v), (3, .int (nI (8 * (k)) - 8))]) ⟨rfl, rfl, px_si (sh_m _), trivial⟩ ?_
                 exact ih g n (by omega) hn6)
          · refine px_aload_n d_X9_takeBytes_48 rfl rfl ?_
            refine px_getR d_X9_takeBytes_49 fl_X9_9 (by decide) (so7 hL) (sr7_0 hL) ?_
            refine px_aload_n d_X9_takeBytes_52 rfl rfl ?_
            refine px_getI d_X9_takeBytes_53 fl_X9_15 rfl (so7 hL) ?_
            refine px_val (y := nI n) rfl ?_
            refine px_iload d_X9_takeBytes_56 rfl ?_
            refine px_i2c d_X9_takeBytes_58 ?_
            refine px_val (y := byC v k) (i2c255 _) ?_
            refine px_cast d_X9_takeBytes_59 (sa8 hL) rfl (n600 hn6 c45) (narC (Nat.lt_trans (b255 _).2 (by decide))) ?_
            refine px_aload_n d_X9_takeBytes_60 rfl rfl ?_
            refine px_dup d_X9_takeBytes_61 rfl ?_
            refine px_getI d_X9_takeBytes_62 fl_X9_15 rfl (so7 hL) ?_
            refine px_val (y := nI n) rfl ?_
            refine px_iconst (v := 1) d_X9_takeBytes_65 (by decide) ?_
            refine px_iadd d_X9_takeBytes_66 ?_
            refine px_putI d_X9_takeBytes_67 fl_X9_15 rfl (so7 hL) ?_
            refine px_heap (h2 := tapC h (fun j => if j = n then byC v k else g j, n + 1)) (by unfold tapC; rw [tape_st _ (by decide)]; rw [← nI_s1]; try rfl) ?_
            refine px_iinc d_X9_takeBytes_70 rfl rfl (by decide) ?_
            refine px_goto (tgt := 3) d_X9_takeBytes_73 (by decide) ?_
            first
              | (have e9 : layN (byC v) (k + 1) (g, n) = layN (byC v) k (fun j => if j = n then byC v k else g j, n + 1) := by
                   show layN _ k (lay1 _ _) = _
                   congr 1
                   exact if_pos ⟨by first | exact Or.inl c21 | exact Or.inr ⟨c28, c35⟩, c45⟩
                 rw [e9]
                 refine px_drop (lv' := [(0, .ref 7), (1, .long v), (3, .int (nI (8 * (k)) - 8))]) ⟨rfl, rfl, px_si (sh_m _), trivial⟩ ?_
                 exact ih _ _ (by omega) (n600 hn6 c45))
              | (have e9 : layN (byC v) (k + 1) (g, n) = layN (byC v) k (g, n) := by
                   show layN _ k (lay1 _ _) = _
                   congr 1
                   exact if_neg (by rintro ⟨q1, q2⟩; first | exact q2 c45 | (rcases q1 with q | ⟨q3, q4⟩; exact absurd q c21; first | exact q3 c28 | exact q4 c35))
                 rw [e9]
                 refine px_drop (lv' := [(0, .ref 7), (1, .long v), (3, .int (nI (8 * (k)) - 8))]) ⟨rfl, rfl, px_si (sh_m _), trivial⟩ ?_
                 exact ih g n (by omega) hn6)
theorem c_X9_takeBytes {h : PH} {v : Int64} (hL : px_L h) {g : Nat → Int32} {n : Nat} (hn6 : n ≤ 600) : PM M_X9_takeBytes [.ref 7, .long v] (tapC h (g, n)) none (tapC h (layN (byC v) 8 (g, n))) := by
  refine PM.of (by decide +kernel) (by decide +kernel) (Nat.le_refl _) (Nat.le_refl _) (Nat.le_of_ble_eq_true rfl) ?_
  refine px_bipush (v := 56) d_X9_takeBytes_0 (by decide) ?_
  refine px_istore_n d_X9_takeBytes_2 rfl (by decide) ?_
  exact lp_X9_takeBytes hL 8 g n (by omega) hn6
theorem lp_X12_lay {h : PH} (hL : px_L h) {v : Int64} : ∀ (k : Nat) (g : Nat → Int32) (n : Nat), k ≤ 8 → n ≤ 600 → PW M_X12_lay (hn h) (hs h) (PMpost none (tapM h (layN (byM v) k (g, n)))) 3 [(0, .ref 36), (1, .long v), (3, .int (nI (8 * (k)) - 8))] [] (tapM h (g, n)) := by
  intro k
  induction k with
  | zero =>
    intro g n hk8 hn6
    refine px_iload_n d_X12_lay_3 rfl rfl ?_
    refine px_if_lt (tgt := 75) d_X12_lay_4 (by decide) (fun c4 => ?_) (fun c4 => absurd (by decide) c4)
    exact px_return d_X12_lay_75 rfl ⟨rfl, rfl, rfl⟩
  | succ k ih =>
    intro g n hk8 hn6
    rw [sh_s]
    refine px_iload_n d_X12_lay_3 rfl rfl ?_
    refine px_if_lt (tgt := 75) d_X12_lay_4 (by decide) (fun c4 => absurd c4 (nI_pos (by omega))) (fun c4 => ?_)
    refine px_lload_n d_X12_lay_7 rfl rfl ?_
    refine px_iload_n d_X12_lay_8 rfl rfl ?_
    refine px_lshr d_X12_lay_9 ?_
    refine px_l2i d_X12_lay_10 ?_
    refine px_sipush (v := 255) d_X12_lay_11 (by decide) ?_
    refine px_iand d_X12_lay_14 ?_
    refine px_istore d_X12_lay_15 (by decide) ?_
    refine px_iload d_X12_lay_17 rfl ?_
    refine px_bipush (v := 10) d_X12_lay_19 (by decide) ?_
    refine px_icmp_eq (tgt := 38) d_X12_lay_21 (by decide) (fun c21 => ?_) (fun c21 => ?_)
    · refine px_aload_n d_X12_lay_38 rfl rfl ?_
      refine px_getI d_X12_lay_39 fl_X12_158 rfl (so36 hL) ?_
      refine px_val (y := nI n) rfl ?_
      refine px_sipush (v := 600) d_X12_lay_42 (by decide) ?_
      refine px_icmp_ge (tgt := 69) d_X12_lay_45 (by decide) (fun c45 => ?_) (fun c45 => ?_)
      · refine px_iinc d_X12_lay_69 rfl rfl (by decide) ?_
        refine px_goto (tgt := 3) d_X12_lay_72 (by decide) ?_
        first
          | (have e9 : layN (byM v) (k + 1) (g, n) = layN (byM v) k (fun j => if j = n then byM v k else g j, n + 1) := by
               show layN _ k (lay1 _ _) = _
               congr 1
               exact if_pos ⟨by first | exact Or.inl c21 | exact Or.inr ⟨c28, c35⟩, c45⟩
             rw [e9]
             refine px_drop (lv' := [(0, .ref 36), (1, .long v), (3, .int (nI (8 * (k)) - 8))]) ⟨rfl, rfl, px_si (sh_m _), trivial⟩ ?_
             exact ih _ _ (by omega) (n600 hn6 c45))
          | (have e9 : layN (byM v) (k + 1) (g, n) = layN (byM v) k (g, n) := by
               show layN _ k (lay1 _ _) = _
               congr 1
               exact if_neg (by rintro ⟨q1, q2⟩; first | exact q2 c45 | (rcases q1 with q | ⟨q3, q4⟩; exact absurd q c21; first | exact q3 c28 | exact q4 c35))
             rw [e9]
             refine px_drop (lv' := [(0, .ref 36), (1, .long v), (3, .int (nI (8 * (k)) - 8))]) ⟨rfl, rfl, px_si (sh_m _), trivial⟩ ?_
             exact ih g n (by omega) hn6)
      · refine px_aload_n d_X12_lay_48 rfl rfl ?_
        refine px_getR d_X12_lay_49 fl_X12_7 (by decide) (so36 hL) (sr36_1 hL) ?_
        refine px_aload_n d_X12_lay_52 rfl rfl ?_
        refine px_getI d_X12_lay_53 fl_X12_158 rfl (so36 hL) ?_
        refine px_val (y := nI n) rfl ?_
        refine px_iload d_X12_lay_56 rfl ?_
        refine px_iast d_X12_lay_58 (sa37 hL) rfl (n600 hn6 c45) ?_
        refine px_aload_n d_X12_lay_59 rfl rfl ?_
        refine px_dup d_X12_lay_60 rfl ?_
        refine px_getI d_X12_lay_61 fl_X12_158 rfl (so36 hL) ?_
        refine px_val (y := nI n) rfl ?_
        refine px_iconst (v := 1) d_X12_lay_64 (by decide) ?_
        refine px_iadd d_X12_lay_65 ?_
        refine px_putI d_X12_lay_66 fl_X12_158 rfl (so36 hL) ?_
        refine px_heap (h2 := tapM h (fun j => if j = n then byM v k else g j, n + 1)) (by unfold tapM; rw [tape_st _ (by decide)]; rw [← nI_s1]; try rfl) ?_
        refine px_iinc d_X12_lay_69 rfl rfl (by decide) ?_
        refine px_goto (tgt := 3) d_X12_lay_72 (by decide) ?_
        first
          | (have e9 : layN (byM v) (k + 1) (g, n) = layN (byM v) k (fun j => if j = n then byM v k else g j, n + 1) := by
               show layN _ k (lay1 _ _) = _
               congr 1
               exact if_pos ⟨by first | exact Or.inl c21 | exact Or.inr ⟨c28, c35⟩, c45⟩
             rw [e9]
             refine px_drop (lv' := [(0, .ref 36), (1, .long v), (3, .int (nI (8 * (k)) - 8))]) ⟨rfl, rfl, px_si (sh_m _), trivial⟩ ?_
             exact ih _ _ (by omega) (n600 hn6 c45))
          | (have e9 : layN (byM v) (k + 1) (g, n) = layN (byM v) k (g, n) := by
               show layN _ k (lay1 _ _) = _
               congr 1
               exact if_neg (by rintro ⟨q1, q2⟩; first | exact q2 c45 | (rcases q1 with q | ⟨q3, q4⟩; exact absurd q c21; first | exact q3 c28 | exact q4 c35))
             rw [e9]
             refine px_drop (lv' := [(0, .ref 36), (1, .long v), (3, .int (nI (8 * (k)) - 8))]) ⟨rfl, rfl, px_si (sh_m _), trivial⟩ ?_
             exact ih g n (by omega) hn6)
    · refine px_iload d_X12_lay_24 rfl ?_
      refine px_bipush (v := 32) d_X12_lay_26 (by decide) ?_
      refine px_icmp_lt (tgt := 69) d_X12_lay_28 (by decide) (fun c28 => ?_) (fun c28 => ?_)
      · refine px_iinc d_X12_lay_69 rfl rfl (by decide) ?_
        refine px_goto (tgt := 3) d_X12_lay_72 (by decide) ?_
        first
          | (have e9 : layN (byM v) (k + 1) (g, n) = layN (byM v) k (fun j => if j = n then byM v k else g j, n + 1) := by
               show layN _ k (lay1 _ _) = _
               congr 1
               exact if_pos ⟨by first | exact Or.inl c21 | exact Or.inr ⟨c28, c35⟩, c45⟩
             rw [e9]
             refine px_drop (lv' := [(0, .ref 36), (1, .long v), (3, .int (nI (8 * (k)) - 8))]) ⟨rfl, rfl, px_si (sh_m _), trivial⟩ ?_
             exact ih _ _ (by omega) (n600 hn6 c45))
          | (have e9 : layN (byM v) (k + 1) (g, n) = layN (byM v) k (g, n) := by
               show layN _ k (lay1 _ _) = _
               congr 1
               exact if_neg (by rintro ⟨q1, q2⟩; first | exact q2 c45 | (rcases q1 with q | ⟨q3, q4⟩; exact absurd q c21; first | exact q3 c28 | exact q4 c35))
             rw [e9]
             refine px_drop (lv' := [(0, .ref 36), (1, .long v), (3, .int (nI (8 * (k)) - 8))]) ⟨rfl, rfl, px_si (sh_m _), trivial⟩ ?_
             exact ih g n (by omega) hn6)
      · refine px_iload d_X12_lay_31 rfl ?_
        refine px_bipush (v := 126) d_X12_lay_33 (by decide) ?_
        refine px_icmp_gt (tgt := 69) d_X12_lay_35 (by decide) (fun c35 => ?_) (fun c35 => ?_)
        · refine px_iinc d_X12_lay_69 rfl rfl (by decide) ?_
          refine px_goto (tgt := 3) d_X12_lay_72 (by decide) ?_
          first
            | (have e9 : layN (byM v) (k + 1) (g, n) = layN (byM v) k (fun j => if j = n then byM v k else g j, n + 1) := by
                 show layN _ k (lay1 _ _) = _
                 congr 1
                 exact if_pos ⟨by first | exact Or.inl c21 | exact Or.inr ⟨c28, c35⟩, c45⟩
               rw [e9]
               refine px_drop (lv' := [(0, .ref 36), (1, .long v), (3, .int (nI (8 * (k)) - 8))]) ⟨rfl, rfl, px_si (sh_m _), trivial⟩ ?_
               exact ih _ _ (by omega) (n600 hn6 c45))
            | (have e9 : layN (byM v) (k + 1) (g, n) = layN (byM v) k (g, n) := by
                 show layN _ k (lay1 _ _) = _
                 congr 1
                 exact if_neg (by rintro ⟨q1, q2⟩; first | exact q2 c45 | (rcases q1 with q | ⟨q3, q4⟩; exact absurd q c21; first | exact q3 c28 | exact q4 c35))
               rw [e9]
               refine px_drop (lv' := [(0, .ref 36), (1, .long v), (3, .int (nI (8 * (k)) - 8))]) ⟨rfl, rfl, px_si (sh_m _), trivial⟩ ?_
               exact ih g n (by omega) hn6)
        · refine px_aload_n d_X12_lay_38 rfl rfl ?_
          refine px_getI d_X12_lay_39 fl_X12_158 rfl (so36 hL) ?_
          refine px_val (y := nI n) rfl ?_
          refine px_sipush (v := 600) d_X12_lay_42 (by decide) ?_
          refine px_icmp_ge (tgt := 69) d_X12_lay_45 (by decide) (fun c45 => ?_) (fun c45 => ?_)
          · refine px_iinc d_X12_lay_69 rfl rfl (by decide) ?_
            refine px_goto (tgt := 3) d_X12_lay_72 (by decide) ?_
            first
              | (have e9 : layN (byM v) (k + 1) (g, n) = layN (byM v) k (fun j => if j = n then byM v k else g j, n + 1) := by
                   show layN _ k (lay1 _ _) = _
                   congr 1
                   exact if_pos ⟨by first | exact Or.inl c21 | exact Or.inr ⟨c28, c35⟩, c45⟩
                 rw [e9]
                 refine px_drop (lv' := [(0, .ref 36), (1, .long v), (3, .int (nI (8 * (k)) - 8))]) ⟨rfl, rfl, px_si (sh_m _), trivial⟩ ?_
                 exact ih _ _ (by omega) (n600 hn6 c45))
              | (have e9 : layN (byM v) (k + 1) (g, n) = layN (byM v) k (g, n) := by
                   show layN _ k (lay1 _ _) = _
                   congr 1
                   exact if_neg (by rintro ⟨q1, q2⟩; first | exact q2 c45 | (rcases q1 with q | ⟨q3, q4⟩; exact absurd q c21; first | exact q3 c28 | exact q4 c35))
                 rw [e9]
                 refine px_drop (lv' := [(0, .ref 36), (1, .long v), (3, .int (nI (8 * (k)) - 8))]) ⟨rfl, rfl, px_si (sh_m _), trivial⟩ ?_
                 exact ih g n (by omega) hn6)
          · refine px_aload_n d_X12_lay_48 rfl rfl ?_
            refine px_getR d_X12_lay_49 fl_X12_7 (by decide) (so36 hL) (sr36_1 hL) ?_
            refine px_aload_n d_X12_lay_52 rfl rfl ?_
            refine px_getI d_X12_lay_53 fl_X12_158 rfl (so36 hL) ?_
            refine px_val (y := nI n) rfl ?_
            refine px_iload d_X12_lay_56 rfl ?_
            refine px_iast d_X12_lay_58 (sa37 hL) rfl (n600 hn6 c45) ?_
            refine px_aload_n d_X12_lay_59 rfl rfl ?_
            refine px_dup d_X12_lay_60 rfl ?_
            refine px_getI d_X12_lay_61 fl_X12_158 rfl (so36 hL) ?_
            refine px_val (y := nI n) rfl ?_
            refine px_iconst (v := 1) d_X12_lay_64 (by decide) ?_
            refine px_iadd d_X12_lay_65 ?_
            refine px_putI d_X12_lay_66 fl_X12_158 rfl (so36 hL) ?_
            refine px_heap (h2 := tapM h (fun j => if j = n then byM v k else g j, n + 1)) (by unfold tapM; rw [tape_st _ (by decide)]; rw [← nI_s1]; try rfl) ?_
            refine px_iinc d_X12_lay_69 rfl rfl (by decide) ?_
            refine px_goto (tgt := 3) d_X12_lay_72 (by decide) ?_
            first
              | (have e9 : layN (byM v) (k + 1) (g, n) = layN (byM v) k (fun j => if j = n then byM v k else g j, n + 1) := by
                   show layN _ k (lay1 _ _) = _
                   congr 1
                   exact if_pos ⟨by first | exact Or.inl c21 | exact Or.inr ⟨c28, c35⟩, c45⟩
                 rw [e9]
                 refine px_drop (lv' := [(0, .ref 36), (1, .long v), (3, .int (nI (8 * (k)) - 8))]) ⟨rfl, rfl, px_si (sh_m _), trivial⟩ ?_
                 exact ih _ _ (by omega) (n600 hn6 c45))
              | (have e9 : layN (byM v) (k + 1) (g, n) = layN (byM v) k (g, n) := by
                   show layN _ k (lay1 _ _) = _
                   congr 1
                   exact if_neg (by rintro ⟨q1, q2⟩; first | exact q2 c45 | (rcases q1 with q | ⟨q3, q4⟩; exact absurd q c21; first | exact q3 c28 | exact q4 c35))
                 rw [e9]
                 refine px_drop (lv' := [(0, .ref 36), (1, .long v), (3, .int (nI (8 * (k)) - 8))]) ⟨rfl, rfl, px_si (sh_m _), trivial⟩ ?_
                 exact ih g n (by omega) hn6)
theorem c_X12_lay {h : PH} {v : Int64} (hL : px_L h) {g : Nat → Int32} {n : Nat} (hn6 : n ≤ 600) : PM M_X12_lay [.ref 36, .long v] (tapM h (g, n)) none (tapM h (layN (byM v) 8 (g, n))) := by
  refine PM.of (by decide +kernel) (by decide +kernel) (Nat.le_refl _) (Nat.le_refl _) (Nat.le_of_ble_eq_true rfl) ?_
  refine px_bipush (v := 56) d_X12_lay_0 (by decide) ?_
  refine px_istore_n d_X12_lay_2 rfl (by decide) ?_
  exact lp_X12_lay hL 8 g n (by omega) hn6
def lay8 (B : Nat → Int32) (s : (Nat → Int32) × Nat) : (Nat → Int32) × Nat := layN B 8 s
theorem lay8_le {B : Nat → Int32} {s : (Nat → Int32) × Nat} (h : s.2 ≤ 600) : (lay8 B s).2 ≤ 600 := layN_le h
theorem k_X9_takeBytes {h : PH} {v : Int64} (hL : px_L h) {s : (Nat → Int32) × Nat} (hs : s.2 ≤ 600) : PM M_X9_takeBytes [.ref 7, .long v] (tapC h s) none (tapC h (lay8 (byC v) s)) := by
  obtain ⟨g, n⟩ := s
  exact c_X9_takeBytes hL hs
theorem k_X12_lay {h : PH} {v : Int64} (hL : px_L h) {s : (Nat → Int32) × Nat} (hs : s.2 ≤ 600) : PM M_X12_lay [.ref 36, .long v] (tapM h s) none (tapM h (lay8 (byM v) s)) := by
  obtain ⟨g, n⟩ := s
  exact c_X12_lay hL hs
theorem nI_40 (a c : Nat) {x : Int32} (hx : x = nI c) : 40 * nI a + x = nI (40 * a + c) := by
  rw [hx]
  show Int32.ofNat 40 * Int32.ofNat a + Int32.ofNat c = Int32.ofNat (40 * a + c)
  rw [← Int32.ofNat_mul, ← Int32.ofNat_add]
theorem tapC_n (h : PH) (s s2 : (Nat → Int32) × Nat) : hn (tapC h s) ≤ hn (tapC h s2) ∧ hs (tapC h s) ≤ hs (tapC h s2) := ⟨Nat.le_refl (hn h), Nat.le_refl (hs h)⟩
theorem tapM_n (h : PH) (s s2 : (Nat → Int32) × Nat) : hn (tapM h s) ≤ hn (tapM h s2) ∧ hs (tapM h s) ≤ hs (tapM h s2) := ⟨Nat.le_refl (hn h), Nat.le_refl (hs h)⟩
def lay3 (A B C : Nat → Int32) (s : (Nat → Int32) × Nat) : (Nat → Int32) × Nat := lay8 C (lay8 B (lay8 A s))
theorem lay3_le {A B C : Nat → Int32} {s : (Nat → Int32) × Nat} (h : s.2 ≤ 600) : (lay3 A B C s).2 ≤ 600 := lay8_le (lay8_le (lay8_le h))
theorem lay8_E (a : Int64) (s : (Nat → Int32) × Nat) : lay8 (byC a) s = lay8 (byM a) s := layN_cg (fun j hj => byE a j hj)
theorem lay3_E (a b c : Int64) (s : (Nat → Int32) × Nat) : lay3 (byC a) (byC b) (byC c) s = lay3 (byM a) (byM b) (byM c) s := by
  unfold lay3
  rw [lay8_E a, lay8_E b, lay8_E c]
theorem c_X11_feed {h : PH} {a b c : Int64} (hL : px_L h) {n : Nat} (hs1 : hI h 7 1 = nI n) (hn6 : n ≤ 600) : PM M_X11_feed [.ref 0, .long a, .long b, .long c] h (some (.int (nI (lay3 (byC a) (byC b) (byC c) (hI h 8, n)).2))) (tapC h (lay3 (byC a) (byC b) (byC c) (hI h 8, n))) := by
  refine PM.of (by decide +kernel) (by decide +kernel) (Nat.le_refl _) (Nat.le_refl _) (Nat.le_of_ble_eq_true rfl) ?_
  refine px_aload_n d_X11_feed_0 rfl rfl ?_
  refine px_getR d_X11_feed_1 fl_X11_25 (by decide) (so0 hL) (sr0_2 hL) ?_
  refine px_lload_n d_X11_feed_4 rfl rfl ?_
  refine px_heap (h2 := tapC h (hI h 8, n)) ((tapC_self (h := h) hs1).symm) ?_
  refine px_callV (k_X9_takeBytes (h := h) hL (s := (hI h 8, n)) hn6) d_X11_feed_5 lk_X11_114 ok_X9_takeBytes ov_X9_takeBytes (so7 hL) (by decide) rfl rfl (Nat.le_of_ble_eq_true rfl) (by decide) (tapC_n _ _ _) ?_
  refine px_aload_n d_X11_feed_8 rfl rfl ?_
  refine px_getR d_X11_feed_9 fl_X11_25 (by decide) (so0 hL) (sr0_2 hL) ?_
  refine px_lload_n d_X11_feed_12 rfl rfl ?_
  refine px_callV (k_X9_takeBytes (h := h) hL (s := (lay8 (byC a) (hI h 8, n))) (lay8_le hn6)) d_X11_feed_13 lk_X11_114 ok_X9_takeBytes ov_X9_takeBytes (so7 hL) (by decide) rfl rfl (Nat.le_of_ble_eq_true rfl) (by decide) (tapC_n _ _ _) ?_
  refine px_aload_n d_X11_feed_16 rfl rfl ?_
  refine px_getR d_X11_feed_17 fl_X11_25 (by decide) (so0 hL) (sr0_2 hL) ?_
  refine px_lload d_X11_feed_20 rfl ?_
  refine px_callV (k_X9_takeBytes (h := h) hL (s := (lay8 (byC b) (lay8 (byC a) (hI h 8, n)))) (lay8_le (lay8_le hn6))) d_X11_feed_22 lk_X11_114 ok_X9_takeBytes ov_X9_takeBytes (so7 hL) (by decide) rfl rfl (Nat.le_of_ble_eq_true rfl) (by decide) (tapC_n _ _ _) ?_
  refine px_heap (h2 := tapC h (lay3 (byC a) (byC b) (byC c) (hI h 8, n))) rfl ?_
  refine px_aload_n d_X11_feed_25 rfl rfl ?_
  refine px_getR d_X11_feed_26 fl_X11_25 (by decide) (so0 hL) (sr0_2 hL) ?_
  refine px_getI d_X11_feed_29 fl_X11_118 rfl (so7 hL) ?_
  exact px_ireturn d_X11_feed_32 rfl rfl ⟨rfl, px_si (gI_s _ _ _ _), rfl⟩
theorem c_X12_feed {h : PH} {a b c : Int64} (hL : px_L h) {n : Nat} (hs1 : hI h 36 2 = nI n) (hn6 : n ≤ 600) : PM M_X12_feed [.ref 36, .long a, .long b, .long c] h (some (.int (nI (lay3 (byM a) (byM b) (byM c) (hI h 37, n)).2))) (tapM (pI h 36 0 0) (lay3 (byM a) (byM b) (byM c) (hI h 37, n))) := by
  refine PM.of (by decide +kernel) (by decide +kernel) (Nat.le_refl _) (Nat.le_refl _) (Nat.le_of_ble_eq_true rfl) ?_
  refine px_aload_n d_X12_feed_0 rfl rfl ?_
  refine px_iconst (v := 0) d_X12_feed_1 (by decide) ?_
  refine px_putI d_X12_feed_2 fl_X12_150 rfl (so36 hL) ?_
  refine px_aload_n d_X12_feed_5 rfl rfl ?_
  refine px_lload_n d_X12_feed_6 rfl rfl ?_
  refine px_heap (h2 := tapM (pI h 36 0 0) (hI h 37, n)) ((tapM_self (h := (pI h 36 0 0)) hs1).symm) ?_
  refine px_callV (k_X12_lay (h := (pI h 36 0 0)) hL (s := (hI h 37, n)) hn6) d_X12_feed_7 lk_X12_154 ok_X12_lay ov_X12_lay (so36 hL) (by decide) rfl rfl (Nat.le_of_ble_eq_true rfl) (by decide) (tapM_n _ _ _) ?_
  refine px_aload_n d_X12_feed_10 rfl rfl ?_
  refine px_lload_n d_X12_feed_11 rfl rfl ?_
  refine px_callV (k_X12_lay (h := (pI h 36 0 0)) hL (s := (lay8 (byM a) (hI h 37, n))) (lay8_le hn6)) d_X12_feed_12 lk_X12_154 ok_X12_lay ov_X12_lay (so36 hL) (by decide) rfl rfl (Nat.le_of_ble_eq_true rfl) (by decide) (tapM_n _ _ _) ?_
  refine px_aload_n d_X12_feed_15 rfl rfl ?_
  refine px_lload d_X12_feed_16 rfl ?_
  refine px_callV (k_X12_lay (h := (pI h 36 0 0)) hL (s := (lay8 (byM b) (lay8 (byM a) (hI h 37, n)))) (lay8_le (lay8_le hn6))) d_X12_feed_18 lk_X12_154 ok_X12_lay ov_X12_lay (so36 hL) (by decide) rfl rfl (Nat.le_of_ble_eq_true rfl) (by decide) (tapM_n _ _ _) ?_
  refine px_heap (h2 := tapM (pI h 36 0 0) (lay3 (byM a) (byM b) (byM c) (hI h 37, n))) rfl ?_
  refine px_aload_n d_X12_feed_21 rfl rfl ?_
  refine px_getI d_X12_feed_22 fl_X12_158 rfl (so36 hL) ?_
  exact px_ireturn d_X12_feed_25 rfl rfl ⟨rfl, px_si (gI_s _ _ _ _), rfl⟩
