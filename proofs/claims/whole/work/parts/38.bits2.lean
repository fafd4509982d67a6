/-! ===== how many bits; least ===== -/
def pop : Nat → Nat → Nat
  | 0, _ => 0
  | n + 1, s => s % 2 + pop n (s / 2)
theorem pop_zero : ∀ n, pop n 0 = 0
  | 0 => rfl
  | n + 1 => by rw [pop, Nat.zero_div, pop_zero n]
theorem pop_ker : ∀ (n s : Nat), s < 2 ^ n → 0 < s → pop n (s &&& (s - 1)) + 1 = pop n s
  | 0, s, h, h0 => by omega
  | n + 1, s, h, h0 => by
    have hp : 2 ^ (n + 1) = 2 * 2 ^ n := by rw [Nat.pow_succ, Nat.mul_comm]
    rw [pop, pop, Nat.and_div_two]
    rcases Nat.mod_two_eq_zero_or_one s with hb | hb
    · have e1 : (s - 1) / 2 = s / 2 - 1 := by omega
      have e2 : (s &&& (s - 1)) % 2 = 0 := by
        rcases Nat.mod_two_eq_zero_or_one (s &&& (s - 1)) with q | q
        · exact q
        · rw [Nat.and_mod_two_eq_one] at q; omega
      rw [e1, e2, hb, Nat.zero_add, Nat.zero_add]
      exact pop_ker n (s / 2) (by omega) (by omega)
    · have e1 : (s - 1) / 2 = s / 2 := by omega
      have e2 : (s &&& (s - 1)) % 2 = 0 := by
        rcases Nat.mod_two_eq_zero_or_one (s &&& (s - 1)) with q | q
        · exact q
        · rw [Nat.and_mod_two_eq_one] at q; omega
      rw [e1, e2, hb, Nat.and_self]
      omega
theorem pop_le : ∀ (n s : Nat), pop n s ≤ n
  | 0, _ => Nat.le_refl 0
  | n + 1, s => by
    rw [pop]
    have := pop_le n (s / 2)
    omega
theorem and_split {a b c d : Nat} (ha : a < 16) (hc : c < 16) : (a + 16 * b) &&& (c + 16 * d) = (a &&& c) + 16 * (b &&& d) := by
  have h1 := Nat.and_div_two_pow (a := a + 16 * b) (b := c + 16 * d) (n := 4)
  have h2 := Nat.and_mod_two_pow (a := a + 16 * b) (b := c + 16 * d) (n := 4)
  rw [show (2 : Nat) ^ 4 = 16 from rfl] at h1 h2
  rw [show (a + 16 * b) / 16 = b by omega, show (c + 16 * d) / 16 = d by omega] at h1
  rw [show (a + 16 * b) % 16 = a by omega, show (c + 16 * d) % 16 = c by omega] at h2
  omega
def bF1 (m s : Nat) : Nat := s - (s / 2 &&& m)
def bF2 (m s : Nat) : Nat := (s &&& m) + (s / 4 &&& m)
def bG (t : Nat) : Nat :=
  let t3 := (t + t / 16) &&& 252645135
  let t4 := t3 + t3 / 256
  let t5 := t4 + t4 / 65536
  t5 &&& 63
theorem bF1_nib {n x d : Nat} (hn : n < 16) : bF1 (5 + 16 * d) (n + 16 * x) = bF1 5 n + 16 * bF1 d x := by
  unfold bF1
  have e1 : (n + 16 * x) / 2 = (n / 2 + 8 * (x % 2)) + 16 * (x / 2) := by omega
  rw [e1, and_split (by omega) (by decide)]
  have e2 : (n / 2 + 8 * (x % 2)) &&& 5 = n / 2 &&& 5 := by
    have : ∀ n, n < 16 → ∀ b, b < 2 → (n / 2 + 8 * b) &&& 5 = n / 2 &&& 5 := by decide
    exact this n hn _ (Nat.mod_lt _ (by decide))
  rw [e2]
  have h1 : n / 2 &&& 5 ≤ n / 2 := Nat.and_le_left
  have h2 : x / 2 &&& d ≤ x / 2 := Nat.and_le_left
  omega
theorem bF2_nib {n x d : Nat} (hn : n < 16) : bF2 (3 + 16 * d) (n + 16 * x) = bF2 3 n + 16 * bF2 d x := by
  unfold bF2
  have e1 : (n + 16 * x) / 4 = (n / 4 + 4 * (x % 4)) + 16 * (x / 4) := by omega
  rw [e1, and_split hn (by decide), and_split (by omega) (by decide)]
  have e2 : (n / 4 + 4 * (x % 4)) &&& 3 = n / 4 &&& 3 := by
    have : ∀ n, n < 16 → ∀ b, b < 4 → (n / 4 + 4 * b) &&& 3 = n / 4 &&& 3 := by decide
    exact this n hn _ (Nat.mod_lt _ (by decide))
  rw [e2]
  omega
theorem bF12_nib {n x d e : Nat} (hn : n < 16) : bF2 (3 + 16 * e) (bF1 (5 + 16 * d) (n + 16 * x)) = pop 4 n + 16 * bF2 e (bF1 d x) := by
  have h1 : ∀ n, n < 16 → bF1 5 n < 16 ∧ bF2 3 (bF1 5 n) = pop 4 n := by decide
  rw [bF1_nib hn, bF2_nib (h1 n hn).1, (h1 n hn).2]
theorem pop_nib {n x k : Nat} (hn : n < 16) : pop (k + 4) (n + 16 * x) = pop 4 n + pop k x := by
  show (n + 16 * x) % 2 + ((n + 16 * x) / 2 % 2 + ((n + 16 * x) / 2 / 2 % 2 + ((n + 16 * x) / 2 / 2 / 2 % 2 + pop k ((n + 16 * x) / 2 / 2 / 2 / 2)))) = n % 2 + (n / 2 % 2 + (n / 2 / 2 % 2 + (n / 2 / 2 / 2 % 2 + 0))) + pop k x
  rw [show (n + 16 * x) / 2 / 2 / 2 / 2 = x by omega]
  omega
theorem bG_all : ∀ c0, c0 < 5 → ∀ c1, c1 < 5 → ∀ c2, c2 < 5 → ∀ c3, c3 < 5 → ∀ c4, c4 < 5 → bG (c0 + 16 * (c1 + 16 * (c2 + 16 * (c3 + 16 * c4)))) = c0 + (c1 + (c2 + (c3 + c4))) := by decide +kernel
theorem bc_pop {s : Nat} (hs : s < 2 ^ 20) : bG (bF2 858993459 (bF1 1431655765 s)) = pop 20 s := by
  obtain ⟨n0, n1, n2, n3, n4, h0, h1, h2, h3, h4, rfl⟩ : ∃ n0 n1 n2 n3 n4, n0 < 16 ∧ n1 < 16 ∧ n2 < 16 ∧ n3 < 16 ∧ n4 < 16 ∧ s = n0 + 16 * (n1 + 16 * (n2 + 16 * (n3 + 16 * (n4 + 16 * 0)))) := ⟨s % 16, s / 16 % 16, s / 256 % 16, s / 4096 % 16, s / 65536 % 16, by omega, by omega, by omega, by omega, by omega, by omega⟩
  have hz : ∀ d e, bF2 e (bF1 d 0) = 0 := fun d e => by unfold bF1 bF2; simp
  rw [show 1431655765 = 5 + 16 * (5 + 16 * (5 + 16 * (5 + 16 * (5 + 16 * 1365)))) from rfl, show 858993459 = 3 + 16 * (3 + 16 * (3 + 16 * (3 + 16 * (3 + 16 * 819)))) from rfl]
  rw [bF12_nib h0, bF12_nib h1, bF12_nib h2, bF12_nib h3, bF12_nib h4, hz]
  have hp : ∀ n, n < 16 → pop 4 n < 5 := by decide
  rw [pop_nib (k := 16) h0, pop_nib (k := 12) h1, pop_nib (k := 8) h2, pop_nib (k := 4) h3, pop_nib (k := 0) h4]
  have := bG_all _ (hp n0 h0) _ (hp n1 h1) _ (hp n2 h2) _ (hp n3 h3) _ (hp n4 h4)
  rw [Nat.mul_zero, Nat.add_zero, this]
  rfl
theorem ushr1 {s : Nat} (hs : s < 2 ^ 32) : ((nI s).toUInt32 >>> ((1 : Int32).toUInt32 &&& Int32.toUInt32 31)).toInt32 = nI (s / 2) := by
  apply Int32.toBitVec_inj.mp
  apply BitVec.eq_of_toNat_eq
  show (BitVec.ofNat 32 s >>> (1 : Nat)).toNat = (BitVec.ofNat 32 (s / 2)).toNat
  rw [BitVec.toNat_ushiftRight, BitVec.toNat_ofNat, BitVec.toNat_ofNat, Nat.mod_eq_of_lt hs, Nat.mod_eq_of_lt (by omega), Nat.shiftRight_eq_div_pow]
theorem ushr2 {s : Nat} (hs : s < 2 ^ 32) : ((nI s).toUInt32 >>> ((2 : Int32).toUInt32 &&& Int32.toUInt32 31)).toInt32 = nI (s / 4) := by
  apply Int32.toBitVec_inj.mp
  apply BitVec.eq_of_toNat_eq
  show (BitVec.ofNat 32 s >>> (2 : Nat)).toNat = (BitVec.ofNat 32 (s / 4)).toNat
  rw [BitVec.toNat_ushiftRight, BitVec.toNat_ofNat, BitVec.toNat_ofNat, Nat.mod_eq_of_lt hs, Nat.mod_eq_of_lt (by omega), Nat.shiftRight_eq_div_pow]
theorem ushr4 {s : Nat} (hs : s < 2 ^ 32) : ((nI s).toUInt32 >>> ((4 : Int32).toUInt32 &&& Int32.toUInt32 31)).toInt32 = nI (s / 16) := by
  apply Int32.toBitVec_inj.mp
  apply BitVec.eq_of_toNat_eq
  show (BitVec.ofNat 32 s >>> (4 : Nat)).toNat = (BitVec.ofNat 32 (s / 16)).toNat
  rw [BitVec.toNat_ushiftRight, BitVec.toNat_ofNat, BitVec.toNat_ofNat, Nat.mod_eq_of_lt hs, Nat.mod_eq_of_lt (by omega), Nat.shiftRight_eq_div_pow]
theorem ushr8 {s : Nat} (hs : s < 2 ^ 32) : ((nI s).toUInt32 >>> ((8 : Int32).toUInt32 &&& Int32.toUInt32 31)).toInt32 = nI (s / 256) := by
  apply Int32.toBitVec_inj.mp
  apply BitVec.eq_of_toNat_eq
  show (BitVec.ofNat 32 s >>> (8 : Nat)).toNat = (BitVec.ofNat 32 (s / 256)).toNat
  rw [BitVec.toNat_ushiftRight, BitVec.toNat_ofNat, BitVec.toNat_ofNat, Nat.mod_eq_of_lt hs, Nat.mod_eq_of_lt (by omega), Nat.shiftRight_eq_div_pow]
theorem ushr16 {s : Nat} (hs : s < 2 ^ 32) : ((nI s).toUInt32 >>> ((16 : Int32).toUInt32 &&& Int32.toUInt32 31)).toInt32 = nI (s / 65536) := by
  apply Int32.toBitVec_inj.mp
  apply BitVec.eq_of_toNat_eq
  show (BitVec.ofNat 32 s >>> (16 : Nat)).toNat = (BitVec.ofNat 32 (s / 65536)).toNat
  rw [BitVec.toNat_ushiftRight, BitVec.toNat_ofNat, BitVec.toNat_ofNat, Nat.mod_eq_of_lt hs, Nat.mod_eq_of_lt (by omega), Nat.shiftRight_eq_div_pow]
section BITS2
variable {sh : xSh} {L : Nat} {M : Mem} {J : Nat → Nat → Int64} {g : Gh}
theorem c_bitCount {s : Nat} (hs : s < 2 ^ 20) : ev (202, 0, [.int (nI s)], [], (sh, M, J)) = some (some (.int (nI (pop 20 s))), (sh, M, J)) := by
  rw [b_Integer_bitCount_0, ← bc_pop hs, li_1431655765, li_858993459, li_252645135]
  have h0 : s / 2 &&& 1431655765 ≤ s / 2 := Nat.and_le_left
  have e1 : nI s - (((nI s).toUInt32 >>> ((1 : Int32).toUInt32 &&& Int32.toUInt32 31)).toInt32 &&& nI 1431655765) = nI (bF1 1431655765 s) := by
    rw [ushr1 (by omega), nI_and, pk_sub (by omega)]; rfl
  rw [e1]
  have b1 : bF1 1431655765 s ≤ s := by unfold bF1; omega
  generalize bF1 1431655765 s = t1 at *
  have h1 : t1 &&& 858993459 ≤ t1 := Nat.and_le_left
  have h2 : t1 / 4 &&& 858993459 ≤ t1 / 4 := Nat.and_le_left
  have e2 : (nI t1 &&& nI 858993459) + (((nI t1).toUInt32 >>> ((2 : Int32).toUInt32 &&& Int32.toUInt32 31)).toInt32 &&& nI 858993459) = nI (bF2 858993459 t1) := by
    rw [ushr2 (by omega), nI_and, nI_and, nI_add]; rfl
  rw [e2]
  have b2 : bF2 858993459 t1 ≤ 2 * t1 := by unfold bF2; omega
  generalize bF2 858993459 t1 = t2 at *
  have h3 : (t2 + t2 / 16) &&& 252645135 ≤ t2 + t2 / 16 := Nat.and_le_left
  rw [ushr4 (by omega), nI_add, nI_and]
  unfold bG
  dsimp only
  generalize (t2 + t2 / 16) &&& 252645135 = t3 at *
  rw [ushr8 (by omega), nI_add]
  have b4 : t3 + t3 / 256 < 2 ^ 31 := by omega
  generalize t3 + t3 / 256 = t4 at *
  rw [ushr16 (by omega), nI_add, show (63 : Int32) = nI 63 from rfl, nI_and]
theorem c_Rbits {s : Nat} (hs : s < 2 ^ 20) : ev (134, 0, [.int (nI s), .null, .null], [], (sh, M, J)) = some (some (.int (nI (pop 20 s))), (sh, M, J)) := by
  have key : ∀ (n s k : Nat), s < n → s < 2 ^ 20 → ev (134, 4, [.null, .int (nI k), .int (nI s)], [], (sh, M, J)) = some (some (.int (nI (k + pop 20 s))), (sh, M, J)) := by
    intro n
    induction n with
    | zero => intro s k h; omega
    | succ n ih =>
      intro s k hn hs
      rw [b_R_bits_4]
      by_cases h0 : s = 0
      · subst h0
        rw [pop_zero]
        simp (disch := omega) only [li_0, li_1, li_2, li_3, li_4, li_5, li_6, li_7, li_8, li_9, li_10, li_11, li_12, li_13, li_14, li_15, li_16, li_17, li_18, li_19, li_20, li_21, li_22, li_23, li_24, li_25, li_26, li_27, li_28, li_29, li_30, li_31, li_32, li_33, li_34, li_35, li_36, li_37, li_38, li_39, li_40, li_41, li_42, li_43, li_44, li_45, li_46, li_47, li_48, li_49, li_50, li_51, li_52, li_53, li_54, li_55, li_56, li_57, li_58, li_59, li_60, li_61, li_62, li_63, li_99, li_100, li_107, li_124, li_126, li_240, li_255, li_256, li_1000, li_1178, li_1240, li_9000, li_65536, li_1000000, nI_add, pk_mul, nI_ltI, nI_leI, nI_eq, xin_nI, nI_clamp, decide_true, decide_false, Bool.and_true, Bool.true_and, Bool.and_false, Bool.false_and, Bool.not_true, Bool.not_false, cond_true, cond_false, Option.bind_some, Option.toList_some, Option.toList_none, List.cons_append, List.nil_append, List.append_nil, Nat.not_lt_zero, Nat.zero_le, Nat.le_refl, Nat.lt_irrefl, Nat.reduceLT, Nat.reduceLeDiff, Nat.reduceEqDiff, Nat.reduceAdd, Nat.reduceMul, Bool.toNat_true, Bool.toNat_false, Nat.add_zero, Nat.zero_add, Nat.succ_ne_zero, Nat.one_ne_zero, decide_eq_true, decide_eq_false, bb1, bb0, bbT, eq_self, reduceIte, and_self, and_true, true_and]
      · have e1 : nI s - nI 1 = nI (s - 1) := pk_sub (by omega)
        have hle : s &&& (s - 1) ≤ s - 1 := Nat.and_le_right
        have hne : ¬ nI s = nI 0 := by rw [nI_eq (by omega) (by omega)]; exact h0
        have h1 := ih (s &&& (s - 1)) (k + 1) (by omega) (by omega)
        simp (disch := omega) only [hne, e1, nI_and, li_0, li_1, li_2, li_3, li_4, li_5, li_6, li_7, li_8, li_9, li_10, li_11, li_12, li_13, li_14, li_15, li_16, li_17, li_18, li_19, li_20, li_21, li_22, li_23, li_24, li_25, li_26, li_27, li_28, li_29, li_30, li_31, li_32, li_33, li_34, li_35, li_36, li_37, li_38, li_39, li_40, li_41, li_42, li_43, li_44, li_45, li_46, li_47, li_48, li_49, li_50, li_51, li_52, li_53, li_54, li_55, li_56, li_57, li_58, li_59, li_60, li_61, li_62, li_63, li_99, li_100, li_107, li_124, li_126, li_240, li_255, li_256, li_1000, li_1178, li_1240, li_9000, li_65536, li_1000000, nI_add, pk_mul, nI_ltI, nI_leI, nI_eq, xin_nI, nI_clamp, decide_true, decide_false, Bool.and_true, Bool.true_and, Bool.and_false, Bool.false_and, Bool.not_true, Bool.not_false, cond_true, cond_false, Option.bind_some, Option.toList_some, Option.toList_none, List.cons_append, List.nil_append, List.append_nil, Nat.not_lt_zero, Nat.zero_le, Nat.le_refl, Nat.lt_irrefl, Nat.reduceLT, Nat.reduceLeDiff, Nat.reduceEqDiff, Nat.reduceAdd, Nat.reduceMul, Bool.toNat_true, Bool.toNat_false, Nat.add_zero, Nat.zero_add, Nat.succ_ne_zero, Nat.one_ne_zero, decide_eq_true, decide_eq_false, bb1, bb0, bbT, eq_self, reduceIte, and_self, and_true, true_and]
        rw [h1, ← pop_ker 20 s hs (by omega)]
        rw [show k + 1 + pop 20 (s &&& s - 1) = k + (pop 20 (s &&& s - 1) + 1) by omega]
  rw [b_R_bits_0]
  have := key (s + 1) s 0 (by omega) hs
  rw [Nat.zero_add] at this
  exact this
theorem scH20 {H : Ho} {T : Sc} (ho : hoOk H) (hT : scOk H T) : sH T < 2 ^ 20 := Nat.lt_of_lt_of_le hT.1 (Nat.pow_le_pow_right (by decide) (hcells ho))
def firstP (p : Nat → Bool) : Nat → Nat → Int32
  | 0, _ => -1
  | k + 1, i => if p i then nI i else firstP p k (i + 1)
theorem firstP_s (p : Nat → Bool) (k i : Nat) : firstP p (k + 1) i = if p i then nI i else firstP p k (i + 1) := rfl
theorem op_least (hg : gOk g) (k t : Int32) : opOk L 109 187 [.ref 1, .int k, .int t, .null, .null, .null] [.ref 40, .int k, .int t, .null, .null] g := by
  have hh := hs2 L
  have hs := sc7 L
  have ho := hg.1
  have hT := hg.2.1
  by_cases hk : nI 0 ≤ k ∧ k ≤ nI 4
  · obtain ⟨j, hj, rfl⟩ := inR_c (by decide) hk
    have hj5 : j < 5 := by omega
    by_cases ht : nI 0 ≤ t ∧ t ≤ nI 99
    · have hp20 := pop_le 20 (sH (gT g))
      have h20 := scH20 ho hT
      refine ⟨firstP (fun p => !decide (nI (weight (gH g) (gT g) + p * hwt (gH g) j) / nI 50 < t)) (pop 20 (sH (gT g)) + 1) 0, g, hg, ansC_rd (fun M J hM => ?_), ansR_rd (fun M J hM => ?_)⟩
      · have ew := fun {J : Nat → Nat → Int64} => c_weight (J := J) hh hs hM.1 hM.2.1 ho hT
        have e0 := hM.2.1.1
        have ek := (hM.1.2.2.2 j hj5).1
        have ebc := fun {J : Nat → Nat → Int64} => c_bitCount (sh := xSH L) (M := M) (J := J) h20
        generalize pop 20 (sH (gT g)) = n at *
        have key := loop_inv (E := fun p (_ : Unit) => ev (109, 50, [.ref 1, .int (nI j), .int t, .int (nI (weight (gH g) (gT g))), .int (nI n), .int (nI p)], [], (xSH L, M, J))) (R := some (some (.int (firstP (fun p => !decide (nI (weight (gH g) (gT g) + p * hwt (gH g) j) / nI 50 < t)) (n + 1) 0)), (xSH L, M, J))) (fun p _ => firstP (fun p => !decide (nI (weight (gH g) (gT g) + p * hwt (gH g) j) / nI 50 < t)) (n + 1 - p) p = firstP (fun p => !decide (nI (weight (gH g) (gT g) + p * hwt (gH g) j) / nI 50 < t)) (n + 1) 0) (n := n + 1) ?_ ?_ (n + 1) 0 () (by omega) rfl
        · simp (disch := omega) only [b_C_least_0, c_isCloth, hj, b_C_least_4, c_isWithin, if_pos ht, b_C_least_17, ew, b_C_least_34, c_holes hs, e0, b_C_least_42, ebc, b_C_least_45, kf_1, kf_2, kf_3, kf_4, kf_5, kf_6, kf_7, kf_8, kf_9, kf_10, kf_11, kf_12, kf_13, kf_14, kf_15, kf_16, kf_17, kf_18, kf_19, kf_20, kf_21, kf_22, kf_23, kf_24, kf_25, kf_26, kf_27, kf_28, kf_29, kf_30, kf_31, kf_32, kf_33, kf_34, kf_35, kf_36, kf_37, kf_38, kf_39, kf_40, kf_41, kf_42, kf_43, kf_44, kf_45, kf_46, kf_47, kf_48, kf_49, kf_50, kf_51, kf_52, kf_53, kf_54, rf_1_0, rf_1_1, rf_1_2, rf_1_3, rf_1_4, rf_1_5, rf_1_6, rf_1_7, rf_1_8, rf_2_3, rf_2_4, rf_2_5, rf_2_6, rf_7_0, rf_9_0, rf_11_0, rf_11_1, rf_11_4, rf_12_3, rf_12_4, rf_12_5, rf_12_6, rf_17_0, rf_20_1, rf_22_0, rf_22_1, rf_25_2, rf_25_3, rf_25_4, rf_25_5, rf_30_1, rf_30_2, rf_30_3, rf_30_4, rf_34_0, rf_36_0, rf_36_1, rf_36_2, rf_40_0, rf_40_1, rf_40_2, rf_40_3, rf_40_4, rf_40_6, rf_40_7, rf_40_9, rf_40_12, rf_40_14, rf_40_22, rf_40_23, rf_40_24, rf_40_25, li_0, li_1, li_2, li_3, li_4, li_5, li_6, li_7, li_8, li_9, li_10, li_11, li_12, li_13, li_14, li_15, li_16, li_17, li_18, li_19, li_20, li_21, li_22, li_23, li_24, li_25, li_26, li_27, li_28, li_29, li_30, li_31, li_32, li_33, li_34, li_35, li_36, li_37, li_38, li_39, li_40, li_41, li_42, li_43, li_44, li_45, li_46, li_47, li_48, li_49, li_50, li_51, li_52, li_53, li_54, li_55, li_56, li_57, li_58, li_59, li_60, li_61, li_62, li_63, li_99, li_100, li_107, li_124, li_126, li_240, li_255, li_256, li_1000, li_1178, li_1240, li_9000, li_65536, li_1000000, nI_add, pk_mul, nI_ltI, nI_leI, nI_eq, xin_nI, nI_clamp, decide_true, decide_false, Bool.and_true, Bool.true_and, Bool.and_false, Bool.false_and, Bool.not_true, Bool.not_false, cond_true, cond_false, Option.bind_some, Option.toList_some, Option.toList_none, List.cons_append, List.nil_append, List.append_nil, Nat.not_lt_zero, Nat.zero_le, Nat.le_refl, Nat.lt_irrefl, Nat.reduceLT, Nat.reduceLeDiff, Nat.reduceEqDiff, Nat.reduceAdd, Nat.reduceMul, Bool.toNat_true, Bool.toNat_false, Nat.add_zero, Nat.zero_add, Nat.succ_ne_zero, Nat.one_ne_zero, decide_eq_true, decide_eq_false, bb1, bb0, bbT, eq_self, reduceIte, and_self, and_true, true_and]
          exact key
        · intro _ hi
          rw [Nat.sub_self] at hi
          rw [← hi, b_C_least_50]
          have q : n < n + 1 := by omega
          simp (disch := omega) only [q, kf_1, kf_2, kf_3, kf_4, kf_5, kf_6, kf_7, kf_8, kf_9, kf_10, kf_11, kf_12, kf_13, kf_14, kf_15, kf_16, kf_17, kf_18, kf_19, kf_20, kf_21, kf_22, kf_23, kf_24, kf_25, kf_26, kf_27, kf_28, kf_29, kf_30, kf_31, kf_32, kf_33, kf_34, kf_35, kf_36, kf_37, kf_38, kf_39, kf_40, kf_41, kf_42, kf_43, kf_44, kf_45, kf_46, kf_47, kf_48, kf_49, kf_50, kf_51, kf_52, kf_53, kf_54, rf_1_0, rf_1_1, rf_1_2, rf_1_3, rf_1_4, rf_1_5, rf_1_6, rf_1_7, rf_1_8, rf_2_3, rf_2_4, rf_2_5, rf_2_6, rf_7_0, rf_9_0, rf_11_0, rf_11_1, rf_11_4, rf_12_3, rf_12_4, rf_12_5, rf_12_6, rf_17_0, rf_20_1, rf_22_0, rf_22_1, rf_25_2, rf_25_3, rf_25_4, rf_25_5, rf_30_1, rf_30_2, rf_30_3, rf_30_4, rf_34_0, rf_36_0, rf_36_1, rf_36_2, rf_40_0, rf_40_1, rf_40_2, rf_40_3, rf_40_4, rf_40_6, rf_40_7, rf_40_9, rf_40_12, rf_40_14, rf_40_22, rf_40_23, rf_40_24, rf_40_25, li_0, li_1, li_2, li_3, li_4, li_5, li_6, li_7, li_8, li_9, li_10, li_11, li_12, li_13, li_14, li_15, li_16, li_17, li_18, li_19, li_20, li_21, li_22, li_23, li_24, li_25, li_26, li_27, li_28, li_29, li_30, li_31, li_32, li_33, li_34, li_35, li_36, li_37, li_38, li_39, li_40, li_41, li_42, li_43, li_44, li_45, li_46, li_47, li_48, li_49, li_50, li_51, li_52, li_53, li_54, li_55, li_56, li_57, li_58, li_59, li_60, li_61, li_62, li_63, li_99, li_100, li_107, li_124, li_126, li_240, li_255, li_256, li_1000, li_1178, li_1240, li_9000, li_65536, li_1000000, nI_add, pk_mul, nI_ltI, nI_leI, nI_eq, xin_nI, nI_clamp, decide_true, decide_false, Bool.and_true, Bool.true_and, Bool.and_false, Bool.false_and, Bool.not_true, Bool.not_false, cond_true, cond_false, Option.bind_some, Option.toList_some, Option.toList_none, List.cons_append, List.nil_append, List.append_nil, Nat.not_lt_zero, Nat.zero_le, Nat.le_refl, Nat.lt_irrefl, Nat.reduceLT, Nat.reduceLeDiff, Nat.reduceEqDiff, Nat.reduceAdd, Nat.reduceMul, Bool.toNat_true, Bool.toNat_false, Nat.add_zero, Nat.zero_add, Nat.succ_ne_zero, Nat.one_ne_zero, decide_eq_true, decide_eq_false, bb1, bb0, bbT, eq_self, reduceIte, and_self, and_true, true_and]
          rfl
        · intro p _ hlt hi
          have q : ¬ n < p := by omega
          rw [show n + 1 - p = (n - p) + 1 by omega, firstP_s] at hi
          rw [b_C_least_50]
          generalize weight (gH g) (gT g) = w at *
          have em : nI p * nI (hwt (gH g) j) = nI (p * hwt (gH g) j) := pk_mul _ _
          generalize hwt (gH g) j = wj at *
          by_cases hc : nI (w + p * wj) / nI 50 < t
          · rw [decide_eq_true hc, if_neg (by decide)] at hi
            refine Or.inr ⟨(), ?_, by rw [show n + 1 - (p + 1) = n - p by omega]; exact hi⟩
            generalize p * wj = pw at *
            simp (disch := omega) only [q, c_weightOf hh, ek, b_C_least_68, em, b_C_lateBy_0, b_C_least_73, hc, kf_1, kf_2, kf_3, kf_4, kf_5, kf_6, kf_7, kf_8, kf_9, kf_10, kf_11, kf_12, kf_13, kf_14, kf_15, kf_16, kf_17, kf_18, kf_19, kf_20, kf_21, kf_22, kf_23, kf_24, kf_25, kf_26, kf_27, kf_28, kf_29, kf_30, kf_31, kf_32, kf_33, kf_34, kf_35, kf_36, kf_37, kf_38, kf_39, kf_40, kf_41, kf_42, kf_43, kf_44, kf_45, kf_46, kf_47, kf_48, kf_49, kf_50, kf_51, kf_52, kf_53, kf_54, rf_1_0, rf_1_1, rf_1_2, rf_1_3, rf_1_4, rf_1_5, rf_1_6, rf_1_7, rf_1_8, rf_2_3, rf_2_4, rf_2_5, rf_2_6, rf_7_0, rf_9_0, rf_11_0, rf_11_1, rf_11_4, rf_12_3, rf_12_4, rf_12_5, rf_12_6, rf_17_0, rf_20_1, rf_22_0, rf_22_1, rf_25_2, rf_25_3, rf_25_4, rf_25_5, rf_30_1, rf_30_2, rf_30_3, rf_30_4, rf_34_0, rf_36_0, rf_36_1, rf_36_2, rf_40_0, rf_40_1, rf_40_2, rf_40_3, rf_40_4, rf_40_6, rf_40_7, rf_40_9, rf_40_12, rf_40_14, rf_40_22, rf_40_23, rf_40_24, rf_40_25, li_0, li_1, li_2, li_3, li_4, li_5, li_6, li_7, li_8, li_9, li_10, li_11, li_12, li_13, li_14, li_15, li_16, li_17, li_18, li_19, li_20, li_21, li_22, li_23, li_24, li_25, li_26, li_27, li_28, li_29, li_30, li_31, li_32, li_33, li_34, li_35, li_36, li_37, li_38, li_39, li_40, li_41, li_42, li_43, li_44, li_45, li_46, li_47, li_48, li_49, li_50, li_51, li_52, li_53, li_54, li_55, li_56, li_57, li_58, li_59, li_60, li_61, li_62, li_63, li_99, li_100, li_107, li_124, li_126, li_240, li_255, li_256, li_1000, li_1178, li_1240, li_9000, li_65536, li_1000000, nI_add, pk_mul, nI_ltI, nI_leI, nI_eq, xin_nI, nI_clamp, decide_true, decide_false, Bool.and_true, Bool.true_and, Bool.and_false, Bool.false_and, Bool.not_true, Bool.not_false, cond_true, cond_false, Option.bind_some, Option.toList_some, Option.toList_none, List.cons_append, List.nil_append, List.append_nil, Nat.not_lt_zero, Nat.zero_le, Nat.le_refl, Nat.lt_irrefl, Nat.reduceLT, Nat.reduceLeDiff, Nat.reduceEqDiff, Nat.reduceAdd, Nat.reduceMul, Bool.toNat_true, Bool.toNat_false, Nat.add_zero, Nat.zero_add, Nat.succ_ne_zero, Nat.one_ne_zero, decide_eq_true, decide_eq_false, bb1, bb0, bbT, eq_self, reduceIte, and_self, and_true, true_and]
          · rw [decide_eq_false hc, Bool.not_false, if_pos rfl] at hi
            refine Or.inl ?_
            rw [← hi]
            generalize p * wj = pw at *
            simp (disch := omega) only [q, c_weightOf hh, ek, b_C_least_68, em, b_C_lateBy_0, b_C_least_73, hc, kf_1, kf_2, kf_3, kf_4, kf_5, kf_6, kf_7, kf_8, kf_9, kf_10, kf_11, kf_12, kf_13, kf_14, kf_15, kf_16, kf_17, kf_18, kf_19, kf_20, kf_21, kf_22, kf_23, kf_24, kf_25, kf_26, kf_27, kf_28, kf_29, kf_30, kf_31, kf_32, kf_33, kf_34, kf_35, kf_36, kf_37, kf_38, kf_39, kf_40, kf_41, kf_42, kf_43, kf_44, kf_45, kf_46, kf_47, kf_48, kf_49, kf_50, kf_51, kf_52, kf_53, kf_54, rf_1_0, rf_1_1, rf_1_2, rf_1_3, rf_1_4, rf_1_5, rf_1_6, rf_1_7, rf_1_8, rf_2_3, rf_2_4, rf_2_5, rf_2_6, rf_7_0, rf_9_0, rf_11_0, rf_11_1, rf_11_4, rf_12_3, rf_12_4, rf_12_5, rf_12_6, rf_17_0, rf_20_1, rf_22_0, rf_22_1, rf_25_2, rf_25_3, rf_25_4, rf_25_5, rf_30_1, rf_30_2, rf_30_3, rf_30_4, rf_34_0, rf_36_0, rf_36_1, rf_36_2, rf_40_0, rf_40_1, rf_40_2, rf_40_3, rf_40_4, rf_40_6, rf_40_7, rf_40_9, rf_40_12, rf_40_14, rf_40_22, rf_40_23, rf_40_24, rf_40_25, li_0, li_1, li_2, li_3, li_4, li_5, li_6, li_7, li_8, li_9, li_10, li_11, li_12, li_13, li_14, li_15, li_16, li_17, li_18, li_19, li_20, li_21, li_22, li_23, li_24, li_25, li_26, li_27, li_28, li_29, li_30, li_31, li_32, li_33, li_34, li_35, li_36, li_37, li_38, li_39, li_40, li_41, li_42, li_43, li_44, li_45, li_46, li_47, li_48, li_49, li_50, li_51, li_52, li_53, li_54, li_55, li_56, li_57, li_58, li_59, li_60, li_61, li_62, li_63, li_99, li_100, li_107, li_124, li_126, li_240, li_255, li_256, li_1000, li_1178, li_1240, li_9000, li_65536, li_1000000, nI_add, pk_mul, nI_ltI, nI_leI, nI_eq, xin_nI, nI_clamp, decide_true, decide_false, Bool.and_true, Bool.true_and, Bool.and_false, Bool.false_and, Bool.not_true, Bool.not_false, cond_true, cond_false, Option.bind_some, Option.toList_some, Option.toList_none, List.cons_append, List.nil_append, List.append_nil, Nat.not_lt_zero, Nat.zero_le, Nat.le_refl, Nat.lt_irrefl, Nat.reduceLT, Nat.reduceLeDiff, Nat.reduceEqDiff, Nat.reduceAdd, Nat.reduceMul, Bool.toNat_true, Bool.toNat_false, Nat.add_zero, Nat.zero_add, Nat.succ_ne_zero, Nat.one_ne_zero, decide_eq_true, decide_eq_false, bb1, bb0, bbT, eq_self, reduceIte, and_self, and_true, true_and]
      · have ew := fun {J : Nat → Nat → Int64} => c_Rweight (L := L) (J := J) rfl hM.1 hM.2.1 ho hT
        have e0 := hM.2.1.1
        have ek := (hM.1.2.2.2 j hj5).1
        have ebc := fun {J : Nat → Nat → Int64} => c_Rbits (sh := xSH L) (M := M) (J := J) h20
        have i5 : 5 + j < 41 := by omega
        generalize pop 20 (sH (gT g)) = n at *
        have key := loop_inv (E := fun p (_ : Unit) => ev (187, 37, [.ref 40, .int (nI j), .int t, .int (nI (weight (gH g) (gT g))), .int (nI p)], [], (xSH L, M, J))) (R := some (some (.int (firstP (fun p => !decide (nI (weight (gH g) (gT g) + p * hwt (gH g) j) / nI 50 < t)) (n + 1) 0)), (xSH L, M, J))) (fun p _ => firstP (fun p => !decide (nI (weight (gH g) (gT g) + p * hwt (gH g) j) / nI 50 < t)) (n + 1 - p) p = firstP (fun p => !decide (nI (weight (gH g) (gT g) + p * hwt (gH g) j) / nI 50 < t)) (n + 1) 0) (n := n + 1) ?_ ?_ (n + 1) 0 () (by omega) rfl
        · simp (disch := omega) only [b_R_least_0, c_RisCloth, hj, b_R_least_4, ll_0, ll_99, c_Rin, if_pos ht, b_R_least_19, ew, b_R_least_33, kf_1, kf_2, kf_3, kf_4, kf_5, kf_6, kf_7, kf_8, kf_9, kf_10, kf_11, kf_12, kf_13, kf_14, kf_15, kf_16, kf_17, kf_18, kf_19, kf_20, kf_21, kf_22, kf_23, kf_24, kf_25, kf_26, kf_27, kf_28, kf_29, kf_30, kf_31, kf_32, kf_33, kf_34, kf_35, kf_36, kf_37, kf_38, kf_39, kf_40, kf_41, kf_42, kf_43, kf_44, kf_45, kf_46, kf_47, kf_48, kf_49, kf_50, kf_51, kf_52, kf_53, kf_54, rf_1_0, rf_1_1, rf_1_2, rf_1_3, rf_1_4, rf_1_5, rf_1_6, rf_1_7, rf_1_8, rf_2_3, rf_2_4, rf_2_5, rf_2_6, rf_7_0, rf_9_0, rf_11_0, rf_11_1, rf_11_4, rf_12_3, rf_12_4, rf_12_5, rf_12_6, rf_17_0, rf_20_1, rf_22_0, rf_22_1, rf_25_2, rf_25_3, rf_25_4, rf_25_5, rf_30_1, rf_30_2, rf_30_3, rf_30_4, rf_34_0, rf_36_0, rf_36_1, rf_36_2, rf_40_0, rf_40_1, rf_40_2, rf_40_3, rf_40_4, rf_40_6, rf_40_7, rf_40_9, rf_40_12, rf_40_14, rf_40_22, rf_40_23, rf_40_24, rf_40_25, li_0, li_1, li_2, li_3, li_4, li_5, li_6, li_7, li_8, li_9, li_10, li_11, li_12, li_13, li_14, li_15, li_16, li_17, li_18, li_19, li_20, li_21, li_22, li_23, li_24, li_25, li_26, li_27, li_28, li_29, li_30, li_31, li_32, li_33, li_34, li_35, li_36, li_37, li_38, li_39, li_40, li_41, li_42, li_43, li_44, li_45, li_46, li_47, li_48, li_49, li_50, li_51, li_52, li_53, li_54, li_55, li_56, li_57, li_58, li_59, li_60, li_61, li_62, li_63, li_99, li_100, li_107, li_124, li_126, li_240, li_255, li_256, li_1000, li_1178, li_1240, li_9000, li_65536, li_1000000, nI_add, pk_mul, nI_ltI, nI_leI, nI_eq, xin_nI, nI_clamp, decide_true, decide_false, Bool.and_true, Bool.true_and, Bool.and_false, Bool.false_and, Bool.not_true, Bool.not_false, cond_true, cond_false, Option.bind_some, Option.toList_some, Option.toList_none, List.cons_append, List.nil_append, List.append_nil, Nat.not_lt_zero, Nat.zero_le, Nat.le_refl, Nat.lt_irrefl, Nat.reduceLT, Nat.reduceLeDiff, Nat.reduceEqDiff, Nat.reduceAdd, Nat.reduceMul, Bool.toNat_true, Bool.toNat_false, Nat.add_zero, Nat.zero_add, Nat.succ_ne_zero, Nat.one_ne_zero, decide_eq_true, decide_eq_false, bb1, bb0, bbT, eq_self, reduceIte, and_self, and_true, true_and]
          exact key
        · intro _ hi
          rw [Nat.sub_self] at hi
          rw [← hi, b_R_least_37]
          have q : n < n + 1 := by omega
          simp (disch := omega) only [e0, ebc, b_R_least_49, q, kf_1, kf_2, kf_3, kf_4, kf_5, kf_6, kf_7, kf_8, kf_9, kf_10, kf_11, kf_12, kf_13, kf_14, kf_15, kf_16, kf_17, kf_18, kf_19, kf_20, kf_21, kf_22, kf_23, kf_24, kf_25, kf_26, kf_27, kf_28, kf_29, kf_30, kf_31, kf_32, kf_33, kf_34, kf_35, kf_36, kf_37, kf_38, kf_39, kf_40, kf_41, kf_42, kf_43, kf_44, kf_45, kf_46, kf_47, kf_48, kf_49, kf_50, kf_51, kf_52, kf_53, kf_54, rf_1_0, rf_1_1, rf_1_2, rf_1_3, rf_1_4, rf_1_5, rf_1_6, rf_1_7, rf_1_8, rf_2_3, rf_2_4, rf_2_5, rf_2_6, rf_7_0, rf_9_0, rf_11_0, rf_11_1, rf_11_4, rf_12_3, rf_12_4, rf_12_5, rf_12_6, rf_17_0, rf_20_1, rf_22_0, rf_22_1, rf_25_2, rf_25_3, rf_25_4, rf_25_5, rf_30_1, rf_30_2, rf_30_3, rf_30_4, rf_34_0, rf_36_0, rf_36_1, rf_36_2, rf_40_0, rf_40_1, rf_40_2, rf_40_3, rf_40_4, rf_40_6, rf_40_7, rf_40_9, rf_40_12, rf_40_14, rf_40_22, rf_40_23, rf_40_24, rf_40_25, li_0, li_1, li_2, li_3, li_4, li_5, li_6, li_7, li_8, li_9, li_10, li_11, li_12, li_13, li_14, li_15, li_16, li_17, li_18, li_19, li_20, li_21, li_22, li_23, li_24, li_25, li_26, li_27, li_28, li_29, li_30, li_31, li_32, li_33, li_34, li_35, li_36, li_37, li_38, li_39, li_40, li_41, li_42, li_43, li_44, li_45, li_46, li_47, li_48, li_49, li_50, li_51, li_52, li_53, li_54, li_55, li_56, li_57, li_58, li_59, li_60, li_61, li_62, li_63, li_99, li_100, li_107, li_124, li_126, li_240, li_255, li_256, li_1000, li_1178, li_1240, li_9000, li_65536, li_1000000, nI_add, pk_mul, nI_ltI, nI_leI, nI_eq, xin_nI, nI_clamp, decide_true, decide_false, Bool.and_true, Bool.true_and, Bool.and_false, Bool.false_and, Bool.not_true, Bool.not_false, cond_true, cond_false, Option.bind_some, Option.toList_some, Option.toList_none, List.cons_append, List.nil_append, List.append_nil, Nat.not_lt_zero, Nat.zero_le, Nat.le_refl, Nat.lt_irrefl, Nat.reduceLT, Nat.reduceLeDiff, Nat.reduceEqDiff, Nat.reduceAdd, Nat.reduceMul, Bool.toNat_true, Bool.toNat_false, Nat.add_zero, Nat.zero_add, Nat.succ_ne_zero, Nat.one_ne_zero, decide_eq_true, decide_eq_false, bb1, bb0, bbT, eq_self, reduceIte, and_self, and_true, true_and]
          rfl
        · intro p _ hlt hi
          have q : ¬ n < p := by omega
          rw [show n + 1 - p = (n - p) + 1 by omega, firstP_s] at hi
          rw [b_R_least_37]
          generalize weight (gH g) (gT g) = w at *
          have em : nI p * nI (hwt (gH g) j) = nI (p * hwt (gH g) j) := pk_mul _ _
          generalize hwt (gH g) j = wj at *
          by_cases hc : nI (w + p * wj) / nI 50 < t
          · rw [decide_eq_true hc, if_neg (by decide)] at hi
            refine Or.inr ⟨(), ?_, by rw [show n + 1 - (p + 1) = n - p by omega]; exact hi⟩
            generalize p * wj = pw at *
            simp (disch := omega) only [e0, ebc, b_R_least_49, q, ek, em, hc, i5, kf_1, kf_2, kf_3, kf_4, kf_5, kf_6, kf_7, kf_8, kf_9, kf_10, kf_11, kf_12, kf_13, kf_14, kf_15, kf_16, kf_17, kf_18, kf_19, kf_20, kf_21, kf_22, kf_23, kf_24, kf_25, kf_26, kf_27, kf_28, kf_29, kf_30, kf_31, kf_32, kf_33, kf_34, kf_35, kf_36, kf_37, kf_38, kf_39, kf_40, kf_41, kf_42, kf_43, kf_44, kf_45, kf_46, kf_47, kf_48, kf_49, kf_50, kf_51, kf_52, kf_53, kf_54, rf_1_0, rf_1_1, rf_1_2, rf_1_3, rf_1_4, rf_1_5, rf_1_6, rf_1_7, rf_1_8, rf_2_3, rf_2_4, rf_2_5, rf_2_6, rf_7_0, rf_9_0, rf_11_0, rf_11_1, rf_11_4, rf_12_3, rf_12_4, rf_12_5, rf_12_6, rf_17_0, rf_20_1, rf_22_0, rf_22_1, rf_25_2, rf_25_3, rf_25_4, rf_25_5, rf_30_1, rf_30_2, rf_30_3, rf_30_4, rf_34_0, rf_36_0, rf_36_1, rf_36_2, rf_40_0, rf_40_1, rf_40_2, rf_40_3, rf_40_4, rf_40_6, rf_40_7, rf_40_9, rf_40_12, rf_40_14, rf_40_22, rf_40_23, rf_40_24, rf_40_25, li_0, li_1, li_2, li_3, li_4, li_5, li_6, li_7, li_8, li_9, li_10, li_11, li_12, li_13, li_14, li_15, li_16, li_17, li_18, li_19, li_20, li_21, li_22, li_23, li_24, li_25, li_26, li_27, li_28, li_29, li_30, li_31, li_32, li_33, li_34, li_35, li_36, li_37, li_38, li_39, li_40, li_41, li_42, li_43, li_44, li_45, li_46, li_47, li_48, li_49, li_50, li_51, li_52, li_53, li_54, li_55, li_56, li_57, li_58, li_59, li_60, li_61, li_62, li_63, li_99, li_100, li_107, li_124, li_126, li_240, li_255, li_256, li_1000, li_1178, li_1240, li_9000, li_65536, li_1000000, nI_add, pk_mul, nI_ltI, nI_leI, nI_eq, xin_nI, nI_clamp, decide_true, decide_false, Bool.and_true, Bool.true_and, Bool.and_false, Bool.false_and, Bool.not_true, Bool.not_false, cond_true, cond_false, Option.bind_some, Option.toList_some, Option.toList_none, List.cons_append, List.nil_append, List.append_nil, Nat.not_lt_zero, Nat.zero_le, Nat.le_refl, Nat.lt_irrefl, Nat.reduceLT, Nat.reduceLeDiff, Nat.reduceEqDiff, Nat.reduceAdd, Nat.reduceMul, Bool.toNat_true, Bool.toNat_false, Nat.add_zero, Nat.zero_add, Nat.succ_ne_zero, Nat.one_ne_zero, decide_eq_true, decide_eq_false, bb1, bb0, bbT, eq_self, reduceIte, and_self, and_true, true_and]
          · rw [decide_eq_false hc, Bool.not_false, if_pos rfl] at hi
            refine Or.inl ?_
            rw [← hi]
            generalize p * wj = pw at *
            simp (disch := omega) only [e0, ebc, b_R_least_49, q, ek, em, hc, i5, kf_1, kf_2, kf_3, kf_4, kf_5, kf_6, kf_7, kf_8, kf_9, kf_10, kf_11, kf_12, kf_13, kf_14, kf_15, kf_16, kf_17, kf_18, kf_19, kf_20, kf_21, kf_22, kf_23, kf_24, kf_25, kf_26, kf_27, kf_28, kf_29, kf_30, kf_31, kf_32, kf_33, kf_34, kf_35, kf_36, kf_37, kf_38, kf_39, kf_40, kf_41, kf_42, kf_43, kf_44, kf_45, kf_46, kf_47, kf_48, kf_49, kf_50, kf_51, kf_52, kf_53, kf_54, rf_1_0, rf_1_1, rf_1_2, rf_1_3, rf_1_4, rf_1_5, rf_1_6, rf_1_7, rf_1_8, rf_2_3, rf_2_4, rf_2_5, rf_2_6, rf_7_0, rf_9_0, rf_11_0, rf_11_1, rf_11_4, rf_12_3, rf_12_4, rf_12_5, rf_12_6, rf_17_0, rf_20_1, rf_22_0, rf_22_1, rf_25_2, rf_25_3, rf_25_4, rf_25_5, rf_30_1, rf_30_2, rf_30_3, rf_30_4, rf_34_0, rf_36_0, rf_36_1, rf_36_2, rf_40_0, rf_40_1, rf_40_2, rf_40_3, rf_40_4, rf_40_6, rf_40_7, rf_40_9, rf_40_12, rf_40_14, rf_40_22, rf_40_23, rf_40_24, rf_40_25, li_0, li_1, li_2, li_3, li_4, li_5, li_6, li_7, li_8, li_9, li_10, li_11, li_12, li_13, li_14, li_15, li_16, li_17, li_18, li_19, li_20, li_21, li_22, li_23, li_24, li_25, li_26, li_27, li_28, li_29, li_30, li_31, li_32, li_33, li_34, li_35, li_36, li_37, li_38, li_39, li_40, li_41, li_42, li_43, li_44, li_45, li_46, li_47, li_48, li_49, li_50, li_51, li_52, li_53, li_54, li_55, li_56, li_57, li_58, li_59, li_60, li_61, li_62, li_63, li_99, li_100, li_107, li_124, li_126, li_240, li_255, li_256, li_1000, li_1178, li_1240, li_9000, li_65536, li_1000000, nI_add, pk_mul, nI_ltI, nI_leI, nI_eq, xin_nI, nI_clamp, decide_true, decide_false, Bool.and_true, Bool.true_and, Bool.and_false, Bool.false_and, Bool.not_true, Bool.not_false, cond_true, cond_false, Option.bind_some, Option.toList_some, Option.toList_none, List.cons_append, List.nil_append, List.append_nil, Nat.not_lt_zero, Nat.zero_le, Nat.le_refl, Nat.lt_irrefl, Nat.reduceLT, Nat.reduceLeDiff, Nat.reduceEqDiff, Nat.reduceAdd, Nat.reduceMul, Bool.toNat_true, Bool.toNat_false, Nat.add_zero, Nat.zero_add, Nat.succ_ne_zero, Nat.one_ne_zero, decide_eq_true, decide_eq_false, bb1, bb0, bbT, eq_self, reduceIte, and_self, and_true, true_and]
    · refine ⟨-1000000002, g, hg, ansC_rd (fun M J hM => ?_), ansR_rd (fun M J hM => ?_)⟩
      · simp (disch := omega) only [b_C_least_0, c_isCloth, hj, b_C_least_4, c_isWithin, if_neg ht, b_C_least_17, li_0, li_1, li_2, li_3, li_4, li_5, li_6, li_7, li_8, li_9, li_10, li_11, li_12, li_13, li_14, li_15, li_16, li_17, li_18, li_19, li_20, li_21, li_22, li_23, li_24, li_25, li_26, li_27, li_28, li_29, li_30, li_31, li_32, li_33, li_34, li_35, li_36, li_37, li_38, li_39, li_40, li_41, li_42, li_43, li_44, li_45, li_46, li_47, li_48, li_49, li_50, li_51, li_52, li_53, li_54, li_55, li_56, li_57, li_58, li_59, li_60, li_61, li_62, li_63, li_99, li_100, li_107, li_124, li_126, li_240, li_255, li_256, li_1000, li_1178, li_1240, li_9000, li_65536, li_1000000, nI_add, pk_mul, nI_ltI, nI_leI, nI_eq, xin_nI, nI_clamp, decide_true, decide_false, Bool.and_true, Bool.true_and, Bool.and_false, Bool.false_and, Bool.not_true, Bool.not_false, cond_true, cond_false, Option.bind_some, Option.toList_some, Option.toList_none, List.cons_append, List.nil_append, List.append_nil, Nat.not_lt_zero, Nat.zero_le, Nat.le_refl, Nat.lt_irrefl, Nat.reduceLT, Nat.reduceLeDiff, Nat.reduceEqDiff, Nat.reduceAdd, Nat.reduceMul, Bool.toNat_true, Bool.toNat_false, Nat.add_zero, Nat.zero_add, Nat.succ_ne_zero, Nat.one_ne_zero, decide_eq_true, decide_eq_false, bb1, bb0, bbT, eq_self, reduceIte, and_self, and_true, true_and]
      · simp (disch := omega) only [b_R_least_0, c_RisCloth, hj, b_R_least_4, ll_0, ll_99, c_Rin, if_neg ht, b_R_least_19, li_0, li_1, li_2, li_3, li_4, li_5, li_6, li_7, li_8, li_9, li_10, li_11, li_12, li_13, li_14, li_15, li_16, li_17, li_18, li_19, li_20, li_21, li_22, li_23, li_24, li_25, li_26, li_27, li_28, li_29, li_30, li_31, li_32, li_33, li_34, li_35, li_36, li_37, li_38, li_39, li_40, li_41, li_42, li_43, li_44, li_45, li_46, li_47, li_48, li_49, li_50, li_51, li_52, li_53, li_54, li_55, li_56, li_57, li_58, li_59, li_60, li_61, li_62, li_63, li_99, li_100, li_107, li_124, li_126, li_240, li_255, li_256, li_1000, li_1178, li_1240, li_9000, li_65536, li_1000000, nI_add, pk_mul, nI_ltI, nI_leI, nI_eq, xin_nI, nI_clamp, decide_true, decide_false, Bool.and_true, Bool.true_and, Bool.and_false, Bool.false_and, Bool.not_true, Bool.not_false, cond_true, cond_false, Option.bind_some, Option.toList_some, Option.toList_none, List.cons_append, List.nil_append, List.append_nil, Nat.not_lt_zero, Nat.zero_le, Nat.le_refl, Nat.lt_irrefl, Nat.reduceLT, Nat.reduceLeDiff, Nat.reduceEqDiff, Nat.reduceAdd, Nat.reduceMul, Bool.toNat_true, Bool.toNat_false, Nat.add_zero, Nat.zero_add, Nat.succ_ne_zero, Nat.one_ne_zero, decide_eq_true, decide_eq_false, bb1, bb0, bbT, eq_self, reduceIte, and_self, and_true, true_and]
  · refine ⟨-1000000001, g, hg, ansC_rd (fun M J hM => ?_), ansR_rd (fun M J hM => ?_)⟩
    · simp (disch := omega) only [b_C_least_0, c_isCloth, if_neg hk, b_C_least_4, li_0, li_1, li_2, li_3, li_4, li_5, li_6, li_7, li_8, li_9, li_10, li_11, li_12, li_13, li_14, li_15, li_16, li_17, li_18, li_19, li_20, li_21, li_22, li_23, li_24, li_25, li_26, li_27, li_28, li_29, li_30, li_31, li_32, li_33, li_34, li_35, li_36, li_37, li_38, li_39, li_40, li_41, li_42, li_43, li_44, li_45, li_46, li_47, li_48, li_49, li_50, li_51, li_52, li_53, li_54, li_55, li_56, li_57, li_58, li_59, li_60, li_61, li_62, li_63, li_99, li_100, li_107, li_124, li_126, li_240, li_255, li_256, li_1000, li_1178, li_1240, li_9000, li_65536, li_1000000, nI_add, pk_mul, nI_ltI, nI_leI, nI_eq, xin_nI, nI_clamp, decide_true, decide_false, Bool.and_true, Bool.true_and, Bool.and_false, Bool.false_and, Bool.not_true, Bool.not_false, cond_true, cond_false, Option.bind_some, Option.toList_some, Option.toList_none, List.cons_append, List.nil_append, List.append_nil, Nat.not_lt_zero, Nat.zero_le, Nat.le_refl, Nat.lt_irrefl, Nat.reduceLT, Nat.reduceLeDiff, Nat.reduceEqDiff, Nat.reduceAdd, Nat.reduceMul, Bool.toNat_true, Bool.toNat_false, Nat.add_zero, Nat.zero_add, Nat.succ_ne_zero, Nat.one_ne_zero, decide_eq_true, decide_eq_false, bb1, bb0, bbT, eq_self, reduceIte, and_self, and_true, true_and]
    · simp (disch := omega) only [b_R_least_0, c_RisCloth, if_neg hk, b_R_least_4, li_0, li_1, li_2, li_3, li_4, li_5, li_6, li_7, li_8, li_9, li_10, li_11, li_12, li_13, li_14, li_15, li_16, li_17, li_18, li_19, li_20, li_21, li_22, li_23, li_24, li_25, li_26, li_27, li_28, li_29, li_30, li_31, li_32, li_33, li_34, li_35, li_36, li_37, li_38, li_39, li_40, li_41, li_42, li_43, li_44, li_45, li_46, li_47, li_48, li_49, li_50, li_51, li_52, li_53, li_54, li_55, li_56, li_57, li_58, li_59, li_60, li_61, li_62, li_63, li_99, li_100, li_107, li_124, li_126, li_240, li_255, li_256, li_1000, li_1178, li_1240, li_9000, li_65536, li_1000000, nI_add, pk_mul, nI_ltI, nI_leI, nI_eq, xin_nI, nI_clamp, decide_true, decide_false, Bool.and_true, Bool.true_and, Bool.and_false, Bool.false_and, Bool.not_true, Bool.not_false, cond_true, cond_false, Option.bind_some, Option.toList_some, Option.toList_none, List.cons_append, List.nil_append, List.append_nil, Nat.not_lt_zero, Nat.zero_le, Nat.le_refl, Nat.lt_irrefl, Nat.reduceLT, Nat.reduceLeDiff, Nat.reduceEqDiff, Nat.reduceAdd, Nat.reduceMul, Bool.toNat_true, Bool.toNat_false, Nat.add_zero, Nat.zero_add, Nat.succ_ne_zero, Nat.one_ne_zero, decide_eq_true, decide_eq_false, bb1, bb0, bbT, eq_self, reduceIte, and_self, and_true, true_and]
end BITS2
