/-! ===== the class's reader: clauses ===== -/
def StC (M : Mem) (r : Rw) : Prop := M 12 0 = nI (r 0) ∧ M 12 1 = nI (r 1) ∧ M 12 2 = nI (r 2) ∧ (∀ k, k < 5 → M 13 k = nI (r (5 + k)) ∧ M 14 k = nI (r (10 + k)) ∧ M 15 k = nI (r (15 + k)) ∧ M 16 k = nI (r (20 + k))) ∧ M 18 0 = nI (r 4) ∧ M 18 1 = nI 0 ∧ (∀ c, c < 20 → M 18 (2 + c) = nI (r 3) ∧ M 18 (22 + c) = nI 0) ∧ ∀ a, a < 5 → M 18 (42 + a) = nI (r (25 + a)) ∧ M 18 (47 + a) = nI (r (30 + a)) ∧ M 18 (52 + a) = nI (r (35 + a)) ∧ M 18 (57 + a) = nI 0
def finC (M : Mem) (n : Nat) (f : Nat → Nat) (s : Flt (Rw × Nat)) : Prop := match s with
  | .inl e => ∃ p td, RS M n f p (e.1, nI e.2) td
  | .inr x => RS M n f x.2 (0, -1) (x.1 40) ∧ StC M x.1
def LRD : List Nat := [11, 12, 13, 14, 15, 16, 18]
def hgM (M : Mem) (r : Nat) (k : Int32) (c : Nat) : Mem := fun a i => if a = r ∧ 2 ≤ i ∧ i < 2 + c then k else M a i
theorem hgM_ne {M : Mem} {r c a : Nat} {k : Int32} (h : a ≠ r) : hgM M r k c a = M a := by
  funext i
  unfold hgM
  rw [if_neg (fun q => h q.1)]
theorem hgM_in {M : Mem} {r c i : Nat} {k : Int32} (h : i < c) : hgM M r k c r (2 + i) = k := by
  unfold hgM
  rw [if_pos ⟨rfl, by omega, by omega⟩]
theorem hgM_out {M : Mem} {r c i : Nat} {k : Int32} (h : i < 2 ∨ 2 + c ≤ i) : hgM M r k c r i = M r i := by
  unfold hgM
  rw [if_neg (by omega)]
theorem hgM_0 {M : Mem} {r : Nat} {k : Int32} : hgM M r k 0 = M := by
  funext a i
  unfold hgM
  rw [if_neg (by omega)]
theorem hgM_s {M : Mem} {r c : Nat} {k : Int32} : xu (hgM M r k c) r (2 + c) k = hgM M r k (c + 1) := by
  funext a i
  unfold xu hgM
  by_cases ha : a = r
  · by_cases hi : i = 2 + c
    · rw [if_pos ⟨ha, hi⟩, if_pos ⟨ha, by omega, by omega⟩]
    · rw [if_neg (fun q => hi q.2)]
      by_cases hj : 2 ≤ i ∧ i < 2 + c
      · rw [if_pos ⟨ha, hj⟩, if_pos ⟨ha, by omega, by omega⟩]
      · rw [if_neg (fun q => hj q.2), if_neg (by omega)]
  · rw [if_neg (fun q => ha q.1), if_neg (fun q => ha q.1), if_neg (fun q => ha q.1)]
section READC2
variable {sh : xSh} {t rr h aw al am ah L : Nat} {M M' : Mem} {J : Nat → Nat → Int64} {n : Nat} {f : Nat → Nat} {p : Nat} {q : Nat × Int32} {td : Nat} {r : Rw}
theorem c_tellCloth (hH : isHouse sh h aw al am ah) {k : Nat} (hk : k < 5) {x y z : Int32} : ev (7, 0, [.ref h, .int (nI k), .int x, .int y, .int z], [], (sh, M, J)) = some (none, (sh, xu (xu (xu M aw k x) al k y) am k z, J)) := by
  obtain ⟨h1, h3, h4, h5, h6, k5, k6, k7, k8⟩ := hH
  have p5 := fun {M : Mem} {J : Nat → Nat → Int64} {v : Int32} => c_put (sh := sh) (M := M) (J := J) (v := v) k5 (by decide) hk
  have p6 := fun {M : Mem} {J : Nat → Nat → Int64} {v : Int32} => c_put (sh := sh) (M := M) (J := J) (v := v) k6 (by decide) hk
  have p7 := fun {M : Mem} {J : Nat → Nat → Int64} {v : Int32} => c_put (sh := sh) (M := M) (J := J) (v := v) k7 (by decide) hk
  simp (disch := omega) only [b_House_tellCloth_0, h1, h3, p5, b_House_tellCloth_9, h4, p6, b_House_tellCloth_18, h5, p7, b_House_tellCloth_28, li_0, li_1, li_2, li_3, li_4, li_5, li_6, li_7, li_8, li_9, li_10, li_11, li_12, li_13, li_14, li_15, li_16, li_17, li_18, li_19, li_20, li_21, li_22, li_23, li_24, li_25, li_26, li_27, li_28, li_29, li_30, li_31, li_32, li_33, li_34, li_35, li_36, li_37, li_38, li_39, li_40, li_41, li_42, li_43, li_44, li_45, li_46, li_47, li_48, li_49, li_50, li_51, li_52, li_53, li_54, li_55, li_56, li_57, li_58, li_59, li_60, li_61, li_62, li_63, li_99, li_100, li_107, li_124, li_126, li_240, li_255, li_256, li_1000, li_1178, li_1240, li_9000, li_65536, li_1000000, nI_add, pk_mul, nI_ltI, nI_leI, nI_eq, xin_nI, nI_clamp, decide_true, decide_false, Bool.and_true, Bool.true_and, Bool.and_false, Bool.false_and, Bool.not_true, Bool.not_false, cond_true, cond_false, Option.bind_some, Option.toList_some, Option.toList_none, List.cons_append, List.nil_append, List.append_nil, Nat.not_lt_zero, Nat.zero_le, Nat.le_refl, Nat.lt_irrefl, Nat.reduceLT, Nat.reduceLeDiff, Nat.reduceEqDiff, Nat.reduceAdd, Nat.reduceMul, Bool.toNat_true, Bool.toNat_false, Nat.add_zero, Nat.zero_add, Nat.succ_ne_zero, Nat.one_ne_zero, decide_eq_true, decide_eq_false, bb1, bb0, bbT, eq_self, reduceIte, and_self, and_true, true_and]
theorem c_tellHeight (hH : isHouse sh h aw al am ah) {k : Nat} (hk : k < 5) {x : Int32} : ev (8, 0, [.ref h, .int (nI k), .int x], [], (sh, M, J)) = some (none, (sh, xu M ah k x, J)) := by
  obtain ⟨h1, h3, h4, h5, h6, k5, k6, k7, k8⟩ := hH
  have p8 := fun {M : Mem} {J : Nat → Nat → Int64} {v : Int32} => c_put (sh := sh) (M := M) (J := J) (v := v) k8 (by decide) hk
  simp (disch := omega) only [b_House_tellHeight_0, h1, h6, p8, b_House_tellHeight_9, li_0, li_1, li_2, li_3, li_4, li_5, li_6, li_7, li_8, li_9, li_10, li_11, li_12, li_13, li_14, li_15, li_16, li_17, li_18, li_19, li_20, li_21, li_22, li_23, li_24, li_25, li_26, li_27, li_28, li_29, li_30, li_31, li_32, li_33, li_34, li_35, li_36, li_37, li_38, li_39, li_40, li_41, li_42, li_43, li_44, li_45, li_46, li_47, li_48, li_49, li_50, li_51, li_52, li_53, li_54, li_55, li_56, li_57, li_58, li_59, li_60, li_61, li_62, li_63, li_99, li_100, li_107, li_124, li_126, li_240, li_255, li_256, li_1000, li_1178, li_1240, li_9000, li_65536, li_1000000, nI_add, pk_mul, nI_ltI, nI_leI, nI_eq, xin_nI, nI_clamp, decide_true, decide_false, Bool.and_true, Bool.true_and, Bool.and_false, Bool.false_and, Bool.not_true, Bool.not_false, cond_true, cond_false, Option.bind_some, Option.toList_some, Option.toList_none, List.cons_append, List.nil_append, List.append_nil, Nat.not_lt_zero, Nat.zero_le, Nat.le_refl, Nat.lt_irrefl, Nat.reduceLT, Nat.reduceLeDiff, Nat.reduceEqDiff, Nat.reduceAdd, Nat.reduceMul, Bool.toNat_true, Bool.toNat_false, Nat.add_zero, Nat.zero_add, Nat.succ_ne_zero, Nat.one_ne_zero, decide_eq_true, decide_eq_false, bb1, bb0, bbT, eq_self, reduceIte, and_self, and_true, true_and]
theorem c_hangAll (hS : isScene sh t rr) {k : Int32} : ev (68, 0, [.ref t, .int k, .null], [], (sh, M, J)) = some (none, (sh, hgM M rr k 20, J)) := by
  obtain ⟨h1, h2, h3⟩ := hS
  have key := loop_inv (E := fun c (_ : Unit) => ev (68, 2, [.ref t, .int k, .int (nI c)], [], (sh, hgM M rr k c, J))) (R := some (none, (sh, hgM M rr k 20, J))) (fun _ _ => True) (n := 20) ?_ ?_ 20 0 () (by omega) trivial
  · rw [hgM_0] at key
    simp (disch := omega) only [b_Scene_hangAllOf_0, key, li_0, li_1, li_2, li_3, li_4, li_5, li_6, li_7, li_8, li_9, li_10, li_11, li_12, li_13, li_14, li_15, li_16, li_17, li_18, li_19, li_20, li_21, li_22, li_23, li_24, li_25, li_26, li_27, li_28, li_29, li_30, li_31, li_32, li_33, li_34, li_35, li_36, li_37, li_38, li_39, li_40, li_41, li_42, li_43, li_44, li_45, li_46, li_47, li_48, li_49, li_50, li_51, li_52, li_53, li_54, li_55, li_56, li_57, li_58, li_59, li_60, li_61, li_62, li_63, li_99, li_100, li_107, li_124, li_126, li_240, li_255, li_256, li_1000, li_1178, li_1240, li_9000, li_65536, li_1000000, nI_add, pk_mul, nI_ltI, nI_leI, nI_eq, xin_nI, nI_clamp, decide_true, decide_false, Bool.and_true, Bool.true_and, Bool.and_false, Bool.false_and, Bool.not_true, Bool.not_false, cond_true, cond_false, Option.bind_some, Option.toList_some, Option.toList_none, List.cons_append, List.nil_append, List.append_nil, Nat.not_lt_zero, Nat.zero_le, Nat.le_refl, Nat.lt_irrefl, Nat.reduceLT, Nat.reduceLeDiff, Nat.reduceEqDiff, Nat.reduceAdd, Nat.reduceMul, Bool.toNat_true, Bool.toNat_false, Nat.add_zero, Nat.zero_add, Nat.succ_ne_zero, Nat.one_ne_zero, decide_eq_true, decide_eq_false, bb1, bb0, bbT, eq_self, reduceIte, and_self, and_true, true_and]
  · intro _ _
    rw [b_Scene_hangAllOf_2]
    simp (disch := omega) only [li_0, li_1, li_2, li_3, li_4, li_5, li_6, li_7, li_8, li_9, li_10, li_11, li_12, li_13, li_14, li_15, li_16, li_17, li_18, li_19, li_20, li_21, li_22, li_23, li_24, li_25, li_26, li_27, li_28, li_29, li_30, li_31, li_32, li_33, li_34, li_35, li_36, li_37, li_38, li_39, li_40, li_41, li_42, li_43, li_44, li_45, li_46, li_47, li_48, li_49, li_50, li_51, li_52, li_53, li_54, li_55, li_56, li_57, li_58, li_59, li_60, li_61, li_62, li_63, li_99, li_100, li_107, li_124, li_126, li_240, li_255, li_256, li_1000, li_1178, li_1240, li_9000, li_65536, li_1000000, nI_add, pk_mul, nI_ltI, nI_leI, nI_eq, xin_nI, nI_clamp, decide_true, decide_false, Bool.and_true, Bool.true_and, Bool.and_false, Bool.false_and, Bool.not_true, Bool.not_false, cond_true, cond_false, Option.bind_some, Option.toList_some, Option.toList_none, List.cons_append, List.nil_append, List.append_nil, Nat.not_lt_zero, Nat.zero_le, Nat.le_refl, Nat.lt_irrefl, Nat.reduceLT, Nat.reduceLeDiff, Nat.reduceEqDiff, Nat.reduceAdd, Nat.reduceMul, Bool.toNat_true, Bool.toNat_false, Nat.add_zero, Nat.zero_add, Nat.succ_ne_zero, Nat.one_ne_zero, decide_eq_true, decide_eq_false, bb1, bb0, bbT, eq_self, reduceIte, and_self, and_true, true_and]
  · intro c _ hc _
    refine Or.inr ⟨(), ?_, trivial⟩
    have e1 : ¬ 20 ≤ c := by omega
    have e2 : 2 + c < 62 := by omega
    rw [b_Scene_hangAllOf_2]
    simp (disch := omega) only [h1, h2, h3, e1, e2, hgM_s, li_0, li_1, li_2, li_3, li_4, li_5, li_6, li_7, li_8, li_9, li_10, li_11, li_12, li_13, li_14, li_15, li_16, li_17, li_18, li_19, li_20, li_21, li_22, li_23, li_24, li_25, li_26, li_27, li_28, li_29, li_30, li_31, li_32, li_33, li_34, li_35, li_36, li_37, li_38, li_39, li_40, li_41, li_42, li_43, li_44, li_45, li_46, li_47, li_48, li_49, li_50, li_51, li_52, li_53, li_54, li_55, li_56, li_57, li_58, li_59, li_60, li_61, li_62, li_63, li_99, li_100, li_107, li_124, li_126, li_240, li_255, li_256, li_1000, li_1178, li_1240, li_9000, li_65536, li_1000000, nI_add, pk_mul, nI_ltI, nI_leI, nI_eq, xin_nI, nI_clamp, decide_true, decide_false, Bool.and_true, Bool.true_and, Bool.and_false, Bool.false_and, Bool.not_true, Bool.not_false, cond_true, cond_false, Option.bind_some, Option.toList_some, Option.toList_none, List.cons_append, List.nil_append, List.append_nil, Nat.not_lt_zero, Nat.zero_le, Nat.le_refl, Nat.lt_irrefl, Nat.reduceLT, Nat.reduceLeDiff, Nat.reduceEqDiff, Nat.reduceAdd, Nat.reduceMul, Bool.toNat_true, Bool.toNat_false, Nat.add_zero, Nat.zero_add, Nat.succ_ne_zero, Nat.one_ne_zero, decide_eq_true, decide_eq_false, bb1, bb0, bbT, eq_self, reduceIte, and_self, and_true, true_and]
theorem onlyL_o {l : List Nat} {a : Nat} (o : only M M' a) (ha : a ∈ l) : onlyL M M' l := onlyL_of o ha
theorem StC_o (h : StC M r) (h12 : M' 12 = M 12) (h13 : M' 13 = M 13) (h14 : M' 14 = M 14) (h15 : M' 15 = M 15) (h16 : M' 16 = M 16) (h18 : M' 18 = M 18) : StC M' r := by
  unfold StC
  rw [h12, h13, h14, h15, h16, h18]
  exact h
theorem StC_only (h : StC M r) (o : only M M' 11) : StC M' r := StC_o h (o 12 (by decide)) (o 13 (by decide)) (o 14 (by decide)) (o 15 (by decide)) (o 16 (by decide)) (o 18 (by decide))
theorem c_readCurtain (tx : txOk n f) (h : RS M n f p (0, -1) (r 40)) (hS : StC M r) (hp : p < n) : ∃ M', ev (46, 0, [.ref 11, .int (nI 1), .null, .null, .null], [], (xSH L, M, J)) = some (none, (xSH L, M', J)) ∧ onlyL M M' LRD ∧ finC M' n f (curtS n f p r) := by
  have h5 := h.2.1
  have hn := tx.1
  have R0 : RS (xu M 11 5 (nI (p + 1))) n f (p + 1) (0, -1) (r 40) := RS_5 h (by omega)
  obtain ⟨v1, p1, M1, e1, o1, a1, b1, R1, -, f1⟩ := c_number (L := L) (J := J) tx R0 (lo := 1) (hi := 5) (by decide) (by decide)
  obtain ⟨v2, p2, M2, e2, o2, a2, b2, R2, -, f2⟩ := c_number (L := L) (J := J) tx R1 (lo := 1) (hi := 4) (by decide) (by decide)
  obtain ⟨v3, p3, M3, e3, o3, a3, b3, R3, -, f3⟩ := c_number (L := L) (J := J) tx R2 (lo := 0) (hi := 4) (by decide) (by decide)
  obtain ⟨p4, M4, e4, o4, R4, f4⟩ := c_end (L := L) (J := J) tx R3
  have hs := sc17 L
  have hg := c_hangAll (M := xu (xu M4 12 0 (nI v1)) 12 1 (nI v2)) (J := J) (k := nI v3) hs
  have o : only M M4 11 := only_tr (only_tr (only_tr (only_tr only_xu o1) o2) o3) o4
  refine ⟨hgM (xu (xu M4 12 0 (nI v1)) 12 1 (nI v2)) 18 (nI v3) 20, ?_, ?_, ?_⟩
  · simp (disch := omega) only [b_Reader_readCurtain_0, h5, e1, b_Reader_readCurtain_30, e2, b_Reader_readCurtain_37, e3, b_Reader_readCurtain_44, e4, b_Reader_readCurtain_50, hg, b_Reader_readCurtain_75, kf_1, kf_2, kf_3, kf_4, kf_5, kf_6, kf_7, kf_8, kf_9, kf_10, kf_11, kf_12, kf_13, kf_14, kf_15, kf_16, kf_17, kf_18, kf_19, kf_20, kf_21, kf_22, kf_23, kf_24, kf_25, kf_26, kf_27, kf_28, kf_29, kf_30, kf_31, kf_32, kf_33, kf_34, kf_35, kf_36, kf_37, kf_38, kf_39, kf_40, kf_41, kf_42, kf_43, kf_44, kf_45, kf_46, kf_47, kf_48, kf_49, kf_50, kf_51, kf_52, kf_53, kf_54, rf_1_0, rf_1_1, rf_1_2, rf_1_3, rf_1_4, rf_1_5, rf_1_6, rf_1_7, rf_1_8, rf_2_3, rf_2_4, rf_2_5, rf_2_6, rf_7_0, rf_9_0, rf_11_0, rf_11_1, rf_11_4, rf_12_3, rf_12_4, rf_12_5, rf_12_6, rf_17_0, rf_20_1, rf_22_0, rf_22_1, rf_25_2, rf_25_3, rf_25_4, rf_25_5, rf_30_1, rf_30_2, rf_30_3, rf_30_4, rf_34_0, rf_36_0, rf_36_1, rf_36_2, rf_40_0, rf_40_1, rf_40_2, rf_40_3, rf_40_4, rf_40_6, rf_40_7, rf_40_9, rf_40_12, rf_40_14, rf_40_22, rf_40_23, rf_40_24, rf_40_25, li_0, li_1, li_2, li_3, li_4, li_5, li_6, li_7, li_8, li_9, li_10, li_11, li_12, li_13, li_14, li_15, li_16, li_17, li_18, li_19, li_20, li_21, li_22, li_23, li_24, li_25, li_26, li_27, li_28, li_29, li_30, li_31, li_32, li_33, li_34, li_35, li_36, li_37, li_38, li_39, li_40, li_41, li_42, li_43, li_44, li_45, li_46, li_47, li_48, li_49, li_50, li_51, li_52, li_53, li_54, li_55, li_56, li_57, li_58, li_59, li_60, li_61, li_62, li_63, li_99, li_100, li_107, li_124, li_126, li_240, li_255, li_256, li_1000, li_1178, li_1240, li_9000, li_65536, li_1000000, nI_add, pk_mul, nI_ltI, nI_leI, nI_eq, xin_nI, nI_clamp, decide_true, decide_false, Bool.and_true, Bool.true_and, Bool.and_false, Bool.false_and, Bool.not_true, Bool.not_false, cond_true, cond_false, Option.bind_some, Option.toList_some, Option.toList_none, List.cons_append, List.nil_append, List.append_nil, Nat.not_lt_zero, Nat.zero_le, Nat.le_refl, Nat.lt_irrefl, Nat.reduceLT, Nat.reduceLeDiff, Nat.reduceEqDiff, Nat.reduceAdd, Nat.reduceMul, Bool.toNat_true, Bool.toNat_false, Nat.add_zero, Nat.zero_add, Nat.succ_ne_zero, Nat.one_ne_zero, decide_eq_true, decide_eq_false, bb1, bb0, bbT, eq_self, reduceIte, and_self, and_true, true_and]
  · intro a ha
    have n11 : a ≠ 11 := fun z => ha (by rw [z]; decide)
    have n12 : a ≠ 12 := fun z => ha (by rw [z]; decide)
    have n18 : a ≠ 18 := fun z => ha (by rw [z]; decide)
    rw [hgM_ne n18, xu_ne n12, xu_ne n12, o a n11]
  · have k11 : hgM (xu (xu M4 12 0 (nI v1)) 12 1 (nI v2)) 18 (nI v3) 20 11 = M4 11 := by rw [hgM_ne (by decide), xu_ne (by decide), xu_ne (by decide)]
    have k19 : hgM (xu (xu M4 12 0 (nI v1)) 12 1 (nI v2)) 18 (nI v3) 20 19 = M4 19 := by rw [hgM_ne (by decide), xu_ne (by decide), xu_ne (by decide)]
    unfold curtS
    rcases s1 : numS n f 1 5 (p + 1) with e | x1
    · have ne := (numS_ne s1).1
      simp only [s1, fl_inl, fl_ne ne] at R4
      exact ⟨_, _, RS_o R4 k11 k19⟩
    obtain ⟨u1, w1⟩ := f1 _ s1
    subst u1; subst w1
    rw [sb_inr]
    rcases s2 : numS n f 1 4 x1.2 with e | x2
    · have ne := (numS_ne s2).1
      simp only [s1, fl_inr, s2, fl_inl, fl_ne ne] at R4
      exact ⟨_, _, RS_o R4 k11 k19⟩
    obtain ⟨u2, w2⟩ := f2 _ s2
    subst u2; subst w2
    rw [sb_inr]
    rcases s3 : numS n f 0 4 x2.2 with e | x3
    · have ne := (numS_ne s3).1
      simp only [s1, fl_inr, s2, s3, fl_inl, fl_ne ne] at R4
      exact ⟨_, _, RS_o R4 k11 k19⟩
    obtain ⟨u3, w3⟩ := f3 _ s3
    subst u3; subst w3
    rw [sb_inr]
    rcases s4 : endS n f x3.2 with e | x4
    · have ne := (endS_ne s4).1
      simp only [s1, fl_inr, s2, s3, s4, fl_inl, fl_ne ne] at R4
      exact ⟨_, _, RS_o R4 k11 k19⟩
    have w4 := f4 _ s4
    subst w4
    rw [sb_inr]
    simp only [s1, fl_inr, s2, s3, s4] at R4
    obtain ⟨t1, t2, t3, t4, t5, t6, t7, t8⟩ := StC_only hS o
    show RS _ n f p4 (0, -1) (upN (upN (upN r 0 x1.1) 1 x2.1) 3 x3.1 40) ∧ StC _ (upN (upN (upN r 0 x1.1) 1 x2.1) 3 x3.1)
    refine ⟨?_, ?_, ?_, ?_, fun k hk => ?_, ?_, ?_, fun c hc => ?_, fun a ha => ?_⟩
    · simp (disch := omega) only [upN_ne]
      exact RS_o R4 k11 k19
    · rw [hgM_ne (by decide)]
      simp (disch := omega) only [upN_ne, upN_at, xu_off, xu_at]
    · rw [hgM_ne (by decide)]
      simp (disch := omega) only [upN_ne, upN_at, xu_at]
    · rw [hgM_ne (by decide)]
      simp (disch := omega) only [upN_ne, xu_off]
      exact t3
    · rw [hgM_ne (by decide), hgM_ne (by decide), hgM_ne (by decide), hgM_ne (by decide)]
      simp (disch := omega) only [upN_ne, xu_ne]
      exact t4 k hk
    · rw [hgM_out (by omega)]
      simp (disch := omega) only [upN_ne, xu_ne]
      exact t5
    · rw [hgM_out (by omega)]
      simp (disch := omega) only [xu_ne]
      exact t6
    · rw [hgM_in hc, hgM_out (by omega)]
      simp (disch := omega) only [upN_at, xu_ne]
      exact ⟨trivial, (t7 c hc).2⟩
    · rw [hgM_out (by omega), hgM_out (by omega), hgM_out (by omega), hgM_out (by omega)]
      simp (disch := omega) only [upN_ne, xu_ne]
      exact t8 a ha
theorem c_readCloth (tx : txOk n f) (h : RS M n f p (0, -1) (r 40)) (hS : StC M r) (hr : rowOk r) (hp : p < n) : ∃ M', ev (47, 0, [.ref 11, .null, .null, .null, .null], [], (xSH L, M, J)) = some (none, (xSH L, M', J)) ∧ onlyL M M' LRD ∧ finC M' n f (clothS n f p r) := by
  have h5 := h.2.1
  have hn := tx.1
  have h40 := hr.2.2.2.2.2.2.2.1
  have R0 : RS (xu M 11 5 (nI (p + 1))) n f (p + 1) (0, -1) (r 40) := RS_5 h (by omega)
  obtain ⟨v1, p1, M1, e1, o1, a1, b1, R1, g1, f1⟩ := c_number (L := L) (J := J) tx R0 (lo := 0) (hi := 4) (by decide) (by decide)
  have h7 := R1.2.2.2.2.1
  have hb := c_hasBit (sh := xSH L) (M := M1) (J := J) (s := r 40) (j := v1) (by omega) (by omega)
  obtain ⟨Mf, qf, ef, of, Rf, hqf⟩ : ∃ Mf qf, ev (47, 16, [.ref 11, .null, .null, .null, .null], [.int (nI v1)], (xSH L, M1, J)) = ev (47, 37, [.ref 11, .int (nI v1), .null, .null, .null], [], (xSH L, Mf, J)) ∧ only M1 Mf 11 ∧ RS Mf n f p1 qf (r 40) ∧ qf = (if (r 40).testBit v1 = true then fl (fl (0, -1) (numS n f 0 4 (p + 1))) (.inl (4, skp n f (p + 1)) : Flt Unit) else fl (0, -1) (numS n f 0 4 (p + 1))) := by
    cases hbit : (r 40).testBit v1
    · rw [hbit] at hb
      refine ⟨M1, _, ?_, only_rf, R1, by rw [if_neg (by decide)]⟩
      rw [b_Reader_readCloth_37]
      simp (disch := omega) only [b_Reader_readCloth_16, h7, hb, b_Reader_readCloth_25, kf_1, kf_2, kf_3, kf_4, kf_5, kf_6, kf_7, kf_8, kf_9, kf_10, kf_11, kf_12, kf_13, kf_14, kf_15, kf_16, kf_17, kf_18, kf_19, kf_20, kf_21, kf_22, kf_23, kf_24, kf_25, kf_26, kf_27, kf_28, kf_29, kf_30, kf_31, kf_32, kf_33, kf_34, kf_35, kf_36, kf_37, kf_38, kf_39, kf_40, kf_41, kf_42, kf_43, kf_44, kf_45, kf_46, kf_47, kf_48, kf_49, kf_50, kf_51, kf_52, kf_53, kf_54, rf_1_0, rf_1_1, rf_1_2, rf_1_3, rf_1_4, rf_1_5, rf_1_6, rf_1_7, rf_1_8, rf_2_3, rf_2_4, rf_2_5, rf_2_6, rf_7_0, rf_9_0, rf_11_0, rf_11_1, rf_11_4, rf_12_3, rf_12_4, rf_12_5, rf_12_6, rf_17_0, rf_20_1, rf_22_0, rf_22_1, rf_25_2, rf_25_3, rf_25_4, rf_25_5, rf_30_1, rf_30_2, rf_30_3, rf_30_4, rf_34_0, rf_36_0, rf_36_1, rf_36_2, rf_40_0, rf_40_1, rf_40_2, rf_40_3, rf_40_4, rf_40_6, rf_40_7, rf_40_9, rf_40_12, rf_40_14, rf_40_22, rf_40_23, rf_40_24, rf_40_25, li_0, li_1, li_2, li_3, li_4, li_5, li_6, li_7, li_8, li_9, li_10, li_11, li_12, li_13, li_14, li_15, li_16, li_17, li_18, li_19, li_20, li_21, li_22, li_23, li_24, li_25, li_26, li_27, li_28, li_29, li_30, li_31, li_32, li_33, li_34, li_35, li_36, li_37, li_38, li_39, li_40, li_41, li_42, li_43, li_44, li_45, li_46, li_47, li_48, li_49, li_50, li_51, li_52, li_53, li_54, li_55, li_56, li_57, li_58, li_59, li_60, li_61, li_62, li_63, li_99, li_100, li_107, li_124, li_126, li_240, li_255, li_256, li_1000, li_1178, li_1240, li_9000, li_65536, li_1000000, nI_add, pk_mul, nI_ltI, nI_leI, nI_eq, xin_nI, nI_clamp, decide_true, decide_false, Bool.and_true, Bool.true_and, Bool.and_false, Bool.false_and, Bool.not_true, Bool.not_false, cond_true, cond_false, Option.bind_some, Option.toList_some, Option.toList_none, List.cons_append, List.nil_append, List.append_nil, Nat.not_lt_zero, Nat.zero_le, Nat.le_refl, Nat.lt_irrefl, Nat.reduceLT, Nat.reduceLeDiff, Nat.reduceEqDiff, Nat.reduceAdd, Nat.reduceMul, Bool.toNat_true, Bool.toNat_false, Nat.add_zero, Nat.zero_add, Nat.succ_ne_zero, Nat.one_ne_zero, decide_eq_true, decide_eq_false, bb1, bb0, bbT, eq_self, reduceIte, and_self, and_true, true_and]
    · rw [hbit] at hb
      obtain ⟨M2, m1, m2, m3, m4⟩ := c_fail (L := L) (J := J) R1 (k := 4) (w := skp n f (p + 1)) (by decide)
      refine ⟨M2, _, ?_, m2, m4, by rw [if_pos rfl]; rfl⟩
      simp (disch := omega) only [b_Reader_readCloth_16, h7, hb, b_Reader_readCloth_25, g1, m1, kf_1, kf_2, kf_3, kf_4, kf_5, kf_6, kf_7, kf_8, kf_9, kf_10, kf_11, kf_12, kf_13, kf_14, kf_15, kf_16, kf_17, kf_18, kf_19, kf_20, kf_21, kf_22, kf_23, kf_24, kf_25, kf_26, kf_27, kf_28, kf_29, kf_30, kf_31, kf_32, kf_33, kf_34, kf_35, kf_36, kf_37, kf_38, kf_39, kf_40, kf_41, kf_42, kf_43, kf_44, kf_45, kf_46, kf_47, kf_48, kf_49, kf_50, kf_51, kf_52, kf_53, kf_54, rf_1_0, rf_1_1, rf_1_2, rf_1_3, rf_1_4, rf_1_5, rf_1_6, rf_1_7, rf_1_8, rf_2_3, rf_2_4, rf_2_5, rf_2_6, rf_7_0, rf_9_0, rf_11_0, rf_11_1, rf_11_4, rf_12_3, rf_12_4, rf_12_5, rf_12_6, rf_17_0, rf_20_1, rf_22_0, rf_22_1, rf_25_2, rf_25_3, rf_25_4, rf_25_5, rf_30_1, rf_30_2, rf_30_3, rf_30_4, rf_34_0, rf_36_0, rf_36_1, rf_36_2, rf_40_0, rf_40_1, rf_40_2, rf_40_3, rf_40_4, rf_40_6, rf_40_7, rf_40_9, rf_40_12, rf_40_14, rf_40_22, rf_40_23, rf_40_24, rf_40_25, li_0, li_1, li_2, li_3, li_4, li_5, li_6, li_7, li_8, li_9, li_10, li_11, li_12, li_13, li_14, li_15, li_16, li_17, li_18, li_19, li_20, li_21, li_22, li_23, li_24, li_25, li_26, li_27, li_28, li_29, li_30, li_31, li_32, li_33, li_34, li_35, li_36, li_37, li_38, li_39, li_40, li_41, li_42, li_43, li_44, li_45, li_46, li_47, li_48, li_49, li_50, li_51, li_52, li_53, li_54, li_55, li_56, li_57, li_58, li_59, li_60, li_61, li_62, li_63, li_99, li_100, li_107, li_124, li_126, li_240, li_255, li_256, li_1000, li_1178, li_1240, li_9000, li_65536, li_1000000, nI_add, pk_mul, nI_ltI, nI_leI, nI_eq, xin_nI, nI_clamp, decide_true, decide_false, Bool.and_true, Bool.true_and, Bool.and_false, Bool.false_and, Bool.not_true, Bool.not_false, cond_true, cond_false, Option.bind_some, Option.toList_some, Option.toList_none, List.cons_append, List.nil_append, List.append_nil, Nat.not_lt_zero, Nat.zero_le, Nat.le_refl, Nat.lt_irrefl, Nat.reduceLT, Nat.reduceLeDiff, Nat.reduceEqDiff, Nat.reduceAdd, Nat.reduceMul, Bool.toNat_true, Bool.toNat_false, Nat.add_zero, Nat.zero_add, Nat.succ_ne_zero, Nat.one_ne_zero, decide_eq_true, decide_eq_false, bb1, bb0, bbT, eq_self, reduceIte, and_self, and_true, true_and]
  obtain ⟨v2, p2, M2, e2, o2, a2, b2, R2, -, f2⟩ := c_number (L := L) (J := J) tx Rf (lo := 0) (hi := 99) (by decide) (by decide)
  obtain ⟨v3, p3, M3, e3, o3, a3, b3, R3, -, f3⟩ := c_number (L := L) (J := J) tx R2 (lo := 0) (hi := 9) (by decide) (by decide)
  obtain ⟨v4, p4, M4, e4, o4, a4, b4, R4, -, f4⟩ := c_number (L := L) (J := J) tx R3 (lo := 1) (hi := 60) (by decide) (by decide)
  obtain ⟨p5, M5, e5, o5, R5, f5⟩ := c_end (L := L) (J := J) tx R4
  have hh := hs12 L
  have z7 := R5.2.2.2.2.1
  have hpw : (nI 1 : Int32) <<< (nI v1 &&& nI 31) = nI (2 ^ v1) := nI_shl1 (by omega)
  have tc := c_tellCloth (M := xu M5 11 7 (nI (r 40 ||| 2 ^ v1))) (J := J) (k := v1) (x := nI v2) (y := nI v3) (z := nI v4) hh (by omega)
  have o : only M M5 11 := only_tr (only_tr (only_tr (only_tr (only_tr (only_tr only_xu o1) of) o2) o3) o4) o5
  refine ⟨xu (xu (xu (xu M5 11 7 (nI (r 40 ||| 2 ^ v1))) 13 v1 (nI v2)) 14 v1 (nI v3)) 15 v1 (nI v4), ?_, ?_, ?_⟩
  · simp (disch := omega) only [b_Reader_readCloth_0, h5, e1, ef, b_Reader_readCloth_37, e2, b_Reader_readCloth_44, e3, b_Reader_readCloth_52, e4, b_Reader_readCloth_60, e5, b_Reader_readCloth_66, z7, hpw, nI_or, tc, b_Reader_readCloth_90, kf_1, kf_2, kf_3, kf_4, kf_5, kf_6, kf_7, kf_8, kf_9, kf_10, kf_11, kf_12, kf_13, kf_14, kf_15, kf_16, kf_17, kf_18, kf_19, kf_20, kf_21, kf_22, kf_23, kf_24, kf_25, kf_26, kf_27, kf_28, kf_29, kf_30, kf_31, kf_32, kf_33, kf_34, kf_35, kf_36, kf_37, kf_38, kf_39, kf_40, kf_41, kf_42, kf_43, kf_44, kf_45, kf_46, kf_47, kf_48, kf_49, kf_50, kf_51, kf_52, kf_53, kf_54, rf_1_0, rf_1_1, rf_1_2, rf_1_3, rf_1_4, rf_1_5, rf_1_6, rf_1_7, rf_1_8, rf_2_3, rf_2_4, rf_2_5, rf_2_6, rf_7_0, rf_9_0, rf_11_0, rf_11_1, rf_11_4, rf_12_3, rf_12_4, rf_12_5, rf_12_6, rf_17_0, rf_20_1, rf_22_0, rf_22_1, rf_25_2, rf_25_3, rf_25_4, rf_25_5, rf_30_1, rf_30_2, rf_30_3, rf_30_4, rf_34_0, rf_36_0, rf_36_1, rf_36_2, rf_40_0, rf_40_1, rf_40_2, rf_40_3, rf_40_4, rf_40_6, rf_40_7, rf_40_9, rf_40_12, rf_40_14, rf_40_22, rf_40_23, rf_40_24, rf_40_25, li_0, li_1, li_2, li_3, li_4, li_5, li_6, li_7, li_8, li_9, li_10, li_11, li_12, li_13, li_14, li_15, li_16, li_17, li_18, li_19, li_20, li_21, li_22, li_23, li_24, li_25, li_26, li_27, li_28, li_29, li_30, li_31, li_32, li_33, li_34, li_35, li_36, li_37, li_38, li_39, li_40, li_41, li_42, li_43, li_44, li_45, li_46, li_47, li_48, li_49, li_50, li_51, li_52, li_53, li_54, li_55, li_56, li_57, li_58, li_59, li_60, li_61, li_62, li_63, li_99, li_100, li_107, li_124, li_126, li_240, li_255, li_256, li_1000, li_1178, li_1240, li_9000, li_65536, li_1000000, nI_add, pk_mul, nI_ltI, nI_leI, nI_eq, xin_nI, nI_clamp, decide_true, decide_false, Bool.and_true, Bool.true_and, Bool.and_false, Bool.false_and, Bool.not_true, Bool.not_false, cond_true, cond_false, Option.bind_some, Option.toList_some, Option.toList_none, List.cons_append, List.nil_append, List.append_nil, Nat.not_lt_zero, Nat.zero_le, Nat.le_refl, Nat.lt_irrefl, Nat.reduceLT, Nat.reduceLeDiff, Nat.reduceEqDiff, Nat.reduceAdd, Nat.reduceMul, Bool.toNat_true, Bool.toNat_false, Nat.add_zero, Nat.zero_add, Nat.succ_ne_zero, Nat.one_ne_zero, decide_eq_true, decide_eq_false, bb1, bb0, bbT, eq_self, reduceIte, and_self, and_true, true_and]
  · refine onlyL_xu (onlyL_xu (onlyL_xu (onlyL_xu (onlyL_of o ?_) ?_) ?_) ?_) ?_ <;> decide
  · have k11 : xu (xu (xu (xu M5 11 7 (nI (r 40 ||| 2 ^ v1))) 13 v1 (nI v2)) 14 v1 (nI v3)) 15 v1 (nI v4) 11 = xu M5 11 7 (nI (r 40 ||| 2 ^ v1)) 11 := by rw [xu_ne (by decide), xu_ne (by decide), xu_ne (by decide)]
    have k19 : xu (xu (xu (xu M5 11 7 (nI (r 40 ||| 2 ^ v1))) 13 v1 (nI v2)) 14 v1 (nI v3)) 15 v1 (nI v4) 19 = xu M5 11 7 (nI (r 40 ||| 2 ^ v1)) 19 := by rw [xu_ne (by decide), xu_ne (by decide), xu_ne (by decide)]
    rw [hqf] at R5
    unfold clothS
    rcases s1 : numS n f 0 4 (p + 1) with e | x1
    · have ne := (numS_ne s1).1
      simp only [s1, fl_inl, fl_ne ne, ite_self] at R5
      exact ⟨_, _, RS_o (RS_7 R5) k11 k19⟩
    obtain ⟨u1, w1⟩ := f1 _ s1
    subst u1; subst w1
    rw [sb_inr]
    cases hbit : (r 40).testBit x1.1
    · rw [if_neg (by decide)]
      rw [hbit, if_neg (by decide)] at R5
      rcases s2 : numS n f 0 99 x1.2 with e | x2
      · have ne := (numS_ne s2).1
        simp only [s1, fl_inr, s2, fl_inl, fl_ne ne] at R5
        exact ⟨_, _, RS_o (RS_7 R5) k11 k19⟩
      obtain ⟨u2, w2⟩ := f2 _ s2
      subst u2; subst w2
      rw [sb_inr]
      rcases s3 : numS n f 0 9 x2.2 with e | x3
      · have ne := (numS_ne s3).1
        simp only [s1, fl_inr, s2, s3, fl_inl, fl_ne ne] at R5
        exact ⟨_, _, RS_o (RS_7 R5) k11 k19⟩
      obtain ⟨u3, w3⟩ := f3 _ s3
      subst u3; subst w3
      rw [sb_inr]
      rcases s4 : numS n f 1 60 x3.2 with e | x4
      · have ne := (numS_ne s4).1
        simp only [s1, fl_inr, s2, s3, s4, fl_inl, fl_ne ne] at R5
        exact ⟨_, _, RS_o (RS_7 R5) k11 k19⟩
      obtain ⟨u4, w4⟩ := f4 _ s4
      subst u4; subst w4
      rw [sb_inr]
      rcases s5 : endS n f x4.2 with e | x5
      · have ne := (endS_ne s5).1
        simp only [s1, fl_inr, s2, s3, s4, s5, fl_inl, fl_ne ne] at R5
        exact ⟨_, _, RS_o (RS_7 R5) k11 k19⟩
      have w5 := f5 _ s5
      subst w5
      rw [sb_inr]
      simp only [s1, fl_inr, s2, s3, s4, s5] at R5
      obtain ⟨t1, t2, t3, t4, t5, t6, t7, t8⟩ := StC_only hS o
      have hx1 : x1.1 < 5 := by omega
      generalize x1.1 = k1 at *
      show RS _ n f p5 (0, -1) (upN (upN (upN (upN r 40 (r 40 ||| 2 ^ k1)) (5 + k1) x2.1) (10 + k1) x3.1) (15 + k1) x4.1 40) ∧ StC _ (upN (upN (upN (upN r 40 (r 40 ||| 2 ^ k1)) (5 + k1) x2.1) (10 + k1) x3.1) (15 + k1) x4.1)
      refine ⟨?_, ?_, ?_, ?_, fun k hk => ?_, ?_, ?_, fun c hc => ?_, fun a ha => ?_⟩
      · simp (disch := omega) only [upN_ne, upN_at]
        exact RS_o (RS_7 R5) k11 k19
      · simp (disch := omega) only [upN_ne, xu_ne]
        exact t1
      · simp (disch := omega) only [upN_ne, xu_ne]
        exact t2
      · simp (disch := omega) only [upN_ne, xu_ne]
        exact t3
      · obtain ⟨q1, q2, q3, q4⟩ := t4 k hk
        by_cases hkk : k = k1
        · subst hkk
          simp (disch := omega) only [upN_ne, upN_at, xu_ne, xu_at]
          exact ⟨trivial, trivial, trivial, q4⟩
        · simp (disch := omega) only [upN_ne, xu_ne, xu_off]
          exact ⟨q1, q2, q3, q4⟩
      · simp (disch := omega) only [upN_ne, xu_ne]
        exact t5
      · simp (disch := omega) only [xu_ne]
        exact t6
      · simp (disch := omega) only [upN_ne, xu_ne]
        exact t7 c hc
      · simp (disch := omega) only [upN_ne, xu_ne]
        exact t8 a ha
    · rw [if_pos rfl]
      rw [hbit, if_pos rfl] at R5
      simp only [s1, fl_inr, fl_inl, fl_ne (show (4 : Nat) ≠ 0 by decide)] at R5
      exact ⟨_, _, RS_o (RS_7 R5) k11 k19⟩
theorem c_readHole (tx : txOk n f) (h : RS M n f p (0, -1) (r 40)) (hS : StC M r) (hr : rowOk r) (h0 : r 0 ≠ 0) (hp : p < n) : ∃ M', ev (48, 0, [.ref 11, .null], [], (xSH L, M, J)) = some (none, (xSH L, M', J)) ∧ onlyL M M' LRD ∧ finC M' n f (holeS n f p r) := by
  have h5 := h.2.1
  have hn := tx.1
  have hh := hs12 L
  have hs := sc17 L
  have hG0 : r 1 ≠ 0 := fun z => h0 (hr.2.2.2.1.mpr z)
  have hcl : 1 ≤ r 0 * r 1 := Nat.mul_pos (by omega) (by omega)
  have hc20 : r 0 * r 1 ≤ 20 := Nat.mul_le_mul hr.1 hr.2.1
  have h4 : r 4 < 2 ^ 20 := Nat.lt_of_lt_of_le hr.2.2.2.2.2.2.1 (Nat.pow_le_pow_right (by decide) hc20)
  have R0 : RS (xu M 11 5 (nI (p + 1))) n f (p + 1) (0, -1) (r 40) := RS_5 h (by omega)
  have w0 : xu M 11 5 (nI (p + 1)) 12 0 = nI (r 0) := by rw [xu_ne (by decide)]; exact hS.1
  have w1 : xu M 11 5 (nI (p + 1)) 12 1 = nI (r 1) := by rw [xu_ne (by decide)]; exact hS.2.1
  have hsub : nI (r 0 * r 1) - nI 1 = nI (r 0 * r 1 - 1) := pk_sub hcl
  obtain ⟨v1, p1, M1, e1, o1, a1, b1, R1, g1, f1⟩ := c_number (L := L) (J := J) tx R0 (lo := 0) (hi := r 0 * r 1 - 1) (by omega) (by omega)
  have hv20 : v1 < 20 := by omega
  have z18 : M1 18 0 = nI (r 4) := by rw [o1 18 (by decide), xu_ne (by decide)]; exact hS.2.2.2.2.1
  have hb := c_hasBit (sh := xSH L) (M := M1) (J := J) (s := r 4) (j := v1) (by omega) (by omega)
  obtain ⟨Mf, qf, ef, of, Rf, hqf⟩ : ∃ Mf qf, ev (48, 24, [.ref 11, .null], [.int (nI v1)], (xSH L, M1, J)) = ev (48, 48, [.ref 11, .int (nI v1)], [], (xSH L, Mf, J)) ∧ only M1 Mf 11 ∧ RS Mf n f p1 qf (r 40) ∧ qf = (if (r 4).testBit v1 = true then fl (fl (0, -1) (numS n f 0 (r 0 * r 1 - 1) (p + 1))) (.inl (4, skp n f (p + 1)) : Flt Unit) else fl (0, -1) (numS n f 0 (r 0 * r 1 - 1) (p + 1))) := by
    cases hbit : (r 4).testBit v1
    · rw [hbit] at hb
      refine ⟨M1, _, ?_, only_rf, R1, by rw [if_neg (by decide)]⟩
      rw [b_Reader_readHole_48]
      simp (disch := omega) only [b_Reader_readHole_24, c_holes hs, z18, b_Reader_readHole_32, hb, b_Reader_readHole_36, kf_1, kf_2, kf_3, kf_4, kf_5, kf_6, kf_7, kf_8, kf_9, kf_10, kf_11, kf_12, kf_13, kf_14, kf_15, kf_16, kf_17, kf_18, kf_19, kf_20, kf_21, kf_22, kf_23, kf_24, kf_25, kf_26, kf_27, kf_28, kf_29, kf_30, kf_31, kf_32, kf_33, kf_34, kf_35, kf_36, kf_37, kf_38, kf_39, kf_40, kf_41, kf_42, kf_43, kf_44, kf_45, kf_46, kf_47, kf_48, kf_49, kf_50, kf_51, kf_52, kf_53, kf_54, rf_1_0, rf_1_1, rf_1_2, rf_1_3, rf_1_4, rf_1_5, rf_1_6, rf_1_7, rf_1_8, rf_2_3, rf_2_4, rf_2_5, rf_2_6, rf_7_0, rf_9_0, rf_11_0, rf_11_1, rf_11_4, rf_12_3, rf_12_4, rf_12_5, rf_12_6, rf_17_0, rf_20_1, rf_22_0, rf_22_1, rf_25_2, rf_25_3, rf_25_4, rf_25_5, rf_30_1, rf_30_2, rf_30_3, rf_30_4, rf_34_0, rf_36_0, rf_36_1, rf_36_2, rf_40_0, rf_40_1, rf_40_2, rf_40_3, rf_40_4, rf_40_6, rf_40_7, rf_40_9, rf_40_12, rf_40_14, rf_40_22, rf_40_23, rf_40_24, rf_40_25, li_0, li_1, li_2, li_3, li_4, li_5, li_6, li_7, li_8, li_9, li_10, li_11, li_12, li_13, li_14, li_15, li_16, li_17, li_18, li_19, li_20, li_21, li_22, li_23, li_24, li_25, li_26, li_27, li_28, li_29, li_30, li_31, li_32, li_33, li_34, li_35, li_36, li_37, li_38, li_39, li_40, li_41, li_42, li_43, li_44, li_45, li_46, li_47, li_48, li_49, li_50, li_51, li_52, li_53, li_54, li_55, li_56, li_57, li_58, li_59, li_60, li_61, li_62, li_63, li_99, li_100, li_107, li_124, li_126, li_240, li_255, li_256, li_1000, li_1178, li_1240, li_9000, li_65536, li_1000000, nI_add, pk_mul, nI_ltI, nI_leI, nI_eq, xin_nI, nI_clamp, decide_true, decide_false, Bool.and_true, Bool.true_and, Bool.and_false, Bool.false_and, Bool.not_true, Bool.not_false, cond_true, cond_false, Option.bind_some, Option.toList_some, Option.toList_none, List.cons_append, List.nil_append, List.append_nil, Nat.not_lt_zero, Nat.zero_le, Nat.le_refl, Nat.lt_irrefl, Nat.reduceLT, Nat.reduceLeDiff, Nat.reduceEqDiff, Nat.reduceAdd, Nat.reduceMul, Bool.toNat_true, Bool.toNat_false, Nat.add_zero, Nat.zero_add, Nat.succ_ne_zero, Nat.one_ne_zero, decide_eq_true, decide_eq_false, bb1, bb0, bbT, eq_self, reduceIte, and_self, and_true, true_and]
    · rw [hbit] at hb
      obtain ⟨M2, m1, m2, m3, m4⟩ := c_fail (L := L) (J := J) R1 (k := 4) (w := skp n f (p + 1)) (by decide)
      refine ⟨M2, _, ?_, m2, m4, by rw [if_pos rfl]; rfl⟩
      simp (disch := omega) only [b_Reader_readHole_24, c_holes hs, z18, b_Reader_readHole_32, hb, b_Reader_readHole_36, g1, m1, kf_1, kf_2, kf_3, kf_4, kf_5, kf_6, kf_7, kf_8, kf_9, kf_10, kf_11, kf_12, kf_13, kf_14, kf_15, kf_16, kf_17, kf_18, kf_19, kf_20, kf_21, kf_22, kf_23, kf_24, kf_25, kf_26, kf_27, kf_28, kf_29, kf_30, kf_31, kf_32, kf_33, kf_34, kf_35, kf_36, kf_37, kf_38, kf_39, kf_40, kf_41, kf_42, kf_43, kf_44, kf_45, kf_46, kf_47, kf_48, kf_49, kf_50, kf_51, kf_52, kf_53, kf_54, rf_1_0, rf_1_1, rf_1_2, rf_1_3, rf_1_4, rf_1_5, rf_1_6, rf_1_7, rf_1_8, rf_2_3, rf_2_4, rf_2_5, rf_2_6, rf_7_0, rf_9_0, rf_11_0, rf_11_1, rf_11_4, rf_12_3, rf_12_4, rf_12_5, rf_12_6, rf_17_0, rf_20_1, rf_22_0, rf_22_1, rf_25_2, rf_25_3, rf_25_4, rf_25_5, rf_30_1, rf_30_2, rf_30_3, rf_30_4, rf_34_0, rf_36_0, rf_36_1, rf_36_2, rf_40_0, rf_40_1, rf_40_2, rf_40_3, rf_40_4, rf_40_6, rf_40_7, rf_40_9, rf_40_12, rf_40_14, rf_40_22, rf_40_23, rf_40_24, rf_40_25, li_0, li_1, li_2, li_3, li_4, li_5, li_6, li_7, li_8, li_9, li_10, li_11, li_12, li_13, li_14, li_15, li_16, li_17, li_18, li_19, li_20, li_21, li_22, li_23, li_24, li_25, li_26, li_27, li_28, li_29, li_30, li_31, li_32, li_33, li_34, li_35, li_36, li_37, li_38, li_39, li_40, li_41, li_42, li_43, li_44, li_45, li_46, li_47, li_48, li_49, li_50, li_51, li_52, li_53, li_54, li_55, li_56, li_57, li_58, li_59, li_60, li_61, li_62, li_63, li_99, li_100, li_107, li_124, li_126, li_240, li_255, li_256, li_1000, li_1178, li_1240, li_9000, li_65536, li_1000000, nI_add, pk_mul, nI_ltI, nI_leI, nI_eq, xin_nI, nI_clamp, decide_true, decide_false, Bool.and_true, Bool.true_and, Bool.and_false, Bool.false_and, Bool.not_true, Bool.not_false, cond_true, cond_false, Option.bind_some, Option.toList_some, Option.toList_none, List.cons_append, List.nil_append, List.append_nil, Nat.not_lt_zero, Nat.zero_le, Nat.le_refl, Nat.lt_irrefl, Nat.reduceLT, Nat.reduceLeDiff, Nat.reduceEqDiff, Nat.reduceAdd, Nat.reduceMul, Bool.toNat_true, Bool.toNat_false, Nat.add_zero, Nat.zero_add, Nat.succ_ne_zero, Nat.one_ne_zero, decide_eq_true, decide_eq_false, bb1, bb0, bbT, eq_self, reduceIte, and_self, and_true, true_and]
  obtain ⟨p2, M2, e2, o2, R2, f2⟩ := c_end (L := L) (J := J) tx Rf
  have o : only M M2 11 := only_tr (only_tr (only_tr only_xu o1) of) o2
  have y18 : M2 18 0 = nI (r 4) := by rw [o 18 (by decide)]; exact hS.2.2.2.2.1
  have op := c_open (J := J) hs hv20 y18
  refine ⟨xu M2 18 0 (nI (r 4 ||| 2 ^ v1)), ?_, ?_, ?_⟩
  · simp (disch := omega) only [b_Reader_readHole_0, h5, c_cells hh, w0, w1, b_Reader_readHole_19, hsub, e1, ef, b_Reader_readHole_48, e2, b_Reader_readHole_52, op, b_Reader_readHole_60, kf_1, kf_2, kf_3, kf_4, kf_5, kf_6, kf_7, kf_8, kf_9, kf_10, kf_11, kf_12, kf_13, kf_14, kf_15, kf_16, kf_17, kf_18, kf_19, kf_20, kf_21, kf_22, kf_23, kf_24, kf_25, kf_26, kf_27, kf_28, kf_29, kf_30, kf_31, kf_32, kf_33, kf_34, kf_35, kf_36, kf_37, kf_38, kf_39, kf_40, kf_41, kf_42, kf_43, kf_44, kf_45, kf_46, kf_47, kf_48, kf_49, kf_50, kf_51, kf_52, kf_53, kf_54, rf_1_0, rf_1_1, rf_1_2, rf_1_3, rf_1_4, rf_1_5, rf_1_6, rf_1_7, rf_1_8, rf_2_3, rf_2_4, rf_2_5, rf_2_6, rf_7_0, rf_9_0, rf_11_0, rf_11_1, rf_11_4, rf_12_3, rf_12_4, rf_12_5, rf_12_6, rf_17_0, rf_20_1, rf_22_0, rf_22_1, rf_25_2, rf_25_3, rf_25_4, rf_25_5, rf_30_1, rf_30_2, rf_30_3, rf_30_4, rf_34_0, rf_36_0, rf_36_1, rf_36_2, rf_40_0, rf_40_1, rf_40_2, rf_40_3, rf_40_4, rf_40_6, rf_40_7, rf_40_9, rf_40_12, rf_40_14, rf_40_22, rf_40_23, rf_40_24, rf_40_25, li_0, li_1, li_2, li_3, li_4, li_5, li_6, li_7, li_8, li_9, li_10, li_11, li_12, li_13, li_14, li_15, li_16, li_17, li_18, li_19, li_20, li_21, li_22, li_23, li_24, li_25, li_26, li_27, li_28, li_29, li_30, li_31, li_32, li_33, li_34, li_35, li_36, li_37, li_38, li_39, li_40, li_41, li_42, li_43, li_44, li_45, li_46, li_47, li_48, li_49, li_50, li_51, li_52, li_53, li_54, li_55, li_56, li_57, li_58, li_59, li_60, li_61, li_62, li_63, li_99, li_100, li_107, li_124, li_126, li_240, li_255, li_256, li_1000, li_1178, li_1240, li_9000, li_65536, li_1000000, nI_add, pk_mul, nI_ltI, nI_leI, nI_eq, xin_nI, nI_clamp, decide_true, decide_false, Bool.and_true, Bool.true_and, Bool.and_false, Bool.false_and, Bool.not_true, Bool.not_false, cond_true, cond_false, Option.bind_some, Option.toList_some, Option.toList_none, List.cons_append, List.nil_append, List.append_nil, Nat.not_lt_zero, Nat.zero_le, Nat.le_refl, Nat.lt_irrefl, Nat.reduceLT, Nat.reduceLeDiff, Nat.reduceEqDiff, Nat.reduceAdd, Nat.reduceMul, Bool.toNat_true, Bool.toNat_false, Nat.add_zero, Nat.zero_add, Nat.succ_ne_zero, Nat.one_ne_zero, decide_eq_true, decide_eq_false, bb1, bb0, bbT, eq_self, reduceIte, and_self, and_true, true_and]
  · refine onlyL_xu (onlyL_of o ?_) ?_ <;> decide
  · have k11 : xu M2 18 0 (nI (r 4 ||| 2 ^ v1)) 11 = M2 11 := by rw [xu_ne (by decide)]
    have k19 : xu M2 18 0 (nI (r 4 ||| 2 ^ v1)) 19 = M2 19 := by rw [xu_ne (by decide)]
    rw [hqf] at R2
    unfold holeS
    rcases s1 : numS n f 0 (r 0 * r 1 - 1) (p + 1) with e | x1
    · have ne := (numS_ne s1).1
      simp only [s1, fl_inl, fl_ne ne, ite_self] at R2
      exact ⟨_, _, RS_o R2 k11 k19⟩
    obtain ⟨u1, w1⟩ := f1 _ s1
    subst u1; subst w1
    rw [sb_inr]
    cases hbit : (r 4).testBit x1.1
    · rw [if_neg (by decide)]
      rw [hbit, if_neg (by decide)] at R2
      rcases s2 : endS n f x1.2 with e | x2
      · have ne := (endS_ne s2).1
        simp only [s1, fl_inr, s2, fl_inl, fl_ne ne] at R2
        exact ⟨_, _, RS_o R2 k11 k19⟩
      have w2 := f2 _ s2
      subst w2
      rw [sb_inr]
      simp only [s1, fl_inr, s2] at R2
      obtain ⟨t1, t2, t3, t4, t5, t6, t7, t8⟩ := StC_only hS o
      show RS _ n f p2 (0, -1) (upN r 4 (r 4 ||| 2 ^ x1.1) 40) ∧ StC _ (upN r 4 (r 4 ||| 2 ^ x1.1))
      refine ⟨?_, ?_, ?_, ?_, fun k hk => ?_, ?_, ?_, fun c hc => ?_, fun a ha => ?_⟩
      · simp (disch := omega) only [upN_ne]
        exact RS_o R2 k11 k19
      · simp (disch := omega) only [upN_ne, xu_ne]
        exact t1
      · simp (disch := omega) only [upN_ne, xu_ne]
        exact t2
      · simp (disch := omega) only [upN_ne, xu_ne]
        exact t3
      · simp (disch := omega) only [upN_ne, xu_ne]
        exact t4 k hk
      · simp only [upN_at, xu_at]
      · simp (disch := omega) only [xu_off]
        exact t6
      · simp (disch := omega) only [upN_ne, xu_off]
        exact t7 c hc
      · simp (disch := omega) only [upN_ne, xu_off]
        exact t8 a ha
    · rw [if_pos rfl]
      rw [hbit, if_pos rfl] at R2
      simp only [s1, fl_inr, fl_inl, fl_ne (show (4 : Nat) ≠ 0 by decide)] at R2
      exact ⟨_, _, RS_o R2 k11 k19⟩
theorem c_readActor (tx : txOk n f) (h : RS M n f p (0, -1) (r 40)) (hS : StC M r) (hr : rowOk r) (h0 : r 0 ≠ 0) (hp : p < n) : ∃ M', ev (49, 0, [.ref 11, .null, .null, .null, .null, .null], [], (xSH L, M, J)) = some (none, (xSH L, M', J)) ∧ onlyL M M' LRD ∧ finC M' n f (actS n f p r) := by
  have h5 := h.2.1
  have hn := tx.1
  have hh := hs12 L
  have hs := sc17 L
  have hA := hr.2.2.1
  have hW := hr.1
  have w2 := hS.2.2.1
  unfold actS
  by_cases hA5 : r 2 = 5
  · rw [if_pos hA5]
    obtain ⟨M2, m1, m2, m3, m4⟩ := c_fail (L := L) (J := J) h (k := 3) (w := p) (by decide)
    rw [hA5] at w2
    refine ⟨M2, ?_, onlyL_of m2 (by decide), ⟨_, _, m4⟩⟩
    simp (disch := omega) only [b_Reader_readActor_0, w2, h5, m1, b_Reader_readActor_22, kf_1, kf_2, kf_3, kf_4, kf_5, kf_6, kf_7, kf_8, kf_9, kf_10, kf_11, kf_12, kf_13, kf_14, kf_15, kf_16, kf_17, kf_18, kf_19, kf_20, kf_21, kf_22, kf_23, kf_24, kf_25, kf_26, kf_27, kf_28, kf_29, kf_30, kf_31, kf_32, kf_33, kf_34, kf_35, kf_36, kf_37, kf_38, kf_39, kf_40, kf_41, kf_42, kf_43, kf_44, kf_45, kf_46, kf_47, kf_48, kf_49, kf_50, kf_51, kf_52, kf_53, kf_54, rf_1_0, rf_1_1, rf_1_2, rf_1_3, rf_1_4, rf_1_5, rf_1_6, rf_1_7, rf_1_8, rf_2_3, rf_2_4, rf_2_5, rf_2_6, rf_7_0, rf_9_0, rf_11_0, rf_11_1, rf_11_4, rf_12_3, rf_12_4, rf_12_5, rf_12_6, rf_17_0, rf_20_1, rf_22_0, rf_22_1, rf_25_2, rf_25_3, rf_25_4, rf_25_5, rf_30_1, rf_30_2, rf_30_3, rf_30_4, rf_34_0, rf_36_0, rf_36_1, rf_36_2, rf_40_0, rf_40_1, rf_40_2, rf_40_3, rf_40_4, rf_40_6, rf_40_7, rf_40_9, rf_40_12, rf_40_14, rf_40_22, rf_40_23, rf_40_24, rf_40_25, li_0, li_1, li_2, li_3, li_4, li_5, li_6, li_7, li_8, li_9, li_10, li_11, li_12, li_13, li_14, li_15, li_16, li_17, li_18, li_19, li_20, li_21, li_22, li_23, li_24, li_25, li_26, li_27, li_28, li_29, li_30, li_31, li_32, li_33, li_34, li_35, li_36, li_37, li_38, li_39, li_40, li_41, li_42, li_43, li_44, li_45, li_46, li_47, li_48, li_49, li_50, li_51, li_52, li_53, li_54, li_55, li_56, li_57, li_58, li_59, li_60, li_61, li_62, li_63, li_99, li_100, li_107, li_124, li_126, li_240, li_255, li_256, li_1000, li_1178, li_1240, li_9000, li_65536, li_1000000, nI_add, pk_mul, nI_ltI, nI_leI, nI_eq, xin_nI, nI_clamp, decide_true, decide_false, Bool.and_true, Bool.true_and, Bool.and_false, Bool.false_and, Bool.not_true, Bool.not_false, cond_true, cond_false, Option.bind_some, Option.toList_some, Option.toList_none, List.cons_append, List.nil_append, List.append_nil, Nat.not_lt_zero, Nat.zero_le, Nat.le_refl, Nat.lt_irrefl, Nat.reduceLT, Nat.reduceLeDiff, Nat.reduceEqDiff, Nat.reduceAdd, Nat.reduceMul, Bool.toNat_true, Bool.toNat_false, Nat.add_zero, Nat.zero_add, Nat.succ_ne_zero, Nat.one_ne_zero, decide_eq_true, decide_eq_false, bb1, bb0, bbT, eq_self, reduceIte, and_self, and_true, true_and]
  rw [if_neg hA5]
  have hlt : r 2 < 5 := by omega
  have R0 : RS (xu M 11 5 (nI (p + 1))) n f (p + 1) (0, -1) (r 40) := RS_5 h (by omega)
  have w0 : xu M 11 5 (nI (p + 1)) 12 0 = nI (r 0) := by rw [xu_ne (by decide)]; exact hS.1
  have hsub : nI (r 0) - nI 1 = nI (r 0 - 1) := pk_sub (by omega)
  obtain ⟨v1, p1, M1, e1, o1, a1, b1, R1, -, f1⟩ := c_number (L := L) (J := J) tx R0 (lo := 0) (hi := r 0 - 1) (by omega) (by omega)
  obtain ⟨v2, p2, M2, e2, o2, a2, b2, R2, -, f2⟩ := c_number (L := L) (J := J) tx R1 (lo := 1) (hi := 4) (by decide) (by decide)
  obtain ⟨v3, p3, M3, e3, o3, a3, b3, R3, -, f3⟩ := c_number (L := L) (J := J) tx R2 (lo := 0) (hi := 4) (by decide) (by decide)
  obtain ⟨v4, p4, M4, e4, o4, a4, b4, R4, -, f4⟩ := c_number (L := L) (J := J) tx R3 (lo := 0) (hi := 9) (by decide) (by decide)
  obtain ⟨p5, M5, e5, o5, R5, f5⟩ := c_end (L := L) (J := J) tx R4
  have o : only M M5 11 := only_tr (only_tr (only_tr (only_tr (only_tr only_xu o1) o2) o3) o4) o5
  have th := c_tellHeight (M := xu M5 12 2 (nI (r 2 + 1))) (J := J) (k := r 2) (x := nI v2) hh hlt
  have pl := c_place (M := xu (xu M5 12 2 (nI (r 2 + 1))) 16 (r 2) (nI v2)) (J := J) (x := nI v1) hs hlt
  have ct := c_clothe (M := xu (xu (xu M5 12 2 (nI (r 2 + 1))) 16 (r 2) (nI v2)) 18 (42 + r 2) (nI v1)) (J := J) (k := nI v3) (n := nI v4) hs hlt
  refine ⟨xu (xu (xu (xu (xu M5 12 2 (nI (r 2 + 1))) 16 (r 2) (nI v2)) 18 (42 + r 2) (nI v1)) 18 (47 + r 2) (nI v3)) 18 (52 + r 2) (nI v4), ?_, ?_, ?_⟩
  · simp (disch := omega) only [b_Reader_readActor_0, w2, hlt, h5, w0, hsub, e1, b_Reader_readActor_47, e2, b_Reader_readActor_54, e3, b_Reader_readActor_61, e4, b_Reader_readActor_70, e5, b_Reader_readActor_76, th, b_Reader_readActor_95, pl, b_Reader_readActor_104, ct, b_Reader_readActor_116, kf_1, kf_2, kf_3, kf_4, kf_5, kf_6, kf_7, kf_8, kf_9, kf_10, kf_11, kf_12, kf_13, kf_14, kf_15, kf_16, kf_17, kf_18, kf_19, kf_20, kf_21, kf_22, kf_23, kf_24, kf_25, kf_26, kf_27, kf_28, kf_29, kf_30, kf_31, kf_32, kf_33, kf_34, kf_35, kf_36, kf_37, kf_38, kf_39, kf_40, kf_41, kf_42, kf_43, kf_44, kf_45, kf_46, kf_47, kf_48, kf_49, kf_50, kf_51, kf_52, kf_53, kf_54, rf_1_0, rf_1_1, rf_1_2, rf_1_3, rf_1_4, rf_1_5, rf_1_6, rf_1_7, rf_1_8, rf_2_3, rf_2_4, rf_2_5, rf_2_6, rf_7_0, rf_9_0, rf_11_0, rf_11_1, rf_11_4, rf_12_3, rf_12_4, rf_12_5, rf_12_6, rf_17_0, rf_20_1, rf_22_0, rf_22_1, rf_25_2, rf_25_3, rf_25_4, rf_25_5, rf_30_1, rf_30_2, rf_30_3, rf_30_4, rf_34_0, rf_36_0, rf_36_1, rf_36_2, rf_40_0, rf_40_1, rf_40_2, rf_40_3, rf_40_4, rf_40_6, rf_40_7, rf_40_9, rf_40_12, rf_40_14, rf_40_22, rf_40_23, rf_40_24, rf_40_25, li_0, li_1, li_2, li_3, li_4, li_5, li_6, li_7, li_8, li_9, li_10, li_11, li_12, li_13, li_14, li_15, li_16, li_17, li_18, li_19, li_20, li_21, li_22, li_23, li_24, li_25, li_26, li_27, li_28, li_29, li_30, li_31, li_32, li_33, li_34, li_35, li_36, li_37, li_38, li_39, li_40, li_41, li_42, li_43, li_44, li_45, li_46, li_47, li_48, li_49, li_50, li_51, li_52, li_53, li_54, li_55, li_56, li_57, li_58, li_59, li_60, li_61, li_62, li_63, li_99, li_100, li_107, li_124, li_126, li_240, li_255, li_256, li_1000, li_1178, li_1240, li_9000, li_65536, li_1000000, nI_add, pk_mul, nI_ltI, nI_leI, nI_eq, xin_nI, nI_clamp, decide_true, decide_false, Bool.and_true, Bool.true_and, Bool.and_false, Bool.false_and, Bool.not_true, Bool.not_false, cond_true, cond_false, Option.bind_some, Option.toList_some, Option.toList_none, List.cons_append, List.nil_append, List.append_nil, Nat.not_lt_zero, Nat.zero_le, Nat.le_refl, Nat.lt_irrefl, Nat.reduceLT, Nat.reduceLeDiff, Nat.reduceEqDiff, Nat.reduceAdd, Nat.reduceMul, Bool.toNat_true, Bool.toNat_false, Nat.add_zero, Nat.zero_add, Nat.succ_ne_zero, Nat.one_ne_zero, decide_eq_true, decide_eq_false, bb1, bb0, bbT, eq_self, reduceIte, and_self, and_true, true_and]
  · refine onlyL_xu (onlyL_xu (onlyL_xu (onlyL_xu (onlyL_xu (onlyL_of o ?_) ?_) ?_) ?_) ?_) ?_ <;> decide
  · have k11 : xu (xu (xu (xu (xu M5 12 2 (nI (r 2 + 1))) 16 (r 2) (nI v2)) 18 (42 + r 2) (nI v1)) 18 (47 + r 2) (nI v3)) 18 (52 + r 2) (nI v4) 11 = M5 11 := by
      rw [xu_ne (by decide), xu_ne (by decide), xu_ne (by decide), xu_ne (by decide), xu_ne (by decide)]
    have k19 : xu (xu (xu (xu (xu M5 12 2 (nI (r 2 + 1))) 16 (r 2) (nI v2)) 18 (42 + r 2) (nI v1)) 18 (47 + r 2) (nI v3)) 18 (52 + r 2) (nI v4) 19 = M5 19 := by
      rw [xu_ne (by decide), xu_ne (by decide), xu_ne (by decide), xu_ne (by decide), xu_ne (by decide)]
    rcases s1 : numS n f 0 (r 0 - 1) (p + 1) with e | x1
    · have ne := (numS_ne s1).1
      simp only [s1, fl_inl, fl_ne ne] at R5
      exact ⟨_, _, RS_o R5 k11 k19⟩
    obtain ⟨u1, w1⟩ := f1 _ s1
    subst u1; subst w1
    rw [sb_inr]
    rcases s2 : numS n f 1 4 x1.2 with e | x2
    · have ne := (numS_ne s2).1
      simp only [s1, fl_inr, s2, fl_inl, fl_ne ne] at R5
      exact ⟨_, _, RS_o R5 k11 k19⟩
    obtain ⟨u2, y2⟩ := f2 _ s2
    subst u2; subst y2
    rw [sb_inr]
    rcases s3 : numS n f 0 4 x2.2 with e | x3
    · have ne := (numS_ne s3).1
      simp only [s1, fl_inr, s2, s3, fl_inl, fl_ne ne] at R5
      exact ⟨_, _, RS_o R5 k11 k19⟩
    obtain ⟨u3, y3⟩ := f3 _ s3
    subst u3; subst y3
    rw [sb_inr]
    rcases s4 : numS n f 0 9 x3.2 with e | x4
    · have ne := (numS_ne s4).1
      simp only [s1, fl_inr, s2, s3, s4, fl_inl, fl_ne ne] at R5
      exact ⟨_, _, RS_o R5 k11 k19⟩
    obtain ⟨u4, y4⟩ := f4 _ s4
    subst u4; subst y4
    rw [sb_inr]
    rcases s5 : endS n f x4.2 with e | x5
    · have ne := (endS_ne s5).1
      simp only [s1, fl_inr, s2, s3, s4, s5, fl_inl, fl_ne ne] at R5
      exact ⟨_, _, RS_o R5 k11 k19⟩
    have y5 := f5 _ s5
    subst y5
    rw [sb_inr]
    simp only [s1, fl_inr, s2, s3, s4, s5] at R5
    obtain ⟨t1, t2, t3, t4, t5, t6, t7, t8⟩ := StC_only hS o
    clear th pl ct hsub w0 w2 hS
    generalize r 2 = A at *
    show RS _ n f p5 (0, -1) (upN (upN (upN (upN (upN r 2 (A + 1)) (25 + A) x1.1) (20 + A) x2.1) (30 + A) x3.1) (35 + A) x4.1 40) ∧ StC _ (upN (upN (upN (upN (upN r 2 (A + 1)) (25 + A) x1.1) (20 + A) x2.1) (30 + A) x3.1) (35 + A) x4.1)
    refine ⟨?_, ?_, ?_, ?_, fun k hk => ?_, ?_, ?_, fun c hc => ?_, fun a ha => ?_⟩
    · simp (disch := omega) only [upN_ne]
      exact RS_o R5 k11 k19
    · simp (disch := omega) only [upN_ne, xu_ne, xu_off]
      exact t1
    · simp (disch := omega) only [upN_ne, xu_ne, xu_off]
      exact t2
    · simp (disch := omega) only [upN_ne, upN_at, xu_ne, xu_at]
    · obtain ⟨q1, q2, q3, q4⟩ := t4 k hk
      by_cases hkk : k = A
      · subst hkk
        simp (disch := omega) only [upN_ne, upN_at, xu_ne, xu_at]
        exact ⟨q1, q2, q3, trivial⟩
      · simp (disch := omega) only [upN_ne, xu_ne, xu_off]
        exact ⟨q1, q2, q3, q4⟩
    · simp (disch := omega) only [upN_ne, xu_ne, xu_off]
      exact t5
    · simp (disch := omega) only [xu_ne, xu_off]
      exact t6
    · simp (disch := omega) only [upN_ne, xu_ne, xu_off]
      exact t7 c hc
    · obtain ⟨q1, q2, q3, q4⟩ := t8 a ha
      by_cases hkk : a = A
      · subst hkk
        simp (disch := omega) only [upN_ne, upN_at, xu_ne, xu_off, xu_at]
        exact ⟨trivial, trivial, trivial, q4⟩
      · simp (disch := omega) only [upN_ne, xu_ne, xu_off]
        exact ⟨q1, q2, q3, q4⟩
end READC2
