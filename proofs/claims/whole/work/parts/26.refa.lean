/-! ===== the reference's small methods, its weight, its LEANS ===== -/
theorem ll_0 : (0 : Int64) = (nI 0).toInt64 := by decide
theorem ll_1 : (1 : Int64) = (nI 1).toInt64 := by decide
theorem ll_2 : (2 : Int64) = (nI 2).toInt64 := by decide
theorem ll_3 : (3 : Int64) = (nI 3).toInt64 := by decide
theorem ll_4 : (4 : Int64) = (nI 4).toInt64 := by decide
theorem ll_5 : (5 : Int64) = (nI 5).toInt64 := by decide
theorem ll_9 : (9 : Int64) = (nI 9).toInt64 := by decide
theorem ll_15 : (15 : Int64) = (nI 15).toInt64 := by decide
theorem ll_19 : (19 : Int64) = (nI 19).toInt64 := by decide
theorem ll_20 : (20 : Int64) = (nI 20).toInt64 := by decide
theorem ll_48 : (48 : Int64) = (nI 48).toInt64 := by decide
theorem ll_57 : (57 : Int64) = (nI 57).toInt64 := by decide
theorem ll_60 : (60 : Int64) = (nI 60).toInt64 := by decide
theorem ll_99 : (99 : Int64) = (nI 99).toInt64 := by decide
theorem ll_100 : (100 : Int64) = (nI 100).toInt64 := by decide
theorem ll_255 : (255 : Int64) = (nI 255).toInt64 := by decide
theorem cmp_lt {a b : Int32} : lg_cmp a.toInt64 b.toInt64 < 0 ↔ a < b := by
  unfold lg_cmp
  have e1 : a.toInt64 > b.toInt64 ↔ b < a := by rw [gt_iff_lt, Int64.lt_iff_toInt_lt, Int32.toInt_toInt64, Int32.toInt_toInt64, Int32.lt_iff_toInt_lt]
  have e2 : a.toInt64 = b.toInt64 ↔ a = b := by rw [← Int64.toInt_inj, Int32.toInt_toInt64, Int32.toInt_toInt64, Int32.toInt_inj]
  by_cases h1 : b < a
  · have h2 : ¬ a < b := fun q => Int32.lt_irrefl (Int32.lt_trans q h1)
    simp only [e1, h1, if_true, h2]
    decide
  · by_cases h3 : a = b
    · subst h3
      simp only [e1, h1, if_false, if_true]
      simp
    · have h4 : a < b := by
        rw [Int32.lt_iff_toInt_lt] at h1 ⊢
        have : a.toInt ≠ b.toInt := fun q => h3 (Int32.toInt_inj.mp q)
        omega
      simp only [e1, e2, h1, h3, if_false, h4]
      decide
theorem cmp_gt {a b : Int32} : 0 < lg_cmp a.toInt64 b.toInt64 ↔ b < a := by
  unfold lg_cmp
  have e1 : a.toInt64 > b.toInt64 ↔ b < a := by rw [gt_iff_lt, Int64.lt_iff_toInt_lt, Int32.toInt_toInt64, Int32.toInt_toInt64, Int32.lt_iff_toInt_lt]
  have e2 : a.toInt64 = b.toInt64 ↔ a = b := by rw [← Int64.toInt_inj, Int32.toInt_toInt64, Int32.toInt_toInt64, Int32.toInt_inj]
  by_cases h1 : b < a
  · simp only [e1, h1, if_true]
    decide
  · by_cases h3 : a = b
    · subst h3
      simp only [e1, h1, if_false, if_true]
      simp
    · simp only [e1, e2, h1, h3, if_false]
      decide
section REFA
variable {sh : xSh} {L r : Nat} {M : Mem} {J : Nat → Nat → Int64} {H : Ho} {T : Sc}
theorem c_Rin {v lo hi : Int32} : ev (132, 0, [.long v.toInt64, .null, .long lo.toInt64, .null, .long hi.toInt64, .null], [], (sh, M, J)) = some (some (.int (if lo ≤ v ∧ v ≤ hi then 1 else 0)), (sh, M, J)) := by
  rw [b_R_in_0]
  simp only [cmp_lt, cmp_gt]
  by_cases h1 : lo ≤ v
  · have h1' : ¬ v < lo := Int32.not_lt.mpr h1
    by_cases h2 : v ≤ hi
    · have h2' : ¬ hi < v := Int32.not_lt.mpr h2
      simp [h1, h1', h2, h2']
    · have h2' : hi < v := Int32.not_le.mp h2
      simp [h1, h1', h2, h2']
  · have h1' : v < lo := Int32.not_le.mp h1
    simp [h1, h1']
theorem c_Rhas {s j : Nat} (hs : s < 2 ^ 31) (hj : j < 31) : ev (133, 0, [.int (nI s), .int (nI j)], [], (sh, M, J)) = some (some (.int (nI (s.testBit j).toNat)), (sh, M, J)) := by
  rw [b_R_has_0]
  rw [nI_bit hs (by omega)]
  cases s.testBit j <;> simp [show nI 1 = 1 from rfl, show nI 0 = 0 from rfl]
theorem c_Rcells : ev (151, 0, [.ref 40], [], (xSH L, M, J)) = some (some (.int (M 41 0 * M 41 1)), (xSH L, M, J)) := by
  simp (disch := omega) only [b_R_cells_0, kf_1, kf_2, kf_3, kf_4, kf_5, kf_6, kf_7, kf_8, kf_9, kf_10, kf_11, kf_12, kf_13, kf_14, kf_15, kf_16, kf_17, kf_18, kf_19, kf_20, kf_21, kf_22, kf_23, kf_24, kf_25, kf_26, kf_27, kf_28, kf_29, kf_30, kf_31, kf_32, kf_33, kf_34, kf_35, kf_36, kf_37, kf_38, kf_39, kf_40, kf_41, kf_42, kf_43, kf_44, kf_45, kf_46, kf_47, kf_48, kf_49, kf_50, kf_51, kf_52, kf_53, kf_54, rf_1_0, rf_1_1, rf_1_2, rf_1_3, rf_1_4, rf_1_5, rf_1_6, rf_1_7, rf_1_8, rf_2_3, rf_2_4, rf_2_5, rf_2_6, rf_7_0, rf_9_0, rf_11_0, rf_11_1, rf_11_4, rf_12_3, rf_12_4, rf_12_5, rf_12_6, rf_17_0, rf_20_1, rf_22_0, rf_22_1, rf_25_2, rf_25_3, rf_25_4, rf_25_5, rf_30_1, rf_30_2, rf_30_3, rf_30_4, rf_34_0, rf_36_0, rf_36_1, rf_36_2, rf_40_0, rf_40_1, rf_40_2, rf_40_3, rf_40_4, rf_40_6, rf_40_7, rf_40_9, rf_40_12, rf_40_14, rf_40_22, rf_40_23, rf_40_24, rf_40_25, li_0, li_1, li_2, li_3, li_4, li_5, li_6, li_8, li_9, li_10, li_12, li_15, li_16, li_19, li_20, li_21, li_22, li_25, li_30, li_31, li_32, li_35, li_40, li_41, li_42, li_46, li_47, li_48, li_50, li_51, li_52, li_56, li_57, li_59, li_60, li_61, li_62, li_63, li_99, li_100, li_107, li_124, li_126, li_240, li_255, li_256, li_1000, li_1178, li_1240, li_9000, li_65536, li_1000000, nI_add, pk_mul, nI_ltI, nI_leI, nI_eq, xin_nI, nI_clamp, decide_true, decide_false, Bool.and_true, Bool.true_and, Bool.and_false, Bool.false_and, Bool.not_true, Bool.not_false, cond_true, cond_false, Option.bind_some, Option.toList_some, Option.toList_none, List.cons_append, List.nil_append, List.append_nil, Nat.not_lt_zero, Nat.zero_le, Nat.le_refl, Nat.lt_irrefl, Nat.reduceLT, Nat.reduceLeDiff, Nat.reduceEqDiff, Nat.reduceAdd, Nat.reduceMul, Bool.toNat_true, Bool.toNat_false, Nat.add_zero, Nat.zero_add, Nat.succ_ne_zero, Nat.one_ne_zero, decide_eq_true, decide_eq_false]
theorem c_RweightOf (hr : (xSH L).2.2.1 r = (11, 62)) (HR : houseR M 41 H) (SR : sceneR M r T) (ho : hoOk H) (hT : scOk H T) {hs : Nat} (hM : M r 20 = nI hs) (hhs : hs < 2 ^ 31) {c : Nat} (hc : c < 20) : ev (155, 0, [.ref 40, .ref r, .int (nI c)], [], (xSH L, M, J)) = some (some (.int (nI (wAt H (hs, T.2) c))), (xSH L, M, J)) := by
  have e1 := (SR.2.2.1 c hc).1
  have e2 := hT.2.1 c hc
  have e3 := (HR.2.2.2 _ e2).1
  rw [Nat.zero_add] at e1
  unfold wAt
  cases hb : hs.testBit c
  · simp (disch := omega) only [b_R_weightOf_0, hr, hM, c_Rhas, hb, b_R_weightOf_8, e1, kf_1, kf_2, kf_3, kf_4, kf_5, kf_6, kf_7, kf_8, kf_9, kf_10, kf_11, kf_12, kf_13, kf_14, kf_15, kf_16, kf_17, kf_18, kf_19, kf_20, kf_21, kf_22, kf_23, kf_24, kf_25, kf_26, kf_27, kf_28, kf_29, kf_30, kf_31, kf_32, kf_33, kf_34, kf_35, kf_36, kf_37, kf_38, kf_39, kf_40, kf_41, kf_42, kf_43, kf_44, kf_45, kf_46, kf_47, kf_48, kf_49, kf_50, kf_51, kf_52, kf_53, kf_54, rf_1_0, rf_1_1, rf_1_2, rf_1_3, rf_1_4, rf_1_5, rf_1_6, rf_1_7, rf_1_8, rf_2_3, rf_2_4, rf_2_5, rf_2_6, rf_7_0, rf_9_0, rf_11_0, rf_11_1, rf_11_4, rf_12_3, rf_12_4, rf_12_5, rf_12_6, rf_17_0, rf_20_1, rf_22_0, rf_22_1, rf_25_2, rf_25_3, rf_25_4, rf_25_5, rf_30_1, rf_30_2, rf_30_3, rf_30_4, rf_34_0, rf_36_0, rf_36_1, rf_36_2, rf_40_0, rf_40_1, rf_40_2, rf_40_3, rf_40_4, rf_40_6, rf_40_7, rf_40_9, rf_40_12, rf_40_14, rf_40_22, rf_40_23, rf_40_24, rf_40_25, li_0, li_1, li_2, li_3, li_4, li_5, li_6, li_8, li_9, li_10, li_12, li_15, li_16, li_19, li_20, li_21, li_22, li_25, li_30, li_31, li_32, li_35, li_40, li_41, li_42, li_46, li_47, li_48, li_50, li_51, li_52, li_56, li_57, li_59, li_60, li_61, li_62, li_63, li_99, li_100, li_107, li_124, li_126, li_240, li_255, li_256, li_1000, li_1178, li_1240, li_9000, li_65536, li_1000000, nI_add, pk_mul, nI_ltI, nI_leI, nI_eq, xin_nI, nI_clamp, decide_true, decide_false, Bool.and_true, Bool.true_and, Bool.and_false, Bool.false_and, Bool.not_true, Bool.not_false, cond_true, cond_false, Option.bind_some, Option.toList_some, Option.toList_none, List.cons_append, List.nil_append, List.append_nil, Nat.not_lt_zero, Nat.zero_le, Nat.le_refl, Nat.lt_irrefl, Nat.reduceLT, Nat.reduceLeDiff, Nat.reduceEqDiff, Nat.reduceAdd, Nat.reduceMul, Bool.toNat_true, Bool.toNat_false, Nat.add_zero, Nat.zero_add, Nat.succ_ne_zero, Nat.one_ne_zero, decide_eq_true, decide_eq_false]
    rw [e3]; rfl
  · simp (disch := omega) only [b_R_weightOf_0, hr, hM, c_Rhas, hb, b_R_weightOf_8, kf_1, kf_2, kf_3, kf_4, kf_5, kf_6, kf_7, kf_8, kf_9, kf_10, kf_11, kf_12, kf_13, kf_14, kf_15, kf_16, kf_17, kf_18, kf_19, kf_20, kf_21, kf_22, kf_23, kf_24, kf_25, kf_26, kf_27, kf_28, kf_29, kf_30, kf_31, kf_32, kf_33, kf_34, kf_35, kf_36, kf_37, kf_38, kf_39, kf_40, kf_41, kf_42, kf_43, kf_44, kf_45, kf_46, kf_47, kf_48, kf_49, kf_50, kf_51, kf_52, kf_53, kf_54, rf_1_0, rf_1_1, rf_1_2, rf_1_3, rf_1_4, rf_1_5, rf_1_6, rf_1_7, rf_1_8, rf_2_3, rf_2_4, rf_2_5, rf_2_6, rf_7_0, rf_9_0, rf_11_0, rf_11_1, rf_11_4, rf_12_3, rf_12_4, rf_12_5, rf_12_6, rf_17_0, rf_20_1, rf_22_0, rf_22_1, rf_25_2, rf_25_3, rf_25_4, rf_25_5, rf_30_1, rf_30_2, rf_30_3, rf_30_4, rf_34_0, rf_36_0, rf_36_1, rf_36_2, rf_40_0, rf_40_1, rf_40_2, rf_40_3, rf_40_4, rf_40_6, rf_40_7, rf_40_9, rf_40_12, rf_40_14, rf_40_22, rf_40_23, rf_40_24, rf_40_25, li_0, li_1, li_2, li_3, li_4, li_5, li_6, li_8, li_9, li_10, li_12, li_15, li_16, li_19, li_20, li_21, li_22, li_25, li_30, li_31, li_32, li_35, li_40, li_41, li_42, li_46, li_47, li_48, li_50, li_51, li_52, li_56, li_57, li_59, li_60, li_61, li_62, li_63, li_99, li_100, li_107, li_124, li_126, li_240, li_255, li_256, li_1000, li_1178, li_1240, li_9000, li_65536, li_1000000, nI_add, pk_mul, nI_ltI, nI_leI, nI_eq, xin_nI, nI_clamp, decide_true, decide_false, Bool.and_true, Bool.true_and, Bool.and_false, Bool.false_and, Bool.not_true, Bool.not_false, cond_true, cond_false, Option.bind_some, Option.toList_some, Option.toList_none, List.cons_append, List.nil_append, List.append_nil, Nat.not_lt_zero, Nat.zero_le, Nat.le_refl, Nat.lt_irrefl, Nat.reduceLT, Nat.reduceLeDiff, Nat.reduceEqDiff, Nat.reduceAdd, Nat.reduceMul, Bool.toNat_true, Bool.toNat_false, Nat.add_zero, Nat.zero_add, Nat.succ_ne_zero, Nat.one_ne_zero, decide_eq_true, decide_eq_false]
    rfl
end REFA
section REFB
variable {L r : Nat} {M : Mem} {J : Nat → Nat → Int64} {H : Ho} {T : Sc}
theorem c_Rweight (hr : (xSH L).2.2.1 r = (11, 62)) (HR : houseR M 41 H) (SR : sceneR M r T) (ho : hoOk H) (hT : scOk H T) : ev (156, 0, [.ref 40, .ref r, .null, .null], [], (xSH L, M, J)) = some (some (.int (nI (weight H T))), (xSH L, M, J)) := by
  have hn := hcells ho
  have hs31 := scH_lt ho hT
  have hc : M 41 0 * M 41 1 = nI (hW H * hG H) := by rw [HR.1, HR.2.1, pk_mul]
  rw [b_R_weight_0]
  refine loop_inv (E := fun c s => ev (156, 4, [.ref 40, .ref r, .int s, .int (nI c)], [], (xSH L, M, J))) (fun c s => s = sm (fun c => nI (wAt H T c)) c) (n := hW H * hG H) ?_ ?_ (hW H * hG H) 0 0 (by omega) rfl
  · intro s hs
    subst hs
    rw [b_R_weight_4]
    unfold weight
    rw [nI_sm]
    generalize hW H * hG H = n at *
    simp (disch := omega) only [c_Rcells, hc, b_R_weight_9, kf_1, kf_2, kf_3, kf_4, kf_5, kf_6, kf_7, kf_8, kf_9, kf_10, kf_11, kf_12, kf_13, kf_14, kf_15, kf_16, kf_17, kf_18, kf_19, kf_20, kf_21, kf_22, kf_23, kf_24, kf_25, kf_26, kf_27, kf_28, kf_29, kf_30, kf_31, kf_32, kf_33, kf_34, kf_35, kf_36, kf_37, kf_38, kf_39, kf_40, kf_41, kf_42, kf_43, kf_44, kf_45, kf_46, kf_47, kf_48, kf_49, kf_50, kf_51, kf_52, kf_53, kf_54, rf_1_0, rf_1_1, rf_1_2, rf_1_3, rf_1_4, rf_1_5, rf_1_6, rf_1_7, rf_1_8, rf_2_3, rf_2_4, rf_2_5, rf_2_6, rf_7_0, rf_9_0, rf_11_0, rf_11_1, rf_11_4, rf_12_3, rf_12_4, rf_12_5, rf_12_6, rf_17_0, rf_20_1, rf_22_0, rf_22_1, rf_25_2, rf_25_3, rf_25_4, rf_25_5, rf_30_1, rf_30_2, rf_30_3, rf_30_4, rf_34_0, rf_36_0, rf_36_1, rf_36_2, rf_40_0, rf_40_1, rf_40_2, rf_40_3, rf_40_4, rf_40_6, rf_40_7, rf_40_9, rf_40_12, rf_40_14, rf_40_22, rf_40_23, rf_40_24, rf_40_25, li_0, li_1, li_2, li_3, li_4, li_5, li_6, li_8, li_9, li_10, li_12, li_15, li_16, li_19, li_20, li_21, li_22, li_25, li_30, li_31, li_32, li_35, li_40, li_41, li_42, li_46, li_47, li_48, li_50, li_51, li_52, li_56, li_57, li_59, li_60, li_61, li_62, li_63, li_99, li_100, li_107, li_124, li_126, li_240, li_255, li_256, li_1000, li_1178, li_1240, li_9000, li_65536, li_1000000, nI_add, pk_mul, nI_ltI, nI_leI, nI_eq, xin_nI, nI_clamp, decide_true, decide_false, Bool.and_true, Bool.true_and, Bool.and_false, Bool.false_and, Bool.not_true, Bool.not_false, cond_true, cond_false, Option.bind_some, Option.toList_some, Option.toList_none, List.cons_append, List.nil_append, List.append_nil, Nat.not_lt_zero, Nat.zero_le, Nat.le_refl, Nat.lt_irrefl, Nat.reduceLT, Nat.reduceLeDiff, Nat.reduceEqDiff, Nat.reduceAdd, Nat.reduceMul, Bool.toNat_true, Bool.toNat_false, Nat.add_zero, Nat.zero_add, Nat.succ_ne_zero, Nat.one_ne_zero, decide_eq_true, decide_eq_false]
  · intro c s hlt hs
    subst hs
    refine Or.inr ⟨_, ?_, rfl⟩
    have hw := fun {J : Nat → Nat → Int64} => c_RweightOf (J := J) hr HR SR ho hT SR.1 hs31 (c := c) (by omega)
    have e4 : ¬ hW H * hG H ≤ c := by omega
    rw [b_R_weight_4]
    generalize hW H * hG H = n at *
    simp (disch := omega) only [c_Rcells, hc, b_R_weight_9, e4, hw, b_R_weight_19, kf_1, kf_2, kf_3, kf_4, kf_5, kf_6, kf_7, kf_8, kf_9, kf_10, kf_11, kf_12, kf_13, kf_14, kf_15, kf_16, kf_17, kf_18, kf_19, kf_20, kf_21, kf_22, kf_23, kf_24, kf_25, kf_26, kf_27, kf_28, kf_29, kf_30, kf_31, kf_32, kf_33, kf_34, kf_35, kf_36, kf_37, kf_38, kf_39, kf_40, kf_41, kf_42, kf_43, kf_44, kf_45, kf_46, kf_47, kf_48, kf_49, kf_50, kf_51, kf_52, kf_53, kf_54, rf_1_0, rf_1_1, rf_1_2, rf_1_3, rf_1_4, rf_1_5, rf_1_6, rf_1_7, rf_1_8, rf_2_3, rf_2_4, rf_2_5, rf_2_6, rf_7_0, rf_9_0, rf_11_0, rf_11_1, rf_11_4, rf_12_3, rf_12_4, rf_12_5, rf_12_6, rf_17_0, rf_20_1, rf_22_0, rf_22_1, rf_25_2, rf_25_3, rf_25_4, rf_25_5, rf_30_1, rf_30_2, rf_30_3, rf_30_4, rf_34_0, rf_36_0, rf_36_1, rf_36_2, rf_40_0, rf_40_1, rf_40_2, rf_40_3, rf_40_4, rf_40_6, rf_40_7, rf_40_9, rf_40_12, rf_40_14, rf_40_22, rf_40_23, rf_40_24, rf_40_25, li_0, li_1, li_2, li_3, li_4, li_5, li_6, li_8, li_9, li_10, li_12, li_15, li_16, li_19, li_20, li_21, li_22, li_25, li_30, li_31, li_32, li_35, li_40, li_41, li_42, li_46, li_47, li_48, li_50, li_51, li_52, li_56, li_57, li_59, li_60, li_61, li_62, li_63, li_99, li_100, li_107, li_124, li_126, li_240, li_255, li_256, li_1000, li_1178, li_1240, li_9000, li_65536, li_1000000, nI_add, pk_mul, nI_ltI, nI_leI, nI_eq, xin_nI, nI_clamp, decide_true, decide_false, Bool.and_true, Bool.true_and, Bool.and_false, Bool.false_and, Bool.not_true, Bool.not_false, cond_true, cond_false, Option.bind_some, Option.toList_some, Option.toList_none, List.cons_append, List.nil_append, List.append_nil, Nat.not_lt_zero, Nat.zero_le, Nat.le_refl, Nat.lt_irrefl, Nat.reduceLT, Nat.reduceLeDiff, Nat.reduceEqDiff, Nat.reduceAdd, Nat.reduceMul, Bool.toNat_true, Bool.toNat_false, Nat.add_zero, Nat.zero_add, Nat.succ_ne_zero, Nat.one_ne_zero, decide_eq_true, decide_eq_false]
    rfl
theorem c_RsideOf {W x : Nat} (hw : M 41 0 = nI W) : ev (157, 0, [.ref 40, .int (nI x)], [], (xSH L, M, J)) = some (some (.int (nI (2 * x) - nI W + nI 1)), (xSH L, M, J)) := by
  simp (disch := omega) only [b_R_sideOf_0, hw, kf_1, kf_2, kf_3, kf_4, kf_5, kf_6, kf_7, kf_8, kf_9, kf_10, kf_11, kf_12, kf_13, kf_14, kf_15, kf_16, kf_17, kf_18, kf_19, kf_20, kf_21, kf_22, kf_23, kf_24, kf_25, kf_26, kf_27, kf_28, kf_29, kf_30, kf_31, kf_32, kf_33, kf_34, kf_35, kf_36, kf_37, kf_38, kf_39, kf_40, kf_41, kf_42, kf_43, kf_44, kf_45, kf_46, kf_47, kf_48, kf_49, kf_50, kf_51, kf_52, kf_53, kf_54, rf_1_0, rf_1_1, rf_1_2, rf_1_3, rf_1_4, rf_1_5, rf_1_6, rf_1_7, rf_1_8, rf_2_3, rf_2_4, rf_2_5, rf_2_6, rf_7_0, rf_9_0, rf_11_0, rf_11_1, rf_11_4, rf_12_3, rf_12_4, rf_12_5, rf_12_6, rf_17_0, rf_20_1, rf_22_0, rf_22_1, rf_25_2, rf_25_3, rf_25_4, rf_25_5, rf_30_1, rf_30_2, rf_30_3, rf_30_4, rf_34_0, rf_36_0, rf_36_1, rf_36_2, rf_40_0, rf_40_1, rf_40_2, rf_40_3, rf_40_4, rf_40_6, rf_40_7, rf_40_9, rf_40_12, rf_40_14, rf_40_22, rf_40_23, rf_40_24, rf_40_25, li_0, li_1, li_2, li_3, li_4, li_5, li_6, li_8, li_9, li_10, li_12, li_15, li_16, li_19, li_20, li_21, li_22, li_25, li_30, li_31, li_32, li_35, li_40, li_41, li_42, li_46, li_47, li_48, li_50, li_51, li_52, li_56, li_57, li_59, li_60, li_61, li_62, li_63, li_99, li_100, li_107, li_124, li_126, li_240, li_255, li_256, li_1000, li_1178, li_1240, li_9000, li_65536, li_1000000, nI_add, pk_mul, nI_ltI, nI_leI, nI_eq, xin_nI, nI_clamp, decide_true, decide_false, Bool.and_true, Bool.true_and, Bool.and_false, Bool.false_and, Bool.not_true, Bool.not_false, cond_true, cond_false, Option.bind_some, Option.toList_some, Option.toList_none, List.cons_append, List.nil_append, List.append_nil, Nat.not_lt_zero, Nat.zero_le, Nat.le_refl, Nat.lt_irrefl, Nat.reduceLT, Nat.reduceLeDiff, Nat.reduceEqDiff, Nat.reduceAdd, Nat.reduceMul, Bool.toNat_true, Bool.toNat_false, Nat.add_zero, Nat.zero_add, Nat.succ_ne_zero, Nat.one_ne_zero, decide_eq_true, decide_eq_false]
theorem xrem_nI {a d : Nat} (ha : a < 2 ^ 31) (h0 : 0 < d) (hd : d < 2 ^ 31) : xrem (nI a) (nI d) = nI (a % d) := pk_rem ha h0 hd
theorem side_sgn {W x : Nat} (hW : W ≤ 5) (hx : x < 5) : (side W x = -1 ∧ nI (2 * x) - nI W + nI 1 < nI 0) ∨ (side W x = 0 ∧ ¬ nI (2 * x) - nI W + nI 1 < nI 0 ∧ ¬ nI 0 < nI (2 * x) - nI W + nI 1) ∨ (side W x = 1 ∧ ¬ nI (2 * x) - nI W + nI 1 < nI 0 ∧ nI 0 < nI (2 * x) - nI W + nI 1) := by
  have : ∀ W, W < 6 → ∀ x, x < 5 → (side W x = -1 ∧ nI (2 * x) - nI W + nI 1 < nI 0) ∨ (side W x = 0 ∧ ¬ nI (2 * x) - nI W + nI 1 < nI 0 ∧ ¬ nI 0 < nI (2 * x) - nI W + nI 1) ∨ (side W x = 1 ∧ ¬ nI (2 * x) - nI W + nI 1 < nI 0 ∧ nI 0 < nI (2 * x) - nI W + nI 1) := by decide +kernel
  exact this W (by omega) x hx
theorem c_Rleans (hr : (xSH L).2.2.1 r = (11, 62)) (HR : houseR M 41 H) (SR : sceneR M r T) (ho : hoOk H) (hT : scOk H T) {hs : Nat} (hM : M r 20 = nI hs) (hhs : hs < 2 ^ 31) : ev (158, 0, [.ref 40, .ref r, .null, .null, .null], [], (xSH L, M, J)) = some (some (.int (leans H (hs, T.2))), (xSH L, M, J)) := by
  have hn := hcells ho
  have g5 := ho.1
  have w1 := HR.1
  have w2 := HR.2.1
  have hc : M 41 0 * M 41 1 = nI (hW H * hG H) := by rw [HR.1, HR.2.1, pk_mul]
  rw [b_R_leans_0]
  refine loop_inv (E := fun c s => ev (158, 4, [.ref 40, .ref r, .int s, .int (nI c), .null], [], (xSH L, M, J))) (fun c s => s = sm (fun c => -(side (hW H) (c % hW H) * nI (wAt H (hs, T.2) c))) c) (n := hW H * hG H) ?_ ?_ (hW H * hG H) 0 0 (by omega) rfl
  · intro s hs'
    subst hs'
    rw [b_R_leans_4]
    unfold leans bal
    generalize hW H * hG H = n at *
    simp (disch := omega) only [c_Rcells, hc, b_R_leans_9, kf_1, kf_2, kf_3, kf_4, kf_5, kf_6, kf_7, kf_8, kf_9, kf_10, kf_11, kf_12, kf_13, kf_14, kf_15, kf_16, kf_17, kf_18, kf_19, kf_20, kf_21, kf_22, kf_23, kf_24, kf_25, kf_26, kf_27, kf_28, kf_29, kf_30, kf_31, kf_32, kf_33, kf_34, kf_35, kf_36, kf_37, kf_38, kf_39, kf_40, kf_41, kf_42, kf_43, kf_44, kf_45, kf_46, kf_47, kf_48, kf_49, kf_50, kf_51, kf_52, kf_53, kf_54, rf_1_0, rf_1_1, rf_1_2, rf_1_3, rf_1_4, rf_1_5, rf_1_6, rf_1_7, rf_1_8, rf_2_3, rf_2_4, rf_2_5, rf_2_6, rf_7_0, rf_9_0, rf_11_0, rf_11_1, rf_11_4, rf_12_3, rf_12_4, rf_12_5, rf_12_6, rf_17_0, rf_20_1, rf_22_0, rf_22_1, rf_25_2, rf_25_3, rf_25_4, rf_25_5, rf_30_1, rf_30_2, rf_30_3, rf_30_4, rf_34_0, rf_36_0, rf_36_1, rf_36_2, rf_40_0, rf_40_1, rf_40_2, rf_40_3, rf_40_4, rf_40_6, rf_40_7, rf_40_9, rf_40_12, rf_40_14, rf_40_22, rf_40_23, rf_40_24, rf_40_25, li_0, li_1, li_2, li_3, li_4, li_5, li_6, li_8, li_9, li_10, li_12, li_15, li_16, li_19, li_20, li_21, li_22, li_25, li_30, li_31, li_32, li_35, li_40, li_41, li_42, li_46, li_47, li_48, li_50, li_51, li_52, li_56, li_57, li_59, li_60, li_61, li_62, li_63, li_99, li_100, li_107, li_124, li_126, li_240, li_255, li_256, li_1000, li_1178, li_1240, li_9000, li_65536, li_1000000, nI_add, pk_mul, nI_ltI, nI_leI, nI_eq, xin_nI, nI_clamp, decide_true, decide_false, Bool.and_true, Bool.true_and, Bool.and_false, Bool.false_and, Bool.not_true, Bool.not_false, cond_true, cond_false, Option.bind_some, Option.toList_some, Option.toList_none, List.cons_append, List.nil_append, List.append_nil, Nat.not_lt_zero, Nat.zero_le, Nat.le_refl, Nat.lt_irrefl, Nat.reduceLT, Nat.reduceLeDiff, Nat.reduceEqDiff, Nat.reduceAdd, Nat.reduceMul, Bool.toNat_true, Bool.toNat_false, Nat.add_zero, Nat.zero_add, Nat.succ_ne_zero, Nat.one_ne_zero, decide_eq_true, decide_eq_false]
  · intro c s hlt hs'
    subst hs'
    refine Or.inr ⟨_, ?_, rfl⟩
    have hw := fun {J : Nat → Nat → Int64} => c_RweightOf (J := J) hr HR SR ho hT hM hhs (c := c) (by omega)
    have e4 : ¬ hW H * hG H ≤ c := by omega
    have hW0 : 0 < hW H := by
      rcases Nat.eq_zero_or_pos (hW H) with h | h
      · rw [h, Nat.zero_mul] at hlt; omega
      · exact h
    have hx5 : c % hW H < hW H := Nat.mod_lt _ hW0
    have hsg := side_sgn (W := hW H) (x := c % hW H) g5 (by omega)
    rw [b_R_leans_4]
    rw [show sm (fun c => -(side (hW H) (c % hW H) * nI (wAt H (hs, T.2) c))) (c + 1) = sm (fun c => -(side (hW H) (c % hW H) * nI (wAt H (hs, T.2) c))) c + -(side (hW H) (c % hW H) * nI (wAt H (hs, T.2) c)) from rfl]
    generalize sm (fun c => -(side (hW H) (c % hW H) * nI (wAt H (hs, T.2) c))) c = s0
    have hne : ¬ nI (hW H) = nI 0 := by rw [nI_eq (by omega) (by omega)]; omega
    have hrem : xrem (nI c) (nI (hW H)) = nI (c % hW H) := xrem_nI (by omega) hW0 (by omega)
    have hcn : ¬ nI (hW H * hG H) ≤ nI c := by rw [nI_leI (by omega) (by omega)]; exact e4
    generalize nI (wAt H (hs, T.2) c) = wv at *
    generalize side (hW H) (c % hW H) = sd at *
    simp (disch := omega) only [c_Rcells, b_R_leans_9, hcn, w1, w2, hne, hrem, c_RsideOf w1, b_R_leans_24, kf_1, kf_2, kf_3, kf_4, kf_5, kf_6, kf_7, kf_8, kf_9, kf_10, kf_11, kf_12, kf_13, kf_14, kf_15, kf_16, kf_17, kf_18, kf_19, kf_20, kf_21, kf_22, kf_23, kf_24, kf_25, kf_26, kf_27, kf_28, kf_29, kf_30, kf_31, kf_32, kf_33, kf_34, kf_35, kf_36, kf_37, kf_38, kf_39, kf_40, kf_41, kf_42, kf_43, kf_44, kf_45, kf_46, kf_47, kf_48, kf_49, kf_50, kf_51, kf_52, kf_53, kf_54, rf_1_0, rf_1_1, rf_1_2, rf_1_3, rf_1_4, rf_1_5, rf_1_6, rf_1_7, rf_1_8, rf_2_3, rf_2_4, rf_2_5, rf_2_6, rf_7_0, rf_9_0, rf_11_0, rf_11_1, rf_11_4, rf_12_3, rf_12_4, rf_12_5, rf_12_6, rf_17_0, rf_20_1, rf_22_0, rf_22_1, rf_25_2, rf_25_3, rf_25_4, rf_25_5, rf_30_1, rf_30_2, rf_30_3, rf_30_4, rf_34_0, rf_36_0, rf_36_1, rf_36_2, rf_40_0, rf_40_1, rf_40_2, rf_40_3, rf_40_4, rf_40_6, rf_40_7, rf_40_9, rf_40_12, rf_40_14, rf_40_22, rf_40_23, rf_40_24, rf_40_25, li_0, li_1, li_2, li_3, li_4, li_5, li_6, li_8, li_9, li_10, li_12, li_15, li_16, li_19, li_20, li_21, li_22, li_25, li_30, li_31, li_32, li_35, li_40, li_41, li_42, li_46, li_47, li_48, li_50, li_51, li_52, li_56, li_57, li_59, li_60, li_61, li_62, li_63, li_99, li_100, li_107, li_124, li_126, li_240, li_255, li_256, li_1000, li_1178, li_1240, li_9000, li_65536, li_1000000, nI_add, pk_mul, nI_ltI, nI_leI, nI_eq, xin_nI, nI_clamp, decide_true, decide_false, Bool.and_true, Bool.true_and, Bool.and_false, Bool.false_and, Bool.not_true, Bool.not_false, cond_true, cond_false, Option.bind_some, Option.toList_some, Option.toList_none, List.cons_append, List.nil_append, List.append_nil, Nat.not_lt_zero, Nat.zero_le, Nat.le_refl, Nat.lt_irrefl, Nat.reduceLT, Nat.reduceLeDiff, Nat.reduceEqDiff, Nat.reduceAdd, Nat.reduceMul, Bool.toNat_true, Bool.toNat_false, Nat.add_zero, Nat.zero_add, Nat.succ_ne_zero, Nat.one_ne_zero, decide_eq_true, decide_eq_false]
    generalize nI (2 * (c % hW H)) - nI (hW H) + nI 1 = sv at *
    rcases hsg with ⟨rfl, q1⟩ | ⟨rfl, q1, q2⟩ | ⟨rfl, q1, q2⟩
    · have q0 : ¬ nI 0 ≤ sv := Int32.not_le.mpr q1
      simp only [q0, decide_false, cond_false, hw, Option.bind_some, Option.toList_some, List.cons_append, List.nil_append, b_R_leans_38]
      rw [Int32.neg_mul, Int32.one_mul, Int32.neg_neg, nI_1]
    · have q0 : nI 0 ≤ sv := Int32.not_lt.mp q1
      have q3 : sv ≤ nI 0 := Int32.not_lt.mp q2
      simp only [q0, q3, decide_true, cond_true]
      rw [Int32.zero_mul, Int32.neg_zero]
      rfl
    · have q0 : nI 0 ≤ sv := Int32.not_lt.mp q1
      have q3 : ¬ sv ≤ nI 0 := Int32.not_le.mpr q2
      simp only [q0, q3, decide_true, decide_false, cond_true, cond_false, hw, Option.bind_some, Option.toList_some, List.cons_append, List.nil_append, b_R_leans_52]
      rw [Int32.one_mul, nI_1]
end REFB
