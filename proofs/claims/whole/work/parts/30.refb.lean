/-! ===== the reference: hangs, shown, holeOf, nightGoes ===== -/
def hang (H : Ho) (ln : Int32) (c : Nat) : Int32 := nI (c / hW H) + side (hW H) (c % hW H) * ln
section REFC
variable {L r : Nat} {M : Mem} {J : Nat → Nat → Int64} {H : Ho} {T : Sc}
theorem c_Rhangs (HR : houseR M 41 H) (ho : hoOk H) (h0 : 0 < hW H) {c : Nat} (hc : c < 20) {ln : Int32} : ev (159, 0, [.ref 40, .int (nI c), .int ln, .null, .null], [], (xSH L, M, J)) = some (some (.int (hang H ln c)), (xSH L, M, J)) := by
  have g5 := ho.1
  have w1 := HR.1
  have hx5 : c % hW H < hW H := Nat.mod_lt _ h0
  have hsg := side_sgn (W := hW H) (x := c % hW H) g5 (by omega)
  have hne : ¬ nI (hW H) = nI 0 := by rw [nI_eq (by omega) (by omega)]; omega
  have hrem : xrem (nI c) (nI (hW H)) = nI (c % hW H) := xrem_nI (by omega) h0 (by omega)
  have hdiv : nI c / nI (hW H) = nI (c / hW H) := pk_div (by omega) h0 (by omega)
  unfold hang
  generalize side (hW H) (c % hW H) = sd at *
  simp (disch := omega) only [b_R_hangs_0, w1, hne, hrem, c_RsideOf w1, b_R_hangs_12, hdiv, kf_1, kf_2, kf_3, kf_4, kf_5, kf_6, kf_7, kf_8, kf_9, kf_10, kf_11, kf_12, kf_13, kf_14, kf_15, kf_16, kf_17, kf_18, kf_19, kf_20, kf_21, kf_22, kf_23, kf_24, kf_25, kf_26, kf_27, kf_28, kf_29, kf_30, kf_31, kf_32, kf_33, kf_34, kf_35, kf_36, kf_37, kf_38, kf_39, kf_40, kf_41, kf_42, kf_43, kf_44, kf_45, kf_46, kf_47, kf_48, kf_49, kf_50, kf_51, kf_52, kf_53, kf_54, rf_1_0, rf_1_1, rf_1_2, rf_1_3, rf_1_4, rf_1_5, rf_1_6, rf_1_7, rf_1_8, rf_2_3, rf_2_4, rf_2_5, rf_2_6, rf_7_0, rf_9_0, rf_11_0, rf_11_1, rf_11_4, rf_12_3, rf_12_4, rf_12_5, rf_12_6, rf_17_0, rf_20_1, rf_22_0, rf_22_1, rf_25_2, rf_25_3, rf_25_4, rf_25_5, rf_30_1, rf_30_2, rf_30_3, rf_30_4, rf_34_0, rf_36_0, rf_36_1, rf_36_2, rf_40_0, rf_40_1, rf_40_2, rf_40_3, rf_40_4, rf_40_6, rf_40_7, rf_40_9, rf_40_12, rf_40_14, rf_40_22, rf_40_23, rf_40_24, rf_40_25, li_0, li_1, li_2, li_3, li_4, li_5, li_6, li_8, li_9, li_10, li_12, li_15, li_16, li_19, li_20, li_21, li_22, li_25, li_30, li_31, li_32, li_35, li_40, li_41, li_42, li_46, li_47, li_48, li_50, li_51, li_52, li_56, li_57, li_59, li_60, li_61, li_62, li_63, li_99, li_100, li_107, li_124, li_126, li_240, li_255, li_256, li_1000, li_1178, li_1240, li_9000, li_65536, li_1000000, nI_add, pk_mul, nI_ltI, nI_leI, nI_eq, xin_nI, nI_clamp, decide_true, decide_false, Bool.and_true, Bool.true_and, Bool.and_false, Bool.false_and, Bool.not_true, Bool.not_false, cond_true, cond_false, Option.bind_some, Option.toList_some, Option.toList_none, List.cons_append, List.nil_append, List.append_nil, Nat.not_lt_zero, Nat.zero_le, Nat.le_refl, Nat.lt_irrefl, Nat.reduceLT, Nat.reduceLeDiff, Nat.reduceEqDiff, Nat.reduceAdd, Nat.reduceMul, Bool.toNat_true, Bool.toNat_false, Nat.add_zero, Nat.zero_add, Nat.succ_ne_zero, Nat.one_ne_zero, decide_eq_true, decide_eq_false]
  generalize nI (2 * (c % hW H)) - nI (hW H) + nI 1 = sv at *
  rcases hsg with ⟨rfl, q1⟩ | ⟨rfl, q1, q2⟩ | ⟨rfl, q1, q2⟩
  · have q0 : ¬ nI 0 ≤ sv := Int32.not_le.mpr q1
    simp only [q0, decide_false, cond_false]
    rw [Int32.neg_mul, Int32.one_mul, Int32.sub_eq_add_neg]
  · have q0 : nI 0 ≤ sv := Int32.not_lt.mp q1
    have q3 : sv ≤ nI 0 := Int32.not_lt.mp q2
    simp only [q0, q3, decide_true, cond_true]
    rw [Int32.zero_mul, Int32.add_zero]
  · have q0 : nI 0 ≤ sv := Int32.not_lt.mp q1
    have q3 : ¬ sv ≤ nI 0 := Int32.not_le.mpr q2
    simp only [q0, q3, decide_true, decide_false, cond_true, cond_false]
    rw [Int32.one_mul]
/-- the same, by cells -/
theorem shown1_cells {H : Ho} {hs x ht : Nat} {ln : Int32} (hx : x < hW H) : anyB (fun c => decide (c % hW H = x) && (hs.testBit c && (decide (nI 0 ≤ hang H ln c) && decide (hang H ln c ≤ nI ht - nI 1)))) (hW H * hG H) = shown1 H hs ln x ht := by
  rw [anyB_cols hx]
  unfold shown1
  congr 1
  funext g
  unfold shC hang
  have e1 : (g * hW H + x) % hW H = x := by rw [Nat.mul_comm, Nat.mul_add_mod, Nat.mod_eq_of_lt hx]
  have e2 : (g * hW H + x) / hW H = g := by rw [Nat.mul_comm, Nat.mul_add_div (by omega), Nat.div_eq_of_lt hx, Nat.add_zero]
  rw [e1, e2]
theorem c_Rshown (hr : (xSH L).2.2.1 r = (11, 62)) (HR : houseR M 41 H) (SR : sceneR M r T) (ho : hoOk H) (hT : scOk H T) {hs : Nat} (hM : M r 20 = nI hs) (hhs : hs < 2 ^ 31) : ev (160, 0, [.ref 40, .ref r, .null, .null, .null, .null, .null], [], (xSH L, M, J)) = some (some (.int (nI (shownS H (hs, T.2)))), (xSH L, M, J)) := by
  have hn := hcells ho
  have g5 := ho.1
  have hA5 := ho.2.2.1
  have w1 := HR.1
  have w2 := HR.2.1
  have w3 := HR.2.2.1
  have hl := fun {J : Nat → Nat → Int64} => c_Rleans (J := J) hr HR SR ho hT hM hhs
  rw [b_R_shown_0]
  simp (disch := omega) only [hl, b_R_shown_5, kf_1, kf_2, kf_3, kf_4, kf_5, kf_6, kf_7, kf_8, kf_9, kf_10, kf_11, kf_12, kf_13, kf_14, kf_15, kf_16, kf_17, kf_18, kf_19, kf_20, kf_21, kf_22, kf_23, kf_24, kf_25, kf_26, kf_27, kf_28, kf_29, kf_30, kf_31, kf_32, kf_33, kf_34, kf_35, kf_36, kf_37, kf_38, kf_39, kf_40, kf_41, kf_42, kf_43, kf_44, kf_45, kf_46, kf_47, kf_48, kf_49, kf_50, kf_51, kf_52, kf_53, kf_54, rf_1_0, rf_1_1, rf_1_2, rf_1_3, rf_1_4, rf_1_5, rf_1_6, rf_1_7, rf_1_8, rf_2_3, rf_2_4, rf_2_5, rf_2_6, rf_7_0, rf_9_0, rf_11_0, rf_11_1, rf_11_4, rf_12_3, rf_12_4, rf_12_5, rf_12_6, rf_17_0, rf_20_1, rf_22_0, rf_22_1, rf_25_2, rf_25_3, rf_25_4, rf_25_5, rf_30_1, rf_30_2, rf_30_3, rf_30_4, rf_34_0, rf_36_0, rf_36_1, rf_36_2, rf_40_0, rf_40_1, rf_40_2, rf_40_3, rf_40_4, rf_40_6, rf_40_7, rf_40_9, rf_40_12, rf_40_14, rf_40_22, rf_40_23, rf_40_24, rf_40_25, li_0, li_1, li_2, li_3, li_4, li_5, li_6, li_8, li_9, li_10, li_12, li_15, li_16, li_19, li_20, li_21, li_22, li_25, li_30, li_31, li_32, li_35, li_40, li_41, li_42, li_46, li_47, li_48, li_50, li_51, li_52, li_56, li_57, li_59, li_60, li_61, li_62, li_63, li_99, li_100, li_107, li_124, li_126, li_240, li_255, li_256, li_1000, li_1178, li_1240, li_9000, li_65536, li_1000000, nI_add, pk_mul, nI_ltI, nI_leI, nI_eq, xin_nI, nI_clamp, decide_true, decide_false, Bool.and_true, Bool.true_and, Bool.and_false, Bool.false_and, Bool.not_true, Bool.not_false, cond_true, cond_false, Option.bind_some, Option.toList_some, Option.toList_none, List.cons_append, List.nil_append, List.append_nil, Nat.not_lt_zero, Nat.zero_le, Nat.le_refl, Nat.lt_irrefl, Nat.reduceLT, Nat.reduceLeDiff, Nat.reduceEqDiff, Nat.reduceAdd, Nat.reduceMul, Bool.toNat_true, Bool.toNat_false, Nat.add_zero, Nat.zero_add, Nat.succ_ne_zero, Nat.one_ne_zero, decide_eq_true, decide_eq_false]
  generalize hln : leans H (hs, T.2) = ln
  have key := loop_it (E := fun a s => ev (160, 11, [.ref 40, .ref r, .int ln, .int (nI s), .int (nI a), .null, .null], [], (xSH L, M, J))) (F := fun s => some (some (.int (nI s)), (xSH L, M, J))) (fun a s => if shown1 H hs ln (sX T a) (hht H a) then s ||| 2 ^ a else s) (fun _ _ => True) (n := hA H) ?_ ?_ (hA H) 0 0 (by omega) trivial
  · have k1 := key.1
    unfold shownS
    rw [hln]
    exact k1
  · intro s _
    rw [b_R_shown_11]
    simp (disch := omega) only [w3, kf_1, kf_2, kf_3, kf_4, kf_5, kf_6, kf_7, kf_8, kf_9, kf_10, kf_11, kf_12, kf_13, kf_14, kf_15, kf_16, kf_17, kf_18, kf_19, kf_20, kf_21, kf_22, kf_23, kf_24, kf_25, kf_26, kf_27, kf_28, kf_29, kf_30, kf_31, kf_32, kf_33, kf_34, kf_35, kf_36, kf_37, kf_38, kf_39, kf_40, kf_41, kf_42, kf_43, kf_44, kf_45, kf_46, kf_47, kf_48, kf_49, kf_50, kf_51, kf_52, kf_53, kf_54, rf_1_0, rf_1_1, rf_1_2, rf_1_3, rf_1_4, rf_1_5, rf_1_6, rf_1_7, rf_1_8, rf_2_3, rf_2_4, rf_2_5, rf_2_6, rf_7_0, rf_9_0, rf_11_0, rf_11_1, rf_11_4, rf_12_3, rf_12_4, rf_12_5, rf_12_6, rf_17_0, rf_20_1, rf_22_0, rf_22_1, rf_25_2, rf_25_3, rf_25_4, rf_25_5, rf_30_1, rf_30_2, rf_30_3, rf_30_4, rf_34_0, rf_36_0, rf_36_1, rf_36_2, rf_40_0, rf_40_1, rf_40_2, rf_40_3, rf_40_4, rf_40_6, rf_40_7, rf_40_9, rf_40_12, rf_40_14, rf_40_22, rf_40_23, rf_40_24, rf_40_25, li_0, li_1, li_2, li_3, li_4, li_5, li_6, li_8, li_9, li_10, li_12, li_15, li_16, li_19, li_20, li_21, li_22, li_25, li_30, li_31, li_32, li_35, li_40, li_41, li_42, li_46, li_47, li_48, li_50, li_51, li_52, li_56, li_57, li_59, li_60, li_61, li_62, li_63, li_99, li_100, li_107, li_124, li_126, li_240, li_255, li_256, li_1000, li_1178, li_1240, li_9000, li_65536, li_1000000, nI_add, pk_mul, nI_ltI, nI_leI, nI_eq, xin_nI, nI_clamp, decide_true, decide_false, Bool.and_true, Bool.true_and, Bool.and_false, Bool.false_and, Bool.not_true, Bool.not_false, cond_true, cond_false, Option.bind_some, Option.toList_some, Option.toList_none, List.cons_append, List.nil_append, List.append_nil, Nat.not_lt_zero, Nat.zero_le, Nat.le_refl, Nat.lt_irrefl, Nat.reduceLT, Nat.reduceLeDiff, Nat.reduceEqDiff, Nat.reduceAdd, Nat.reduceMul, Bool.toNat_true, Bool.toNat_false, Nat.add_zero, Nat.zero_add, Nat.succ_ne_zero, Nat.one_ne_zero, decide_eq_true, decide_eq_false]
  · intro a s hlt _
    refine ⟨?_, trivial⟩
    have ha5 : a < 5 := by omega
    have e4 : ¬ hA H ≤ a := by omega
    have hx := hT.2.2.2 a hlt
    have hx5 := (hT.2.2.1 a ha5).1
    have h0 : 0 < hW H := by omega
    have ex := (SR.2.2.2 a ha5).1
    have eh := (HR.2.2.2 a ha5).2.2.2
    have hpw : (nI 1 : Int32) <<< (nI a &&& nI 31) = nI (2 ^ a) := nI_shl1 (by omega)
    have hne : ¬ nI (hW H) = nI 0 := by rw [nI_eq (by omega) (by omega)]; omega
    rw [b_R_shown_11]
    simp (disch := omega) only [w3, e4, kf_1, kf_2, kf_3, kf_4, kf_5, kf_6, kf_7, kf_8, kf_9, kf_10, kf_11, kf_12, kf_13, kf_14, kf_15, kf_16, kf_17, kf_18, kf_19, kf_20, kf_21, kf_22, kf_23, kf_24, kf_25, kf_26, kf_27, kf_28, kf_29, kf_30, kf_31, kf_32, kf_33, kf_34, kf_35, kf_36, kf_37, kf_38, kf_39, kf_40, kf_41, kf_42, kf_43, kf_44, kf_45, kf_46, kf_47, kf_48, kf_49, kf_50, kf_51, kf_52, kf_53, kf_54, rf_1_0, rf_1_1, rf_1_2, rf_1_3, rf_1_4, rf_1_5, rf_1_6, rf_1_7, rf_1_8, rf_2_3, rf_2_4, rf_2_5, rf_2_6, rf_7_0, rf_9_0, rf_11_0, rf_11_1, rf_11_4, rf_12_3, rf_12_4, rf_12_5, rf_12_6, rf_17_0, rf_20_1, rf_22_0, rf_22_1, rf_25_2, rf_25_3, rf_25_4, rf_25_5, rf_30_1, rf_30_2, rf_30_3, rf_30_4, rf_34_0, rf_36_0, rf_36_1, rf_36_2, rf_40_0, rf_40_1, rf_40_2, rf_40_3, rf_40_4, rf_40_6, rf_40_7, rf_40_9, rf_40_12, rf_40_14, rf_40_22, rf_40_23, rf_40_24, rf_40_25, li_0, li_1, li_2, li_3, li_4, li_5, li_6, li_8, li_9, li_10, li_12, li_15, li_16, li_19, li_20, li_21, li_22, li_25, li_30, li_31, li_32, li_35, li_40, li_41, li_42, li_46, li_47, li_48, li_50, li_51, li_52, li_56, li_57, li_59, li_60, li_61, li_62, li_63, li_99, li_100, li_107, li_124, li_126, li_240, li_255, li_256, li_1000, li_1178, li_1240, li_9000, li_65536, li_1000000, nI_add, pk_mul, nI_ltI, nI_leI, nI_eq, xin_nI, nI_clamp, decide_true, decide_false, Bool.and_true, Bool.true_and, Bool.and_false, Bool.false_and, Bool.not_true, Bool.not_false, cond_true, cond_false, Option.bind_some, Option.toList_some, Option.toList_none, List.cons_append, List.nil_append, List.append_nil, Nat.not_lt_zero, Nat.zero_le, Nat.le_refl, Nat.lt_irrefl, Nat.reduceLT, Nat.reduceLeDiff, Nat.reduceEqDiff, Nat.reduceAdd, Nat.reduceMul, Bool.toNat_true, Bool.toNat_false, Nat.add_zero, Nat.zero_add, Nat.succ_ne_zero, Nat.one_ne_zero, decide_eq_true, decide_eq_false]
    rw [← shown1_cells hx]
    generalize hx0 : sX T a = x at *
    generalize hq : (fun c => decide (c % hW H = x) && (hs.testBit c && (decide (nI 0 ≤ hang H ln c) && decide (hang H ln c ≤ nI (hht H a) - nI 1)))) = q
    have hs0 : ∀ b : Bool, (if b = true then s ||| 2 ^ a else s) ||| 2 ^ a = s ||| 2 ^ a := by
      intro b
      cases b
      · rfl
      · show (s ||| 2 ^ a) ||| 2 ^ a = _
        rw [Nat.or_assoc, Nat.or_self]
    refine loop_inv (E := fun c (v : Int32) => ev (160, 25, [.ref 40, .ref r, .int ln, .int v, .int (nI a), .int (nI c), .null], [], (xSH L, M, J))) (fun c v => v = nI (if anyB q c then s ||| 2 ^ a else s)) (n := hW H * hG H) ?_ ?_ (hW H * hG H) 0 (nI s) (by omega) rfl
    · intro v hv
      subst hv
      rw [b_R_shown_25]
      have hcn : nI (hW H * hG H) ≤ nI (hW H * hG H) := Int32.le_refl _
      simp (disch := omega) only [c_Rcells, w1, w2, hcn, b_R_shown_31, kf_1, kf_2, kf_3, kf_4, kf_5, kf_6, kf_7, kf_8, kf_9, kf_10, kf_11, kf_12, kf_13, kf_14, kf_15, kf_16, kf_17, kf_18, kf_19, kf_20, kf_21, kf_22, kf_23, kf_24, kf_25, kf_26, kf_27, kf_28, kf_29, kf_30, kf_31, kf_32, kf_33, kf_34, kf_35, kf_36, kf_37, kf_38, kf_39, kf_40, kf_41, kf_42, kf_43, kf_44, kf_45, kf_46, kf_47, kf_48, kf_49, kf_50, kf_51, kf_52, kf_53, kf_54, rf_1_0, rf_1_1, rf_1_2, rf_1_3, rf_1_4, rf_1_5, rf_1_6, rf_1_7, rf_1_8, rf_2_3, rf_2_4, rf_2_5, rf_2_6, rf_7_0, rf_9_0, rf_11_0, rf_11_1, rf_11_4, rf_12_3, rf_12_4, rf_12_5, rf_12_6, rf_17_0, rf_20_1, rf_22_0, rf_22_1, rf_25_2, rf_25_3, rf_25_4, rf_25_5, rf_30_1, rf_30_2, rf_30_3, rf_30_4, rf_34_0, rf_36_0, rf_36_1, rf_36_2, rf_40_0, rf_40_1, rf_40_2, rf_40_3, rf_40_4, rf_40_6, rf_40_7, rf_40_9, rf_40_12, rf_40_14, rf_40_22, rf_40_23, rf_40_24, rf_40_25, li_0, li_1, li_2, li_3, li_4, li_5, li_6, li_8, li_9, li_10, li_12, li_15, li_16, li_19, li_20, li_21, li_22, li_25, li_30, li_31, li_32, li_35, li_40, li_41, li_42, li_46, li_47, li_48, li_50, li_51, li_52, li_56, li_57, li_59, li_60, li_61, li_62, li_63, li_99, li_100, li_107, li_124, li_126, li_240, li_255, li_256, li_1000, li_1178, li_1240, li_9000, li_65536, li_1000000, nI_add, pk_mul, nI_ltI, nI_leI, nI_eq, xin_nI, nI_clamp, decide_true, decide_false, Bool.and_true, Bool.true_and, Bool.and_false, Bool.false_and, Bool.not_true, Bool.not_false, cond_true, cond_false, Option.bind_some, Option.toList_some, Option.toList_none, List.cons_append, List.nil_append, List.append_nil, Nat.not_lt_zero, Nat.zero_le, Nat.le_refl, Nat.lt_irrefl, Nat.reduceLT, Nat.reduceLeDiff, Nat.reduceEqDiff, Nat.reduceAdd, Nat.reduceMul, Bool.toNat_true, Bool.toNat_false, Nat.add_zero, Nat.zero_add, Nat.succ_ne_zero, Nat.one_ne_zero, decide_eq_true, decide_eq_false]
    · intro c v hc hv
      subst hv
      right
      have hcn : ¬ nI (hW H * hG H) ≤ nI c := by rw [nI_leI (by omega) (by omega)]; omega
      have hrem : xrem (nI c) (nI (hW H)) = nI (c % hW H) := xrem_nI (by omega) h0 (by omega)
      have hh := fun {J : Nat → Nat → Int64} => c_Rhangs (L := L) (J := J) (ln := ln) HR ho h0 (c := c) (by omega)
      have hor0 : ∀ z : Nat, nI z ||| nI 0 = nI z := fun z => by rw [nI_or, Nat.or_zero]
      have hm5 : c % hW H < 5 := by have := Nat.mod_lt c h0; have := ho.1; omega
      have hany : ∀ b : Bool, q c = b → anyB q (c + 1) = (anyB q c || b) := by intro b hb; rw [anyB, hb]
      have hqc : q c = (decide (c % hW H = x) && (hs.testBit c && (decide (nI 0 ≤ hang H ln c) && decide (hang H ln c ≤ nI (hht H a) - nI 1)))) := by rw [← hq]
      rw [b_R_shown_25]
      cases hbit : hs.testBit c with
      | false =>
        refine ⟨_, ?_, by rw [hany false (by rw [hqc, hbit]; simp), Bool.or_false]⟩
        simp (disch := omega) only [c_Rcells, w1, w2, hcn, b_R_shown_31, hr, hM, c_Rhas, hbit, b_R_shown_43, hor0, kf_1, kf_2, kf_3, kf_4, kf_5, kf_6, kf_7, kf_8, kf_9, kf_10, kf_11, kf_12, kf_13, kf_14, kf_15, kf_16, kf_17, kf_18, kf_19, kf_20, kf_21, kf_22, kf_23, kf_24, kf_25, kf_26, kf_27, kf_28, kf_29, kf_30, kf_31, kf_32, kf_33, kf_34, kf_35, kf_36, kf_37, kf_38, kf_39, kf_40, kf_41, kf_42, kf_43, kf_44, kf_45, kf_46, kf_47, kf_48, kf_49, kf_50, kf_51, kf_52, kf_53, kf_54, rf_1_0, rf_1_1, rf_1_2, rf_1_3, rf_1_4, rf_1_5, rf_1_6, rf_1_7, rf_1_8, rf_2_3, rf_2_4, rf_2_5, rf_2_6, rf_7_0, rf_9_0, rf_11_0, rf_11_1, rf_11_4, rf_12_3, rf_12_4, rf_12_5, rf_12_6, rf_17_0, rf_20_1, rf_22_0, rf_22_1, rf_25_2, rf_25_3, rf_25_4, rf_25_5, rf_30_1, rf_30_2, rf_30_3, rf_30_4, rf_34_0, rf_36_0, rf_36_1, rf_36_2, rf_40_0, rf_40_1, rf_40_2, rf_40_3, rf_40_4, rf_40_6, rf_40_7, rf_40_9, rf_40_12, rf_40_14, rf_40_22, rf_40_23, rf_40_24, rf_40_25, li_0, li_1, li_2, li_3, li_4, li_5, li_6, li_8, li_9, li_10, li_12, li_15, li_16, li_19, li_20, li_21, li_22, li_25, li_30, li_31, li_32, li_35, li_40, li_41, li_42, li_46, li_47, li_48, li_50, li_51, li_52, li_56, li_57, li_59, li_60, li_61, li_62, li_63, li_99, li_100, li_107, li_124, li_126, li_240, li_255, li_256, li_1000, li_1178, li_1240, li_9000, li_65536, li_1000000, nI_add, pk_mul, nI_ltI, nI_leI, nI_eq, xin_nI, nI_clamp, decide_true, decide_false, Bool.and_true, Bool.true_and, Bool.and_false, Bool.false_and, Bool.not_true, Bool.not_false, cond_true, cond_false, Option.bind_some, Option.toList_some, Option.toList_none, List.cons_append, List.nil_append, List.append_nil, Nat.not_lt_zero, Nat.zero_le, Nat.le_refl, Nat.lt_irrefl, Nat.reduceLT, Nat.reduceLeDiff, Nat.reduceEqDiff, Nat.reduceAdd, Nat.reduceMul, Bool.toNat_true, Bool.toNat_false, Nat.add_zero, Nat.zero_add, Nat.succ_ne_zero, Nat.one_ne_zero, decide_eq_true, decide_eq_false]
      | true =>
        by_cases hcx : c % hW H = x
        · by_cases hin : nI 0 ≤ hang H ln c ∧ hang H ln c ≤ nI (hht H a) - nI 1
          · refine ⟨nI (s ||| 2 ^ a), ?_, by rw [hany true (by rw [hqc, hbit]; simp [hcx, hin.1, hin.2]), Bool.or_true]; rfl⟩
            have hin' := hin
            simp (disch := omega) only [c_Rcells, w1, w2, hcn, b_R_shown_31, hr, hM, c_Rhas, hbit, b_R_shown_43, hne, hrem, hcx, ex, hh, b_R_shown_72, eh, ll_0, c_Rin, if_pos hin', b_R_shown_90, hpw, nI_or, hs0, kf_1, kf_2, kf_3, kf_4, kf_5, kf_6, kf_7, kf_8, kf_9, kf_10, kf_11, kf_12, kf_13, kf_14, kf_15, kf_16, kf_17, kf_18, kf_19, kf_20, kf_21, kf_22, kf_23, kf_24, kf_25, kf_26, kf_27, kf_28, kf_29, kf_30, kf_31, kf_32, kf_33, kf_34, kf_35, kf_36, kf_37, kf_38, kf_39, kf_40, kf_41, kf_42, kf_43, kf_44, kf_45, kf_46, kf_47, kf_48, kf_49, kf_50, kf_51, kf_52, kf_53, kf_54, rf_1_0, rf_1_1, rf_1_2, rf_1_3, rf_1_4, rf_1_5, rf_1_6, rf_1_7, rf_1_8, rf_2_3, rf_2_4, rf_2_5, rf_2_6, rf_7_0, rf_9_0, rf_11_0, rf_11_1, rf_11_4, rf_12_3, rf_12_4, rf_12_5, rf_12_6, rf_17_0, rf_20_1, rf_22_0, rf_22_1, rf_25_2, rf_25_3, rf_25_4, rf_25_5, rf_30_1, rf_30_2, rf_30_3, rf_30_4, rf_34_0, rf_36_0, rf_36_1, rf_36_2, rf_40_0, rf_40_1, rf_40_2, rf_40_3, rf_40_4, rf_40_6, rf_40_7, rf_40_9, rf_40_12, rf_40_14, rf_40_22, rf_40_23, rf_40_24, rf_40_25, li_0, li_1, li_2, li_3, li_4, li_5, li_6, li_8, li_9, li_10, li_12, li_15, li_16, li_19, li_20, li_21, li_22, li_25, li_30, li_31, li_32, li_35, li_40, li_41, li_42, li_46, li_47, li_48, li_50, li_51, li_52, li_56, li_57, li_59, li_60, li_61, li_62, li_63, li_99, li_100, li_107, li_124, li_126, li_240, li_255, li_256, li_1000, li_1178, li_1240, li_9000, li_65536, li_1000000, nI_add, pk_mul, nI_ltI, nI_leI, nI_eq, xin_nI, nI_clamp, decide_true, decide_false, Bool.and_true, Bool.true_and, Bool.and_false, Bool.false_and, Bool.not_true, Bool.not_false, cond_true, cond_false, Option.bind_some, Option.toList_some, Option.toList_none, List.cons_append, List.nil_append, List.append_nil, Nat.not_lt_zero, Nat.zero_le, Nat.le_refl, Nat.lt_irrefl, Nat.reduceLT, Nat.reduceLeDiff, Nat.reduceEqDiff, Nat.reduceAdd, Nat.reduceMul, Bool.toNat_true, Bool.toNat_false, Nat.add_zero, Nat.zero_add, Nat.succ_ne_zero, Nat.one_ne_zero, decide_eq_true, decide_eq_false]
          · refine ⟨_, ?_, by
              rw [hany false (by
                rw [hqc, hbit]
                by_cases q1 : nI 0 ≤ hang H ln c
                · have q2 : ¬ hang H ln c ≤ nI (hht H a) - nI 1 := fun z => hin ⟨q1, z⟩
                  simp [q2]
                · simp [q1]), Bool.or_false]⟩
            simp (disch := omega) only [c_Rcells, w1, w2, hcn, b_R_shown_31, hr, hM, c_Rhas, hbit, b_R_shown_43, hne, hrem, hcx, ex, hh, b_R_shown_72, eh, ll_0, c_Rin, if_neg hin, b_R_shown_90, hor0, kf_1, kf_2, kf_3, kf_4, kf_5, kf_6, kf_7, kf_8, kf_9, kf_10, kf_11, kf_12, kf_13, kf_14, kf_15, kf_16, kf_17, kf_18, kf_19, kf_20, kf_21, kf_22, kf_23, kf_24, kf_25, kf_26, kf_27, kf_28, kf_29, kf_30, kf_31, kf_32, kf_33, kf_34, kf_35, kf_36, kf_37, kf_38, kf_39, kf_40, kf_41, kf_42, kf_43, kf_44, kf_45, kf_46, kf_47, kf_48, kf_49, kf_50, kf_51, kf_52, kf_53, kf_54, rf_1_0, rf_1_1, rf_1_2, rf_1_3, rf_1_4, rf_1_5, rf_1_6, rf_1_7, rf_1_8, rf_2_3, rf_2_4, rf_2_5, rf_2_6, rf_7_0, rf_9_0, rf_11_0, rf_11_1, rf_11_4, rf_12_3, rf_12_4, rf_12_5, rf_12_6, rf_17_0, rf_20_1, rf_22_0, rf_22_1, rf_25_2, rf_25_3, rf_25_4, rf_25_5, rf_30_1, rf_30_2, rf_30_3, rf_30_4, rf_34_0, rf_36_0, rf_36_1, rf_36_2, rf_40_0, rf_40_1, rf_40_2, rf_40_3, rf_40_4, rf_40_6, rf_40_7, rf_40_9, rf_40_12, rf_40_14, rf_40_22, rf_40_23, rf_40_24, rf_40_25, li_0, li_1, li_2, li_3, li_4, li_5, li_6, li_8, li_9, li_10, li_12, li_15, li_16, li_19, li_20, li_21, li_22, li_25, li_30, li_31, li_32, li_35, li_40, li_41, li_42, li_46, li_47, li_48, li_50, li_51, li_52, li_56, li_57, li_59, li_60, li_61, li_62, li_63, li_99, li_100, li_107, li_124, li_126, li_240, li_255, li_256, li_1000, li_1178, li_1240, li_9000, li_65536, li_1000000, nI_add, pk_mul, nI_ltI, nI_leI, nI_eq, xin_nI, nI_clamp, decide_true, decide_false, Bool.and_true, Bool.true_and, Bool.and_false, Bool.false_and, Bool.not_true, Bool.not_false, cond_true, cond_false, Option.bind_some, Option.toList_some, Option.toList_none, List.cons_append, List.nil_append, List.append_nil, Nat.not_lt_zero, Nat.zero_le, Nat.le_refl, Nat.lt_irrefl, Nat.reduceLT, Nat.reduceLeDiff, Nat.reduceEqDiff, Nat.reduceAdd, Nat.reduceMul, Bool.toNat_true, Bool.toNat_false, Nat.add_zero, Nat.zero_add, Nat.succ_ne_zero, Nat.one_ne_zero, decide_eq_true, decide_eq_false]
        · refine ⟨_, ?_, by rw [hany false (by rw [hqc]; simp [hcx]), Bool.or_false]⟩
          have hcx' : ¬ nI (c % hW H) = nI x := by rw [nI_eq (by omega) (by omega)]; exact hcx
          simp (disch := omega) only [c_Rcells, w1, w2, hcn, b_R_shown_31, hr, hM, c_Rhas, hbit, b_R_shown_43, hne, hrem, hcx', hcx, ex, hor0, kf_1, kf_2, kf_3, kf_4, kf_5, kf_6, kf_7, kf_8, kf_9, kf_10, kf_11, kf_12, kf_13, kf_14, kf_15, kf_16, kf_17, kf_18, kf_19, kf_20, kf_21, kf_22, kf_23, kf_24, kf_25, kf_26, kf_27, kf_28, kf_29, kf_30, kf_31, kf_32, kf_33, kf_34, kf_35, kf_36, kf_37, kf_38, kf_39, kf_40, kf_41, kf_42, kf_43, kf_44, kf_45, kf_46, kf_47, kf_48, kf_49, kf_50, kf_51, kf_52, kf_53, kf_54, rf_1_0, rf_1_1, rf_1_2, rf_1_3, rf_1_4, rf_1_5, rf_1_6, rf_1_7, rf_1_8, rf_2_3, rf_2_4, rf_2_5, rf_2_6, rf_7_0, rf_9_0, rf_11_0, rf_11_1, rf_11_4, rf_12_3, rf_12_4, rf_12_5, rf_12_6, rf_17_0, rf_20_1, rf_22_0, rf_22_1, rf_25_2, rf_25_3, rf_25_4, rf_25_5, rf_30_1, rf_30_2, rf_30_3, rf_30_4, rf_34_0, rf_36_0, rf_36_1, rf_36_2, rf_40_0, rf_40_1, rf_40_2, rf_40_3, rf_40_4, rf_40_6, rf_40_7, rf_40_9, rf_40_12, rf_40_14, rf_40_22, rf_40_23, rf_40_24, rf_40_25, li_0, li_1, li_2, li_3, li_4, li_5, li_6, li_8, li_9, li_10, li_12, li_15, li_16, li_19, li_20, li_21, li_22, li_25, li_30, li_31, li_32, li_35, li_40, li_41, li_42, li_46, li_47, li_48, li_50, li_51, li_52, li_56, li_57, li_59, li_60, li_61, li_62, li_63, li_99, li_100, li_107, li_124, li_126, li_240, li_255, li_256, li_1000, li_1178, li_1240, li_9000, li_65536, li_1000000, nI_add, pk_mul, nI_ltI, nI_leI, nI_eq, xin_nI, nI_clamp, decide_true, decide_false, Bool.and_true, Bool.true_and, Bool.and_false, Bool.false_and, Bool.not_true, Bool.not_false, cond_true, cond_false, Option.bind_some, Option.toList_some, Option.toList_none, List.cons_append, List.nil_append, List.append_nil, Nat.not_lt_zero, Nat.zero_le, Nat.le_refl, Nat.lt_irrefl, Nat.reduceLT, Nat.reduceLeDiff, Nat.reduceEqDiff, Nat.reduceAdd, Nat.reduceMul, Bool.toNat_true, Bool.toNat_false, Nat.add_zero, Nat.zero_add, Nat.succ_ne_zero, Nat.one_ne_zero, decide_eq_true, decide_eq_false]
/-- the least CELL of a column with a HOLE, by cells -/
theorem lowest_cell {H : Ho} {hs x c : Nat} (hc : c < hW H * hG H) (hx : c % hW H = x) (hb : hs.testBit c = true) (hno : ∀ i, i < c → i % hW H = x → hs.testBit i = false) : lowest H hs x = some c := by
  have h0 : 0 < hW H := by
    rcases Nat.eq_zero_or_pos (hW H) with h | h
    · rw [h, Nat.zero_mul] at hc; omega
    · exact h
  have e : c / hW H * hW H + x = c := by rw [← hx]; exact Nat.div_add_mod' c (hW H)
  have hxl : x < hW H := by rw [← hx]; exact Nat.mod_lt _ h0
  have := lowest_is (H := H) (hs := hs) (x := x) (g := c / hW H) (Nat.div_lt_of_lt_mul hc) (by rw [e]; exact hb) (fun i hi => by
    refine hno _ ?_ (by rw [Nat.mul_comm, Nat.mul_add_mod, Nat.mod_eq_of_lt hxl])
    have h1 : (i + 1) * hW H ≤ c / hW H * hW H := Nat.mul_le_mul_right _ hi
    rw [Nat.succ_mul] at h1
    omega)
  rw [e] at this
  exact this
theorem lowest_nocell {H : Ho} {hs x : Nat} (hx : x < hW H) (hno : ∀ i, i < hW H * hG H → i % hW H = x → hs.testBit i = false) : lowest H hs x = none := by
  refine lowest_not (fun i hi => hno _ ?_ (by rw [Nat.mul_comm, Nat.mul_add_mod, Nat.mod_eq_of_lt hx]))
  have h1 : (i + 1) * hW H ≤ hG H * hW H := Nat.mul_le_mul_right _ hi
  rw [Nat.succ_mul] at h1
  rw [Nat.mul_comm (hW H)]
  omega
theorem c_RholeOf (hr : (xSH L).2.2.1 r = (11, 62)) (HR : houseR M 41 H) (ho : hoOk H) {hs x : Nat} (hM : M r 20 = nI hs) (hhs : hs < 2 ^ 31) (hx : x < hW H) : ev (161, 0, [.ref 40, .ref r, .int (nI x), .null], [], (xSH L, M, J)) = some (some (.int (optI (lowest H hs x))), (xSH L, M, J)) := by
  have hn := hcells ho
  have g5 := ho.1
  have w1 := HR.1
  have w2 := HR.2.1
  have h0 : 0 < hW H := by omega
  have hne : ¬ nI (hW H) = nI 0 := by rw [nI_eq (by omega) (by omega)]; omega
  rw [b_R_holeOf_0]
  refine loop_inv (E := fun c (_ : Unit) => ev (161, 2, [.ref 40, .ref r, .int (nI x), .int (nI c)], [], (xSH L, M, J))) (fun c _ => ∀ i, i < c → i % hW H = x → hs.testBit i = false) (n := hW H * hG H) ?_ ?_ (hW H * hG H) 0 () (by omega) (fun i hi => by omega)
  · intro _ hno
    rw [lowest_nocell hx hno, b_R_holeOf_2]
    have hcn : nI (hW H * hG H) ≤ nI (hW H * hG H) := Int32.le_refl _
    simp (disch := omega) only [c_Rcells, w1, w2, hcn, b_R_holeOf_7, kf_1, kf_2, kf_3, kf_4, kf_5, kf_6, kf_7, kf_8, kf_9, kf_10, kf_11, kf_12, kf_13, kf_14, kf_15, kf_16, kf_17, kf_18, kf_19, kf_20, kf_21, kf_22, kf_23, kf_24, kf_25, kf_26, kf_27, kf_28, kf_29, kf_30, kf_31, kf_32, kf_33, kf_34, kf_35, kf_36, kf_37, kf_38, kf_39, kf_40, kf_41, kf_42, kf_43, kf_44, kf_45, kf_46, kf_47, kf_48, kf_49, kf_50, kf_51, kf_52, kf_53, kf_54, rf_1_0, rf_1_1, rf_1_2, rf_1_3, rf_1_4, rf_1_5, rf_1_6, rf_1_7, rf_1_8, rf_2_3, rf_2_4, rf_2_5, rf_2_6, rf_7_0, rf_9_0, rf_11_0, rf_11_1, rf_11_4, rf_12_3, rf_12_4, rf_12_5, rf_12_6, rf_17_0, rf_20_1, rf_22_0, rf_22_1, rf_25_2, rf_25_3, rf_25_4, rf_25_5, rf_30_1, rf_30_2, rf_30_3, rf_30_4, rf_34_0, rf_36_0, rf_36_1, rf_36_2, rf_40_0, rf_40_1, rf_40_2, rf_40_3, rf_40_4, rf_40_6, rf_40_7, rf_40_9, rf_40_12, rf_40_14, rf_40_22, rf_40_23, rf_40_24, rf_40_25, li_0, li_1, li_2, li_3, li_4, li_5, li_6, li_8, li_9, li_10, li_12, li_15, li_16, li_19, li_20, li_21, li_22, li_25, li_30, li_31, li_32, li_35, li_40, li_41, li_42, li_46, li_47, li_48, li_50, li_51, li_52, li_56, li_57, li_59, li_60, li_61, li_62, li_63, li_99, li_100, li_107, li_124, li_126, li_240, li_255, li_256, li_1000, li_1178, li_1240, li_9000, li_65536, li_1000000, nI_add, pk_mul, nI_ltI, nI_leI, nI_eq, xin_nI, nI_clamp, decide_true, decide_false, Bool.and_true, Bool.true_and, Bool.and_false, Bool.false_and, Bool.not_true, Bool.not_false, cond_true, cond_false, Option.bind_some, Option.toList_some, Option.toList_none, List.cons_append, List.nil_append, List.append_nil, Nat.not_lt_zero, Nat.zero_le, Nat.le_refl, Nat.lt_irrefl, Nat.reduceLT, Nat.reduceLeDiff, Nat.reduceEqDiff, Nat.reduceAdd, Nat.reduceMul, Bool.toNat_true, Bool.toNat_false, Nat.add_zero, Nat.zero_add, Nat.succ_ne_zero, Nat.one_ne_zero, decide_eq_true, decide_eq_false]
    rfl
  · intro c _ hc hno
    have hcn : ¬ nI (hW H * hG H) ≤ nI c := by rw [nI_leI (by omega) (by omega)]; omega
    have hrem : xrem (nI c) (nI (hW H)) = nI (c % hW H) := xrem_nI (by omega) h0 (by omega)
    have hm5 : c % hW H < 5 := by have := Nat.mod_lt c h0; omega
    rw [b_R_holeOf_2]
    have hnext : ¬ (c % hW H = x ∧ hs.testBit c = true) → ∀ i, i < c + 1 → i % hW H = x → hs.testBit i = false := by
      intro hq i hi hix
      rcases Nat.lt_or_ge i c with h | h
      · exact hno i h hix
      · have : i = c := by omega
        subst this
        cases hb : hs.testBit i with
        | false => rfl
        | true => exact absurd ⟨hix, hb⟩ hq
    cases hbit : hs.testBit c with
    | false =>
      right
      refine ⟨(), ?_, hnext (fun q => by rw [hbit] at q; cases q.2)⟩
      simp (disch := omega) only [c_Rcells, w1, w2, hcn, b_R_holeOf_7, hr, hM, c_Rhas, hbit, b_R_holeOf_18, kf_1, kf_2, kf_3, kf_4, kf_5, kf_6, kf_7, kf_8, kf_9, kf_10, kf_11, kf_12, kf_13, kf_14, kf_15, kf_16, kf_17, kf_18, kf_19, kf_20, kf_21, kf_22, kf_23, kf_24, kf_25, kf_26, kf_27, kf_28, kf_29, kf_30, kf_31, kf_32, kf_33, kf_34, kf_35, kf_36, kf_37, kf_38, kf_39, kf_40, kf_41, kf_42, kf_43, kf_44, kf_45, kf_46, kf_47, kf_48, kf_49, kf_50, kf_51, kf_52, kf_53, kf_54, rf_1_0, rf_1_1, rf_1_2, rf_1_3, rf_1_4, rf_1_5, rf_1_6, rf_1_7, rf_1_8, rf_2_3, rf_2_4, rf_2_5, rf_2_6, rf_7_0, rf_9_0, rf_11_0, rf_11_1, rf_11_4, rf_12_3, rf_12_4, rf_12_5, rf_12_6, rf_17_0, rf_20_1, rf_22_0, rf_22_1, rf_25_2, rf_25_3, rf_25_4, rf_25_5, rf_30_1, rf_30_2, rf_30_3, rf_30_4, rf_34_0, rf_36_0, rf_36_1, rf_36_2, rf_40_0, rf_40_1, rf_40_2, rf_40_3, rf_40_4, rf_40_6, rf_40_7, rf_40_9, rf_40_12, rf_40_14, rf_40_22, rf_40_23, rf_40_24, rf_40_25, li_0, li_1, li_2, li_3, li_4, li_5, li_6, li_8, li_9, li_10, li_12, li_15, li_16, li_19, li_20, li_21, li_22, li_25, li_30, li_31, li_32, li_35, li_40, li_41, li_42, li_46, li_47, li_48, li_50, li_51, li_52, li_56, li_57, li_59, li_60, li_61, li_62, li_63, li_99, li_100, li_107, li_124, li_126, li_240, li_255, li_256, li_1000, li_1178, li_1240, li_9000, li_65536, li_1000000, nI_add, pk_mul, nI_ltI, nI_leI, nI_eq, xin_nI, nI_clamp, decide_true, decide_false, Bool.and_true, Bool.true_and, Bool.and_false, Bool.false_and, Bool.not_true, Bool.not_false, cond_true, cond_false, Option.bind_some, Option.toList_some, Option.toList_none, List.cons_append, List.nil_append, List.append_nil, Nat.not_lt_zero, Nat.zero_le, Nat.le_refl, Nat.lt_irrefl, Nat.reduceLT, Nat.reduceLeDiff, Nat.reduceEqDiff, Nat.reduceAdd, Nat.reduceMul, Bool.toNat_true, Bool.toNat_false, Nat.add_zero, Nat.zero_add, Nat.succ_ne_zero, Nat.one_ne_zero, decide_eq_true, decide_eq_false]
    | true =>
      by_cases hcx : c % hW H = x
      · left
        rw [lowest_cell hc hcx hbit hno]
        simp (disch := omega) only [c_Rcells, w1, w2, hcn, b_R_holeOf_7, hr, hM, c_Rhas, hbit, b_R_holeOf_18, hne, hrem, hcx, kf_1, kf_2, kf_3, kf_4, kf_5, kf_6, kf_7, kf_8, kf_9, kf_10, kf_11, kf_12, kf_13, kf_14, kf_15, kf_16, kf_17, kf_18, kf_19, kf_20, kf_21, kf_22, kf_23, kf_24, kf_25, kf_26, kf_27, kf_28, kf_29, kf_30, kf_31, kf_32, kf_33, kf_34, kf_35, kf_36, kf_37, kf_38, kf_39, kf_40, kf_41, kf_42, kf_43, kf_44, kf_45, kf_46, kf_47, kf_48, kf_49, kf_50, kf_51, kf_52, kf_53, kf_54, rf_1_0, rf_1_1, rf_1_2, rf_1_3, rf_1_4, rf_1_5, rf_1_6, rf_1_7, rf_1_8, rf_2_3, rf_2_4, rf_2_5, rf_2_6, rf_7_0, rf_9_0, rf_11_0, rf_11_1, rf_11_4, rf_12_3, rf_12_4, rf_12_5, rf_12_6, rf_17_0, rf_20_1, rf_22_0, rf_22_1, rf_25_2, rf_25_3, rf_25_4, rf_25_5, rf_30_1, rf_30_2, rf_30_3, rf_30_4, rf_34_0, rf_36_0, rf_36_1, rf_36_2, rf_40_0, rf_40_1, rf_40_2, rf_40_3, rf_40_4, rf_40_6, rf_40_7, rf_40_9, rf_40_12, rf_40_14, rf_40_22, rf_40_23, rf_40_24, rf_40_25, li_0, li_1, li_2, li_3, li_4, li_5, li_6, li_8, li_9, li_10, li_12, li_15, li_16, li_19, li_20, li_21, li_22, li_25, li_30, li_31, li_32, li_35, li_40, li_41, li_42, li_46, li_47, li_48, li_50, li_51, li_52, li_56, li_57, li_59, li_60, li_61, li_62, li_63, li_99, li_100, li_107, li_124, li_126, li_240, li_255, li_256, li_1000, li_1178, li_1240, li_9000, li_65536, li_1000000, nI_add, pk_mul, nI_ltI, nI_leI, nI_eq, xin_nI, nI_clamp, decide_true, decide_false, Bool.and_true, Bool.true_and, Bool.and_false, Bool.false_and, Bool.not_true, Bool.not_false, cond_true, cond_false, Option.bind_some, Option.toList_some, Option.toList_none, List.cons_append, List.nil_append, List.append_nil, Nat.not_lt_zero, Nat.zero_le, Nat.le_refl, Nat.lt_irrefl, Nat.reduceLT, Nat.reduceLeDiff, Nat.reduceEqDiff, Nat.reduceAdd, Nat.reduceMul, Bool.toNat_true, Bool.toNat_false, Nat.add_zero, Nat.zero_add, Nat.succ_ne_zero, Nat.one_ne_zero, decide_eq_true, decide_eq_false]
        rfl
      · right
        refine ⟨(), ?_, hnext (fun q => hcx q.1)⟩
        have hcx' : ¬ nI (c % hW H) = nI x := by rw [nI_eq (by omega) (by omega)]; exact hcx
        simp (disch := omega) only [c_Rcells, w1, w2, hcn, b_R_holeOf_7, hr, hM, c_Rhas, hbit, b_R_holeOf_18, hne, hrem, hcx, hcx', kf_1, kf_2, kf_3, kf_4, kf_5, kf_6, kf_7, kf_8, kf_9, kf_10, kf_11, kf_12, kf_13, kf_14, kf_15, kf_16, kf_17, kf_18, kf_19, kf_20, kf_21, kf_22, kf_23, kf_24, kf_25, kf_26, kf_27, kf_28, kf_29, kf_30, kf_31, kf_32, kf_33, kf_34, kf_35, kf_36, kf_37, kf_38, kf_39, kf_40, kf_41, kf_42, kf_43, kf_44, kf_45, kf_46, kf_47, kf_48, kf_49, kf_50, kf_51, kf_52, kf_53, kf_54, rf_1_0, rf_1_1, rf_1_2, rf_1_3, rf_1_4, rf_1_5, rf_1_6, rf_1_7, rf_1_8, rf_2_3, rf_2_4, rf_2_5, rf_2_6, rf_7_0, rf_9_0, rf_11_0, rf_11_1, rf_11_4, rf_12_3, rf_12_4, rf_12_5, rf_12_6, rf_17_0, rf_20_1, rf_22_0, rf_22_1, rf_25_2, rf_25_3, rf_25_4, rf_25_5, rf_30_1, rf_30_2, rf_30_3, rf_30_4, rf_34_0, rf_36_0, rf_36_1, rf_36_2, rf_40_0, rf_40_1, rf_40_2, rf_40_3, rf_40_4, rf_40_6, rf_40_7, rf_40_9, rf_40_12, rf_40_14, rf_40_22, rf_40_23, rf_40_24, rf_40_25, li_0, li_1, li_2, li_3, li_4, li_5, li_6, li_8, li_9, li_10, li_12, li_15, li_16, li_19, li_20, li_21, li_22, li_25, li_30, li_31, li_32, li_35, li_40, li_41, li_42, li_46, li_47, li_48, li_50, li_51, li_52, li_56, li_57, li_59, li_60, li_61, li_62, li_63, li_99, li_100, li_107, li_124, li_126, li_240, li_255, li_256, li_1000, li_1178, li_1240, li_9000, li_65536, li_1000000, nI_add, pk_mul, nI_ltI, nI_leI, nI_eq, xin_nI, nI_clamp, decide_true, decide_false, Bool.and_true, Bool.true_and, Bool.and_false, Bool.false_and, Bool.not_true, Bool.not_false, cond_true, cond_false, Option.bind_some, Option.toList_some, Option.toList_none, List.cons_append, List.nil_append, List.append_nil, Nat.not_lt_zero, Nat.zero_le, Nat.le_refl, Nat.lt_irrefl, Nat.reduceLT, Nat.reduceLeDiff, Nat.reduceEqDiff, Nat.reduceAdd, Nat.reduceMul, Bool.toNat_true, Bool.toNat_false, Nat.add_zero, Nat.zero_add, Nat.succ_ne_zero, Nat.one_ne_zero, decide_eq_true, decide_eq_false]
end REFC
