/-! ===== the curtain's weight ===== -/
def wAt (H : Ho) (T : Sc) (c : Nat) : Nat := if (sH T).testBit c then 0 else hwt H (sK T c)
def weight (H : Ho) (T : Sc) : Nat := it (fun c s => s + wAt H T c) (hW H * hG H) 0 0
theorem hcells {H : Ho} (h : hoOk H) : hW H * hG H ≤ 20 := Nat.mul_le_mul h.1 h.2.1
section WEIGH
variable {sh : xSh} {t r h aw al am ah : Nat} {M : Mem} {J : Nat → Nat → Int64} {H : Ho} {T : Sc}
theorem scH_lt (ho : hoOk H) (hT : scOk H T) : sH T < 2 ^ 31 := Nat.lt_of_lt_of_le hT.1 (Nat.pow_le_pow_right (by decide) (Nat.le_trans (hcells ho) (by decide)))
theorem c_weight (hH : isHouse sh h aw al am ah) (hS : isScene sh t r) (HC : houseC M h aw al am ah H) (SC : sceneC M r T) (ho : hoOk H) (hT : scOk H T) : ev (72, 0, [.ref t, .ref h, .null, .null], [], (sh, M, J)) = some (some (.int (nI (weight H T))), (sh, M, J)) := by
  have hn := hcells ho
  have hs31 := scH_lt ho hT
  obtain ⟨w1, w2, w3, w4⟩ := HC
  have k1 := hH.1
  have k2 := hS.1
  have hc : M h 0 * M h 1 = nI (hW H * hG H) := by rw [w1, w2, pk_mul]
  have key := loop_it (E := fun c s => ev (72, 4, [.ref t, .ref h, .int (nI s), .int (nI c)], [], (sh, M, J))) (F := fun s => some (some (.int (nI s)), (sh, M, J))) (fun c s => s + wAt H T c) (fun _ _ => True) (n := hW H * hG H) ?_ ?_ (hW H * hG H) 0 0 (by omega) trivial
  · rw [b_Scene_weight_0]
    exact key.1
  · intro s _
    generalize hW H * hG H = n at *
    rw [b_Scene_weight_4]
    simp (disch := omega) only [k1, k2, c_cells hH, hc, b_Scene_weight_9, li_0, li_1, li_2, li_3, li_4, li_5, li_6, li_8, li_9, li_10, li_12, li_15, li_16, li_19, li_20, li_21, li_22, li_25, li_30, li_31, li_32, li_35, li_40, li_41, li_42, li_46, li_47, li_48, li_50, li_51, li_52, li_56, li_57, li_59, li_60, li_61, li_62, li_63, li_99, li_100, li_107, li_124, li_126, li_240, li_255, li_256, li_1000, li_1178, li_1240, li_9000, li_65536, li_1000000, nI_add, pk_mul, nI_ltI, nI_leI, nI_eq, xin_nI, nI_clamp, decide_true, decide_false, Bool.and_true, Bool.true_and, Bool.and_false, Bool.false_and, Bool.not_true, Bool.not_false, cond_true, cond_false, Option.bind_some, Option.toList_some, Option.toList_none, List.cons_append, List.nil_append, List.append_nil, Nat.not_lt_zero, Nat.zero_le, Nat.le_refl, Nat.lt_irrefl, Nat.reduceLT, Nat.reduceLeDiff, Nat.reduceEqDiff, Nat.reduceAdd, Nat.reduceMul, Bool.toNat_true, Bool.toNat_false, Nat.add_zero, Nat.zero_add, Nat.succ_ne_zero, Nat.one_ne_zero]
  · intro c s hlt _
    have hc20 : c < 20 := by omega
    refine ⟨?_, trivial⟩
    have e1 := (SC.2.2.1 c hc20).1
    have e2 := hT.2.1 c hc20
    have e3 := (w4 _ e2).1
    have e0 := SC.1
    have e4 : ¬ hW H * hG H ≤ c := by omega
    generalize hW H * hG H = n at *
    rw [b_Scene_weight_4]
    unfold wAt
    cases hb : (sH T).testBit c
    · simp (disch := omega) only [k1, k2, c_cells hH, hc, b_Scene_weight_9, e4, c_holes hS, e0, b_Scene_weight_17, c_hasBit, hb, b_Scene_weight_21, c_clothAt hS, e1, b_Scene_weight_34, c_weightOf hH, e3, b_Scene_weight_37, li_0, li_1, li_2, li_3, li_4, li_5, li_6, li_8, li_9, li_10, li_12, li_15, li_16, li_19, li_20, li_21, li_22, li_25, li_30, li_31, li_32, li_35, li_40, li_41, li_42, li_46, li_47, li_48, li_50, li_51, li_52, li_56, li_57, li_59, li_60, li_61, li_62, li_63, li_99, li_100, li_107, li_124, li_126, li_240, li_255, li_256, li_1000, li_1178, li_1240, li_9000, li_65536, li_1000000, nI_add, pk_mul, nI_ltI, nI_leI, nI_eq, xin_nI, nI_clamp, decide_true, decide_false, Bool.and_true, Bool.true_and, Bool.and_false, Bool.false_and, Bool.not_true, Bool.not_false, cond_true, cond_false, Option.bind_some, Option.toList_some, Option.toList_none, List.cons_append, List.nil_append, List.append_nil, Nat.not_lt_zero, Nat.zero_le, Nat.le_refl, Nat.lt_irrefl, Nat.reduceLT, Nat.reduceLeDiff, Nat.reduceEqDiff, Nat.reduceAdd, Nat.reduceMul, Bool.toNat_true, Bool.toNat_false, Nat.add_zero, Nat.zero_add, Nat.succ_ne_zero, Nat.one_ne_zero]
      rfl
    · simp (disch := omega) only [k1, k2, c_cells hH, hc, b_Scene_weight_9, e4, c_holes hS, e0, b_Scene_weight_17, c_hasBit, hb, b_Scene_weight_21, li_0, li_1, li_2, li_3, li_4, li_5, li_6, li_8, li_9, li_10, li_12, li_15, li_16, li_19, li_20, li_21, li_22, li_25, li_30, li_31, li_32, li_35, li_40, li_41, li_42, li_46, li_47, li_48, li_50, li_51, li_52, li_56, li_57, li_59, li_60, li_61, li_62, li_63, li_99, li_100, li_107, li_124, li_126, li_240, li_255, li_256, li_1000, li_1178, li_1240, li_9000, li_65536, li_1000000, nI_add, pk_mul, nI_ltI, nI_leI, nI_eq, xin_nI, nI_clamp, decide_true, decide_false, Bool.and_true, Bool.true_and, Bool.and_false, Bool.false_and, Bool.not_true, Bool.not_false, cond_true, cond_false, Option.bind_some, Option.toList_some, Option.toList_none, List.cons_append, List.nil_append, List.append_nil, Nat.not_lt_zero, Nat.zero_le, Nat.le_refl, Nat.lt_irrefl, Nat.reduceLT, Nat.reduceLeDiff, Nat.reduceEqDiff, Nat.reduceAdd, Nat.reduceMul, Bool.toNat_true, Bool.toNat_false, Nat.add_zero, Nat.zero_add, Nat.succ_ne_zero, Nat.one_ne_zero]
      rfl
end WEIGH
