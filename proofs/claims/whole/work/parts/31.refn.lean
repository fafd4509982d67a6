section REFN
variable {L r : Nat} {M : Mem} {J : Nat → Nat → Int64} {H : Ho} {T : Sc}
theorem sceneR_bare (SC : sceneR M r T) {a : Nat} (ha : a < 5) : sceneR (xu M r (56 + a) (M r (56 + a) + nI 1)) r (bareT T a) := by
  have hr : ∀ j, xu M r (56 + a) (M r (56 + a) + nI 1) r j = if j = 56 + a then M r (56 + a) + nI 1 else M r j := by intro j; rw [xu_eq]
  unfold sceneR
  simp only [hr]
  refine ⟨?_, ?_, fun c hc => ⟨?_, ?_⟩, fun a' ha' => ⟨?_, ?_, ?_, ?_⟩⟩
  · rw [if_neg (by omega)]; exact SC.1
  · rw [if_neg (by omega)]; exact SC.2.1
  · rw [if_neg (by omega)]; exact (SC.2.2.1 c hc).1
  · rw [if_neg (by omega)]; exact (SC.2.2.1 c hc).2
  · rw [if_neg (by omega)]; exact (SC.2.2.2 a' ha').1
  · rw [if_neg (by omega)]; exact (SC.2.2.2 a' ha').2.1
  · rw [if_neg (by omega)]; exact (SC.2.2.2 a' ha').2.2.1
  · show _ = upN (sB T) a (sB T a + 1) a'
    unfold upN
    by_cases q : a' = a
    · subst q
      rw [if_pos rfl, if_pos rfl, (SC.2.2.2 a' ha').2.2.2]; rfl
    · rw [if_neg (by omega), if_neg q]; exact (SC.2.2.2 a' ha').2.2.2
theorem sceneR_patch (SC : sceneR M r T) {a c : Nat} (ha : a < 5) (hc : c < 20) (hs31 : sH T < 2 ^ 31) (hp : 1 ≤ sP T a) :
    sceneR (xu (xu (xu (xu M r (51 + a) (M r (51 + a) - nI 1)) r (0 + c) (M r (46 + a))) r 20 (M r 20 &&& (nI (2 ^ c) ^^^ (-1)))) r (21 + c) (M r (21 + c) + nI 1)) r (patchT T a c) := by
  have hr : ∀ j, xu (xu (xu (xu M r (51 + a) (M r (51 + a) - nI 1)) r (0 + c) (M r (46 + a))) r 20 (M r 20 &&& (nI (2 ^ c) ^^^ (-1)))) r (21 + c) (M r (21 + c) + nI 1) r j = if j = 21 + c then M r (21 + c) + nI 1 else if j = 20 then M r 20 &&& (nI (2 ^ c) ^^^ (-1)) else if j = 0 + c then M r (46 + a) else if j = 51 + a then M r (51 + a) - nI 1 else M r j := by intro j; simp only [xu_eq]
  unfold sceneR
  simp only [hr]
  refine ⟨?_, ?_, fun c' hc' => ⟨?_, ?_⟩, fun a' ha' => ⟨?_, ?_, ?_, ?_⟩⟩
  · rw [if_neg (by omega), if_pos trivial, SC.1, nI_clr hs31 (by omega)]; rfl
  · rw [if_neg (by omega), if_neg (by omega), if_neg (by omega), if_neg (by omega)]; exact SC.2.1
  · rw [if_neg (by omega), if_neg (by omega)]
    show _ = nI (upN (sK T) c (sO T a) c')
    unfold upN
    by_cases q : c' = c
    · subst q
      rw [if_pos rfl, if_pos rfl]; exact (SC.2.2.2 a ha).2.1
    · rw [if_neg (by omega), if_neg (by omega), if_neg q]; exact (SC.2.2.1 c' hc').1
  · show _ = upN (sQ T) c (sQ T c + 1) c'
    unfold upN
    by_cases q : c' = c
    · subst q
      rw [if_pos rfl, if_pos rfl, (SC.2.2.1 c' hc').2]; rfl
    · rw [if_neg (by omega), if_neg (by omega), if_neg (by omega), if_neg (by omega), if_neg q]; exact (SC.2.2.1 c' hc').2
  · rw [if_neg (by omega), if_neg (by omega), if_neg (by omega), if_neg (by omega)]; exact (SC.2.2.2 a' ha').1
  · rw [if_neg (by omega), if_neg (by omega), if_neg (by omega), if_neg (by omega)]; exact (SC.2.2.2 a' ha').2.1
  · rw [if_neg (by omega), if_neg (by omega), if_neg (by omega)]
    show _ = nI (upN (sP T) a (sP T a - 1) a')
    unfold upN
    by_cases q : a' = a
    · subst q
      rw [if_pos rfl, if_pos rfl, (SC.2.2.2 a' ha').2.2.1, pk_sub hp]
    · rw [if_neg (by omega), if_neg q]; exact (SC.2.2.2 a' ha').2.2.1
  · rw [if_neg (by omega), if_neg (by omega), if_neg (by omega), if_neg (by omega)]; exact (SC.2.2.2 a' ha').2.2.2
theorem sceneR_night (SC : sceneR M r T) : sceneR (xu M r 61 (M r 61 + nI 1)) r (sH T, sK T, sX T, sO T, sP T, sQ T, sB T, sN T + 1) := by
  have hr : ∀ j, xu M r 61 (M r 61 + nI 1) r j = if j = 61 then M r 61 + nI 1 else M r j := by intro j; rw [xu_eq]
  unfold sceneR
  simp only [hr]
  refine ⟨?_, ?_, fun c hc => ⟨?_, ?_⟩, fun a' ha' => ⟨?_, ?_, ?_, ?_⟩⟩
  · rw [if_neg (by omega)]; exact SC.1
  · rw [if_pos trivial, SC.2.1]; rfl
  · rw [if_neg (by omega)]; exact (SC.2.2.1 c hc).1
  · rw [if_neg (by omega)]; exact (SC.2.2.1 c hc).2
  · rw [if_neg (by omega)]; exact (SC.2.2.2 a' ha').1
  · rw [if_neg (by omega)]; exact (SC.2.2.2 a' ha').2.1
  · rw [if_neg (by omega)]; exact (SC.2.2.2 a' ha').2.2.1
  · rw [if_neg (by omega)]; exact (SC.2.2.2 a' ha').2.2.2
theorem optI_neg (o : Option Nat) (h : ∀ c, o = some c → c < 2 ^ 31) : (optI o < nI 0) ↔ o = none := by
  cases o with
  | none => exact ⟨fun _ => rfl, fun _ => by decide⟩
  | some c => exact ⟨fun q => absurd q (nI_pos (h c rfl)), fun q => by cases q⟩
theorem c_RnightGoes (hr : (xSH L).2.2.1 r = (11, 62)) (HR : houseR M 41 H) (SR : sceneR M r T) (ho : hoOk H) (hT : scOk H T) (hr41 : r ≠ 41) : ∃ M', ev (162, 0, [.ref 40, .ref r, .null, .null, .null], [], (xSH L, M, J)) = some (some (.int (nI (shownS H T))), (xSH L, M', J)) ∧ sceneR M' r (nightT H T) ∧ only M M' r ∧ scOk H (nightT H T) := by
  have hn := hcells ho
  have hA5 := ho.2.2.1
  have h5 := shownS_5 ho T
  have hsn := fun {J : Nat → Nat → Int64} => c_Rshown (J := J) hr HR SR ho hT SR.1 (scH_lt ho hT)
  rw [b_R_nightGoes_0]
  simp (disch := omega) only [hsn, b_R_nightGoes_5, kf_1, kf_2, kf_3, kf_4, kf_5, kf_6, kf_7, kf_8, kf_9, kf_10, kf_11, kf_12, kf_13, kf_14, kf_15, kf_16, kf_17, kf_18, kf_19, kf_20, kf_21, kf_22, kf_23, kf_24, kf_25, kf_26, kf_27, kf_28, kf_29, kf_30, kf_31, kf_32, kf_33, kf_34, kf_35, kf_36, kf_37, kf_38, kf_39, kf_40, kf_41, kf_42, kf_43, kf_44, kf_45, kf_46, kf_47, kf_48, kf_49, kf_50, kf_51, kf_52, kf_53, kf_54, rf_1_0, rf_1_1, rf_1_2, rf_1_3, rf_1_4, rf_1_5, rf_1_6, rf_1_7, rf_1_8, rf_2_3, rf_2_4, rf_2_5, rf_2_6, rf_7_0, rf_9_0, rf_11_0, rf_11_1, rf_11_4, rf_12_3, rf_12_4, rf_12_5, rf_12_6, rf_17_0, rf_20_1, rf_22_0, rf_22_1, rf_25_2, rf_25_3, rf_25_4, rf_25_5, rf_30_1, rf_30_2, rf_30_3, rf_30_4, rf_34_0, rf_36_0, rf_36_1, rf_36_2, rf_40_0, rf_40_1, rf_40_2, rf_40_3, rf_40_4, rf_40_6, rf_40_7, rf_40_9, rf_40_12, rf_40_14, rf_40_22, rf_40_23, rf_40_24, rf_40_25, li_0, li_1, li_2, li_3, li_4, li_5, li_6, li_8, li_9, li_10, li_12, li_15, li_16, li_19, li_20, li_21, li_22, li_25, li_30, li_31, li_32, li_35, li_40, li_41, li_42, li_46, li_47, li_48, li_50, li_51, li_52, li_56, li_57, li_59, li_60, li_61, li_62, li_63, li_99, li_100, li_107, li_124, li_126, li_240, li_255, li_256, li_1000, li_1178, li_1240, li_9000, li_65536, li_1000000, nI_add, pk_mul, nI_ltI, nI_leI, nI_eq, xin_nI, nI_clamp, decide_true, decide_false, Bool.and_true, Bool.true_and, Bool.and_false, Bool.false_and, Bool.not_true, Bool.not_false, cond_true, cond_false, Option.bind_some, Option.toList_some, Option.toList_none, List.cons_append, List.nil_append, List.append_nil, Nat.not_lt_zero, Nat.zero_le, Nat.le_refl, Nat.lt_irrefl, Nat.reduceLT, Nat.reduceLeDiff, Nat.reduceEqDiff, Nat.reduceAdd, Nat.reduceMul, Bool.toNat_true, Bool.toNat_false, Nat.add_zero, Nat.zero_add, Nat.succ_ne_zero, Nat.one_ne_zero, decide_eq_true, decide_eq_false]
  have hsT : shownS H (sH T, T.2) = shownS H T := rfl
  rw [hsT]
  generalize hs : shownS H T = s at *
  have key := loop_to (E := fun a (q : Mem × Sc) => ev (162, 8, [.ref 40, .ref r, .int (nI s), .int (nI a), .null], [], (xSH L, q.1, J))) (F := fun M' : Mem => some (some (.int (nI s)), (xSH L, M', J))) (fun M' => sceneR M' r (nightT H T) ∧ only M M' r ∧ scOk H (nightT H T)) (fun a q => sceneR q.1 r q.2 ∧ scOk H q.2 ∧ only M q.1 r ∧ q.2 = it (mend1 H s) a 0 T) (n := hA H) ?_ ?_ (hA H) 0 (M, T) (by omega) ⟨SR, hT, only_rf, rfl⟩
  · exact key
  · intro q hq
    obtain ⟨q1, q2, q3, q4⟩ := hq
    have w3 := (houseR_only HR q3 hr41).2.2.1
    have e9 : nightT H T = (sH q.2, sK q.2, sX q.2, sO q.2, sP q.2, sQ q.2, sB q.2, sN q.2 + 1) := by
      unfold nightT
      rw [hs, ← q4]
    refine ⟨xu q.1 r 61 (q.1 r 61 + nI 1), ?_, ?_, only_xu' q3, ?_⟩
    · rw [b_R_nightGoes_8]
      simp (disch := omega) only [w3, hr, kf_1, kf_2, kf_3, kf_4, kf_5, kf_6, kf_7, kf_8, kf_9, kf_10, kf_11, kf_12, kf_13, kf_14, kf_15, kf_16, kf_17, kf_18, kf_19, kf_20, kf_21, kf_22, kf_23, kf_24, kf_25, kf_26, kf_27, kf_28, kf_29, kf_30, kf_31, kf_32, kf_33, kf_34, kf_35, kf_36, kf_37, kf_38, kf_39, kf_40, kf_41, kf_42, kf_43, kf_44, kf_45, kf_46, kf_47, kf_48, kf_49, kf_50, kf_51, kf_52, kf_53, kf_54, rf_1_0, rf_1_1, rf_1_2, rf_1_3, rf_1_4, rf_1_5, rf_1_6, rf_1_7, rf_1_8, rf_2_3, rf_2_4, rf_2_5, rf_2_6, rf_7_0, rf_9_0, rf_11_0, rf_11_1, rf_11_4, rf_12_3, rf_12_4, rf_12_5, rf_12_6, rf_17_0, rf_20_1, rf_22_0, rf_22_1, rf_25_2, rf_25_3, rf_25_4, rf_25_5, rf_30_1, rf_30_2, rf_30_3, rf_30_4, rf_34_0, rf_36_0, rf_36_1, rf_36_2, rf_40_0, rf_40_1, rf_40_2, rf_40_3, rf_40_4, rf_40_6, rf_40_7, rf_40_9, rf_40_12, rf_40_14, rf_40_22, rf_40_23, rf_40_24, rf_40_25, li_0, li_1, li_2, li_3, li_4, li_5, li_6, li_8, li_9, li_10, li_12, li_15, li_16, li_19, li_20, li_21, li_22, li_25, li_30, li_31, li_32, li_35, li_40, li_41, li_42, li_46, li_47, li_48, li_50, li_51, li_52, li_56, li_57, li_59, li_60, li_61, li_62, li_63, li_99, li_100, li_107, li_124, li_126, li_240, li_255, li_256, li_1000, li_1178, li_1240, li_9000, li_65536, li_1000000, nI_add, pk_mul, nI_ltI, nI_leI, nI_eq, xin_nI, nI_clamp, decide_true, decide_false, Bool.and_true, Bool.true_and, Bool.and_false, Bool.false_and, Bool.not_true, Bool.not_false, cond_true, cond_false, Option.bind_some, Option.toList_some, Option.toList_none, List.cons_append, List.nil_append, List.append_nil, Nat.not_lt_zero, Nat.zero_le, Nat.le_refl, Nat.lt_irrefl, Nat.reduceLT, Nat.reduceLeDiff, Nat.reduceEqDiff, Nat.reduceAdd, Nat.reduceMul, Bool.toNat_true, Bool.toNat_false, Nat.add_zero, Nat.zero_add, Nat.succ_ne_zero, Nat.one_ne_zero, decide_eq_true, decide_eq_false]
    · rw [e9]; exact sceneR_night q1
    · rw [e9]; exact q2
  · intro a q ha hq
    obtain ⟨q1, q2, q3, q4⟩ := hq
    right
    have ha5 : a < 5 := by omega
    have HR' := houseR_only HR q3 hr41
    have w3 := HR'.2.2.1
    have e4 : ¬ hA H ≤ a := by omega
    have e5 : mend1 H s a q.2 = it (mend1 H s) (a + 1) 0 T := by rw [it_succ, Nat.zero_add, ← q4]
    have hs31 := scH_lt ho q2
    have hx := q2.2.2.2 a ha
    have hp9 := (q2.2.2.1 a ha5).2.2
    obtain ⟨ex, eo, ep, eb⟩ := q1.2.2.2 a ha5
    have hlow := fun {J : Nat → Nat → Int64} => c_RholeOf (J := J) hr HR' ho q1.1 hs31 hx
    have hneg := optI_neg (lowest H (sH q.2) (sX q.2 a)) (fun c hc => by have := lowest_lt ho hx hc; omega)
    cases hb : s.testBit a with
    | false =>
      refine ⟨q, ?_, q1, q2, q3, ?_⟩
      · rw [b_R_nightGoes_8]
        simp (disch := omega) only [w3, e4, hr, ex, hlow, b_R_nightGoes_29, c_Rhas, hb, b_R_nightGoes_36, b_R_nightGoes_66, kf_1, kf_2, kf_3, kf_4, kf_5, kf_6, kf_7, kf_8, kf_9, kf_10, kf_11, kf_12, kf_13, kf_14, kf_15, kf_16, kf_17, kf_18, kf_19, kf_20, kf_21, kf_22, kf_23, kf_24, kf_25, kf_26, kf_27, kf_28, kf_29, kf_30, kf_31, kf_32, kf_33, kf_34, kf_35, kf_36, kf_37, kf_38, kf_39, kf_40, kf_41, kf_42, kf_43, kf_44, kf_45, kf_46, kf_47, kf_48, kf_49, kf_50, kf_51, kf_52, kf_53, kf_54, rf_1_0, rf_1_1, rf_1_2, rf_1_3, rf_1_4, rf_1_5, rf_1_6, rf_1_7, rf_1_8, rf_2_3, rf_2_4, rf_2_5, rf_2_6, rf_7_0, rf_9_0, rf_11_0, rf_11_1, rf_11_4, rf_12_3, rf_12_4, rf_12_5, rf_12_6, rf_17_0, rf_20_1, rf_22_0, rf_22_1, rf_25_2, rf_25_3, rf_25_4, rf_25_5, rf_30_1, rf_30_2, rf_30_3, rf_30_4, rf_34_0, rf_36_0, rf_36_1, rf_36_2, rf_40_0, rf_40_1, rf_40_2, rf_40_3, rf_40_4, rf_40_6, rf_40_7, rf_40_9, rf_40_12, rf_40_14, rf_40_22, rf_40_23, rf_40_24, rf_40_25, li_0, li_1, li_2, li_3, li_4, li_5, li_6, li_8, li_9, li_10, li_12, li_15, li_16, li_19, li_20, li_21, li_22, li_25, li_30, li_31, li_32, li_35, li_40, li_41, li_42, li_46, li_47, li_48, li_50, li_51, li_52, li_56, li_57, li_59, li_60, li_61, li_62, li_63, li_99, li_100, li_107, li_124, li_126, li_240, li_255, li_256, li_1000, li_1178, li_1240, li_9000, li_65536, li_1000000, nI_add, pk_mul, nI_ltI, nI_leI, nI_eq, xin_nI, nI_clamp, decide_true, decide_false, Bool.and_true, Bool.true_and, Bool.and_false, Bool.false_and, Bool.not_true, Bool.not_false, cond_true, cond_false, Option.bind_some, Option.toList_some, Option.toList_none, List.cons_append, List.nil_append, List.append_nil, Nat.not_lt_zero, Nat.zero_le, Nat.le_refl, Nat.lt_irrefl, Nat.reduceLT, Nat.reduceLeDiff, Nat.reduceEqDiff, Nat.reduceAdd, Nat.reduceMul, Bool.toNat_true, Bool.toNat_false, Nat.add_zero, Nat.zero_add, Nat.succ_ne_zero, Nat.one_ne_zero, decide_eq_true, decide_eq_false]
      · rw [← e5]; unfold mend1; rw [hb]; rfl
    | true =>
      have e6 : it (mend1 H s) (a + 1) 0 T = mendT H a q.2 := by rw [← e5]; unfold mend1; rw [hb]; rfl
      by_cases hp : sP q.2 a = 0
      · have e9 : mendT H a q.2 = bareT q.2 a := by unfold mendT; rw [if_pos hp]
        refine ⟨(xu q.1 r (56 + a) (q.1 r (56 + a) + nI 1), mendT H a q.2), ?_, ?_, (mendT_ok ho q2 ha).1, only_xu' q3, e6.symm⟩
        · rw [b_R_nightGoes_8]
          simp (disch := omega) only [w3, e4, hr, ex, hlow, b_R_nightGoes_29, c_Rhas, hb, b_R_nightGoes_36, ep, hp, kf_1, kf_2, kf_3, kf_4, kf_5, kf_6, kf_7, kf_8, kf_9, kf_10, kf_11, kf_12, kf_13, kf_14, kf_15, kf_16, kf_17, kf_18, kf_19, kf_20, kf_21, kf_22, kf_23, kf_24, kf_25, kf_26, kf_27, kf_28, kf_29, kf_30, kf_31, kf_32, kf_33, kf_34, kf_35, kf_36, kf_37, kf_38, kf_39, kf_40, kf_41, kf_42, kf_43, kf_44, kf_45, kf_46, kf_47, kf_48, kf_49, kf_50, kf_51, kf_52, kf_53, kf_54, rf_1_0, rf_1_1, rf_1_2, rf_1_3, rf_1_4, rf_1_5, rf_1_6, rf_1_7, rf_1_8, rf_2_3, rf_2_4, rf_2_5, rf_2_6, rf_7_0, rf_9_0, rf_11_0, rf_11_1, rf_11_4, rf_12_3, rf_12_4, rf_12_5, rf_12_6, rf_17_0, rf_20_1, rf_22_0, rf_22_1, rf_25_2, rf_25_3, rf_25_4, rf_25_5, rf_30_1, rf_30_2, rf_30_3, rf_30_4, rf_34_0, rf_36_0, rf_36_1, rf_36_2, rf_40_0, rf_40_1, rf_40_2, rf_40_3, rf_40_4, rf_40_6, rf_40_7, rf_40_9, rf_40_12, rf_40_14, rf_40_22, rf_40_23, rf_40_24, rf_40_25, li_0, li_1, li_2, li_3, li_4, li_5, li_6, li_8, li_9, li_10, li_12, li_15, li_16, li_19, li_20, li_21, li_22, li_25, li_30, li_31, li_32, li_35, li_40, li_41, li_42, li_46, li_47, li_48, li_50, li_51, li_52, li_56, li_57, li_59, li_60, li_61, li_62, li_63, li_99, li_100, li_107, li_124, li_126, li_240, li_255, li_256, li_1000, li_1178, li_1240, li_9000, li_65536, li_1000000, nI_add, pk_mul, nI_ltI, nI_leI, nI_eq, xin_nI, nI_clamp, decide_true, decide_false, Bool.and_true, Bool.true_and, Bool.and_false, Bool.false_and, Bool.not_true, Bool.not_false, cond_true, cond_false, Option.bind_some, Option.toList_some, Option.toList_none, List.cons_append, List.nil_append, List.append_nil, Nat.not_lt_zero, Nat.zero_le, Nat.le_refl, Nat.lt_irrefl, Nat.reduceLT, Nat.reduceLeDiff, Nat.reduceEqDiff, Nat.reduceAdd, Nat.reduceMul, Bool.toNat_true, Bool.toNat_false, Nat.add_zero, Nat.zero_add, Nat.succ_ne_zero, Nat.one_ne_zero, decide_eq_true, decide_eq_false]
        · rw [e9]; exact sceneR_bare q1 ha5
      · have hp1 : 1 ≤ sP q.2 a := by omega
        have hpne : ¬ nI (sP q.2 a) = nI 0 := by rw [nI_eq (by omega) (by omega)]; exact hp
        cases hl : lowest H (sH q.2) (sX q.2 a) with
        | none =>
          have e9 : mendT H a q.2 = q.2 := by unfold mendT; rw [if_neg hp, hl]
          refine ⟨q, ?_, q1, q2, q3, by rw [e6, e9]⟩
          have hn1 : optI none < nI 0 := by decide
          rw [hl] at hlow
          rw [b_R_nightGoes_8]
          simp (disch := omega) only [w3, e4, hr, ex, hlow, b_R_nightGoes_29, c_Rhas, hb, b_R_nightGoes_36, ep, hpne, b_R_nightGoes_66, hn1, kf_1, kf_2, kf_3, kf_4, kf_5, kf_6, kf_7, kf_8, kf_9, kf_10, kf_11, kf_12, kf_13, kf_14, kf_15, kf_16, kf_17, kf_18, kf_19, kf_20, kf_21, kf_22, kf_23, kf_24, kf_25, kf_26, kf_27, kf_28, kf_29, kf_30, kf_31, kf_32, kf_33, kf_34, kf_35, kf_36, kf_37, kf_38, kf_39, kf_40, kf_41, kf_42, kf_43, kf_44, kf_45, kf_46, kf_47, kf_48, kf_49, kf_50, kf_51, kf_52, kf_53, kf_54, rf_1_0, rf_1_1, rf_1_2, rf_1_3, rf_1_4, rf_1_5, rf_1_6, rf_1_7, rf_1_8, rf_2_3, rf_2_4, rf_2_5, rf_2_6, rf_7_0, rf_9_0, rf_11_0, rf_11_1, rf_11_4, rf_12_3, rf_12_4, rf_12_5, rf_12_6, rf_17_0, rf_20_1, rf_22_0, rf_22_1, rf_25_2, rf_25_3, rf_25_4, rf_25_5, rf_30_1, rf_30_2, rf_30_3, rf_30_4, rf_34_0, rf_36_0, rf_36_1, rf_36_2, rf_40_0, rf_40_1, rf_40_2, rf_40_3, rf_40_4, rf_40_6, rf_40_7, rf_40_9, rf_40_12, rf_40_14, rf_40_22, rf_40_23, rf_40_24, rf_40_25, li_0, li_1, li_2, li_3, li_4, li_5, li_6, li_8, li_9, li_10, li_12, li_15, li_16, li_19, li_20, li_21, li_22, li_25, li_30, li_31, li_32, li_35, li_40, li_41, li_42, li_46, li_47, li_48, li_50, li_51, li_52, li_56, li_57, li_59, li_60, li_61, li_62, li_63, li_99, li_100, li_107, li_124, li_126, li_240, li_255, li_256, li_1000, li_1178, li_1240, li_9000, li_65536, li_1000000, nI_add, pk_mul, nI_ltI, nI_leI, nI_eq, xin_nI, nI_clamp, decide_true, decide_false, Bool.and_true, Bool.true_and, Bool.and_false, Bool.false_and, Bool.not_true, Bool.not_false, cond_true, cond_false, Option.bind_some, Option.toList_some, Option.toList_none, List.cons_append, List.nil_append, List.append_nil, Nat.not_lt_zero, Nat.zero_le, Nat.le_refl, Nat.lt_irrefl, Nat.reduceLT, Nat.reduceLeDiff, Nat.reduceEqDiff, Nat.reduceAdd, Nat.reduceMul, Bool.toNat_true, Bool.toNat_false, Nat.add_zero, Nat.zero_add, Nat.succ_ne_zero, Nat.one_ne_zero, decide_eq_true, decide_eq_false]
        | some c =>
          have hc := lowest_lt ho hx hl
          have hc20 : c < 20 := by omega
          have e9 : mendT H a q.2 = patchT q.2 a c := by unfold mendT; rw [if_neg hp, hl]
          have hpw : (nI 1 : Int32) <<< (nI c &&& nI 31) = nI (2 ^ c) := nI_shl1 (by omega)
          rw [hl] at hlow
          refine ⟨(xu (xu (xu (xu q.1 r (51 + a) (q.1 r (51 + a) - nI 1)) r (0 + c) (q.1 r (46 + a))) r 20 (q.1 r 20 &&& (nI (2 ^ c) ^^^ (-1)))) r (21 + c) (q.1 r (21 + c) + nI 1), mendT H a q.2), ?_, ?_, (mendT_ok ho q2 ha).1, only_xu' (only_xu' (only_xu' (only_xu' q3))), e6.symm⟩
          · rw [b_R_nightGoes_8]
            have f1 : 46 + a ≠ 51 + a := by omega
            have f2 : 20 ≠ 51 + a := by omega
            have f3 : 20 ≠ c := by omega
            have f4 : 21 + c ≠ 20 := by omega
            have f5 : 21 + c ≠ c := by omega
            have f6 : 21 + c ≠ 51 + a := by omega
            simp (disch := omega) only [w3, e4, hr, ex, hlow, b_R_nightGoes_29, c_Rhas, hb, b_R_nightGoes_36, ep, hpne, b_R_nightGoes_66, optI, hpw, xu_off f1, xu_off f2, xu_off f3, xu_off f4, xu_off f5, xu_off f6, kf_1, kf_2, kf_3, kf_4, kf_5, kf_6, kf_7, kf_8, kf_9, kf_10, kf_11, kf_12, kf_13, kf_14, kf_15, kf_16, kf_17, kf_18, kf_19, kf_20, kf_21, kf_22, kf_23, kf_24, kf_25, kf_26, kf_27, kf_28, kf_29, kf_30, kf_31, kf_32, kf_33, kf_34, kf_35, kf_36, kf_37, kf_38, kf_39, kf_40, kf_41, kf_42, kf_43, kf_44, kf_45, kf_46, kf_47, kf_48, kf_49, kf_50, kf_51, kf_52, kf_53, kf_54, rf_1_0, rf_1_1, rf_1_2, rf_1_3, rf_1_4, rf_1_5, rf_1_6, rf_1_7, rf_1_8, rf_2_3, rf_2_4, rf_2_5, rf_2_6, rf_7_0, rf_9_0, rf_11_0, rf_11_1, rf_11_4, rf_12_3, rf_12_4, rf_12_5, rf_12_6, rf_17_0, rf_20_1, rf_22_0, rf_22_1, rf_25_2, rf_25_3, rf_25_4, rf_25_5, rf_30_1, rf_30_2, rf_30_3, rf_30_4, rf_34_0, rf_36_0, rf_36_1, rf_36_2, rf_40_0, rf_40_1, rf_40_2, rf_40_3, rf_40_4, rf_40_6, rf_40_7, rf_40_9, rf_40_12, rf_40_14, rf_40_22, rf_40_23, rf_40_24, rf_40_25, li_0, li_1, li_2, li_3, li_4, li_5, li_6, li_8, li_9, li_10, li_12, li_15, li_16, li_19, li_20, li_21, li_22, li_25, li_30, li_31, li_32, li_35, li_40, li_41, li_42, li_46, li_47, li_48, li_50, li_51, li_52, li_56, li_57, li_59, li_60, li_61, li_62, li_63, li_99, li_100, li_107, li_124, li_126, li_240, li_255, li_256, li_1000, li_1178, li_1240, li_9000, li_65536, li_1000000, nI_add, pk_mul, nI_ltI, nI_leI, nI_eq, xin_nI, nI_clamp, decide_true, decide_false, Bool.and_true, Bool.true_and, Bool.and_false, Bool.false_and, Bool.not_true, Bool.not_false, cond_true, cond_false, Option.bind_some, Option.toList_some, Option.toList_none, List.cons_append, List.nil_append, List.append_nil, Nat.not_lt_zero, Nat.zero_le, Nat.le_refl, Nat.lt_irrefl, Nat.reduceLT, Nat.reduceLeDiff, Nat.reduceEqDiff, Nat.reduceAdd, Nat.reduceMul, Bool.toNat_true, Bool.toNat_false, Nat.add_zero, Nat.zero_add, Nat.succ_ne_zero, Nat.one_ne_zero, decide_eq_true, decide_eq_false]
          · rw [e9]; exact sceneR_patch q1 ha5 hc20 hs31 hp1
end REFN
