/-! ===== house ===== -/
def hoOf (r : Rw) : Ho := (r 0, r 1, r 2, fun k => r (5 + k), fun k => r (10 + k), fun k => r (15 + k), fun a => r (20 + a))
def scOf (r : Rw) : Sc := (r 4, fun _ => r 3, fun a => r (25 + a), fun a => r (30 + a), fun a => r (35 + a), fun _ => nI 0, fun _ => nI 0, nI 0)
theorem hoOf_ok {r : Rw} (h : rowOk r) : hoOk (hoOf r) := by
  obtain ⟨o1, o2, o3, o4, o5, o6, o7, o8, o9, o10⟩ := h
  exact ⟨o1, o2, o3, o4, o5, fun k hk => ⟨(o9 k hk).1, (o9 k hk).2.1, (o9 k hk).2.2.1, (o9 k hk).2.2.2.1⟩, fun a ha => (o9 a ha).2.2.2.2.1⟩
theorem scOf_ok {r : Rw} (h : rowOk r) : scOk (hoOf r) (scOf r) := by
  obtain ⟨o1, o2, o3, o4, o5, o6, o7, o8, o9, o10⟩ := h
  exact ⟨o7, fun c _ => o6, fun a ha => ⟨(o9 a ha).2.2.2.2.2.1, (o9 a ha).2.2.2.2.2.2.1, (o9 a ha).2.2.2.2.2.2.2⟩, fun a ha => o10 a ha⟩
def blM (M : Mem) (b k : Nat) : Mem := fun a i => if a = b ∧ i < k then nI (row0 i) else M a i
theorem blM_ne {M : Mem} {b k a : Nat} (h : a ≠ b) : blM M b k a = M a := by
  funext i
  unfold blM
  rw [if_neg (fun q => h q.1)]
theorem blM_in {M : Mem} {b k i : Nat} (h : i < k) : blM M b k b i = nI (row0 i) := by
  unfold blM
  rw [if_pos ⟨rfl, h⟩]
theorem blM_0 {M : Mem} {b : Nat} : blM M b 0 = M := by
  funext a i
  unfold blM
  rw [if_neg (by omega)]
theorem blM_s {M : Mem} {b k : Nat} : xu (blM M b k) b k (nI (row0 k)) = blM M b (k + 1) := by
  funext a i
  unfold xu blM
  by_cases ha : a = b
  · by_cases hi : i = k
    · rw [if_pos ⟨ha, hi⟩, if_pos ⟨ha, by omega⟩, hi]
    · rw [if_neg (fun q => hi q.2)]
      by_cases hj : i < k
      · rw [if_pos ⟨ha, hj⟩, if_pos ⟨ha, by omega⟩]
      · rw [if_neg (fun q => hj q.2), if_neg (by omega)]
  · rw [if_neg (fun q => ha q.1), if_neg (fun q => ha q.1), if_neg (fun q => ha q.1)]
def bgM (M : Mem) (k : Nat) : Mem := fun a i => if a = 43 ∧ i < k then (if i < 20 then M 41 3 else nI 0) else M a i
theorem bgM_ne {M : Mem} {k a : Nat} (h : a ≠ 43) : bgM M k a = M a := by
  funext i
  unfold bgM
  rw [if_neg (fun q => h q.1)]
theorem bgM_in {M : Mem} {k i : Nat} (h : i < k) : bgM M k 43 i = if i < 20 then M 41 3 else nI 0 := by
  unfold bgM
  rw [if_pos ⟨rfl, h⟩]
theorem bgM_0 {M : Mem} : bgM M 0 = M := by
  funext a i
  unfold bgM
  rw [if_neg (by omega)]
theorem bgM_s {M : Mem} {k : Nat} {v : Int32} (hv : v = if k < 20 then M 41 3 else nI 0) : xu (bgM M k) 43 k v = bgM M (k + 1) := by
  funext a i
  unfold xu bgM
  by_cases ha : a = 43
  · by_cases hi : i = k
    · rw [if_pos ⟨ha, hi⟩, if_pos ⟨ha, by omega⟩, hi, hv]
    · rw [if_neg (fun q => hi q.2)]
      by_cases hj : i < k
      · rw [if_pos (show a = 43 ∧ i < k from ⟨ha, hj⟩), if_pos (show a = 43 ∧ i < k + 1 from ⟨ha, by omega⟩)]
      · rw [if_neg (show ¬ (a = 43 ∧ i < k) from fun q => hj q.2), if_neg (show ¬ (a = 43 ∧ i < k + 1) by omega)]
  · rw [if_neg (fun q => ha q.1), if_neg (fun q => ha q.1), if_neg (fun q => ha q.1)]
section HOUSE
variable {sh : xSh} {L : Nat} {M M' : Mem} {J : Nat → Nat → Int64} {r : Rw} {g : Gh}
theorem c_Rblank {b : Nat} (hb : sh.2.2.1 b = (11, 41)) : ev (135, 0, [.ref b, .null], [], (sh, M, J)) = some (none, (sh, blM M b 41, J)) := by
  have key := loop_inv (E := fun k (_ : Unit) => ev (135, 2, [.ref b, .int (nI k)], [], (sh, blM M b k, J))) (R := some (none, (sh, blM M b 41, J))) (fun _ _ => True) (n := 41) ?_ ?_ 41 0 () (by omega) trivial
  · rw [blM_0] at key
    simp (disch := omega) only [b_R_blank_0, key, li_0, li_1, li_2, li_3, li_4, li_5, li_6, li_7, li_8, li_9, li_10, li_11, li_12, li_13, li_14, li_15, li_16, li_17, li_18, li_19, li_20, li_21, li_22, li_23, li_24, li_25, li_26, li_27, li_28, li_29, li_30, li_31, li_32, li_33, li_34, li_35, li_36, li_37, li_38, li_39, li_40, li_41, li_42, li_43, li_44, li_45, li_46, li_47, li_48, li_49, li_50, li_51, li_52, li_53, li_54, li_55, li_56, li_57, li_58, li_59, li_60, li_61, li_62, li_63, li_99, li_100, li_107, li_124, li_126, li_240, li_255, li_256, li_1000, li_1178, li_1240, li_9000, li_65536, li_1000000, nI_add, pk_mul, nI_ltI, nI_leI, nI_eq, xin_nI, nI_clamp, decide_true, decide_false, Bool.and_true, Bool.true_and, Bool.and_false, Bool.false_and, Bool.not_true, Bool.not_false, cond_true, cond_false, Option.bind_some, Option.toList_some, Option.toList_none, List.cons_append, List.nil_append, List.append_nil, Nat.not_lt_zero, Nat.zero_le, Nat.le_refl, Nat.lt_irrefl, Nat.reduceLT, Nat.reduceLeDiff, Nat.reduceEqDiff, Nat.reduceAdd, Nat.reduceMul, Bool.toNat_true, Bool.toNat_false, Nat.add_zero, Nat.zero_add, Nat.succ_ne_zero, Nat.one_ne_zero, decide_eq_true, decide_eq_false, bb1, bb0, bbT, eq_self, reduceIte, and_self, and_true, true_and]
  · intro _ _
    rw [b_R_blank_2]
    simp (disch := omega) only [li_0, li_1, li_2, li_3, li_4, li_5, li_6, li_7, li_8, li_9, li_10, li_11, li_12, li_13, li_14, li_15, li_16, li_17, li_18, li_19, li_20, li_21, li_22, li_23, li_24, li_25, li_26, li_27, li_28, li_29, li_30, li_31, li_32, li_33, li_34, li_35, li_36, li_37, li_38, li_39, li_40, li_41, li_42, li_43, li_44, li_45, li_46, li_47, li_48, li_49, li_50, li_51, li_52, li_53, li_54, li_55, li_56, li_57, li_58, li_59, li_60, li_61, li_62, li_63, li_99, li_100, li_107, li_124, li_126, li_240, li_255, li_256, li_1000, li_1178, li_1240, li_9000, li_65536, li_1000000, nI_add, pk_mul, nI_ltI, nI_leI, nI_eq, xin_nI, nI_clamp, decide_true, decide_false, Bool.and_true, Bool.true_and, Bool.and_false, Bool.false_and, Bool.not_true, Bool.not_false, cond_true, cond_false, Option.bind_some, Option.toList_some, Option.toList_none, List.cons_append, List.nil_append, List.append_nil, Nat.not_lt_zero, Nat.zero_le, Nat.le_refl, Nat.lt_irrefl, Nat.reduceLT, Nat.reduceLeDiff, Nat.reduceEqDiff, Nat.reduceAdd, Nat.reduceMul, Bool.toNat_true, Bool.toNat_false, Nat.add_zero, Nat.zero_add, Nat.succ_ne_zero, Nat.one_ne_zero, decide_eq_true, decide_eq_false, bb1, bb0, bbT, eq_self, reduceIte, and_self, and_true, true_and]
  · intro k _ hk _
    refine Or.inr ⟨(), ?_, trivial⟩
    have e1 : ¬ 41 ≤ k := by omega
    rw [← blM_s, b_R_blank_2]
    by_cases h1 : 5 ≤ k ∧ k ≤ 9
    · have hrow : row0 k = 10 := if_pos h1
      rw [hrow]
      simp (disch := omega) only [e1, ll_5, ll_9, c_Rin, h1.1, h1.2, b_R_blank_21, hb, hk, li_0, li_1, li_2, li_3, li_4, li_5, li_6, li_7, li_8, li_9, li_10, li_11, li_12, li_13, li_14, li_15, li_16, li_17, li_18, li_19, li_20, li_21, li_22, li_23, li_24, li_25, li_26, li_27, li_28, li_29, li_30, li_31, li_32, li_33, li_34, li_35, li_36, li_37, li_38, li_39, li_40, li_41, li_42, li_43, li_44, li_45, li_46, li_47, li_48, li_49, li_50, li_51, li_52, li_53, li_54, li_55, li_56, li_57, li_58, li_59, li_60, li_61, li_62, li_63, li_99, li_100, li_107, li_124, li_126, li_240, li_255, li_256, li_1000, li_1178, li_1240, li_9000, li_65536, li_1000000, nI_add, pk_mul, nI_ltI, nI_leI, nI_eq, xin_nI, nI_clamp, decide_true, decide_false, Bool.and_true, Bool.true_and, Bool.and_false, Bool.false_and, Bool.not_true, Bool.not_false, cond_true, cond_false, Option.bind_some, Option.toList_some, Option.toList_none, List.cons_append, List.nil_append, List.append_nil, Nat.not_lt_zero, Nat.zero_le, Nat.le_refl, Nat.lt_irrefl, Nat.reduceLT, Nat.reduceLeDiff, Nat.reduceEqDiff, Nat.reduceAdd, Nat.reduceMul, Bool.toNat_true, Bool.toNat_false, Nat.add_zero, Nat.zero_add, Nat.succ_ne_zero, Nat.one_ne_zero, decide_eq_true, decide_eq_false, bb1, bb0, bbT, eq_self, reduceIte, and_self, and_true, true_and]
    · by_cases h2 : 15 ≤ k ∧ k ≤ 19
      · have hrow : row0 k = 5 := by unfold row0; rw [if_neg h1, if_pos h2]
        rw [hrow]
        simp (disch := omega) only [e1, ll_5, ll_9, c_Rin, h1, b_R_blank_21, ll_15, ll_19, h2.1, h2.2, b_R_blank_40, hb, hk, li_0, li_1, li_2, li_3, li_4, li_5, li_6, li_7, li_8, li_9, li_10, li_11, li_12, li_13, li_14, li_15, li_16, li_17, li_18, li_19, li_20, li_21, li_22, li_23, li_24, li_25, li_26, li_27, li_28, li_29, li_30, li_31, li_32, li_33, li_34, li_35, li_36, li_37, li_38, li_39, li_40, li_41, li_42, li_43, li_44, li_45, li_46, li_47, li_48, li_49, li_50, li_51, li_52, li_53, li_54, li_55, li_56, li_57, li_58, li_59, li_60, li_61, li_62, li_63, li_99, li_100, li_107, li_124, li_126, li_240, li_255, li_256, li_1000, li_1178, li_1240, li_9000, li_65536, li_1000000, nI_add, pk_mul, nI_ltI, nI_leI, nI_eq, xin_nI, nI_clamp, decide_true, decide_false, Bool.and_true, Bool.true_and, Bool.and_false, Bool.false_and, Bool.not_true, Bool.not_false, cond_true, cond_false, Option.bind_some, Option.toList_some, Option.toList_none, List.cons_append, List.nil_append, List.append_nil, Nat.not_lt_zero, Nat.zero_le, Nat.le_refl, Nat.lt_irrefl, Nat.reduceLT, Nat.reduceLeDiff, Nat.reduceEqDiff, Nat.reduceAdd, Nat.reduceMul, Bool.toNat_true, Bool.toNat_false, Nat.add_zero, Nat.zero_add, Nat.succ_ne_zero, Nat.one_ne_zero, decide_eq_true, decide_eq_false, bb1, bb0, bbT, eq_self, reduceIte, and_self, and_true, true_and]
      · have hrow : row0 k = 0 := by unfold row0; rw [if_neg h1, if_neg h2]
        rw [hrow]
        simp (disch := omega) only [e1, ll_5, ll_9, c_Rin, h1, b_R_blank_21, ll_15, ll_19, h2, b_R_blank_40, hb, hk, li_0, li_1, li_2, li_3, li_4, li_5, li_6, li_7, li_8, li_9, li_10, li_11, li_12, li_13, li_14, li_15, li_16, li_17, li_18, li_19, li_20, li_21, li_22, li_23, li_24, li_25, li_26, li_27, li_28, li_29, li_30, li_31, li_32, li_33, li_34, li_35, li_36, li_37, li_38, li_39, li_40, li_41, li_42, li_43, li_44, li_45, li_46, li_47, li_48, li_49, li_50, li_51, li_52, li_53, li_54, li_55, li_56, li_57, li_58, li_59, li_60, li_61, li_62, li_63, li_99, li_100, li_107, li_124, li_126, li_240, li_255, li_256, li_1000, li_1178, li_1240, li_9000, li_65536, li_1000000, nI_add, pk_mul, nI_ltI, nI_leI, nI_eq, xin_nI, nI_clamp, decide_true, decide_false, Bool.and_true, Bool.true_and, Bool.and_false, Bool.false_and, Bool.not_true, Bool.not_false, cond_true, cond_false, Option.bind_some, Option.toList_some, Option.toList_none, List.cons_append, List.nil_append, List.append_nil, Nat.not_lt_zero, Nat.zero_le, Nat.le_refl, Nat.lt_irrefl, Nat.reduceLT, Nat.reduceLeDiff, Nat.reduceEqDiff, Nat.reduceAdd, Nat.reduceMul, Bool.toNat_true, Bool.toNat_false, Nat.add_zero, Nat.zero_add, Nat.succ_ne_zero, Nat.one_ne_zero, decide_eq_true, decide_eq_false, bb1, bb0, bbT, eq_self, reduceIte, and_self, and_true, true_and]
theorem c_Rbegins (h41 : ∀ k, k < 41 → M 41 k = nI (r k)) : ∃ M', ev (137, 0, [.ref 40, .null], [], (xSH L, M, J)) = some (none, (xSH L, M', J)) ∧ onlyL M M' [40, 43, 47] ∧ (∀ k, k ≠ 5 → k ≠ 13 → k ≠ 15 → M' 40 k = M 40 k) ∧ M' 40 5 = nI 0 ∧ M' 40 13 = nI 0 ∧ M' 40 15 = nI 0 ∧ (∀ i, i < 2 → M' 47 i = nI 0) ∧ sceneR M' 43 (scOf r) := by
  have hcp := fun {J : Nat → Nat → Int64} {M : Mem} => c_Rcopies (sh := xSH L) (M := M) (J := J) (i := 25) (j := 41) (n := 15) (kf_41 L) (kf_43 L) (by decide) (by decide) (by decide) (by decide) (by decide)
  have w4 := h41 4 (by decide)
  have w3 := h41 3 (by decide)
  have key := loop_inv (E := fun k (_ : Unit) => ev (137, 2, [.ref 40, .int (nI k)], [], (xSH L, bgM M k, J))) (R := some (none, (xSH L, xu (xu (xu (xu (xu (xcp (xu (bgM M 62) 43 20 (nI (r 4))) 41 25 43 41 15) 40 5 (nI 0)) 40 13 (nI 0)) 40 15 (nI 0)) 47 0 (nI 0)) 47 1 (nI 0), J))) (fun _ _ => True) (n := 62) ?_ ?_ 62 0 () (by omega) trivial
  · rw [bgM_0] at key
    refine ⟨xu (xu (xu (xu (xu (xcp (xu (bgM M 62) 43 20 (nI (r 4))) 41 25 43 41 15) 40 5 (nI 0)) 40 13 (nI 0)) 40 15 (nI 0)) 47 0 (nI 0)) 47 1 (nI 0), ?_, ?_, ?_, ?_, ?_, ?_, ?_, ?_⟩
    · simp (disch := omega) only [b_R_begins_0, key, li_0, li_1, li_2, li_3, li_4, li_5, li_6, li_7, li_8, li_9, li_10, li_11, li_12, li_13, li_14, li_15, li_16, li_17, li_18, li_19, li_20, li_21, li_22, li_23, li_24, li_25, li_26, li_27, li_28, li_29, li_30, li_31, li_32, li_33, li_34, li_35, li_36, li_37, li_38, li_39, li_40, li_41, li_42, li_43, li_44, li_45, li_46, li_47, li_48, li_49, li_50, li_51, li_52, li_53, li_54, li_55, li_56, li_57, li_58, li_59, li_60, li_61, li_62, li_63, li_99, li_100, li_107, li_124, li_126, li_240, li_255, li_256, li_1000, li_1178, li_1240, li_9000, li_65536, li_1000000, nI_add, pk_mul, nI_ltI, nI_leI, nI_eq, xin_nI, nI_clamp, decide_true, decide_false, Bool.and_true, Bool.true_and, Bool.and_false, Bool.false_and, Bool.not_true, Bool.not_false, cond_true, cond_false, Option.bind_some, Option.toList_some, Option.toList_none, List.cons_append, List.nil_append, List.append_nil, Nat.not_lt_zero, Nat.zero_le, Nat.le_refl, Nat.lt_irrefl, Nat.reduceLT, Nat.reduceLeDiff, Nat.reduceEqDiff, Nat.reduceAdd, Nat.reduceMul, Bool.toNat_true, Bool.toNat_false, Nat.add_zero, Nat.zero_add, Nat.succ_ne_zero, Nat.one_ne_zero, decide_eq_true, decide_eq_false, bb1, bb0, bbT, eq_self, reduceIte, and_self, and_true, true_and]
    · intro a ha
      have n40 : a ≠ 40 := fun z => ha (by rw [z]; decide)
      have n43 : a ≠ 43 := fun z => ha (by rw [z]; decide)
      have n47 : a ≠ 47 := fun z => ha (by rw [z]; decide)
      rw [xu_ne n47, xu_ne n47, xu_ne n40, xu_ne n40, xu_ne n40, xcp_ne n43, xu_ne n43, bgM_ne n43]
    · intro k k1 k2 k3
      rw [xu_ne (by decide), xu_ne (by decide), xu_off k3, xu_off k2, xu_off k1, xcp_ne (by decide), xu_ne (by decide), bgM_ne (by decide)]
    · simp (disch := omega) only [xu_ne, xu_off, xu_at]
    · simp (disch := omega) only [xu_ne, xu_off, xu_at]
    · simp (disch := omega) only [xu_ne, xu_off, xu_at]
    · intro i hi
      rcases (show i = 0 ∨ i = 1 by omega) with rfl | rfl <;> simp (disch := omega) only [xu_ne, xu_off, xu_at]
    · have cp : ∀ k, k < 15 → xcp (xu (bgM M 62) 43 20 (nI (r 4))) 41 25 43 41 15 43 (41 + k) = nI (r (25 + k)) := fun k hk => by
        rw [xcp_in hk, xu_ne (by decide), bgM_ne (by decide)]
        exact h41 (25 + k) (by omega)
      have co : ∀ i, i ≠ 20 → (i < 41 ∨ 56 ≤ i) → i < 62 → xcp (xu (bgM M 62) 43 20 (nI (r 4))) 41 25 43 41 15 43 i = if i < 20 then nI (r 3) else nI 0 := fun i h20 h hi => by
        rw [xcp_out (by omega), xu_off h20, bgM_in hi, w3]
      refine ⟨?_, ?_, fun c hc => ⟨?_, ?_⟩, fun a ha => ⟨?_, ?_, ?_, ?_⟩⟩ <;> simp (disch := omega) only [xu_ne]
      · rw [xcp_out (by omega), xu_at]; rfl
      · rw [co 61 (by decide) (by decide) (by decide)]; rfl
      · rw [co (0 + c) (by omega) (by omega) (by omega), if_pos (by omega)]; rfl
      · rw [co (21 + c) (by omega) (by omega) (by omega), if_neg (by omega)]; rfl
      · exact cp a (by omega)
      · rw [show 46 + a = 41 + (5 + a) by omega, cp (5 + a) (by omega), show 25 + (5 + a) = 30 + a by omega]; rfl
      · rw [show 51 + a = 41 + (10 + a) by omega, cp (10 + a) (by omega), show 25 + (10 + a) = 35 + a by omega]; rfl
      · rw [co (56 + a) (by omega) (by omega) (by omega), if_neg (by omega)]; rfl
  · intro _ _
    rw [b_R_begins_2]
    simp (disch := omega) only [bgM_ne, w4, hcp, b_R_begins_66, z01, kf_1, kf_2, kf_3, kf_4, kf_5, kf_6, kf_7, kf_8, kf_9, kf_10, kf_11, kf_12, kf_13, kf_14, kf_15, kf_16, kf_17, kf_18, kf_19, kf_20, kf_21, kf_22, kf_23, kf_24, kf_25, kf_26, kf_27, kf_28, kf_29, kf_30, kf_31, kf_32, kf_33, kf_34, kf_35, kf_36, kf_37, kf_38, kf_39, kf_40, kf_41, kf_42, kf_43, kf_44, kf_45, kf_46, kf_47, kf_48, kf_49, kf_50, kf_51, kf_52, kf_53, kf_54, rf_1_0, rf_1_1, rf_1_2, rf_1_3, rf_1_4, rf_1_5, rf_1_6, rf_1_7, rf_1_8, rf_2_3, rf_2_4, rf_2_5, rf_2_6, rf_7_0, rf_9_0, rf_11_0, rf_11_1, rf_11_4, rf_12_3, rf_12_4, rf_12_5, rf_12_6, rf_17_0, rf_20_1, rf_22_0, rf_22_1, rf_25_2, rf_25_3, rf_25_4, rf_25_5, rf_30_1, rf_30_2, rf_30_3, rf_30_4, rf_34_0, rf_36_0, rf_36_1, rf_36_2, rf_40_0, rf_40_1, rf_40_2, rf_40_3, rf_40_4, rf_40_6, rf_40_7, rf_40_9, rf_40_12, rf_40_14, rf_40_22, rf_40_23, rf_40_24, rf_40_25, li_0, li_1, li_2, li_3, li_4, li_5, li_6, li_7, li_8, li_9, li_10, li_11, li_12, li_13, li_14, li_15, li_16, li_17, li_18, li_19, li_20, li_21, li_22, li_23, li_24, li_25, li_26, li_27, li_28, li_29, li_30, li_31, li_32, li_33, li_34, li_35, li_36, li_37, li_38, li_39, li_40, li_41, li_42, li_43, li_44, li_45, li_46, li_47, li_48, li_49, li_50, li_51, li_52, li_53, li_54, li_55, li_56, li_57, li_58, li_59, li_60, li_61, li_62, li_63, li_99, li_100, li_107, li_124, li_126, li_240, li_255, li_256, li_1000, li_1178, li_1240, li_9000, li_65536, li_1000000, nI_add, pk_mul, nI_ltI, nI_leI, nI_eq, xin_nI, nI_clamp, decide_true, decide_false, Bool.and_true, Bool.true_and, Bool.and_false, Bool.false_and, Bool.not_true, Bool.not_false, cond_true, cond_false, Option.bind_some, Option.toList_some, Option.toList_none, List.cons_append, List.nil_append, List.append_nil, Nat.not_lt_zero, Nat.zero_le, Nat.le_refl, Nat.lt_irrefl, Nat.reduceLT, Nat.reduceLeDiff, Nat.reduceEqDiff, Nat.reduceAdd, Nat.reduceMul, Bool.toNat_true, Bool.toNat_false, Nat.add_zero, Nat.zero_add, Nat.succ_ne_zero, Nat.one_ne_zero, decide_eq_true, decide_eq_false, bb1, bb0, bbT, eq_self, reduceIte, and_self, and_true, true_and]
  · intro k _ hk _
    refine Or.inr ⟨(), ?_, trivial⟩
    have e1 : ¬ 62 ≤ k := by omega
    rw [b_R_begins_2]
    by_cases h20 : 20 ≤ k
    · have hs := bgM_s (M := M) (k := k) (v := nI 0) (by rw [if_neg (by omega)])
      simp (disch := omega) only [e1, h20, hk, hs, kf_1, kf_2, kf_3, kf_4, kf_5, kf_6, kf_7, kf_8, kf_9, kf_10, kf_11, kf_12, kf_13, kf_14, kf_15, kf_16, kf_17, kf_18, kf_19, kf_20, kf_21, kf_22, kf_23, kf_24, kf_25, kf_26, kf_27, kf_28, kf_29, kf_30, kf_31, kf_32, kf_33, kf_34, kf_35, kf_36, kf_37, kf_38, kf_39, kf_40, kf_41, kf_42, kf_43, kf_44, kf_45, kf_46, kf_47, kf_48, kf_49, kf_50, kf_51, kf_52, kf_53, kf_54, rf_1_0, rf_1_1, rf_1_2, rf_1_3, rf_1_4, rf_1_5, rf_1_6, rf_1_7, rf_1_8, rf_2_3, rf_2_4, rf_2_5, rf_2_6, rf_7_0, rf_9_0, rf_11_0, rf_11_1, rf_11_4, rf_12_3, rf_12_4, rf_12_5, rf_12_6, rf_17_0, rf_20_1, rf_22_0, rf_22_1, rf_25_2, rf_25_3, rf_25_4, rf_25_5, rf_30_1, rf_30_2, rf_30_3, rf_30_4, rf_34_0, rf_36_0, rf_36_1, rf_36_2, rf_40_0, rf_40_1, rf_40_2, rf_40_3, rf_40_4, rf_40_6, rf_40_7, rf_40_9, rf_40_12, rf_40_14, rf_40_22, rf_40_23, rf_40_24, rf_40_25, li_0, li_1, li_2, li_3, li_4, li_5, li_6, li_7, li_8, li_9, li_10, li_11, li_12, li_13, li_14, li_15, li_16, li_17, li_18, li_19, li_20, li_21, li_22, li_23, li_24, li_25, li_26, li_27, li_28, li_29, li_30, li_31, li_32, li_33, li_34, li_35, li_36, li_37, li_38, li_39, li_40, li_41, li_42, li_43, li_44, li_45, li_46, li_47, li_48, li_49, li_50, li_51, li_52, li_53, li_54, li_55, li_56, li_57, li_58, li_59, li_60, li_61, li_62, li_63, li_99, li_100, li_107, li_124, li_126, li_240, li_255, li_256, li_1000, li_1178, li_1240, li_9000, li_65536, li_1000000, nI_add, pk_mul, nI_ltI, nI_leI, nI_eq, xin_nI, nI_clamp, decide_true, decide_false, Bool.and_true, Bool.true_and, Bool.and_false, Bool.false_and, Bool.not_true, Bool.not_false, cond_true, cond_false, Option.bind_some, Option.toList_some, Option.toList_none, List.cons_append, List.nil_append, List.append_nil, Nat.not_lt_zero, Nat.zero_le, Nat.le_refl, Nat.lt_irrefl, Nat.reduceLT, Nat.reduceLeDiff, Nat.reduceEqDiff, Nat.reduceAdd, Nat.reduceMul, Bool.toNat_true, Bool.toNat_false, Nat.add_zero, Nat.zero_add, Nat.succ_ne_zero, Nat.one_ne_zero, decide_eq_true, decide_eq_false, bb1, bb0, bbT, eq_self, reduceIte, and_self, and_true, true_and]
    · have hs := bgM_s (M := M) (k := k) (v := nI (r 3)) (by rw [if_pos (by omega), w3])
      simp (disch := omega) only [e1, h20, hk, bgM_ne, w3, hs, kf_1, kf_2, kf_3, kf_4, kf_5, kf_6, kf_7, kf_8, kf_9, kf_10, kf_11, kf_12, kf_13, kf_14, kf_15, kf_16, kf_17, kf_18, kf_19, kf_20, kf_21, kf_22, kf_23, kf_24, kf_25, kf_26, kf_27, kf_28, kf_29, kf_30, kf_31, kf_32, kf_33, kf_34, kf_35, kf_36, kf_37, kf_38, kf_39, kf_40, kf_41, kf_42, kf_43, kf_44, kf_45, kf_46, kf_47, kf_48, kf_49, kf_50, kf_51, kf_52, kf_53, kf_54, rf_1_0, rf_1_1, rf_1_2, rf_1_3, rf_1_4, rf_1_5, rf_1_6, rf_1_7, rf_1_8, rf_2_3, rf_2_4, rf_2_5, rf_2_6, rf_7_0, rf_9_0, rf_11_0, rf_11_1, rf_11_4, rf_12_3, rf_12_4, rf_12_5, rf_12_6, rf_17_0, rf_20_1, rf_22_0, rf_22_1, rf_25_2, rf_25_3, rf_25_4, rf_25_5, rf_30_1, rf_30_2, rf_30_3, rf_30_4, rf_34_0, rf_36_0, rf_36_1, rf_36_2, rf_40_0, rf_40_1, rf_40_2, rf_40_3, rf_40_4, rf_40_6, rf_40_7, rf_40_9, rf_40_12, rf_40_14, rf_40_22, rf_40_23, rf_40_24, rf_40_25, li_0, li_1, li_2, li_3, li_4, li_5, li_6, li_7, li_8, li_9, li_10, li_11, li_12, li_13, li_14, li_15, li_16, li_17, li_18, li_19, li_20, li_21, li_22, li_23, li_24, li_25, li_26, li_27, li_28, li_29, li_30, li_31, li_32, li_33, li_34, li_35, li_36, li_37, li_38, li_39, li_40, li_41, li_42, li_43, li_44, li_45, li_46, li_47, li_48, li_49, li_50, li_51, li_52, li_53, li_54, li_55, li_56, li_57, li_58, li_59, li_60, li_61, li_62, li_63, li_99, li_100, li_107, li_124, li_126, li_240, li_255, li_256, li_1000, li_1178, li_1240, li_9000, li_65536, li_1000000, nI_add, pk_mul, nI_ltI, nI_leI, nI_eq, xin_nI, nI_clamp, decide_true, decide_false, Bool.and_true, Bool.true_and, Bool.and_false, Bool.false_and, Bool.not_true, Bool.not_false, cond_true, cond_false, Option.bind_some, Option.toList_some, Option.toList_none, List.cons_append, List.nil_append, List.append_nil, Nat.not_lt_zero, Nat.zero_le, Nat.le_refl, Nat.lt_irrefl, Nat.reduceLT, Nat.reduceLeDiff, Nat.reduceEqDiff, Nat.reduceAdd, Nat.reduceMul, Bool.toNat_true, Bool.toNat_false, Nat.add_zero, Nat.zero_add, Nat.succ_ne_zero, Nat.one_ne_zero, decide_eq_true, decide_eq_false, bb1, bb0, bbT, eq_self, reduceIte, and_self, and_true, true_and]
theorem op_house (hg : gOk g) : opOk L 91 149 [.ref 1, .null] [.ref 40, .null] g := by
  have tx : txOk (gn g) (gf g) := ⟨hg.2.2.1, hg.2.2.2.1⟩
  obtain ⟨o1, o2, o3, o4, o5, o6, o7, o8, o9⟩ := hg
  have hsk := skp_le (f := gf g) (Nat.zero_le (gn g))
  -- what the reference comes to, up to its loop's end
  have hRef : ∀ (M : Mem) (J : Nat → Nat → Int64), RelR M J g → ∃ b M', ev (149, 0, [.ref 40, .null], [], (xSH L, M, J)) = ev (149, 23, [.ref 40, .int b], [], (xSH L, M', J)) ∧ onlyL M M' [40, 42] ∧ (∀ k, k < 16 → k ≠ 11 → M' 40 k = M 40 k) ∧ M' 40 11 = -1 ∧ finL M' b (prsS (gn g) (gf g) 240 (skp (gn g) (gf g) 0) row0) := by
    intro M J hM
    have bl := c_Rblank (sh := xSH L) (M := M) (J := J) (kf_42 L)
    have hT : textR (xu (xu (blM M 42 41) 40 16 (nI 0)) 40 11 (-1)) (gn g) (gf g) := textR_k hM.2.2.1 (by rw [xu_off (by decide), xu_off (by decide), blM_ne (by decide)]) (by rw [xu_ne (by decide), xu_ne (by decide), blM_ne (by decide)])
    obtain ⟨M1, m1, m2, m3⟩ := c_Rstep (L := L) (J := J) tx hT (p := 0) (by rw [xu_off (by decide), xu_at]) (Nat.zero_le _)
    have hr : rowR M1 row0 := rowR_S (fun k hk => by rw [xu_ne (by decide), xu_ne (by decide), blM_in hk]) m2
    obtain ⟨b, M2, q1, q2, q3⟩ := c_Rloop (L := L) (J := J) tx 240 (skp (gn g) (gf g) 0) row0 M1 (by omega) hsk (textR_S hT m2) m3 hr row0_ok
    refine ⟨b, M2, ?_, ?_, ?_, ?_, q3⟩
    · rw [← q1]
      have n1 : (-1 : Int32) = -nI 1 := rfl
      rw [n1] at m1
      simp (disch := omega) only [b_R_house_0, bl, b_R_house_7, m1, kf_1, kf_2, kf_3, kf_4, kf_5, kf_6, kf_7, kf_8, kf_9, kf_10, kf_11, kf_12, kf_13, kf_14, kf_15, kf_16, kf_17, kf_18, kf_19, kf_20, kf_21, kf_22, kf_23, kf_24, kf_25, kf_26, kf_27, kf_28, kf_29, kf_30, kf_31, kf_32, kf_33, kf_34, kf_35, kf_36, kf_37, kf_38, kf_39, kf_40, kf_41, kf_42, kf_43, kf_44, kf_45, kf_46, kf_47, kf_48, kf_49, kf_50, kf_51, kf_52, kf_53, kf_54, rf_1_0, rf_1_1, rf_1_2, rf_1_3, rf_1_4, rf_1_5, rf_1_6, rf_1_7, rf_1_8, rf_2_3, rf_2_4, rf_2_5, rf_2_6, rf_7_0, rf_9_0, rf_11_0, rf_11_1, rf_11_4, rf_12_3, rf_12_4, rf_12_5, rf_12_6, rf_17_0, rf_20_1, rf_22_0, rf_22_1, rf_25_2, rf_25_3, rf_25_4, rf_25_5, rf_30_1, rf_30_2, rf_30_3, rf_30_4, rf_34_0, rf_36_0, rf_36_1, rf_36_2, rf_40_0, rf_40_1, rf_40_2, rf_40_3, rf_40_4, rf_40_6, rf_40_7, rf_40_9, rf_40_12, rf_40_14, rf_40_22, rf_40_23, rf_40_24, rf_40_25, li_0, li_1, li_2, li_3, li_4, li_5, li_6, li_7, li_8, li_9, li_10, li_11, li_12, li_13, li_14, li_15, li_16, li_17, li_18, li_19, li_20, li_21, li_22, li_23, li_24, li_25, li_26, li_27, li_28, li_29, li_30, li_31, li_32, li_33, li_34, li_35, li_36, li_37, li_38, li_39, li_40, li_41, li_42, li_43, li_44, li_45, li_46, li_47, li_48, li_49, li_50, li_51, li_52, li_53, li_54, li_55, li_56, li_57, li_58, li_59, li_60, li_61, li_62, li_63, li_99, li_100, li_107, li_124, li_126, li_240, li_255, li_256, li_1000, li_1178, li_1240, li_9000, li_65536, li_1000000, nI_add, pk_mul, nI_ltI, nI_leI, nI_eq, xin_nI, nI_clamp, decide_true, decide_false, Bool.and_true, Bool.true_and, Bool.and_false, Bool.false_and, Bool.not_true, Bool.not_false, cond_true, cond_false, Option.bind_some, Option.toList_some, Option.toList_none, List.cons_append, List.nil_append, List.append_nil, Nat.not_lt_zero, Nat.zero_le, Nat.le_refl, Nat.lt_irrefl, Nat.reduceLT, Nat.reduceLeDiff, Nat.reduceEqDiff, Nat.reduceAdd, Nat.reduceMul, Bool.toNat_true, Bool.toNat_false, Nat.add_zero, Nat.zero_add, Nat.succ_ne_zero, Nat.one_ne_zero, decide_eq_true, decide_eq_false, bb1, bb0, bbT, eq_self, reduceIte, and_self, and_true, true_and]
    · refine onlyL_tr ?_ (onlyL_tr (fr16_S m2).1 q2.1)
      intro a ha
      have n40 : a ≠ 40 := fun z => ha (by rw [z]; decide)
      have n42 : a ≠ 42 := fun z => ha (by rw [z]; decide)
      rw [xu_ne n40, xu_ne n40, blM_ne n42]
    · intro k hk h11
      rw [q2.2 k hk, m2.2 k (Or.inl hk), xu_off h11, xu_off (by omega), blM_ne (by decide)]
    · rw [q2.2 11 (by decide), m2.2 11 (Or.inl (by decide)), xu_at]
  rcases s : prsS (gn g) (gf g) 240 (skp (gn g) (gf g) 0) row0 with e | rv
  · refine ⟨-10 - nI e.1, (gH g, gT g, 0, gf g, nI e.2, gd g, ghi g, gim g, gsn g, gbk g), ⟨o1, o2, Nat.zero_le _, fun i hi => absurd hi (Nat.not_lt_zero i), o5, o6, o7, o8, o9⟩, fun M J hM => ?_, fun M J hM => ?_⟩
    · obtain ⟨M1, m1, m2, m3⟩ := c_read (L := L) (J := J) tx hM.2.2.1
      rw [s] at m1 m3
      obtain ⟨p, td, R⟩ := m3
      have ne : e.1 ≠ 0 ∧ e.1 ≤ 4 := by
        have key : ∀ (k p : Nat) (r : Rw) (e : Nat × Nat), prsS (gn g) (gf g) k p r = .inl e → e.1 ≠ 0 ∧ e.1 ≤ 4 := by
          intro k
          induction k with
          | zero => intro p r e h; cases h
          | succ k ih =>
            intro p r e h
            have h : (if p < gn g then sb (clauS (gn g) (gf g) p r) (fun x => prsS (gn g) (gf g) k (skp (gn g) (gf g) x.2) x.1) else .inr r) = .inl e := h
            split at h
            · rcases hc : clauS (gn g) (gf g) p r with e' | x
              · rw [hc, sb_inl] at h
                cases h
                exact clau_ne hc
              · rw [hc, sb_inr] at h
                exact ih _ _ _ h
            · cases h
        exact key _ _ _ _ s
      have e3 : M1 11 3 = nI e.2 := R.2.2.2.1
      have m1 : ev (44, 0, [.ref 11, .null], [], (xSH L, M, J)) = some (some (.int (nI e.1)), (xSH L, M1, J)) := m1
      refine ⟨xu (xu M1 1 9 (nI e.2)) 11 2 (nI 0), ?_, ?_, ?_⟩
      · simp (disch := omega) only [b_C_house_0, m1, b_C_house_7, e3, b_Reader_empty_0, b_C_house_26, ne.1, kf_1, kf_2, kf_3, kf_4, kf_5, kf_6, kf_7, kf_8, kf_9, kf_10, kf_11, kf_12, kf_13, kf_14, kf_15, kf_16, kf_17, kf_18, kf_19, kf_20, kf_21, kf_22, kf_23, kf_24, kf_25, kf_26, kf_27, kf_28, kf_29, kf_30, kf_31, kf_32, kf_33, kf_34, kf_35, kf_36, kf_37, kf_38, kf_39, kf_40, kf_41, kf_42, kf_43, kf_44, kf_45, kf_46, kf_47, kf_48, kf_49, kf_50, kf_51, kf_52, kf_53, kf_54, rf_1_0, rf_1_1, rf_1_2, rf_1_3, rf_1_4, rf_1_5, rf_1_6, rf_1_7, rf_1_8, rf_2_3, rf_2_4, rf_2_5, rf_2_6, rf_7_0, rf_9_0, rf_11_0, rf_11_1, rf_11_4, rf_12_3, rf_12_4, rf_12_5, rf_12_6, rf_17_0, rf_20_1, rf_22_0, rf_22_1, rf_25_2, rf_25_3, rf_25_4, rf_25_5, rf_30_1, rf_30_2, rf_30_3, rf_30_4, rf_34_0, rf_36_0, rf_36_1, rf_36_2, rf_40_0, rf_40_1, rf_40_2, rf_40_3, rf_40_4, rf_40_6, rf_40_7, rf_40_9, rf_40_12, rf_40_14, rf_40_22, rf_40_23, rf_40_24, rf_40_25, li_0, li_1, li_2, li_3, li_4, li_5, li_6, li_7, li_8, li_9, li_10, li_11, li_12, li_13, li_14, li_15, li_16, li_17, li_18, li_19, li_20, li_21, li_22, li_23, li_24, li_25, li_26, li_27, li_28, li_29, li_30, li_31, li_32, li_33, li_34, li_35, li_36, li_37, li_38, li_39, li_40, li_41, li_42, li_43, li_44, li_45, li_46, li_47, li_48, li_49, li_50, li_51, li_52, li_53, li_54, li_55, li_56, li_57, li_58, li_59, li_60, li_61, li_62, li_63, li_99, li_100, li_107, li_124, li_126, li_240, li_255, li_256, li_1000, li_1178, li_1240, li_9000, li_65536, li_1000000, nI_add, pk_mul, nI_ltI, nI_leI, nI_eq, xin_nI, nI_clamp, decide_true, decide_false, Bool.and_true, Bool.true_and, Bool.and_false, Bool.false_and, Bool.not_true, Bool.not_false, cond_true, cond_false, Option.bind_some, Option.toList_some, Option.toList_none, List.cons_append, List.nil_append, List.append_nil, Nat.not_lt_zero, Nat.zero_le, Nat.le_refl, Nat.lt_irrefl, Nat.reduceLT, Nat.reduceLeDiff, Nat.reduceEqDiff, Nat.reduceAdd, Nat.reduceMul, Bool.toNat_true, Bool.toNat_false, Nat.add_zero, Nat.zero_add, Nat.succ_ne_zero, Nat.one_ne_zero, decide_eq_true, decide_eq_false, bb1, bb0, bbT, eq_self, reduceIte, and_self, and_true, true_and]
      · obtain ⟨a1, a2, a3, a4, a5, a6, a7, a8, a9⟩ := hM
        have oL : onlyL M (xu (xu M1 1 9 (nI e.2)) 11 2 (nI 0)) [1, 11, 12, 13, 14, 15, 16, 18] := onlyL_xu (onlyL_xu (fun a ha => m2 a (fun z => ha (by unfold LRD at z; exact List.mem_cons_of_mem _ z))) (by decide)) (by decide)
        refine ⟨houseC_l a1 oL (by decide), sceneC_l a2 oL (by decide), ⟨xu_at, fun i hi => absurd hi (Nat.not_lt_zero i)⟩, ?_, ?_, histC_l a6 oL (by decide), imgC_l a7 oL (by decide), seenC_l a8 oL (by decide), bookC_l a9 oL (by decide)⟩
        · rw [xu_ne (by decide), xu_at]
        · rw [xu_ne (by decide), xu_off (by decide), m2 1 (by decide)]
          exact a5
      · intro a ha
        rw [xu_ne (by omega), xu_ne (by omega)]
        refine m2 a (fun z => ?_)
        unfold LRD at z
        simp only [List.mem_cons, List.not_mem_nil, or_false] at z
        omega
    · obtain ⟨b, M1, m1, m2, m3, m4, m5⟩ := hRef M J hM
      rw [s] at m5
      obtain ⟨rfl, q1, q2⟩ := m5
      refine ⟨xu (xu M1 40 10 (nI 0)) 40 11 (nI e.2), J, ?_, ?_, ?_⟩
      · rw [m1, b_R_house_23]
        by_cases hneg : M1 40 18 < nI 0
        · simp (disch := omega) only [hneg, xu_off, q1, q2, kf_1, kf_2, kf_3, kf_4, kf_5, kf_6, kf_7, kf_8, kf_9, kf_10, kf_11, kf_12, kf_13, kf_14, kf_15, kf_16, kf_17, kf_18, kf_19, kf_20, kf_21, kf_22, kf_23, kf_24, kf_25, kf_26, kf_27, kf_28, kf_29, kf_30, kf_31, kf_32, kf_33, kf_34, kf_35, kf_36, kf_37, kf_38, kf_39, kf_40, kf_41, kf_42, kf_43, kf_44, kf_45, kf_46, kf_47, kf_48, kf_49, kf_50, kf_51, kf_52, kf_53, kf_54, rf_1_0, rf_1_1, rf_1_2, rf_1_3, rf_1_4, rf_1_5, rf_1_6, rf_1_7, rf_1_8, rf_2_3, rf_2_4, rf_2_5, rf_2_6, rf_7_0, rf_9_0, rf_11_0, rf_11_1, rf_11_4, rf_12_3, rf_12_4, rf_12_5, rf_12_6, rf_17_0, rf_20_1, rf_22_0, rf_22_1, rf_25_2, rf_25_3, rf_25_4, rf_25_5, rf_30_1, rf_30_2, rf_30_3, rf_30_4, rf_34_0, rf_36_0, rf_36_1, rf_36_2, rf_40_0, rf_40_1, rf_40_2, rf_40_3, rf_40_4, rf_40_6, rf_40_7, rf_40_9, rf_40_12, rf_40_14, rf_40_22, rf_40_23, rf_40_24, rf_40_25, li_0, li_1, li_2, li_3, li_4, li_5, li_6, li_7, li_8, li_9, li_10, li_11, li_12, li_13, li_14, li_15, li_16, li_17, li_18, li_19, li_20, li_21, li_22, li_23, li_24, li_25, li_26, li_27, li_28, li_29, li_30, li_31, li_32, li_33, li_34, li_35, li_36, li_37, li_38, li_39, li_40, li_41, li_42, li_43, li_44, li_45, li_46, li_47, li_48, li_49, li_50, li_51, li_52, li_53, li_54, li_55, li_56, li_57, li_58, li_59, li_60, li_61, li_62, li_63, li_99, li_100, li_107, li_124, li_126, li_240, li_255, li_256, li_1000, li_1178, li_1240, li_9000, li_65536, li_1000000, nI_add, pk_mul, nI_ltI, nI_leI, nI_eq, xin_nI, nI_clamp, decide_true, decide_false, Bool.and_true, Bool.true_and, Bool.and_false, Bool.false_and, Bool.not_true, Bool.not_false, cond_true, cond_false, Option.bind_some, Option.toList_some, Option.toList_none, List.cons_append, List.nil_append, List.append_nil, Nat.not_lt_zero, Nat.zero_le, Nat.le_refl, Nat.lt_irrefl, Nat.reduceLT, Nat.reduceLeDiff, Nat.reduceEqDiff, Nat.reduceAdd, Nat.reduceMul, Bool.toNat_true, Bool.toNat_false, Nat.add_zero, Nat.zero_add, Nat.succ_ne_zero, Nat.one_ne_zero, decide_eq_true, decide_eq_false, bb1, bb0, bbT, eq_self, reduceIte, and_self, and_true, true_and]
        · simp (disch := omega) only [hneg, xu_off, q1, q2, kf_1, kf_2, kf_3, kf_4, kf_5, kf_6, kf_7, kf_8, kf_9, kf_10, kf_11, kf_12, kf_13, kf_14, kf_15, kf_16, kf_17, kf_18, kf_19, kf_20, kf_21, kf_22, kf_23, kf_24, kf_25, kf_26, kf_27, kf_28, kf_29, kf_30, kf_31, kf_32, kf_33, kf_34, kf_35, kf_36, kf_37, kf_38, kf_39, kf_40, kf_41, kf_42, kf_43, kf_44, kf_45, kf_46, kf_47, kf_48, kf_49, kf_50, kf_51, kf_52, kf_53, kf_54, rf_1_0, rf_1_1, rf_1_2, rf_1_3, rf_1_4, rf_1_5, rf_1_6, rf_1_7, rf_1_8, rf_2_3, rf_2_4, rf_2_5, rf_2_6, rf_7_0, rf_9_0, rf_11_0, rf_11_1, rf_11_4, rf_12_3, rf_12_4, rf_12_5, rf_12_6, rf_17_0, rf_20_1, rf_22_0, rf_22_1, rf_25_2, rf_25_3, rf_25_4, rf_25_5, rf_30_1, rf_30_2, rf_30_3, rf_30_4, rf_34_0, rf_36_0, rf_36_1, rf_36_2, rf_40_0, rf_40_1, rf_40_2, rf_40_3, rf_40_4, rf_40_6, rf_40_7, rf_40_9, rf_40_12, rf_40_14, rf_40_22, rf_40_23, rf_40_24, rf_40_25, li_0, li_1, li_2, li_3, li_4, li_5, li_6, li_7, li_8, li_9, li_10, li_11, li_12, li_13, li_14, li_15, li_16, li_17, li_18, li_19, li_20, li_21, li_22, li_23, li_24, li_25, li_26, li_27, li_28, li_29, li_30, li_31, li_32, li_33, li_34, li_35, li_36, li_37, li_38, li_39, li_40, li_41, li_42, li_43, li_44, li_45, li_46, li_47, li_48, li_49, li_50, li_51, li_52, li_53, li_54, li_55, li_56, li_57, li_58, li_59, li_60, li_61, li_62, li_63, li_99, li_100, li_107, li_124, li_126, li_240, li_255, li_256, li_1000, li_1178, li_1240, li_9000, li_65536, li_1000000, nI_add, pk_mul, nI_ltI, nI_leI, nI_eq, xin_nI, nI_clamp, decide_true, decide_false, Bool.and_true, Bool.true_and, Bool.and_false, Bool.false_and, Bool.not_true, Bool.not_false, cond_true, cond_false, Option.bind_some, Option.toList_some, Option.toList_none, List.cons_append, List.nil_append, List.append_nil, Nat.not_lt_zero, Nat.zero_le, Nat.le_refl, Nat.lt_irrefl, Nat.reduceLT, Nat.reduceLeDiff, Nat.reduceEqDiff, Nat.reduceAdd, Nat.reduceMul, Bool.toNat_true, Bool.toNat_false, Nat.add_zero, Nat.zero_add, Nat.succ_ne_zero, Nat.one_ne_zero, decide_eq_true, decide_eq_false, bb1, bb0, bbT, eq_self, reduceIte, and_self, and_true, true_and]
      · obtain ⟨a1, a2, a3, a4, a5, a6, a7, a8, a9⟩ := hM
        have oL : onlyL M (xu (xu M1 40 10 (nI 0)) 40 11 (nI e.2)) [40, 42] := onlyL_xu (onlyL_xu m2 (by decide)) (by decide)
        have hf : ∀ k, k < 16 → k ≠ 10 → k ≠ 11 → xu (xu M1 40 10 (nI 0)) 40 11 (nI e.2) 40 k = M 40 k := fun k hk h10 h11 => by rw [xu_off h11, xu_off h10]; exact m3 k hk h11
        exact ⟨houseR_l a1 oL (by decide), sceneR_l a2 oL (by decide), ⟨by rw [xu_off (by decide), xu_at], fun i hi => absurd hi (Nat.not_lt_zero i)⟩, xu_at, a5, histR_l a6 oL (by decide) (hf 5 (by decide) (by decide) (by decide)), imgR_l a7 oL (by decide), seenR_l a8 oL (by decide) (hf 13 (by decide) (by decide) (by decide)), bookR_l a9 oL (by decide) (hf 15 (by decide) (by decide) (by decide))⟩
      · exact onlyR_l (l := [40, 42]) (onlyL_xu (onlyL_xu m2 (by decide)) (by decide)) (by decide)
  · have hok : rowOk rv := by
      have key : ∀ (k p : Nat) (r : Rw), rowOk r → ∀ r', prsS (gn g) (gf g) k p r = .inr r' → rowOk r' := by
        intro k
        induction k with
        | zero => intro p r hr r' h; cases h; exact hr
        | succ k ih =>
          intro p r hr r' h
          have h : (if p < gn g then sb (clauS (gn g) (gf g) p r) (fun x => prsS (gn g) (gf g) k (skp (gn g) (gf g) x.2) x.1) else .inr r) = .inr r' := h
          split at h
          · rename_i hp
            rcases hc : clauS (gn g) (gf g) p r with e' | x
            · rw [hc, sb_inl] at h
              cases h
            · rw [hc, sb_inr] at h
              exact ih _ _ (clau_ok hc hr hp).1 _ h
          · cases h; exact hr
      exact key _ _ _ row0_ok _ s
    refine ⟨nI (rv 2), (hoOf rv, scOf rv, 0, gf g, -1, gd g, [], fun _ => none, [], []), ⟨hoOf_ok hok, scOf_ok hok, Nat.zero_le _, fun i hi => absurd hi (Nat.not_lt_zero i), o5, ⟨Nat.zero_le _, fun S hS => (by cases hS)⟩, fun i S d _ h => (by cases h), ⟨Nat.zero_le _, fun q hq => (by cases hq)⟩, ⟨Nat.zero_le _, fun q hq => (by cases hq)⟩⟩, fun M J hM => ?_, fun M J hM => ?_⟩
    · obtain ⟨M1, m1, m2, m3⟩ := c_read (L := L) (J := J) tx hM.2.2.1
      rw [s] at m1 m3
      obtain ⟨⟨p, td, R⟩, hS, -⟩ := m3
      have e3 : M1 11 3 = -nI 1 := R.2.2.2.1
      have m1 : ev (44, 0, [.ref 11, .null], [], (xSH L, M, J)) = some (some (.int (nI 0)), (xSH L, M1, J)) := m1
      obtain ⟨M2, h1, h2, h3, h4, h5, h6⟩ := c_houseBecome (L := L) (M := xu (xu M1 1 9 (-nI 1)) 11 2 (nI 0)) (J := J)
      have bc := c_become (M := M2) (J := J) (sc7 L) (sc17 L)
      have oL : onlyL M (xu (xu (xu (xu (xcp M2 18 0 8 0 62) 25 0 (nI 0)) 25 1 (nI 0)) 20 0 (nI 0)) 22 2 (nI 0)) [1, 2, 3, 4, 5, 6, 8, 11, 12, 13, 14, 15, 16, 18, 20, 22, 25] := by
        refine onlyL_xu (onlyL_xu (onlyL_xu (onlyL_xu ?_ (by decide)) (by decide)) (by decide)) (by decide)
        intro a ha
        have w : ∀ x, x ∈ [1, 2, 3, 4, 5, 6, 8, 11, 12, 13, 14, 15, 16, 18, 20, 22, 25] → a ≠ x := fun x hx z => ha (by rw [z]; exact hx)
        rw [xcp_ne (w 8 (by decide)), h2 a (fun z => by
          simp only [List.mem_cons, List.not_mem_nil, or_false] at z
          rcases z with z | z | z | z | z
          · exact w 2 (by decide) z
          · exact w 3 (by decide) z
          · exact w 4 (by decide) z
          · exact w 5 (by decide) z
          · exact w 6 (by decide) z), xu_ne (w 11 (by decide)), xu_ne (w 1 (by decide))]
        refine m2 a (fun z => ?_)
        unfold LRD at z
        simp only [List.mem_cons, List.not_mem_nil, or_false] at z
        rcases z with z | z | z | z | z | z | z
        · exact w 11 (by decide) z
        · exact w 12 (by decide) z
        · exact w 13 (by decide) z
        · exact w 14 (by decide) z
        · exact w 15 (by decide) z
        · exact w 16 (by decide) z
        · exact w 18 (by decide) z
      have x12 : ∀ a k, 12 ≤ a → a ≤ 18 → xu (xu M1 1 9 (-nI 1)) 11 2 (nI 0) a k = M1 a k := fun a k u1 u2 => by rw [xu_ne (by omega), xu_ne (by omega)]
      have y18 : ∀ k, M2 18 k = M1 18 k := fun k => by rw [h2 18 (by decide)]; exact x12 18 k (by decide) (by decide)
      obtain ⟨t1, t2, t3, t4, t5, t6, t7, t8⟩ := hS
      have e22 : M2 2 2 = nI (rv 2) := by rw [h5, x12 12 2 (by decide) (by decide)]; exact t3
      refine ⟨xu (xu (xu (xu (xcp M2 18 0 8 0 62) 25 0 (nI 0)) 25 1 (nI 0)) 20 0 (nI 0)) 22 2 (nI 0), ?_, ?_, ?_⟩
      · simp (disch := omega) only [b_C_house_0, m1, b_C_house_7, e3, b_Reader_empty_0, b_C_house_26, h1, b_C_house_49, bc, b_C_house_63, b_Notes_clear_0, b_C_house_70, b_History_clear_0, b_C_house_77, b_Images_clear_0, b_C_house_84, xu_ne, xcp_ne, e22, kf_1, kf_2, kf_3, kf_4, kf_5, kf_6, kf_7, kf_8, kf_9, kf_10, kf_11, kf_12, kf_13, kf_14, kf_15, kf_16, kf_17, kf_18, kf_19, kf_20, kf_21, kf_22, kf_23, kf_24, kf_25, kf_26, kf_27, kf_28, kf_29, kf_30, kf_31, kf_32, kf_33, kf_34, kf_35, kf_36, kf_37, kf_38, kf_39, kf_40, kf_41, kf_42, kf_43, kf_44, kf_45, kf_46, kf_47, kf_48, kf_49, kf_50, kf_51, kf_52, kf_53, kf_54, rf_1_0, rf_1_1, rf_1_2, rf_1_3, rf_1_4, rf_1_5, rf_1_6, rf_1_7, rf_1_8, rf_2_3, rf_2_4, rf_2_5, rf_2_6, rf_7_0, rf_9_0, rf_11_0, rf_11_1, rf_11_4, rf_12_3, rf_12_4, rf_12_5, rf_12_6, rf_17_0, rf_20_1, rf_22_0, rf_22_1, rf_25_2, rf_25_3, rf_25_4, rf_25_5, rf_30_1, rf_30_2, rf_30_3, rf_30_4, rf_34_0, rf_36_0, rf_36_1, rf_36_2, rf_40_0, rf_40_1, rf_40_2, rf_40_3, rf_40_4, rf_40_6, rf_40_7, rf_40_9, rf_40_12, rf_40_14, rf_40_22, rf_40_23, rf_40_24, rf_40_25, li_0, li_1, li_2, li_3, li_4, li_5, li_6, li_7, li_8, li_9, li_10, li_11, li_12, li_13, li_14, li_15, li_16, li_17, li_18, li_19, li_20, li_21, li_22, li_23, li_24, li_25, li_26, li_27, li_28, li_29, li_30, li_31, li_32, li_33, li_34, li_35, li_36, li_37, li_38, li_39, li_40, li_41, li_42, li_43, li_44, li_45, li_46, li_47, li_48, li_49, li_50, li_51, li_52, li_53, li_54, li_55, li_56, li_57, li_58, li_59, li_60, li_61, li_62, li_63, li_99, li_100, li_107, li_124, li_126, li_240, li_255, li_256, li_1000, li_1178, li_1240, li_9000, li_65536, li_1000000, nI_add, pk_mul, nI_ltI, nI_leI, nI_eq, xin_nI, nI_clamp, decide_true, decide_false, Bool.and_true, Bool.true_and, Bool.and_false, Bool.false_and, Bool.not_true, Bool.not_false, cond_true, cond_false, Option.bind_some, Option.toList_some, Option.toList_none, List.cons_append, List.nil_append, List.append_nil, Nat.not_lt_zero, Nat.zero_le, Nat.le_refl, Nat.lt_irrefl, Nat.reduceLT, Nat.reduceLeDiff, Nat.reduceEqDiff, Nat.reduceAdd, Nat.reduceMul, Bool.toNat_true, Bool.toNat_false, Nat.add_zero, Nat.zero_add, Nat.succ_ne_zero, Nat.one_ne_zero, decide_eq_true, decide_eq_false, bb1, bb0, bbT, eq_self, reduceIte, and_self, and_true, true_and]
      · obtain ⟨a1, a2, a3, a4, a5, ⟨c1, nw, c2, c3, c4⟩, a7, a8, a9⟩ := hM
        have cp : ∀ k, k < 62 → xcp M2 18 0 8 0 62 8 k = M1 18 k := fun k hk => by
          have := xcp_in (M := M2) (a0 := 18) (sp := 0) (a1 := 8) (dp := 0) (n := 62) hk
          rw [Nat.zero_add] at this
          rw [this, y18]
        refine ⟨⟨?_, ?_, ?_, fun k hk => ?_⟩, ⟨?_, ?_, fun c hc => ⟨?_, ?_⟩, fun a ha => ⟨?_, ?_, ?_, ?_⟩⟩, ⟨?_, fun i hi => absurd hi (Nat.not_lt_zero i)⟩, ?_, ?_, ⟨?_, nw, c2, ?_, fun j S h => nil_no h⟩, ⟨?_, fun i S d _ h => (by cases h)⟩, ⟨?_, fun j q h => nil_no h⟩, ⟨?_, fun j q h => nil_no h⟩⟩
        · simp (disch := omega) only [xu_ne, xcp_ne]
          rw [h3, x12 12 0 (by decide) (by decide)]; exact t1
        · simp (disch := omega) only [xu_ne, xcp_ne]
          rw [h4, x12 12 1 (by decide) (by decide)]; exact t2
        · simp (disch := omega) only [xu_ne, xcp_ne]
          exact e22
        · simp (disch := omega) only [xu_ne, xcp_ne]
          obtain ⟨u1, u2, u3, u4⟩ := h6 k hk
          rw [u1, u2, u3, u4, x12 13 k (by decide) (by decide), x12 14 k (by decide) (by decide), x12 15 k (by decide) (by decide), x12 16 k (by decide) (by decide)]
          exact t4 k hk
        · simp (disch := omega) only [xu_ne]
          rw [cp 0 (by decide)]; exact t5
        · simp (disch := omega) only [xu_ne]
          rw [cp 1 (by decide)]; exact t6
        · simp (disch := omega) only [xu_ne]
          rw [cp _ (by omega)]; exact (t7 c hc).1
        · simp (disch := omega) only [xu_ne]
          rw [cp _ (by omega)]; exact (t7 c hc).2
        · simp (disch := omega) only [xu_ne]
          rw [cp _ (by omega)]; exact (t8 a ha).1
        · simp (disch := omega) only [xu_ne]
          rw [cp _ (by omega)]; exact (t8 a ha).2.1
        · simp (disch := omega) only [xu_ne]
          rw [cp _ (by omega)]; exact (t8 a ha).2.2.1
        · simp (disch := omega) only [xu_ne]
          rw [cp _ (by omega)]; exact (t8 a ha).2.2.2
        · simp (disch := omega) only [xu_ne, xcp_ne]
          rw [h2 11 (by decide), xu_at]
        · simp (disch := omega) only [xu_ne, xcp_ne]
          rw [h2 1 (by decide), xu_ne (by decide), xu_at]; rfl
        · simp (disch := omega) only [xu_ne, xcp_ne]
          rw [h2 1 (by decide), xu_ne (by decide), xu_off (by decide), m2 1 (by decide)]
          exact a5
        · simp (disch := omega) only [xu_ne, xu_at]; rfl
        · simp (disch := omega) only [xu_ne, xu_off, xcp_ne]
          rw [h2 20 (by decide), xu_ne (by decide), xu_ne (by decide), m2 20 (by decide)]
          exact c3
        · rw [xu_at]; rfl
        · simp (disch := omega) only [xu_ne, xu_off, xu_at]; rfl
        · simp (disch := omega) only [xu_ne, xu_at]; rfl
      · exact onlyC_l oL (by decide)
    · obtain ⟨b, M1, m1, m2, m3, m4, m5⟩ := hRef M J hM
      rw [s] at m5
      obtain ⟨rfl, q1, hrow, -⟩ := m5
      have hneg : M1 40 18 < nI 0 := by rw [q1]; decide
      have hcp := c_Rcopies (sh := xSH L) (M := xu M1 40 10 (nI 0)) (J := J) (i := 0) (j := 0) (n := 41) (kf_42 L) (kf_41 L) (by decide) (by decide) (by decide) (by decide) (by decide)
      have h41 : ∀ k, k < 41 → xcp (xu M1 40 10 (nI 0)) 42 0 41 0 41 41 k = nI (rv k) := fun k hk => by
        have := xcp_in (M := xu M1 40 10 (nI 0)) (a0 := 42) (sp := 0) (a1 := 41) (dp := 0) (n := 41) hk
        rw [Nat.zero_add] at this
        rw [this, xu_ne (by decide)]
        exact hrow k hk
      obtain ⟨M2, b1, b2, b3, b4, b5, b6, b7, b8⟩ := c_Rbegins (L := L) (J := J) h41
      have e41 : ∀ k, k < 41 → M2 41 k = nI (rv k) := fun k hk => by rw [b2 41 (by decide)]; exact h41 k hk
      have e412 := e41 2 (by decide)
      refine ⟨M2, J, ?_, ?_, ?_⟩
      · rw [m1, b_R_house_23]
        simp (disch := omega) only [hneg, hcp, b_R_house_90, b1, b_R_house_94, e412, kf_1, kf_2, kf_3, kf_4, kf_5, kf_6, kf_7, kf_8, kf_9, kf_10, kf_11, kf_12, kf_13, kf_14, kf_15, kf_16, kf_17, kf_18, kf_19, kf_20, kf_21, kf_22, kf_23, kf_24, kf_25, kf_26, kf_27, kf_28, kf_29, kf_30, kf_31, kf_32, kf_33, kf_34, kf_35, kf_36, kf_37, kf_38, kf_39, kf_40, kf_41, kf_42, kf_43, kf_44, kf_45, kf_46, kf_47, kf_48, kf_49, kf_50, kf_51, kf_52, kf_53, kf_54, rf_1_0, rf_1_1, rf_1_2, rf_1_3, rf_1_4, rf_1_5, rf_1_6, rf_1_7, rf_1_8, rf_2_3, rf_2_4, rf_2_5, rf_2_6, rf_7_0, rf_9_0, rf_11_0, rf_11_1, rf_11_4, rf_12_3, rf_12_4, rf_12_5, rf_12_6, rf_17_0, rf_20_1, rf_22_0, rf_22_1, rf_25_2, rf_25_3, rf_25_4, rf_25_5, rf_30_1, rf_30_2, rf_30_3, rf_30_4, rf_34_0, rf_36_0, rf_36_1, rf_36_2, rf_40_0, rf_40_1, rf_40_2, rf_40_3, rf_40_4, rf_40_6, rf_40_7, rf_40_9, rf_40_12, rf_40_14, rf_40_22, rf_40_23, rf_40_24, rf_40_25, li_0, li_1, li_2, li_3, li_4, li_5, li_6, li_7, li_8, li_9, li_10, li_11, li_12, li_13, li_14, li_15, li_16, li_17, li_18, li_19, li_20, li_21, li_22, li_23, li_24, li_25, li_26, li_27, li_28, li_29, li_30, li_31, li_32, li_33, li_34, li_35, li_36, li_37, li_38, li_39, li_40, li_41, li_42, li_43, li_44, li_45, li_46, li_47, li_48, li_49, li_50, li_51, li_52, li_53, li_54, li_55, li_56, li_57, li_58, li_59, li_60, li_61, li_62, li_63, li_99, li_100, li_107, li_124, li_126, li_240, li_255, li_256, li_1000, li_1178, li_1240, li_9000, li_65536, li_1000000, nI_add, pk_mul, nI_ltI, nI_leI, nI_eq, xin_nI, nI_clamp, decide_true, decide_false, Bool.and_true, Bool.true_and, Bool.and_false, Bool.false_and, Bool.not_true, Bool.not_false, cond_true, cond_false, Option.bind_some, Option.toList_some, Option.toList_none, List.cons_append, List.nil_append, List.append_nil, Nat.not_lt_zero, Nat.zero_le, Nat.le_refl, Nat.lt_irrefl, Nat.reduceLT, Nat.reduceLeDiff, Nat.reduceEqDiff, Nat.reduceAdd, Nat.reduceMul, Bool.toNat_true, Bool.toNat_false, Nat.add_zero, Nat.zero_add, Nat.succ_ne_zero, Nat.one_ne_zero, decide_eq_true, decide_eq_false, bb1, bb0, bbT, eq_self, reduceIte, and_self, and_true, true_and]
      · obtain ⟨a1, a2, a3, a4, a5, a6, a7, a8, a9⟩ := hM
        have hf : ∀ k, k ≠ 5 → k ≠ 13 → k ≠ 15 → k ≠ 10 → M2 40 k = M1 40 k := fun k k1 k2 k3 k4 => by rw [b3 k k1 k2 k3, xcp_ne (by decide), xu_off k4]
        refine ⟨⟨e41 0 (by decide), e41 1 (by decide), e412, fun k hk => ⟨e41 _ (by omega), e41 _ (by omega), e41 _ (by omega), e41 _ (by omega)⟩⟩, b8, ⟨?_, fun i hi => absurd hi (Nat.not_lt_zero i)⟩, ?_, a5, ⟨b4, fun j S h => nil_no h⟩, ⟨fun i hi => b7 i hi, fun i S d _ h => (by cases h)⟩, ⟨b5, fun j q h => nil_no h⟩, ⟨b6, fun j q h => nil_no h⟩⟩
        · rw [b3 10 (by decide) (by decide) (by decide), xcp_ne (by decide), xu_at]
        · rw [hf 11 (by decide) (by decide) (by decide) (by decide)]; exact m4
      · intro a ha
        rw [b2 a (by simp only [List.mem_cons, List.not_mem_nil, or_false]; omega), xcp_ne (by omega), xu_ne (by omega)]
        exact m2 a (by simp only [List.mem_cons, List.not_mem_nil, or_false]; omega)
end HOUSE
