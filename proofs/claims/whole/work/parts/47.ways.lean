/-! ===== where all should stand: a way, what it costs ===== -/
def colF (H : Ho) (code i : Nat) : Nat := dg (hW H) code (hA H - 1 - i)
def placeP (T : Sc) (f : Nat → Nat) (k : Nat) : Sc := (sH T, sK T, fun i => if i < k then f i else sX T i, sO T, sP T, sQ T, sB T, sN T)
def placeD (T : Sc) (f : Nat → Nat) (A k : Nat) : Sc := (sH T, sK T, fun i => if k ≤ i ∧ i < A then f i else sX T i, sO T, sP T, sQ T, sB T, sN T)
def wayS (H : Ho) (T : Sc) (n code : Nat) : Sc := nts H n (placeP T (colF H code) (hA H))
def cst (H : Ho) (T : Sc) (a n code : Nat) : Option Nat := if sH (wayS H T n code) = 0 ∧ sB (wayS H T n code) a = sB T a then some (bareSum (wayS H T n code) - bareSum T).toNatClampNeg else none
def ciR (o : Option Nat) : Int32 := match o with
  | some v => nI v
  | none => nI 1000000
theorem placeP_0 (T : Sc) (f : Nat → Nat) : placeP T f 0 = T := rfl
theorem placeP_s (T : Sc) (f : Nat → Nat) (k : Nat) : placeT (placeP T f k) k (f k) = placeP T f (k + 1) := by
  have : (fun i => if i < k + 1 then f i else sX T i) = upN (fun i => if i < k then f i else sX T i) k (f k) := by
    funext i
    unfold upN
    by_cases h : i = k
    · subst h; rw [if_pos (by omega), if_pos rfl]
    · rw [if_neg h]
      dsimp only
      by_cases h2 : i < k
      · rw [if_pos (by omega), if_pos h2]
      · rw [if_neg (by omega), if_neg h2]
  unfold placeP placeT
  rw [this]
theorem placeD_A (T : Sc) (f : Nat → Nat) (A : Nat) : placeD T f A A = T := by
  have : (fun i => if A ≤ i ∧ i < A then f i else sX T i) = sX T := by
    funext i
    rw [if_neg (by omega)]
  unfold placeD
  rw [this]
theorem placeD_0 (T : Sc) (f : Nat → Nat) (A : Nat) : placeD T f A 0 = placeP T f A := by
  have : (fun i => if 0 ≤ i ∧ i < A then f i else sX T i) = fun i => if i < A then f i else sX T i := by
    funext i
    by_cases h : i < A
    · rw [if_pos ⟨Nat.zero_le i, h⟩, if_pos h]
    · rw [if_neg (by omega), if_neg h]
  unfold placeD placeP
  rw [this]
theorem placeD_s (T : Sc) (f : Nat → Nat) {A k : Nat} (hk : k < A) : placeT (placeD T f A (k + 1)) k (f k) = placeD T f A k := by
  have : (fun i => if k ≤ i ∧ i < A then f i else sX T i) = upN (fun i => if k + 1 ≤ i ∧ i < A then f i else sX T i) k (f k) := by
    funext i
    unfold upN
    by_cases h : i = k
    · subst h; rw [if_pos ⟨Nat.le_refl _, hk⟩, if_pos rfl]
    · rw [if_neg h]
      dsimp only
      by_cases h2 : k ≤ i ∧ i < A
      · rw [if_pos h2, if_pos (by omega)]
      · rw [if_neg h2, if_neg (by omega)]
  unfold placeD placeT
  rw [this]
section WAYS
variable {H : Ho} {T : Sc} {L : Nat} {M : Mem} {J : Nat → Nat → Int64} {g : Gh}
theorem placeP_ok {f : Nat → Nat} (ho : hoOk H) (hT : scOk H T) (hf : ∀ i, f i < hW H) : scOk H (placeP T f (hA H)) := by
  have hW5 := ho.1
  refine ⟨hT.1, hT.2.1, fun a ha => ?_, fun a ha => ?_⟩
  · obtain ⟨q1, q2, q3⟩ := hT.2.2.1 a ha
    refine ⟨?_, q2, q3⟩
    show (if a < hA H then f a else sX T a) < 5
    have := hf a
    split <;> omega
  · show (if a < hA H then f a else sX T a) < hW H
    rw [if_pos ha]
    exact hf a
theorem colF_lt (h0 : 0 < hW H) (code i : Nat) : colF H code i < hW H := dg_lt h0
theorem bareSum_add {S S' : Sc} {m : Nat} (h : ∀ i, ∃ d, d ≤ m ∧ sB S i = sB S' i + nI d) : ∃ d, d ≤ 5 * m ∧ bareSum S = bareSum S' + nI d := by
  obtain ⟨d0, h0, e0⟩ := h 0
  obtain ⟨d1, h1, e1⟩ := h 1
  obtain ⟨d2, h2, e2⟩ := h 2
  obtain ⟨d3, h3, e3⟩ := h 3
  obtain ⟨d4, h4, e4⟩ := h 4
  refine ⟨d0 + (d1 + (d2 + (d3 + d4))), by omega, ?_⟩
  show 0 + sB S 0 + sB S 1 + sB S 2 + sB S 3 + sB S 4 = 0 + sB S' 0 + sB S' 1 + sB S' 2 + sB S' 3 + sB S' 4 + nI (d0 + (d1 + (d2 + (d3 + d4))))
  rw [e0, e1, e2, e3, e4, ← nI_add, ← nI_add, ← nI_add, ← nI_add]
  ac_rfl
theorem i32_add_sub (x y : Int32) : x + y - x = y := by
  rw [Int32.sub_eq_add_neg, Int32.add_comm x y, Int32.add_assoc, Int32.add_right_neg, Int32.add_zero]
theorem way_cost {n code : Nat} (hn : n ≤ 20) : ∃ d, d ≤ 100 ∧ bareSum (wayS H T n code) - bareSum T = nI d := by
  obtain ⟨d, hd, he⟩ := bareSum_add (S := wayS H T n code) (S' := T) (m := n) (fun i => by
    obtain ⟨d, hd, he⟩ := nts_bare (H := H) 0 i (placeP T (colF H code) (hA H)) n
    rw [Nat.zero_add] at he
    exact ⟨d, hd, he⟩)
  exact ⟨d, by omega, by rw [he, i32_add_sub]⟩
theorem cst_some {a n code v : Nat} (hn : n ≤ 20) (h : cst H T a n code = some v) : bareSum (wayS H T n code) - bareSum T = nI v ∧ v ≤ 100 := by
  unfold cst at h
  split at h
  · obtain ⟨d, hd, he⟩ := way_cost (H := H) (T := T) (code := code) hn
    rw [he, nI_clamp (by omega)] at h
    cases h
    exact ⟨he, hd⟩
  · cases h
theorem cst_of {a n code : Nat} (hn : n ≤ 20) (h : sH (wayS H T n code) = 0 ∧ sB (wayS H T n code) a = sB T a) : optI (cst H T a n code) = bareSum (wayS H T n code) - bareSum T ∧ ciR (cst H T a n code) = bareSum (wayS H T n code) - bareSum T := by
  obtain ⟨d, hd, he⟩ := way_cost (H := H) (T := T) (code := code) hn
  have : cst H T a n code = some d := by
    unfold cst
    rw [if_pos h, he, nI_clamp (by omega)]
  rw [this, he]
  exact ⟨rfl, rfl⟩
theorem cst_not {a n code : Nat} (h : ¬ (sH (wayS H T n code) = 0 ∧ sB (wayS H T n code) a = sB T a)) : cst H T a n code = none := by
  unfold cst
  rw [if_neg h]
theorem nI_move {x : Int32} {d : Nat} (hd : d < 2 ^ 31) (h : x + nI d = x) : d = 0 := by
  have h2 := i32_add_sub x (nI d)
  rw [h, Int32.sub_self, show (0 : Int32) = nI 0 from rfl, nI_eq (by decide) hd] at h2
  exact h2.symm
theorem told_never {a n k code : Nat} (hn : n ≤ 20) (hk : k ≤ n) (h : ¬ sB (nts H k (placeP T (colF H code) (hA H))) a = sB T a) : cst H T a n code = none := by
  apply cst_not
  intro q
  obtain ⟨d, hd, he⟩ := nts_bare (H := H) k a (placeP T (colF H code) (hA H)) (n - k)
  rw [show k + (n - k) = n by omega] at he
  obtain ⟨e, hee, he2⟩ := nts_bare (H := H) 0 a (placeP T (colF H code) (hA H)) k
  rw [Nat.zero_add] at he2
  have he2' : sB (nts H k (placeP T (colF H code) (hA H))) a = sB T a + nI e := he2
  have q2 : sB (nts H n (placeP T (colF H code) (hA H))) a = sB T a := q.2
  rw [he, he2', Int32.add_assoc, nI_add] at q2
  have := nI_move (by omega) q2
  have e0 : e = 0 := by omega
  rw [e0, show nI 0 = 0 from rfl, Int32.add_zero] at he2'
  exact h he2'
theorem c_bared (HC : houseC M 2 3 4 5 6 H) (SC : sceneC M 8 T) (ho : hoOk H) (hT : scOk H T) (h0 : 0 < hW H) {a n code : Nat} (ha : a < hA H) (hn20 : n ≤ 20) (h32 : ∀ i, i < hA H → M 32 i = nI (colF H code i)) : ∃ M', ev (39, 0, [.ref 30, .ref 2, .ref 7, .int (nI a), .int (nI n), .null, .null, .null, .null], [], (xSH L, M, J)) = some (some (.int (optI (cst H T a n code))), (xSH L, M', J)) ∧ only M M' 35 := by
  have hh := hs2 L
  have hs := sc34 L
  have hA5 := ho.2.2.1
  have ha5 : a < 5 := by omega
  have hPok := placeP_ok ho hT (colF_lt (H := H) h0 code)
  have nights : ∀ (M2 : Mem), only M M2 35 → sceneC M2 35 (placeP T (colF H code) (hA H)) → ∃ M', ev (39, 66, [.ref 30, .ref 2, .null, .int (nI a), .int (nI n), .int (bareSum T), .int (sB T a), .int (nI 0), .null], [], (xSH L, M2, J)) = some (some (.int (optI (cst H T a n code))), (xSH L, M', J)) ∧ only M M' 35 := by
    intro M2 o2 s2
    refine loop_to (E := fun k (q : Mem) => ev (39, 66, [.ref 30, .ref 2, .null, .int (nI a), .int (nI n), .int (bareSum T), .int (sB T a), .int (nI k), .null], [], (xSH L, q, J))) (F := fun M' : Mem => some (some (.int (optI (cst H T a n code))), (xSH L, M', J))) (fun M' => only M M' 35) (fun k q => sceneC q 35 (nts H k (placeP T (colF H code) (hA H))) ∧ only M q 35 ∧ sB (nts H k (placeP T (colF H code) (hA H))) a = sB T a) (n := n) ?_ ?_ n 0 M2 (by omega) ⟨s2, o2, rfl⟩
    · intro q ⟨q1, q2, q3⟩
      have e0 := q1.1
      have hok := nts_ok ho hPok n
      have hs31 := scH_lt ho hok
      have hb := fun {J : Nat → Nat → Int64} => c_baredInAll (J := J) hs q1
      refine ⟨q, ?_, q2⟩
      rw [b_Placing_baredUntilWhole_66]
      by_cases hz : sH (nts H n (placeP T (colF H code) (hA H))) = 0
      · rw [(cst_of (H := H) (T := T) (a := a) (code := code) hn20 ⟨hz, q3⟩).1]
        rw [hz] at e0
        simp (disch := omega) only [c_holes hs, e0, b_Placing_baredUntilWhole_141, hb, b_Placing_baredUntilWhole_151, kf_1, kf_2, kf_3, kf_4, kf_5, kf_6, kf_7, kf_8, kf_9, kf_10, kf_11, kf_12, kf_13, kf_14, kf_15, kf_16, kf_17, kf_18, kf_19, kf_20, kf_21, kf_22, kf_23, kf_24, kf_25, kf_26, kf_27, kf_28, kf_29, kf_30, kf_31, kf_32, kf_33, kf_34, kf_35, kf_36, kf_37, kf_38, kf_39, kf_40, kf_41, kf_42, kf_43, kf_44, kf_45, kf_46, kf_47, kf_48, kf_49, kf_50, kf_51, kf_52, kf_53, kf_54, rf_1_0, rf_1_1, rf_1_2, rf_1_3, rf_1_4, rf_1_5, rf_1_6, rf_1_7, rf_1_8, rf_2_3, rf_2_4, rf_2_5, rf_2_6, rf_7_0, rf_9_0, rf_11_0, rf_11_1, rf_11_4, rf_12_3, rf_12_4, rf_12_5, rf_12_6, rf_17_0, rf_20_1, rf_22_0, rf_22_1, rf_25_2, rf_25_3, rf_25_4, rf_25_5, rf_30_1, rf_30_2, rf_30_3, rf_30_4, rf_34_0, rf_36_0, rf_36_1, rf_36_2, rf_40_0, rf_40_1, rf_40_2, rf_40_3, rf_40_4, rf_40_6, rf_40_7, rf_40_9, rf_40_12, rf_40_14, rf_40_22, rf_40_23, rf_40_24, rf_40_25, li_0, li_1, li_2, li_3, li_4, li_5, li_6, li_7, li_8, li_9, li_10, li_11, li_12, li_13, li_14, li_15, li_16, li_17, li_18, li_19, li_20, li_21, li_22, li_23, li_24, li_25, li_26, li_27, li_28, li_29, li_30, li_31, li_32, li_33, li_34, li_35, li_36, li_37, li_38, li_39, li_40, li_41, li_42, li_43, li_44, li_45, li_46, li_47, li_48, li_49, li_50, li_51, li_52, li_53, li_54, li_55, li_56, li_57, li_58, li_59, li_60, li_61, li_62, li_63, li_99, li_100, li_107, li_124, li_126, li_240, li_255, li_256, li_1000, li_1178, li_1240, li_9000, li_65536, li_1000000, nI_add, pk_mul, nI_ltI, nI_leI, nI_eq, xin_nI, nI_clamp, decide_true, decide_false, Bool.and_true, Bool.true_and, Bool.and_false, Bool.false_and, Bool.not_true, Bool.not_false, cond_true, cond_false, Option.bind_some, Option.toList_some, Option.toList_none, List.cons_append, List.nil_append, List.append_nil, Nat.not_lt_zero, Nat.zero_le, Nat.le_refl, Nat.lt_irrefl, Nat.reduceLT, Nat.reduceLeDiff, Nat.reduceEqDiff, Nat.reduceAdd, Nat.reduceMul, Bool.toNat_true, Bool.toNat_false, Nat.add_zero, Nat.zero_add, Nat.succ_ne_zero, Nat.one_ne_zero, decide_eq_true, decide_eq_false, bb1, bb0, bbT, eq_self, reduceIte, and_self, and_true, true_and]
        rfl
      · rw [cst_not (H := H) (T := T) (a := a) (code := code) (fun w => hz w.1)]
        simp (disch := omega) only [c_holes hs, e0, b_Placing_baredUntilWhole_141, hz, optI, kf_1, kf_2, kf_3, kf_4, kf_5, kf_6, kf_7, kf_8, kf_9, kf_10, kf_11, kf_12, kf_13, kf_14, kf_15, kf_16, kf_17, kf_18, kf_19, kf_20, kf_21, kf_22, kf_23, kf_24, kf_25, kf_26, kf_27, kf_28, kf_29, kf_30, kf_31, kf_32, kf_33, kf_34, kf_35, kf_36, kf_37, kf_38, kf_39, kf_40, kf_41, kf_42, kf_43, kf_44, kf_45, kf_46, kf_47, kf_48, kf_49, kf_50, kf_51, kf_52, kf_53, kf_54, rf_1_0, rf_1_1, rf_1_2, rf_1_3, rf_1_4, rf_1_5, rf_1_6, rf_1_7, rf_1_8, rf_2_3, rf_2_4, rf_2_5, rf_2_6, rf_7_0, rf_9_0, rf_11_0, rf_11_1, rf_11_4, rf_12_3, rf_12_4, rf_12_5, rf_12_6, rf_17_0, rf_20_1, rf_22_0, rf_22_1, rf_25_2, rf_25_3, rf_25_4, rf_25_5, rf_30_1, rf_30_2, rf_30_3, rf_30_4, rf_34_0, rf_36_0, rf_36_1, rf_36_2, rf_40_0, rf_40_1, rf_40_2, rf_40_3, rf_40_4, rf_40_6, rf_40_7, rf_40_9, rf_40_12, rf_40_14, rf_40_22, rf_40_23, rf_40_24, rf_40_25, li_0, li_1, li_2, li_3, li_4, li_5, li_6, li_7, li_8, li_9, li_10, li_11, li_12, li_13, li_14, li_15, li_16, li_17, li_18, li_19, li_20, li_21, li_22, li_23, li_24, li_25, li_26, li_27, li_28, li_29, li_30, li_31, li_32, li_33, li_34, li_35, li_36, li_37, li_38, li_39, li_40, li_41, li_42, li_43, li_44, li_45, li_46, li_47, li_48, li_49, li_50, li_51, li_52, li_53, li_54, li_55, li_56, li_57, li_58, li_59, li_60, li_61, li_62, li_63, li_99, li_100, li_107, li_124, li_126, li_240, li_255, li_256, li_1000, li_1178, li_1240, li_9000, li_65536, li_1000000, nI_add, pk_mul, nI_ltI, nI_leI, nI_eq, xin_nI, nI_clamp, decide_true, decide_false, Bool.and_true, Bool.true_and, Bool.and_false, Bool.false_and, Bool.not_true, Bool.not_false, cond_true, cond_false, Option.bind_some, Option.toList_some, Option.toList_none, List.cons_append, List.nil_append, List.append_nil, Nat.not_lt_zero, Nat.zero_le, Nat.le_refl, Nat.lt_irrefl, Nat.reduceLT, Nat.reduceLeDiff, Nat.reduceEqDiff, Nat.reduceAdd, Nat.reduceMul, Bool.toNat_true, Bool.toNat_false, Nat.add_zero, Nat.zero_add, Nat.succ_ne_zero, Nat.one_ne_zero, decide_eq_true, decide_eq_false, bb1, bb0, bbT, eq_self, reduceIte, and_self, and_true, true_and]
    · intro k q hlt ⟨q1, q2, q3⟩
      have e4 : ¬ n ≤ k := by omega
      have e0 := q1.1
      have hok := nts_ok ho hPok k
      have hs31 := scH_lt ho hok
      have hb := fun {J : Nat → Nat → Int64} => c_baredInAll (J := J) hs q1
      rw [b_Placing_baredUntilWhole_66]
      by_cases hz : sH (nts H k (placeP T (colF H code) (hA H))) = 0
      · left
        refine ⟨q, ?_, q2⟩
        obtain ⟨w1, w2⟩ := nts_whole hz (n - k)
        rw [show k + (n - k) = n by omega] at w1 w2
        have hv := (cst_of (H := H) (T := T) (a := a) (code := code) hn20 ⟨w1, by unfold wayS; rw [w2]; exact q3⟩).1
        have hbs : bareSum (wayS H T n code) = bareSum (nts H k (placeP T (colF H code) (hA H))) := by unfold wayS bareSum; rw [w2]
        rw [hv, hbs]
        rw [hz] at e0
        simp (disch := omega) only [e4, c_holes hs, e0, b_Placing_baredUntilWhole_80, b_Placing_baredUntilWhole_141, hb, b_Placing_baredUntilWhole_151, kf_1, kf_2, kf_3, kf_4, kf_5, kf_6, kf_7, kf_8, kf_9, kf_10, kf_11, kf_12, kf_13, kf_14, kf_15, kf_16, kf_17, kf_18, kf_19, kf_20, kf_21, kf_22, kf_23, kf_24, kf_25, kf_26, kf_27, kf_28, kf_29, kf_30, kf_31, kf_32, kf_33, kf_34, kf_35, kf_36, kf_37, kf_38, kf_39, kf_40, kf_41, kf_42, kf_43, kf_44, kf_45, kf_46, kf_47, kf_48, kf_49, kf_50, kf_51, kf_52, kf_53, kf_54, rf_1_0, rf_1_1, rf_1_2, rf_1_3, rf_1_4, rf_1_5, rf_1_6, rf_1_7, rf_1_8, rf_2_3, rf_2_4, rf_2_5, rf_2_6, rf_7_0, rf_9_0, rf_11_0, rf_11_1, rf_11_4, rf_12_3, rf_12_4, rf_12_5, rf_12_6, rf_17_0, rf_20_1, rf_22_0, rf_22_1, rf_25_2, rf_25_3, rf_25_4, rf_25_5, rf_30_1, rf_30_2, rf_30_3, rf_30_4, rf_34_0, rf_36_0, rf_36_1, rf_36_2, rf_40_0, rf_40_1, rf_40_2, rf_40_3, rf_40_4, rf_40_6, rf_40_7, rf_40_9, rf_40_12, rf_40_14, rf_40_22, rf_40_23, rf_40_24, rf_40_25, li_0, li_1, li_2, li_3, li_4, li_5, li_6, li_7, li_8, li_9, li_10, li_11, li_12, li_13, li_14, li_15, li_16, li_17, li_18, li_19, li_20, li_21, li_22, li_23, li_24, li_25, li_26, li_27, li_28, li_29, li_30, li_31, li_32, li_33, li_34, li_35, li_36, li_37, li_38, li_39, li_40, li_41, li_42, li_43, li_44, li_45, li_46, li_47, li_48, li_49, li_50, li_51, li_52, li_53, li_54, li_55, li_56, li_57, li_58, li_59, li_60, li_61, li_62, li_63, li_99, li_100, li_107, li_124, li_126, li_240, li_255, li_256, li_1000, li_1178, li_1240, li_9000, li_65536, li_1000000, nI_add, pk_mul, nI_ltI, nI_leI, nI_eq, xin_nI, nI_clamp, decide_true, decide_false, Bool.and_true, Bool.true_and, Bool.and_false, Bool.false_and, Bool.not_true, Bool.not_false, cond_true, cond_false, Option.bind_some, Option.toList_some, Option.toList_none, List.cons_append, List.nil_append, List.append_nil, Nat.not_lt_zero, Nat.zero_le, Nat.le_refl, Nat.lt_irrefl, Nat.reduceLT, Nat.reduceLeDiff, Nat.reduceEqDiff, Nat.reduceAdd, Nat.reduceMul, Bool.toNat_true, Bool.toNat_false, Nat.add_zero, Nat.zero_add, Nat.succ_ne_zero, Nat.one_ne_zero, decide_eq_true, decide_eq_false, bb1, bb0, bbT, eq_self, reduceIte, and_self, and_true, true_and]
      · obtain ⟨M3, n1, n2, n3, n4⟩ := c_playNight (J := J) hh hs (houseC_o HC q2 (by decide)) q1 ho hok (by decide)
        have n2' : sceneC M3 35 (nts H (k + 1) (placeP T (colF H code) (hA H))) := n2
        have hs31' := scH_lt ho n4
        have e1 : M3 35 0 = nI (sH (nts H (k + 1) (placeP T (colF H code) (hA H)))) := n2'.1
        have hs31'' : sH (nts H (k + 1) (placeP T (colF H code) (hA H))) < 2 ^ 31 := hs31'
        have e2 := (n2'.2.2.2 a ha5).2.2.2
        by_cases hst : sH (nts H (k + 1) (placeP T (colF H code) (hA H))) = sH (nts H k (placeP T (colF H code) (hA H)))
        · left
          have hnev := (nts_stuck hst (n - k)).2
          rw [show k + (n - k) = n by omega] at hnev
          rw [cst_not (H := H) (T := T) (a := a) (code := code) (fun w => hz (hnev ▸ w.1))]
          refine ⟨M3, ?_, only_tr q2 n3⟩
          rw [hst] at e1
          simp (disch := omega) only [e4, c_holes hs, e0, b_Placing_baredUntilWhole_80, hz, b_Placing_baredUntilWhole_90, n1, b_Placing_baredUntilWhole_100, e1, b_Placing_baredUntilWhole_108, optI, kf_1, kf_2, kf_3, kf_4, kf_5, kf_6, kf_7, kf_8, kf_9, kf_10, kf_11, kf_12, kf_13, kf_14, kf_15, kf_16, kf_17, kf_18, kf_19, kf_20, kf_21, kf_22, kf_23, kf_24, kf_25, kf_26, kf_27, kf_28, kf_29, kf_30, kf_31, kf_32, kf_33, kf_34, kf_35, kf_36, kf_37, kf_38, kf_39, kf_40, kf_41, kf_42, kf_43, kf_44, kf_45, kf_46, kf_47, kf_48, kf_49, kf_50, kf_51, kf_52, kf_53, kf_54, rf_1_0, rf_1_1, rf_1_2, rf_1_3, rf_1_4, rf_1_5, rf_1_6, rf_1_7, rf_1_8, rf_2_3, rf_2_4, rf_2_5, rf_2_6, rf_7_0, rf_9_0, rf_11_0, rf_11_1, rf_11_4, rf_12_3, rf_12_4, rf_12_5, rf_12_6, rf_17_0, rf_20_1, rf_22_0, rf_22_1, rf_25_2, rf_25_3, rf_25_4, rf_25_5, rf_30_1, rf_30_2, rf_30_3, rf_30_4, rf_34_0, rf_36_0, rf_36_1, rf_36_2, rf_40_0, rf_40_1, rf_40_2, rf_40_3, rf_40_4, rf_40_6, rf_40_7, rf_40_9, rf_40_12, rf_40_14, rf_40_22, rf_40_23, rf_40_24, rf_40_25, li_0, li_1, li_2, li_3, li_4, li_5, li_6, li_7, li_8, li_9, li_10, li_11, li_12, li_13, li_14, li_15, li_16, li_17, li_18, li_19, li_20, li_21, li_22, li_23, li_24, li_25, li_26, li_27, li_28, li_29, li_30, li_31, li_32, li_33, li_34, li_35, li_36, li_37, li_38, li_39, li_40, li_41, li_42, li_43, li_44, li_45, li_46, li_47, li_48, li_49, li_50, li_51, li_52, li_53, li_54, li_55, li_56, li_57, li_58, li_59, li_60, li_61, li_62, li_63, li_99, li_100, li_107, li_124, li_126, li_240, li_255, li_256, li_1000, li_1178, li_1240, li_9000, li_65536, li_1000000, nI_add, pk_mul, nI_ltI, nI_leI, nI_eq, xin_nI, nI_clamp, decide_true, decide_false, Bool.and_true, Bool.true_and, Bool.and_false, Bool.false_and, Bool.not_true, Bool.not_false, cond_true, cond_false, Option.bind_some, Option.toList_some, Option.toList_none, List.cons_append, List.nil_append, List.append_nil, Nat.not_lt_zero, Nat.zero_le, Nat.le_refl, Nat.lt_irrefl, Nat.reduceLT, Nat.reduceLeDiff, Nat.reduceEqDiff, Nat.reduceAdd, Nat.reduceMul, Bool.toNat_true, Bool.toNat_false, Nat.add_zero, Nat.zero_add, Nat.succ_ne_zero, Nat.one_ne_zero, decide_eq_true, decide_eq_false, bb1, bb0, bbT, eq_self, reduceIte, and_self, and_true, true_and]
        · by_cases ht : sB (nts H (k + 1) (placeP T (colF H code) (hA H))) a = sB T a
          · right
            refine ⟨M3, ?_, n2', only_tr q2 n3, ht⟩
            rw [ht] at e2
            simp (disch := omega) only [e4, c_holes hs, e0, b_Placing_baredUntilWhole_80, hz, b_Placing_baredUntilWhole_90, n1, b_Placing_baredUntilWhole_100, e1, b_Placing_baredUntilWhole_108, hst, c_baredOf hs, e2, b_Placing_baredUntilWhole_121, kf_1, kf_2, kf_3, kf_4, kf_5, kf_6, kf_7, kf_8, kf_9, kf_10, kf_11, kf_12, kf_13, kf_14, kf_15, kf_16, kf_17, kf_18, kf_19, kf_20, kf_21, kf_22, kf_23, kf_24, kf_25, kf_26, kf_27, kf_28, kf_29, kf_30, kf_31, kf_32, kf_33, kf_34, kf_35, kf_36, kf_37, kf_38, kf_39, kf_40, kf_41, kf_42, kf_43, kf_44, kf_45, kf_46, kf_47, kf_48, kf_49, kf_50, kf_51, kf_52, kf_53, kf_54, rf_1_0, rf_1_1, rf_1_2, rf_1_3, rf_1_4, rf_1_5, rf_1_6, rf_1_7, rf_1_8, rf_2_3, rf_2_4, rf_2_5, rf_2_6, rf_7_0, rf_9_0, rf_11_0, rf_11_1, rf_11_4, rf_12_3, rf_12_4, rf_12_5, rf_12_6, rf_17_0, rf_20_1, rf_22_0, rf_22_1, rf_25_2, rf_25_3, rf_25_4, rf_25_5, rf_30_1, rf_30_2, rf_30_3, rf_30_4, rf_34_0, rf_36_0, rf_36_1, rf_36_2, rf_40_0, rf_40_1, rf_40_2, rf_40_3, rf_40_4, rf_40_6, rf_40_7, rf_40_9, rf_40_12, rf_40_14, rf_40_22, rf_40_23, rf_40_24, rf_40_25, li_0, li_1, li_2, li_3, li_4, li_5, li_6, li_7, li_8, li_9, li_10, li_11, li_12, li_13, li_14, li_15, li_16, li_17, li_18, li_19, li_20, li_21, li_22, li_23, li_24, li_25, li_26, li_27, li_28, li_29, li_30, li_31, li_32, li_33, li_34, li_35, li_36, li_37, li_38, li_39, li_40, li_41, li_42, li_43, li_44, li_45, li_46, li_47, li_48, li_49, li_50, li_51, li_52, li_53, li_54, li_55, li_56, li_57, li_58, li_59, li_60, li_61, li_62, li_63, li_99, li_100, li_107, li_124, li_126, li_240, li_255, li_256, li_1000, li_1178, li_1240, li_9000, li_65536, li_1000000, nI_add, pk_mul, nI_ltI, nI_leI, nI_eq, xin_nI, nI_clamp, decide_true, decide_false, Bool.and_true, Bool.true_and, Bool.and_false, Bool.false_and, Bool.not_true, Bool.not_false, cond_true, cond_false, Option.bind_some, Option.toList_some, Option.toList_none, List.cons_append, List.nil_append, List.append_nil, Nat.not_lt_zero, Nat.zero_le, Nat.le_refl, Nat.lt_irrefl, Nat.reduceLT, Nat.reduceLeDiff, Nat.reduceEqDiff, Nat.reduceAdd, Nat.reduceMul, Bool.toNat_true, Bool.toNat_false, Nat.add_zero, Nat.zero_add, Nat.succ_ne_zero, Nat.one_ne_zero, decide_eq_true, decide_eq_false, bb1, bb0, bbT, eq_self, reduceIte, and_self, and_true, true_and]
          · left
            rw [told_never (H := H) (T := T) (code := code) hn20 (show k + 1 ≤ n by omega) ht]
            refine ⟨M3, ?_, only_tr q2 n3⟩
            simp (disch := omega) only [e4, c_holes hs, e0, b_Placing_baredUntilWhole_80, hz, b_Placing_baredUntilWhole_90, n1, b_Placing_baredUntilWhole_100, e1, b_Placing_baredUntilWhole_108, hst, c_baredOf hs, e2, b_Placing_baredUntilWhole_121, ht, optI, kf_1, kf_2, kf_3, kf_4, kf_5, kf_6, kf_7, kf_8, kf_9, kf_10, kf_11, kf_12, kf_13, kf_14, kf_15, kf_16, kf_17, kf_18, kf_19, kf_20, kf_21, kf_22, kf_23, kf_24, kf_25, kf_26, kf_27, kf_28, kf_29, kf_30, kf_31, kf_32, kf_33, kf_34, kf_35, kf_36, kf_37, kf_38, kf_39, kf_40, kf_41, kf_42, kf_43, kf_44, kf_45, kf_46, kf_47, kf_48, kf_49, kf_50, kf_51, kf_52, kf_53, kf_54, rf_1_0, rf_1_1, rf_1_2, rf_1_3, rf_1_4, rf_1_5, rf_1_6, rf_1_7, rf_1_8, rf_2_3, rf_2_4, rf_2_5, rf_2_6, rf_7_0, rf_9_0, rf_11_0, rf_11_1, rf_11_4, rf_12_3, rf_12_4, rf_12_5, rf_12_6, rf_17_0, rf_20_1, rf_22_0, rf_22_1, rf_25_2, rf_25_3, rf_25_4, rf_25_5, rf_30_1, rf_30_2, rf_30_3, rf_30_4, rf_34_0, rf_36_0, rf_36_1, rf_36_2, rf_40_0, rf_40_1, rf_40_2, rf_40_3, rf_40_4, rf_40_6, rf_40_7, rf_40_9, rf_40_12, rf_40_14, rf_40_22, rf_40_23, rf_40_24, rf_40_25, li_0, li_1, li_2, li_3, li_4, li_5, li_6, li_7, li_8, li_9, li_10, li_11, li_12, li_13, li_14, li_15, li_16, li_17, li_18, li_19, li_20, li_21, li_22, li_23, li_24, li_25, li_26, li_27, li_28, li_29, li_30, li_31, li_32, li_33, li_34, li_35, li_36, li_37, li_38, li_39, li_40, li_41, li_42, li_43, li_44, li_45, li_46, li_47, li_48, li_49, li_50, li_51, li_52, li_53, li_54, li_55, li_56, li_57, li_58, li_59, li_60, li_61, li_62, li_63, li_99, li_100, li_107, li_124, li_126, li_240, li_255, li_256, li_1000, li_1178, li_1240, li_9000, li_65536, li_1000000, nI_add, pk_mul, nI_ltI, nI_leI, nI_eq, xin_nI, nI_clamp, decide_true, decide_false, Bool.and_true, Bool.true_and, Bool.and_false, Bool.false_and, Bool.not_true, Bool.not_false, cond_true, cond_false, Option.bind_some, Option.toList_some, Option.toList_none, List.cons_append, List.nil_append, List.append_nil, Nat.not_lt_zero, Nat.zero_le, Nat.le_refl, Nat.lt_irrefl, Nat.reduceLT, Nat.reduceLeDiff, Nat.reduceEqDiff, Nat.reduceAdd, Nat.reduceMul, Bool.toNat_true, Bool.toNat_false, Nat.add_zero, Nat.zero_add, Nat.succ_ne_zero, Nat.one_ne_zero, decide_eq_true, decide_eq_false, bb1, bb0, bbT, eq_self, reduceIte, and_self, and_true, true_and]
  have key := loop_to (E := fun k (q : Mem) => ev (39, 11, [.ref 30, .ref 2, .null, .int (nI a), .int (nI n), .int (nI k), .null, .null, .null], [], (xSH L, q, J))) (F := fun M' : Mem => some (some (.int (optI (cst H T a n code))), (xSH L, M', J))) (fun M' => only M M' 35) (fun k q => sceneC q 35 (placeP T (colF H code) k) ∧ only M q 35) (n := hA H) ?_ ?_ (hA H) 0 (xcp M 8 0 35 0 62) (by omega) ⟨sceneC_cp SC, only_xcp⟩
  · obtain ⟨M', k1, k2⟩ := key
    refine ⟨M', ?_, k2⟩
    simp (disch := omega) only [b_Placing_baredUntilWhole_0, c_become (sc34 L) (sc7 L), b_Placing_baredUntilWhole_8, kf_1, kf_2, kf_3, kf_4, kf_5, kf_6, kf_7, kf_8, kf_9, kf_10, kf_11, kf_12, kf_13, kf_14, kf_15, kf_16, kf_17, kf_18, kf_19, kf_20, kf_21, kf_22, kf_23, kf_24, kf_25, kf_26, kf_27, kf_28, kf_29, kf_30, kf_31, kf_32, kf_33, kf_34, kf_35, kf_36, kf_37, kf_38, kf_39, kf_40, kf_41, kf_42, kf_43, kf_44, kf_45, kf_46, kf_47, kf_48, kf_49, kf_50, kf_51, kf_52, kf_53, kf_54, rf_1_0, rf_1_1, rf_1_2, rf_1_3, rf_1_4, rf_1_5, rf_1_6, rf_1_7, rf_1_8, rf_2_3, rf_2_4, rf_2_5, rf_2_6, rf_7_0, rf_9_0, rf_11_0, rf_11_1, rf_11_4, rf_12_3, rf_12_4, rf_12_5, rf_12_6, rf_17_0, rf_20_1, rf_22_0, rf_22_1, rf_25_2, rf_25_3, rf_25_4, rf_25_5, rf_30_1, rf_30_2, rf_30_3, rf_30_4, rf_34_0, rf_36_0, rf_36_1, rf_36_2, rf_40_0, rf_40_1, rf_40_2, rf_40_3, rf_40_4, rf_40_6, rf_40_7, rf_40_9, rf_40_12, rf_40_14, rf_40_22, rf_40_23, rf_40_24, rf_40_25, li_0, li_1, li_2, li_3, li_4, li_5, li_6, li_7, li_8, li_9, li_10, li_11, li_12, li_13, li_14, li_15, li_16, li_17, li_18, li_19, li_20, li_21, li_22, li_23, li_24, li_25, li_26, li_27, li_28, li_29, li_30, li_31, li_32, li_33, li_34, li_35, li_36, li_37, li_38, li_39, li_40, li_41, li_42, li_43, li_44, li_45, li_46, li_47, li_48, li_49, li_50, li_51, li_52, li_53, li_54, li_55, li_56, li_57, li_58, li_59, li_60, li_61, li_62, li_63, li_99, li_100, li_107, li_124, li_126, li_240, li_255, li_256, li_1000, li_1178, li_1240, li_9000, li_65536, li_1000000, nI_add, pk_mul, nI_ltI, nI_leI, nI_eq, xin_nI, nI_clamp, decide_true, decide_false, Bool.and_true, Bool.true_and, Bool.and_false, Bool.false_and, Bool.not_true, Bool.not_false, cond_true, cond_false, Option.bind_some, Option.toList_some, Option.toList_none, List.cons_append, List.nil_append, List.append_nil, Nat.not_lt_zero, Nat.zero_le, Nat.le_refl, Nat.lt_irrefl, Nat.reduceLT, Nat.reduceLeDiff, Nat.reduceEqDiff, Nat.reduceAdd, Nat.reduceMul, Bool.toNat_true, Bool.toNat_false, Nat.add_zero, Nat.zero_add, Nat.succ_ne_zero, Nat.one_ne_zero, decide_eq_true, decide_eq_false, bb1, bb0, bbT, eq_self, reduceIte, and_self, and_true, true_and]
    exact k1
  · intro q ⟨q1, q2⟩
    obtain ⟨M', k1, k2⟩ := nights q q2 q1
    have w3 := (houseC_o HC q2 (by decide)).2.2.1
    have hb := fun {J : Nat → Nat → Int64} => c_baredInAll (J := J) hs q1
    have e2 := (q1.2.2.2 a ha5).2.2.2
    have hbs : bareSum (placeP T (colF H code) (hA H)) = bareSum T := rfl
    have hbt : sB (placeP T (colF H code) (hA H)) a = sB T a := rfl
    refine ⟨M', ?_, k2⟩
    rw [← k1, b_Placing_baredUntilWhole_11]
    rw [hbs] at hb
    rw [hbt] at e2
    simp (disch := omega) only [w3, hb, b_Placing_baredUntilWhole_51, c_baredOf hs, e2, b_Placing_baredUntilWhole_61, kf_1, kf_2, kf_3, kf_4, kf_5, kf_6, kf_7, kf_8, kf_9, kf_10, kf_11, kf_12, kf_13, kf_14, kf_15, kf_16, kf_17, kf_18, kf_19, kf_20, kf_21, kf_22, kf_23, kf_24, kf_25, kf_26, kf_27, kf_28, kf_29, kf_30, kf_31, kf_32, kf_33, kf_34, kf_35, kf_36, kf_37, kf_38, kf_39, kf_40, kf_41, kf_42, kf_43, kf_44, kf_45, kf_46, kf_47, kf_48, kf_49, kf_50, kf_51, kf_52, kf_53, kf_54, rf_1_0, rf_1_1, rf_1_2, rf_1_3, rf_1_4, rf_1_5, rf_1_6, rf_1_7, rf_1_8, rf_2_3, rf_2_4, rf_2_5, rf_2_6, rf_7_0, rf_9_0, rf_11_0, rf_11_1, rf_11_4, rf_12_3, rf_12_4, rf_12_5, rf_12_6, rf_17_0, rf_20_1, rf_22_0, rf_22_1, rf_25_2, rf_25_3, rf_25_4, rf_25_5, rf_30_1, rf_30_2, rf_30_3, rf_30_4, rf_34_0, rf_36_0, rf_36_1, rf_36_2, rf_40_0, rf_40_1, rf_40_2, rf_40_3, rf_40_4, rf_40_6, rf_40_7, rf_40_9, rf_40_12, rf_40_14, rf_40_22, rf_40_23, rf_40_24, rf_40_25, li_0, li_1, li_2, li_3, li_4, li_5, li_6, li_7, li_8, li_9, li_10, li_11, li_12, li_13, li_14, li_15, li_16, li_17, li_18, li_19, li_20, li_21, li_22, li_23, li_24, li_25, li_26, li_27, li_28, li_29, li_30, li_31, li_32, li_33, li_34, li_35, li_36, li_37, li_38, li_39, li_40, li_41, li_42, li_43, li_44, li_45, li_46, li_47, li_48, li_49, li_50, li_51, li_52, li_53, li_54, li_55, li_56, li_57, li_58, li_59, li_60, li_61, li_62, li_63, li_99, li_100, li_107, li_124, li_126, li_240, li_255, li_256, li_1000, li_1178, li_1240, li_9000, li_65536, li_1000000, nI_add, pk_mul, nI_ltI, nI_leI, nI_eq, xin_nI, nI_clamp, decide_true, decide_false, Bool.and_true, Bool.true_and, Bool.and_false, Bool.false_and, Bool.not_true, Bool.not_false, cond_true, cond_false, Option.bind_some, Option.toList_some, Option.toList_none, List.cons_append, List.nil_append, List.append_nil, Nat.not_lt_zero, Nat.zero_le, Nat.le_refl, Nat.lt_irrefl, Nat.reduceLT, Nat.reduceLeDiff, Nat.reduceEqDiff, Nat.reduceAdd, Nat.reduceMul, Bool.toNat_true, Bool.toNat_false, Nat.add_zero, Nat.zero_add, Nat.succ_ne_zero, Nat.one_ne_zero, decide_eq_true, decide_eq_false, bb1, bb0, bbT, eq_self, reduceIte, and_self, and_true, true_and]
  · intro k q hlt ⟨q1, q2⟩
    right
    have w3 := (houseC_o HC q2 (by decide)).2.2.1
    have e4 : ¬ hA H ≤ k := by omega
    have hk5 : k < 5 := by omega
    have e32 : q 32 k = nI (colF H code k) := by rw [q2 32 (by decide)]; exact h32 k hlt
    have hat := fun {J : Nat → Nat → Int64} => c_at (sh := xSH L) (M := q) (J := J) (kf_32 L) (by decide) hk5
    have hsp := sceneC_place (x := colF H code k) q1 hk5
    rw [placeP_s] at hsp
    refine ⟨xu q 35 (42 + k) (nI (colF H code k)), ?_, hsp, only_xu' q2⟩
    rw [b_Placing_baredUntilWhole_11]
    simp (disch := omega) only [w3, e4, hat, e32, b_Placing_baredUntilWhole_35, c_place hs, b_Placing_baredUntilWhole_38, kf_1, kf_2, kf_3, kf_4, kf_5, kf_6, kf_7, kf_8, kf_9, kf_10, kf_11, kf_12, kf_13, kf_14, kf_15, kf_16, kf_17, kf_18, kf_19, kf_20, kf_21, kf_22, kf_23, kf_24, kf_25, kf_26, kf_27, kf_28, kf_29, kf_30, kf_31, kf_32, kf_33, kf_34, kf_35, kf_36, kf_37, kf_38, kf_39, kf_40, kf_41, kf_42, kf_43, kf_44, kf_45, kf_46, kf_47, kf_48, kf_49, kf_50, kf_51, kf_52, kf_53, kf_54, rf_1_0, rf_1_1, rf_1_2, rf_1_3, rf_1_4, rf_1_5, rf_1_6, rf_1_7, rf_1_8, rf_2_3, rf_2_4, rf_2_5, rf_2_6, rf_7_0, rf_9_0, rf_11_0, rf_11_1, rf_11_4, rf_12_3, rf_12_4, rf_12_5, rf_12_6, rf_17_0, rf_20_1, rf_22_0, rf_22_1, rf_25_2, rf_25_3, rf_25_4, rf_25_5, rf_30_1, rf_30_2, rf_30_3, rf_30_4, rf_34_0, rf_36_0, rf_36_1, rf_36_2, rf_40_0, rf_40_1, rf_40_2, rf_40_3, rf_40_4, rf_40_6, rf_40_7, rf_40_9, rf_40_12, rf_40_14, rf_40_22, rf_40_23, rf_40_24, rf_40_25, li_0, li_1, li_2, li_3, li_4, li_5, li_6, li_7, li_8, li_9, li_10, li_11, li_12, li_13, li_14, li_15, li_16, li_17, li_18, li_19, li_20, li_21, li_22, li_23, li_24, li_25, li_26, li_27, li_28, li_29, li_30, li_31, li_32, li_33, li_34, li_35, li_36, li_37, li_38, li_39, li_40, li_41, li_42, li_43, li_44, li_45, li_46, li_47, li_48, li_49, li_50, li_51, li_52, li_53, li_54, li_55, li_56, li_57, li_58, li_59, li_60, li_61, li_62, li_63, li_99, li_100, li_107, li_124, li_126, li_240, li_255, li_256, li_1000, li_1178, li_1240, li_9000, li_65536, li_1000000, nI_add, pk_mul, nI_ltI, nI_leI, nI_eq, xin_nI, nI_clamp, decide_true, decide_false, Bool.and_true, Bool.true_and, Bool.and_false, Bool.false_and, Bool.not_true, Bool.not_false, cond_true, cond_false, Option.bind_some, Option.toList_some, Option.toList_none, List.cons_append, List.nil_append, List.append_nil, Nat.not_lt_zero, Nat.zero_le, Nat.le_refl, Nat.lt_irrefl, Nat.reduceLT, Nat.reduceLeDiff, Nat.reduceEqDiff, Nat.reduceAdd, Nat.reduceMul, Bool.toNat_true, Bool.toNat_false, Nat.add_zero, Nat.zero_add, Nat.succ_ne_zero, Nat.one_ne_zero, decide_eq_true, decide_eq_false, bb1, bb0, bbT, eq_self, reduceIte, and_self, and_true, true_and]
/-! the next way -/
theorem dvd_div {P w : Nat} (hP : 0 < P) (h : P ∣ w + 1) : (w + 1) / P = w / P + 1 ∧ w % P = P - 1 := by
  obtain ⟨q, hq⟩ := h
  have hq0 : 0 < q := by
    rcases Nat.eq_zero_or_pos q with z | z
    · rw [z, Nat.mul_zero] at hq; omega
    · exact z
  obtain ⟨r, rfl⟩ : ∃ r, q = r + 1 := ⟨q - 1, by omega⟩
  rw [Nat.mul_add, Nat.mul_one] at hq
  have hw : w = P * r + (P - 1) := by omega
  constructor
  · rw [show w + 1 = P * (r + 1) by rw [Nat.mul_add, Nat.mul_one]; omega, Nat.mul_div_cancel_left _ hP, hw, Nat.mul_add_div hP, Nat.div_eq_of_lt (by omega)]
  · rw [hw, Nat.mul_add_mod, Nat.mod_eq_of_lt (by omega)]
theorem dg_step {W w e : Nat} (hW : 0 < W) (h : W ^ e ∣ w + 1) : (dg W w e + 1 < W → dg W (w + 1) e = dg W w e + 1 ∧ ∀ e', e < e' → dg W (w + 1) e' = dg W w e') ∧ (¬ dg W w e + 1 < W → dg W (w + 1) e = 0 ∧ W ^ (e + 1) ∣ w + 1) := by
  have hP : 0 < W ^ e := Nat.pow_pos hW
  obtain ⟨h1, -⟩ := dvd_div hP h
  have hlt : dg W w e < W := dg_lt hW
  unfold dg at *
  generalize hq : w / W ^ e = q at *
  have hdm := Nat.div_add_mod q W
  refine ⟨fun hc => ⟨?_, fun e' he' => ?_⟩, fun hc => ⟨?_, ?_⟩⟩
  · rw [h1]
    have : q + 1 = W * (q / W) + (q % W + 1) := by omega
    rw [this, Nat.mul_add_mod, Nat.mod_eq_of_lt hc]
  · obtain ⟨d, rfl⟩ : ∃ d, e' = e + (d + 1) := ⟨e' - e - 1, by omega⟩
    have e1 : (w + 1) / W ^ (e + (d + 1)) = w / W ^ (e + (d + 1)) := by
      rw [Nat.pow_add, ← Nat.div_div_eq_div_mul, ← Nat.div_div_eq_div_mul, h1, hq, Nat.pow_succ', ← Nat.div_div_eq_div_mul, ← Nat.div_div_eq_div_mul]
      have : q + 1 = W * (q / W) + (q % W + 1) := by omega
      rw [this, Nat.mul_add_div hW, Nat.div_eq_of_lt hc, Nat.add_zero]
    rw [e1]
  · rw [h1]
    have : q + 1 = W * (q / W + 1) := by rw [Nat.mul_add, Nat.mul_one]; omega
    rw [this, Nat.mul_mod_right]
  · obtain ⟨c, hcc⟩ := h
    have : c = q + 1 := by rw [hcc, Nat.mul_div_cancel_left _ hP] at h1; exact h1
    rw [hcc, this, Nat.pow_succ]
    have h2 : q + 1 = W * (q / W + 1) := by rw [Nat.mul_add, Nat.mul_one]; omega
    rw [h2]
    exact ⟨q / W + 1, by rw [Nat.mul_assoc]⟩
def idx (A e : Nat) : Int32 := nI A - nI 1 - nI e
theorem idx_s (A e : Nat) : idx A e + -nI 1 = idx A (e + 1) := by
  unfold idx
  rw [← nI_add, Int32.sub_eq_add_neg, Int32.sub_eq_add_neg, Int32.sub_eq_add_neg, Int32.neg_add, Int32.add_assoc, Int32.sub_eq_add_neg]
theorem idx_in {A e : Nat} (h : e < A) : idx A e = nI (A - 1 - e) := by
  unfold idx
  rw [pk_sub (by omega), pk_sub (by omega)]
theorem idx_out {A : Nat} (hA : A ≤ 5) : idx A A < nI 0 := by
  have : ∀ A, A < 6 → idx A A < nI 0 := by decide
  exact this A (by omega)
theorem idx_0 (A : Nat) : idx A 0 = nI A - nI 1 := by
  unfold idx
  rw [show nI 0 = 0 from rfl, Int32.sub_zero]
theorem c_advance (HC : houseC M 2 3 4 5 6 H) (ho : hoOk H) (h0 : 0 < hW H) {w : Nat} (h32 : ∀ i, i < hA H → M 32 i = nI (colF H w i)) : ∃ M', ev (40, 0, [.ref 30, .ref 2, .null, .null], [], (xSH L, M, J)) = some (none, (xSH L, M', J)) ∧ (∀ i, i < hA H → M' 32 i = nI (colF H (w + 1) i)) ∧ only M M' 32 := by
  have hA5 := ho.2.2.1
  have hW5 := ho.1
  have w3 := HC.2.2.1
  have key := loop_to (E := fun e (q : Mem) => ev (40, 7, [.ref 30, .ref 2, .int (idx (hA H) e), .null], [], (xSH L, q, J))) (F := fun M' : Mem => some (none, (xSH L, M', J))) (fun M' => (∀ i, i < hA H → M' 32 i = nI (colF H (w + 1) i)) ∧ only M M' 32) (fun e q => hW H ^ e ∣ w + 1 ∧ (∀ i, i < hA H → q 32 i = nI (if hA H - 1 - i < e then colF H (w + 1) i else colF H w i)) ∧ only M q 32) (n := hA H) ?_ ?_ (hA H) 0 M (by omega) ⟨by rw [Nat.pow_zero]; exact Nat.one_dvd _, fun i hi => by rw [if_neg (by omega)]; exact h32 i hi, only_rf⟩
  · obtain ⟨M', k1, k2⟩ := key
    rw [idx_0] at k1
    refine ⟨M', ?_, k2⟩
    simp (disch := omega) only [b_Placing_advance_0, w3, kf_1, kf_2, kf_3, kf_4, kf_5, kf_6, kf_7, kf_8, kf_9, kf_10, kf_11, kf_12, kf_13, kf_14, kf_15, kf_16, kf_17, kf_18, kf_19, kf_20, kf_21, kf_22, kf_23, kf_24, kf_25, kf_26, kf_27, kf_28, kf_29, kf_30, kf_31, kf_32, kf_33, kf_34, kf_35, kf_36, kf_37, kf_38, kf_39, kf_40, kf_41, kf_42, kf_43, kf_44, kf_45, kf_46, kf_47, kf_48, kf_49, kf_50, kf_51, kf_52, kf_53, kf_54, rf_1_0, rf_1_1, rf_1_2, rf_1_3, rf_1_4, rf_1_5, rf_1_6, rf_1_7, rf_1_8, rf_2_3, rf_2_4, rf_2_5, rf_2_6, rf_7_0, rf_9_0, rf_11_0, rf_11_1, rf_11_4, rf_12_3, rf_12_4, rf_12_5, rf_12_6, rf_17_0, rf_20_1, rf_22_0, rf_22_1, rf_25_2, rf_25_3, rf_25_4, rf_25_5, rf_30_1, rf_30_2, rf_30_3, rf_30_4, rf_34_0, rf_36_0, rf_36_1, rf_36_2, rf_40_0, rf_40_1, rf_40_2, rf_40_3, rf_40_4, rf_40_6, rf_40_7, rf_40_9, rf_40_12, rf_40_14, rf_40_22, rf_40_23, rf_40_24, rf_40_25, li_0, li_1, li_2, li_3, li_4, li_5, li_6, li_7, li_8, li_9, li_10, li_11, li_12, li_13, li_14, li_15, li_16, li_17, li_18, li_19, li_20, li_21, li_22, li_23, li_24, li_25, li_26, li_27, li_28, li_29, li_30, li_31, li_32, li_33, li_34, li_35, li_36, li_37, li_38, li_39, li_40, li_41, li_42, li_43, li_44, li_45, li_46, li_47, li_48, li_49, li_50, li_51, li_52, li_53, li_54, li_55, li_56, li_57, li_58, li_59, li_60, li_61, li_62, li_63, li_99, li_100, li_107, li_124, li_126, li_240, li_255, li_256, li_1000, li_1178, li_1240, li_9000, li_65536, li_1000000, nI_add, pk_mul, nI_ltI, nI_leI, nI_eq, xin_nI, nI_clamp, decide_true, decide_false, Bool.and_true, Bool.true_and, Bool.and_false, Bool.false_and, Bool.not_true, Bool.not_false, cond_true, cond_false, Option.bind_some, Option.toList_some, Option.toList_none, List.cons_append, List.nil_append, List.append_nil, Nat.not_lt_zero, Nat.zero_le, Nat.le_refl, Nat.lt_irrefl, Nat.reduceLT, Nat.reduceLeDiff, Nat.reduceEqDiff, Nat.reduceAdd, Nat.reduceMul, Bool.toNat_true, Bool.toNat_false, Nat.add_zero, Nat.zero_add, Nat.succ_ne_zero, Nat.one_ne_zero, decide_eq_true, decide_eq_false, bb1, bb0, bbT, eq_self, reduceIte, and_self, and_true, true_and]
    exact k1
  · intro q ⟨q1, q2, q3⟩
    have hneg := idx_out hA5
    refine ⟨q, ?_, fun i hi => by rw [q2 i hi, if_pos (by omega)], q3⟩
    rw [b_Placing_advance_7]
    generalize idx (hA H) (hA H) = z at *
    simp (disch := omega) only [hneg, li_0, li_1, li_2, li_3, li_4, li_5, li_6, li_7, li_8, li_9, li_10, li_11, li_12, li_13, li_14, li_15, li_16, li_17, li_18, li_19, li_20, li_21, li_22, li_23, li_24, li_25, li_26, li_27, li_28, li_29, li_30, li_31, li_32, li_33, li_34, li_35, li_36, li_37, li_38, li_39, li_40, li_41, li_42, li_43, li_44, li_45, li_46, li_47, li_48, li_49, li_50, li_51, li_52, li_53, li_54, li_55, li_56, li_57, li_58, li_59, li_60, li_61, li_62, li_63, li_99, li_100, li_107, li_124, li_126, li_240, li_255, li_256, li_1000, li_1178, li_1240, li_9000, li_65536, li_1000000, nI_add, pk_mul, nI_ltI, nI_leI, nI_eq, xin_nI, nI_clamp, decide_true, decide_false, Bool.and_true, Bool.true_and, Bool.and_false, Bool.false_and, Bool.not_true, Bool.not_false, cond_true, cond_false, Option.bind_some, Option.toList_some, Option.toList_none, List.cons_append, List.nil_append, List.append_nil, Nat.not_lt_zero, Nat.zero_le, Nat.le_refl, Nat.lt_irrefl, Nat.reduceLT, Nat.reduceLeDiff, Nat.reduceEqDiff, Nat.reduceAdd, Nat.reduceMul, Bool.toNat_true, Bool.toNat_false, Nat.add_zero, Nat.zero_add, Nat.succ_ne_zero, Nat.one_ne_zero, decide_eq_true, decide_eq_false, bb1, bb0, bbT, eq_self, reduceIte, and_self, and_true, true_and]
  · intro e q hlt ⟨q1, q2, q3⟩
    have hix := idx_in hlt
    have hi5 : hA H - 1 - e < 5 := by omega
    have hiA : hA H - 1 - e < hA H := by omega
    have hee : hA H - 1 - (hA H - 1 - e) = e := by omega
    have e32 := q2 (hA H - 1 - e) hiA
    rw [if_neg (by omega)] at e32
    have hcol : colF H w (hA H - 1 - e) = dg (hW H) w e := by unfold colF; rw [hee]
    have hcol' : colF H (w + 1) (hA H - 1 - e) = dg (hW H) (w + 1) e := by unfold colF; rw [hee]
    rw [hcol] at e32
    have hd := dg_step h0 q1
    have hdl : dg (hW H) w e < hW H := dg_lt h0
    have w1 := (houseC_o (r := 32) HC q3 (by decide)).1
    have hat := fun {J : Nat → Nat → Int64} => c_at (sh := xSH L) (M := q) (J := J) (kf_32 L) (by decide) hi5
    have hp := fun {J : Nat → Nat → Int64} {M : Mem} {v : Int32} => c_put (sh := xSH L) (M := M) (J := J) (v := v) (kf_32 L) (by decide) hi5
    have hidx := idx_s (hA H) e
    rw [hix] at hidx
    have hpos : ¬ nI (hA H - 1 - e) < nI 0 := nI_pos (by omega)
    rw [hix, b_Placing_advance_7]
    generalize hj : hA H - 1 - e = j at *
    by_cases hc : dg (hW H) w e + 1 < hW H
    · left
      obtain ⟨d1, d2⟩ := hd.1 hc
      have hc' : ¬ hW H ≤ dg (hW H) w e + 1 := by omega
      refine ⟨xu q 32 j (nI (dg (hW H) w e + 1)), ?_, fun i hi => ?_, only_xu' q3⟩
      · simp (disch := omega) only [hpos, hat, e32, b_Placing_advance_19, w1, hc', hp, b_Placing_advance_39, kf_1, kf_2, kf_3, kf_4, kf_5, kf_6, kf_7, kf_8, kf_9, kf_10, kf_11, kf_12, kf_13, kf_14, kf_15, kf_16, kf_17, kf_18, kf_19, kf_20, kf_21, kf_22, kf_23, kf_24, kf_25, kf_26, kf_27, kf_28, kf_29, kf_30, kf_31, kf_32, kf_33, kf_34, kf_35, kf_36, kf_37, kf_38, kf_39, kf_40, kf_41, kf_42, kf_43, kf_44, kf_45, kf_46, kf_47, kf_48, kf_49, kf_50, kf_51, kf_52, kf_53, kf_54, rf_1_0, rf_1_1, rf_1_2, rf_1_3, rf_1_4, rf_1_5, rf_1_6, rf_1_7, rf_1_8, rf_2_3, rf_2_4, rf_2_5, rf_2_6, rf_7_0, rf_9_0, rf_11_0, rf_11_1, rf_11_4, rf_12_3, rf_12_4, rf_12_5, rf_12_6, rf_17_0, rf_20_1, rf_22_0, rf_22_1, rf_25_2, rf_25_3, rf_25_4, rf_25_5, rf_30_1, rf_30_2, rf_30_3, rf_30_4, rf_34_0, rf_36_0, rf_36_1, rf_36_2, rf_40_0, rf_40_1, rf_40_2, rf_40_3, rf_40_4, rf_40_6, rf_40_7, rf_40_9, rf_40_12, rf_40_14, rf_40_22, rf_40_23, rf_40_24, rf_40_25, li_0, li_1, li_2, li_3, li_4, li_5, li_6, li_7, li_8, li_9, li_10, li_11, li_12, li_13, li_14, li_15, li_16, li_17, li_18, li_19, li_20, li_21, li_22, li_23, li_24, li_25, li_26, li_27, li_28, li_29, li_30, li_31, li_32, li_33, li_34, li_35, li_36, li_37, li_38, li_39, li_40, li_41, li_42, li_43, li_44, li_45, li_46, li_47, li_48, li_49, li_50, li_51, li_52, li_53, li_54, li_55, li_56, li_57, li_58, li_59, li_60, li_61, li_62, li_63, li_99, li_100, li_107, li_124, li_126, li_240, li_255, li_256, li_1000, li_1178, li_1240, li_9000, li_65536, li_1000000, nI_add, pk_mul, nI_ltI, nI_leI, nI_eq, xin_nI, nI_clamp, decide_true, decide_false, Bool.and_true, Bool.true_and, Bool.and_false, Bool.false_and, Bool.not_true, Bool.not_false, cond_true, cond_false, Option.bind_some, Option.toList_some, Option.toList_none, List.cons_append, List.nil_append, List.append_nil, Nat.not_lt_zero, Nat.zero_le, Nat.le_refl, Nat.lt_irrefl, Nat.reduceLT, Nat.reduceLeDiff, Nat.reduceEqDiff, Nat.reduceAdd, Nat.reduceMul, Bool.toNat_true, Bool.toNat_false, Nat.add_zero, Nat.zero_add, Nat.succ_ne_zero, Nat.one_ne_zero, decide_eq_true, decide_eq_false, bb1, bb0, bbT, eq_self, reduceIte, and_self, and_true, true_and]
      · by_cases hij : i = j
        · subst hij; rw [xu_at, hcol', d1]
        · rw [xu_off hij, q2 i hi]
          by_cases hl : hA H - 1 - i < e
          · rw [if_pos hl]
          · rw [if_neg hl]
            unfold colF
            rw [d2 _ (by omega)]
    · right
      obtain ⟨d1, d2⟩ := hd.2 hc
      have hc' : hW H ≤ dg (hW H) w e + 1 := by omega
      refine ⟨xu q 32 j (nI 0), ?_, d2, fun i hi => ?_, only_xu' q3⟩
      · simp (disch := omega) only [hpos, hat, e32, b_Placing_advance_19, w1, hc', hp, b_Placing_advance_49, hidx, kf_1, kf_2, kf_3, kf_4, kf_5, kf_6, kf_7, kf_8, kf_9, kf_10, kf_11, kf_12, kf_13, kf_14, kf_15, kf_16, kf_17, kf_18, kf_19, kf_20, kf_21, kf_22, kf_23, kf_24, kf_25, kf_26, kf_27, kf_28, kf_29, kf_30, kf_31, kf_32, kf_33, kf_34, kf_35, kf_36, kf_37, kf_38, kf_39, kf_40, kf_41, kf_42, kf_43, kf_44, kf_45, kf_46, kf_47, kf_48, kf_49, kf_50, kf_51, kf_52, kf_53, kf_54, rf_1_0, rf_1_1, rf_1_2, rf_1_3, rf_1_4, rf_1_5, rf_1_6, rf_1_7, rf_1_8, rf_2_3, rf_2_4, rf_2_5, rf_2_6, rf_7_0, rf_9_0, rf_11_0, rf_11_1, rf_11_4, rf_12_3, rf_12_4, rf_12_5, rf_12_6, rf_17_0, rf_20_1, rf_22_0, rf_22_1, rf_25_2, rf_25_3, rf_25_4, rf_25_5, rf_30_1, rf_30_2, rf_30_3, rf_30_4, rf_34_0, rf_36_0, rf_36_1, rf_36_2, rf_40_0, rf_40_1, rf_40_2, rf_40_3, rf_40_4, rf_40_6, rf_40_7, rf_40_9, rf_40_12, rf_40_14, rf_40_22, rf_40_23, rf_40_24, rf_40_25, li_0, li_1, li_2, li_3, li_4, li_5, li_6, li_7, li_8, li_9, li_10, li_11, li_12, li_13, li_14, li_15, li_16, li_17, li_18, li_19, li_20, li_21, li_22, li_23, li_24, li_25, li_26, li_27, li_28, li_29, li_30, li_31, li_32, li_33, li_34, li_35, li_36, li_37, li_38, li_39, li_40, li_41, li_42, li_43, li_44, li_45, li_46, li_47, li_48, li_49, li_50, li_51, li_52, li_53, li_54, li_55, li_56, li_57, li_58, li_59, li_60, li_61, li_62, li_63, li_99, li_100, li_107, li_124, li_126, li_240, li_255, li_256, li_1000, li_1178, li_1240, li_9000, li_65536, li_1000000, nI_add, pk_mul, nI_ltI, nI_leI, nI_eq, xin_nI, nI_clamp, decide_true, decide_false, Bool.and_true, Bool.true_and, Bool.and_false, Bool.false_and, Bool.not_true, Bool.not_false, cond_true, cond_false, Option.bind_some, Option.toList_some, Option.toList_none, List.cons_append, List.nil_append, List.append_nil, Nat.not_lt_zero, Nat.zero_le, Nat.le_refl, Nat.lt_irrefl, Nat.reduceLT, Nat.reduceLeDiff, Nat.reduceEqDiff, Nat.reduceAdd, Nat.reduceMul, Bool.toNat_true, Bool.toNat_false, Nat.add_zero, Nat.zero_add, Nat.succ_ne_zero, Nat.one_ne_zero, decide_eq_true, decide_eq_false, bb1, bb0, bbT, eq_self, reduceIte, and_self, and_true, true_and]
      · by_cases hij : i = j
        · subst hij; rw [xu_at, if_pos (by omega), hcol', d1]
        · rw [xu_off hij, q2 i hi]
          by_cases hl : hA H - 1 - i < e
          · rw [if_pos hl, if_pos (by omega)]
          · rw [if_neg hl, if_neg (by omega)]
end WAYS
