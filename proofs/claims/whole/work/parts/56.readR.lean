/-! ===== the reference's reader: tokens, numbers ===== -/
def frS (M M' : Mem) : Prop := only M M' 40 ∧ ∀ k, k < 16 ∨ 20 < k → M' 40 k = M 40 k
def fr16 (M M' : Mem) : Prop := onlyL M M' [40, 42] ∧ ∀ k, k < 16 → M' 40 k = M 40 k
theorem fr16_rf {M : Mem} : fr16 M M := ⟨onlyL_rf, fun _ _ => rfl⟩
theorem fr16_tr {M M' M'' : Mem} (h : fr16 M M') (h2 : fr16 M' M'') : fr16 M M'' := ⟨onlyL_tr h.1 h2.1, fun k hk => (h2.2 k hk).trans (h.2 k hk)⟩
theorem fr16_S {M M' : Mem} (h : frS M M') : fr16 M M' := ⟨onlyL_of h.1 (by decide), fun k hk => h.2 k (Or.inl hk)⟩
theorem fr16_42 {M : Mem} {j : Nat} {v : Int32} : fr16 M (xu M 42 j v) := ⟨onlyL_of only_xu (by decide), fun k hk => by rw [xu_ne (by decide)]⟩
theorem fr16_21 {M : Mem} {v : Int32} : fr16 M (xu M 40 21 v) := ⟨onlyL_of only_xu (by decide), fun k hk => by rw [xu_off (by omega)]⟩
def rowR (M : Mem) (r : Rw) : Prop := ∀ k, k < 41 → M 42 k = nI (r k)
def tokR (M : Mem) (n : Nat) (f : Nat → Nat) (s : Nat) : Prop := M 40 17 = nI s ∧ (n ≤ s → M 40 18 = -1 ∧ M 40 16 = nI s) ∧ (s < n → isD (f s) = false → M 40 18 = nI (f s) ∧ M 40 16 = nI (s + 1)) ∧ (s < n → isD (f s) = true → M 40 18 = nI 48 ∧ M 40 16 = nI (dge n f s) ∧ M 40 19 = nI (dge n f s - s) ∧ M 40 20 = nI (dval f s (min 3 (dge n f s - s))))
def finR (M : Mem) (b : Int32) (s : Flt (Rw × Nat)) : Prop := match s with
  | .inl e => b = nI 0 ∧ M 40 17 = nI e.2 ∧ M 40 21 = nI e.1
  | .inr x => b = nI 1 ∧ M 40 16 = nI x.2 ∧ rowR M x.1
theorem dval_le {f : Nat → Nat} {p k : Nat} (hk : k ≤ 3) (h : ∀ i, i < k → isD (f (p + i)) = true) : dval f p k ≤ 999 := by
  have h1 := dval_lt k h
  have h2 : (10 : Nat) ^ k ≤ 10 ^ 3 := Nat.pow_le_pow_right (by decide) hk
  have h3 : (10 : Nat) ^ 3 = 1000 := by decide
  omega
section READR
variable {L : Nat} {M M' : Mem} {J : Nat → Nat → Int64} {n : Nat} {f : Nat → Nat} {p : Nat} {r : Rw}
theorem textR_k (hT : textR M n f) (h10 : M' 40 10 = M 40 10) (h48 : M' 48 = M 48) : textR M' n f := by
  unfold textR
  rw [h10, h48]
  exact hT
theorem textR_16 (hT : textR M n f) (h : fr16 M M') : textR M' n f := textR_k hT (h.2 10 (by decide)) (h.1 48 (by decide))
theorem textR_S (hT : textR M n f) (h : frS M M') : textR M' n f := textR_16 hT (fr16_S h)
theorem rowR_S (hr : rowR M r) (h : frS M M') : rowR M' r := fun k hk => by rw [h.1 42 (by decide)]; exact hr k hk
theorem rowR_21 (hr : rowR M r) {v : Int32} : rowR (xu M 40 21 v) r := fun k hk => by rw [xu_ne (by decide)]; exact hr k hk
theorem rowR_up (hr : rowR M r) {j v : Nat} : rowR (xu M 42 j (nI v)) (upN r j v) := fun k hk => by
  by_cases h : k = j
  · subst h; rw [xu_at, upN_at]
  · rw [xu_off h, upN_ne h]; exact hr k hk
theorem c_Rhere (tx : txOk n f) (hT : textR M n f) (h16 : M 40 16 = nI p) (hpn : p ≤ n) : ev (139, 0, [.ref 40], [], (xSH L, M, J)) = some (some (.int (ltr n f p)), (xSH L, M, J)) := by
  obtain ⟨t1, t2⟩ := hT
  have hn := tx.1
  rw [b_R_here_0]
  by_cases hc : p < n
  · have e := t2 p hc
    have e1 : ¬ n ≤ p := by omega
    have e2 : p < 240 := by omega
    have hl : ltr n f p = nI (f p) := if_pos hc
    simp (disch := omega) only [t1, h16, e1, e2, e, hl, kf_1, kf_2, kf_3, kf_4, kf_5, kf_6, kf_7, kf_8, kf_9, kf_10, kf_11, kf_12, kf_13, kf_14, kf_15, kf_16, kf_17, kf_18, kf_19, kf_20, kf_21, kf_22, kf_23, kf_24, kf_25, kf_26, kf_27, kf_28, kf_29, kf_30, kf_31, kf_32, kf_33, kf_34, kf_35, kf_36, kf_37, kf_38, kf_39, kf_40, kf_41, kf_42, kf_43, kf_44, kf_45, kf_46, kf_47, kf_48, kf_49, kf_50, kf_51, kf_52, kf_53, kf_54, rf_1_0, rf_1_1, rf_1_2, rf_1_3, rf_1_4, rf_1_5, rf_1_6, rf_1_7, rf_1_8, rf_2_3, rf_2_4, rf_2_5, rf_2_6, rf_7_0, rf_9_0, rf_11_0, rf_11_1, rf_11_4, rf_12_3, rf_12_4, rf_12_5, rf_12_6, rf_17_0, rf_20_1, rf_22_0, rf_22_1, rf_25_2, rf_25_3, rf_25_4, rf_25_5, rf_30_1, rf_30_2, rf_30_3, rf_30_4, rf_34_0, rf_36_0, rf_36_1, rf_36_2, rf_40_0, rf_40_1, rf_40_2, rf_40_3, rf_40_4, rf_40_6, rf_40_7, rf_40_9, rf_40_12, rf_40_14, rf_40_22, rf_40_23, rf_40_24, rf_40_25, li_0, li_1, li_2, li_3, li_4, li_5, li_6, li_7, li_8, li_9, li_10, li_11, li_12, li_13, li_14, li_15, li_16, li_17, li_18, li_19, li_20, li_21, li_22, li_23, li_24, li_25, li_26, li_27, li_28, li_29, li_30, li_31, li_32, li_33, li_34, li_35, li_36, li_37, li_38, li_39, li_40, li_41, li_42, li_43, li_44, li_45, li_46, li_47, li_48, li_49, li_50, li_51, li_52, li_53, li_54, li_55, li_56, li_57, li_58, li_59, li_60, li_61, li_62, li_63, li_99, li_100, li_107, li_124, li_126, li_240, li_255, li_256, li_1000, li_1178, li_1240, li_9000, li_65536, li_1000000, nI_add, pk_mul, nI_ltI, nI_leI, nI_eq, xin_nI, nI_clamp, decide_true, decide_false, Bool.and_true, Bool.true_and, Bool.and_false, Bool.false_and, Bool.not_true, Bool.not_false, cond_true, cond_false, Option.bind_some, Option.toList_some, Option.toList_none, List.cons_append, List.nil_append, List.append_nil, Nat.not_lt_zero, Nat.zero_le, Nat.le_refl, Nat.lt_irrefl, Nat.reduceLT, Nat.reduceLeDiff, Nat.reduceEqDiff, Nat.reduceAdd, Nat.reduceMul, Bool.toNat_true, Bool.toNat_false, Nat.add_zero, Nat.zero_add, Nat.succ_ne_zero, Nat.one_ne_zero, decide_eq_true, decide_eq_false, bb1, bb0, bbT, eq_self, reduceIte, and_self, and_true, true_and]
  · have e1 : n ≤ p := by omega
    have hl : ltr n f p = -1 := if_neg hc
    simp (disch := omega) only [t1, h16, e1, hl, kf_1, kf_2, kf_3, kf_4, kf_5, kf_6, kf_7, kf_8, kf_9, kf_10, kf_11, kf_12, kf_13, kf_14, kf_15, kf_16, kf_17, kf_18, kf_19, kf_20, kf_21, kf_22, kf_23, kf_24, kf_25, kf_26, kf_27, kf_28, kf_29, kf_30, kf_31, kf_32, kf_33, kf_34, kf_35, kf_36, kf_37, kf_38, kf_39, kf_40, kf_41, kf_42, kf_43, kf_44, kf_45, kf_46, kf_47, kf_48, kf_49, kf_50, kf_51, kf_52, kf_53, kf_54, rf_1_0, rf_1_1, rf_1_2, rf_1_3, rf_1_4, rf_1_5, rf_1_6, rf_1_7, rf_1_8, rf_2_3, rf_2_4, rf_2_5, rf_2_6, rf_7_0, rf_9_0, rf_11_0, rf_11_1, rf_11_4, rf_12_3, rf_12_4, rf_12_5, rf_12_6, rf_17_0, rf_20_1, rf_22_0, rf_22_1, rf_25_2, rf_25_3, rf_25_4, rf_25_5, rf_30_1, rf_30_2, rf_30_3, rf_30_4, rf_34_0, rf_36_0, rf_36_1, rf_36_2, rf_40_0, rf_40_1, rf_40_2, rf_40_3, rf_40_4, rf_40_6, rf_40_7, rf_40_9, rf_40_12, rf_40_14, rf_40_22, rf_40_23, rf_40_24, rf_40_25, li_0, li_1, li_2, li_3, li_4, li_5, li_6, li_7, li_8, li_9, li_10, li_11, li_12, li_13, li_14, li_15, li_16, li_17, li_18, li_19, li_20, li_21, li_22, li_23, li_24, li_25, li_26, li_27, li_28, li_29, li_30, li_31, li_32, li_33, li_34, li_35, li_36, li_37, li_38, li_39, li_40, li_41, li_42, li_43, li_44, li_45, li_46, li_47, li_48, li_49, li_50, li_51, li_52, li_53, li_54, li_55, li_56, li_57, li_58, li_59, li_60, li_61, li_62, li_63, li_99, li_100, li_107, li_124, li_126, li_240, li_255, li_256, li_1000, li_1178, li_1240, li_9000, li_65536, li_1000000, nI_add, pk_mul, nI_ltI, nI_leI, nI_eq, xin_nI, nI_clamp, decide_true, decide_false, Bool.and_true, Bool.true_and, Bool.and_false, Bool.false_and, Bool.not_true, Bool.not_false, cond_true, cond_false, Option.bind_some, Option.toList_some, Option.toList_none, List.cons_append, List.nil_append, List.append_nil, Nat.not_lt_zero, Nat.zero_le, Nat.le_refl, Nat.lt_irrefl, Nat.reduceLT, Nat.reduceLeDiff, Nat.reduceEqDiff, Nat.reduceAdd, Nat.reduceMul, Bool.toNat_true, Bool.toNat_false, Nat.add_zero, Nat.zero_add, Nat.succ_ne_zero, Nat.one_ne_zero, decide_eq_true, decide_eq_false, bb1, bb0, bbT, eq_self, reduceIte, and_self, and_true, true_and]
theorem ltr_fig (tx : txOk n f) (h : figB n f p = false) : ¬ (nI 48 ≤ ltr n f p ∧ ltr n f p ≤ nI 57) := by
  unfold ltr
  split
  · rename_i hc
    have hf := tx.2 p hc
    rw [nI_leI (by omega) (by omega), nI_leI (by omega) (by omega)]
    unfold figB at h
    rw [decide_eq_true hc, Bool.true_and] at h
    exact isD_f h
  · decide
theorem c_Rfigs (tx : txOk n f) {s : Nat} (hs : s < n) : ∀ (k i : Nat) (M : Mem), i + k = dge n f s → s ≤ i → textR M n f → M 40 16 = nI i → M 40 17 = nI s → M 40 18 = nI 48 → M 40 19 = nI (i - s) → M 40 20 = nI (dval f s (min 3 (i - s))) → ∃ M', ev (140, 93, [.ref 40], [], (xSH L, M, J)) = some (none, (xSH L, M', J)) ∧ frS M M' ∧ M' 40 16 = nI (dge n f s) ∧ M' 40 17 = nI s ∧ M' 40 18 = nI 48 ∧ M' 40 19 = nI (dge n f s - s) ∧ M' 40 20 = nI (dval f s (min 3 (dge n f s - s)))
  | 0, i, M, hi, hsi, hT, h16, h17, h18, h19, h20 => by
    have hle := dge_le (f := f) (Nat.le_of_lt hs)
    have hi' : i = dge n f s := by omega
    subst hi'
    have he := c_Rhere (L := L) (J := J) tx hT h16 hle
    have hfg : figB n f (dge n f s) = false := by
      unfold figB
      rcases dge_end (f := f) (Nat.le_of_lt hs) with h | h
      · rw [decide_eq_false (by omega), Bool.false_and]
      · rw [h, Bool.and_false]
    have hin := ltr_fig tx hfg
    refine ⟨M, ?_, ⟨only_rf, fun _ _ => rfl⟩, h16, h17, h18, h19, h20⟩
    rw [b_R_step_93]
    simp (disch := omega) only [he, b_R_step_97, ll_48, ll_57, c_Rin, hin, b_R_step_107, kf_1, kf_2, kf_3, kf_4, kf_5, kf_6, kf_7, kf_8, kf_9, kf_10, kf_11, kf_12, kf_13, kf_14, kf_15, kf_16, kf_17, kf_18, kf_19, kf_20, kf_21, kf_22, kf_23, kf_24, kf_25, kf_26, kf_27, kf_28, kf_29, kf_30, kf_31, kf_32, kf_33, kf_34, kf_35, kf_36, kf_37, kf_38, kf_39, kf_40, kf_41, kf_42, kf_43, kf_44, kf_45, kf_46, kf_47, kf_48, kf_49, kf_50, kf_51, kf_52, kf_53, kf_54, rf_1_0, rf_1_1, rf_1_2, rf_1_3, rf_1_4, rf_1_5, rf_1_6, rf_1_7, rf_1_8, rf_2_3, rf_2_4, rf_2_5, rf_2_6, rf_7_0, rf_9_0, rf_11_0, rf_11_1, rf_11_4, rf_12_3, rf_12_4, rf_12_5, rf_12_6, rf_17_0, rf_20_1, rf_22_0, rf_22_1, rf_25_2, rf_25_3, rf_25_4, rf_25_5, rf_30_1, rf_30_2, rf_30_3, rf_30_4, rf_34_0, rf_36_0, rf_36_1, rf_36_2, rf_40_0, rf_40_1, rf_40_2, rf_40_3, rf_40_4, rf_40_6, rf_40_7, rf_40_9, rf_40_12, rf_40_14, rf_40_22, rf_40_23, rf_40_24, rf_40_25, li_0, li_1, li_2, li_3, li_4, li_5, li_6, li_7, li_8, li_9, li_10, li_11, li_12, li_13, li_14, li_15, li_16, li_17, li_18, li_19, li_20, li_21, li_22, li_23, li_24, li_25, li_26, li_27, li_28, li_29, li_30, li_31, li_32, li_33, li_34, li_35, li_36, li_37, li_38, li_39, li_40, li_41, li_42, li_43, li_44, li_45, li_46, li_47, li_48, li_49, li_50, li_51, li_52, li_53, li_54, li_55, li_56, li_57, li_58, li_59, li_60, li_61, li_62, li_63, li_99, li_100, li_107, li_124, li_126, li_240, li_255, li_256, li_1000, li_1178, li_1240, li_9000, li_65536, li_1000000, nI_add, pk_mul, nI_ltI, nI_leI, nI_eq, xin_nI, nI_clamp, decide_true, decide_false, Bool.and_true, Bool.true_and, Bool.and_false, Bool.false_and, Bool.not_true, Bool.not_false, cond_true, cond_false, Option.bind_some, Option.toList_some, Option.toList_none, List.cons_append, List.nil_append, List.append_nil, Nat.not_lt_zero, Nat.zero_le, Nat.le_refl, Nat.lt_irrefl, Nat.reduceLT, Nat.reduceLeDiff, Nat.reduceEqDiff, Nat.reduceAdd, Nat.reduceMul, Bool.toNat_true, Bool.toNat_false, Nat.add_zero, Nat.zero_add, Nat.succ_ne_zero, Nat.one_ne_zero, decide_eq_true, decide_eq_false, bb1, bb0, bbT, eq_self, reduceIte, and_self, and_true, true_and]
  | k + 1, i, M, hi, hsi, hT, h16, h17, h18, h19, h20 => by
    have hle := dge_le (f := f) (Nat.le_of_lt hs)
    have hn := tx.1
    have he := c_Rhere (L := L) (J := J) tx hT h16 (by omega)
    have hdi := dge_in (n := n) (f := f) hsi (by omega)
    have hbd := isD_b hdi
    have hl : ltr n f i = nI (f i) := if_pos (by omega)
    have hfi := tx.2 i (by omega)
    rw [hl] at he
    by_cases h3 : 3 ≤ i - s
    · obtain ⟨M', m1, m2, m3⟩ := c_Rfigs tx hs k (i + 1) (xu (xu (xu M 40 20 (nI (dval f s (min 3 (i - s))))) 40 19 (nI (i - s + 1))) 40 16 (nI (i + 1))) (by omega) (by omega) ⟨by rw [xu_off (by decide), xu_off (by decide), xu_off (by decide)]; exact hT.1, fun j hj => by rw [xu_ne (by decide), xu_ne (by decide), xu_ne (by decide)]; exact hT.2 j hj⟩ xu_at (by simp (disch := omega) only [xu_off]; exact h17) (by simp (disch := omega) only [xu_off]; exact h18) (by simp (disch := omega) only [xu_off, xu_at]; congr 1; omega) (by simp (disch := omega) only [xu_off, xu_at]; rw [show min 3 (i + 1 - s) = min 3 (i - s) by omega])
      refine ⟨M', ?_, ⟨only_tr (only_xu' (only_xu' only_xu)) m2.1, fun j hj => ?_⟩, m3⟩
      · rw [b_R_step_93]
        have hd240 : i - s ≤ 240 := by omega
        generalize i - s = d at *
        simp (disch := omega) only [he, b_R_step_97, ll_48, ll_57, c_Rin, hbd.1, hbd.2, b_R_step_107, h19, h3, h20, xu_off, h16, m1, kf_1, kf_2, kf_3, kf_4, kf_5, kf_6, kf_7, kf_8, kf_9, kf_10, kf_11, kf_12, kf_13, kf_14, kf_15, kf_16, kf_17, kf_18, kf_19, kf_20, kf_21, kf_22, kf_23, kf_24, kf_25, kf_26, kf_27, kf_28, kf_29, kf_30, kf_31, kf_32, kf_33, kf_34, kf_35, kf_36, kf_37, kf_38, kf_39, kf_40, kf_41, kf_42, kf_43, kf_44, kf_45, kf_46, kf_47, kf_48, kf_49, kf_50, kf_51, kf_52, kf_53, kf_54, rf_1_0, rf_1_1, rf_1_2, rf_1_3, rf_1_4, rf_1_5, rf_1_6, rf_1_7, rf_1_8, rf_2_3, rf_2_4, rf_2_5, rf_2_6, rf_7_0, rf_9_0, rf_11_0, rf_11_1, rf_11_4, rf_12_3, rf_12_4, rf_12_5, rf_12_6, rf_17_0, rf_20_1, rf_22_0, rf_22_1, rf_25_2, rf_25_3, rf_25_4, rf_25_5, rf_30_1, rf_30_2, rf_30_3, rf_30_4, rf_34_0, rf_36_0, rf_36_1, rf_36_2, rf_40_0, rf_40_1, rf_40_2, rf_40_3, rf_40_4, rf_40_6, rf_40_7, rf_40_9, rf_40_12, rf_40_14, rf_40_22, rf_40_23, rf_40_24, rf_40_25, li_0, li_1, li_2, li_3, li_4, li_5, li_6, li_7, li_8, li_9, li_10, li_11, li_12, li_13, li_14, li_15, li_16, li_17, li_18, li_19, li_20, li_21, li_22, li_23, li_24, li_25, li_26, li_27, li_28, li_29, li_30, li_31, li_32, li_33, li_34, li_35, li_36, li_37, li_38, li_39, li_40, li_41, li_42, li_43, li_44, li_45, li_46, li_47, li_48, li_49, li_50, li_51, li_52, li_53, li_54, li_55, li_56, li_57, li_58, li_59, li_60, li_61, li_62, li_63, li_99, li_100, li_107, li_124, li_126, li_240, li_255, li_256, li_1000, li_1178, li_1240, li_9000, li_65536, li_1000000, nI_add, pk_mul, nI_ltI, nI_leI, nI_eq, xin_nI, nI_clamp, decide_true, decide_false, Bool.and_true, Bool.true_and, Bool.and_false, Bool.false_and, Bool.not_true, Bool.not_false, cond_true, cond_false, Option.bind_some, Option.toList_some, Option.toList_none, List.cons_append, List.nil_append, List.append_nil, Nat.not_lt_zero, Nat.zero_le, Nat.le_refl, Nat.lt_irrefl, Nat.reduceLT, Nat.reduceLeDiff, Nat.reduceEqDiff, Nat.reduceAdd, Nat.reduceMul, Bool.toNat_true, Bool.toNat_false, Nat.add_zero, Nat.zero_add, Nat.succ_ne_zero, Nat.one_ne_zero, decide_eq_true, decide_eq_false, bb1, bb0, bbT, eq_self, reduceIte, and_self, and_true, true_and]
      · rw [m2.2 j hj]
        simp (disch := omega) only [xu_off]
    · have hdv : dval f s (min 3 (i + 1 - s)) = dval f s (min 3 (i - s)) * 10 + f i - 48 := by
        rw [show min 3 (i + 1 - s) = (i - s) + 1 by omega, show min 3 (i - s) = i - s by omega]
        show 10 * dval f s (i - s) + (f (s + (i - s)) - 48) = _
        rw [show s + (i - s) = i by omega]
        omega
      have hvv : dval f s (min 3 (i - s)) ≤ 999 := dval_le (by omega) (fun j hj => dge_in (n := n) (p := s) (by omega) (by omega))
      obtain ⟨M', m1, m2, m3⟩ := c_Rfigs tx hs k (i + 1) (xu (xu (xu M 40 20 (nI (dval f s (min 3 (i + 1 - s))))) 40 19 (nI (i - s + 1))) 40 16 (nI (i + 1))) (by omega) (by omega) ⟨by rw [xu_off (by decide), xu_off (by decide), xu_off (by decide)]; exact hT.1, fun j hj => by rw [xu_ne (by decide), xu_ne (by decide), xu_ne (by decide)]; exact hT.2 j hj⟩ xu_at (by simp (disch := omega) only [xu_off]; exact h17) (by simp (disch := omega) only [xu_off]; exact h18) (by simp (disch := omega) only [xu_off, xu_at]; congr 1; omega) (by simp (disch := omega) only [xu_off, xu_at])
      refine ⟨M', ?_, ⟨only_tr (only_xu' (only_xu' only_xu)) m2.1, fun j hj => ?_⟩, m3⟩
      · have hsub : nI (10 * dval f s (min 3 (i - s)) + f i) - nI 48 = nI (dval f s (min 3 (i + 1 - s))) := by
          rw [pk_sub (by omega), hdv]
          congr 1
          omega
        rw [b_R_step_93]
        generalize dval f s (min 3 (i + 1 - s)) = d2 at *
        generalize dval f s (min 3 (i - s)) = d1 at *
        have hd240 : i - s ≤ 240 := by omega
        generalize i - s = d at *
        simp (disch := omega) only [he, b_R_step_97, ll_48, ll_57, c_Rin, hbd.1, hbd.2, b_R_step_107, h19, h3, h20, b_R_step_130, hsub, xu_off, h16, m1, kf_1, kf_2, kf_3, kf_4, kf_5, kf_6, kf_7, kf_8, kf_9, kf_10, kf_11, kf_12, kf_13, kf_14, kf_15, kf_16, kf_17, kf_18, kf_19, kf_20, kf_21, kf_22, kf_23, kf_24, kf_25, kf_26, kf_27, kf_28, kf_29, kf_30, kf_31, kf_32, kf_33, kf_34, kf_35, kf_36, kf_37, kf_38, kf_39, kf_40, kf_41, kf_42, kf_43, kf_44, kf_45, kf_46, kf_47, kf_48, kf_49, kf_50, kf_51, kf_52, kf_53, kf_54, rf_1_0, rf_1_1, rf_1_2, rf_1_3, rf_1_4, rf_1_5, rf_1_6, rf_1_7, rf_1_8, rf_2_3, rf_2_4, rf_2_5, rf_2_6, rf_7_0, rf_9_0, rf_11_0, rf_11_1, rf_11_4, rf_12_3, rf_12_4, rf_12_5, rf_12_6, rf_17_0, rf_20_1, rf_22_0, rf_22_1, rf_25_2, rf_25_3, rf_25_4, rf_25_5, rf_30_1, rf_30_2, rf_30_3, rf_30_4, rf_34_0, rf_36_0, rf_36_1, rf_36_2, rf_40_0, rf_40_1, rf_40_2, rf_40_3, rf_40_4, rf_40_6, rf_40_7, rf_40_9, rf_40_12, rf_40_14, rf_40_22, rf_40_23, rf_40_24, rf_40_25, li_0, li_1, li_2, li_3, li_4, li_5, li_6, li_7, li_8, li_9, li_10, li_11, li_12, li_13, li_14, li_15, li_16, li_17, li_18, li_19, li_20, li_21, li_22, li_23, li_24, li_25, li_26, li_27, li_28, li_29, li_30, li_31, li_32, li_33, li_34, li_35, li_36, li_37, li_38, li_39, li_40, li_41, li_42, li_43, li_44, li_45, li_46, li_47, li_48, li_49, li_50, li_51, li_52, li_53, li_54, li_55, li_56, li_57, li_58, li_59, li_60, li_61, li_62, li_63, li_99, li_100, li_107, li_124, li_126, li_240, li_255, li_256, li_1000, li_1178, li_1240, li_9000, li_65536, li_1000000, nI_add, pk_mul, nI_ltI, nI_leI, nI_eq, xin_nI, nI_clamp, decide_true, decide_false, Bool.and_true, Bool.true_and, Bool.and_false, Bool.false_and, Bool.not_true, Bool.not_false, cond_true, cond_false, Option.bind_some, Option.toList_some, Option.toList_none, List.cons_append, List.nil_append, List.append_nil, Nat.not_lt_zero, Nat.zero_le, Nat.le_refl, Nat.lt_irrefl, Nat.reduceLT, Nat.reduceLeDiff, Nat.reduceEqDiff, Nat.reduceAdd, Nat.reduceMul, Bool.toNat_true, Bool.toNat_false, Nat.add_zero, Nat.zero_add, Nat.succ_ne_zero, Nat.one_ne_zero, decide_eq_true, decide_eq_false, bb1, bb0, bbT, eq_self, reduceIte, and_self, and_true, true_and]
      · rw [m2.2 j hj]
        simp (disch := omega) only [xu_off]
theorem c_Rstep (tx : txOk n f) (hT : textR M n f) (h16 : M 40 16 = nI p) (hpn : p ≤ n) : ∃ M', ev (140, 0, [.ref 40], [], (xSH L, M, J)) = some (none, (xSH L, M', J)) ∧ frS M M' ∧ tokR M' n f (skp n f p) := by
  have hge := skp_ge (n := n) (f := f) p
  have hle := skp_le (f := f) hpn
  have hn := tx.1
  have T0 : ∀ i, textR (xu M 40 16 (nI i)) n f := fun i => ⟨by rw [xu_off (by decide)]; exact hT.1, fun j hj => by rw [xu_ne (by decide)]; exact hT.2 j hj⟩
  have key := loop_inv (E := fun i (_ : Unit) => ev (140, 0, [.ref 40], [], (xSH L, xu M 40 16 (nI i), J))) (R := ev (140, 0, [.ref 40], [], (xSH L, xu M 40 16 (nI (skp n f p)), J))) (fun i _ => p ≤ i) (n := skp n f p) (fun _ _ => rfl) ?_ (skp n f p - p) p () (by omega) (Nat.le_refl _)
  · have e : xu M 40 16 (nI p) = M := by rw [← h16, xu_id]
    rw [e] at key
    rw [key, b_R_step_0]
    have he := c_Rhere (L := L) (J := J) tx (T0 (skp n f p)) xu_at hle
    have T1 : textR (xu (xu M 40 16 (nI (skp n f p))) 40 17 (nI (skp n f p))) n f := textR_k (T0 (skp n f p)) (by rw [xu_off (by decide)]) (by rw [xu_ne (by decide)])
    have he1 := c_Rhere (L := L) (J := J) tx T1 (p := skp n f p) (by rw [xu_off (by decide), xu_at]) hle
    have ne32 : ¬ ltr n f (skp n f p) = nI 32 := by
      unfold ltr
      split
      · rename_i hc
        have hf := tx.2 _ hc
        rw [nI_eq (by omega) (by decide)]
        exact (skp_end hpn).resolve_left (by omega)
      · decide
    by_cases hc : skp n f p < n
    · have hl : ltr n f (skp n f p) = nI (f (skp n f p)) := if_pos hc
      have hf := tx.2 _ hc
      rw [hl] at he he1 ne32
      have ne32' : ¬ f (skp n f p) = 32 := fun z => ne32 (by rw [z])
      cases hd : isD (f (skp n f p))
      · have hin := isD_f hd
        refine ⟨xu (xu (xu (xu (xu (xu M 40 16 (nI (skp n f p))) 40 17 (nI (skp n f p))) 40 18 (nI (f (skp n f p)))) 40 19 (nI 0)) 40 20 (nI 0)) 40 16 (nI (skp n f p + 1)), ?_, ⟨only_xu' (only_xu' (only_xu' (only_xu' (only_xu' only_xu)))), fun k hk => by simp (disch := omega) only [xu_off]⟩, ?_⟩
        · simp (disch := omega) only [he, b_R_step_4, ne32', xu_at, he1, b_R_step_35, xu_off, ll_48, ll_57, c_Rin, hin, b_R_step_62, kf_1, kf_2, kf_3, kf_4, kf_5, kf_6, kf_7, kf_8, kf_9, kf_10, kf_11, kf_12, kf_13, kf_14, kf_15, kf_16, kf_17, kf_18, kf_19, kf_20, kf_21, kf_22, kf_23, kf_24, kf_25, kf_26, kf_27, kf_28, kf_29, kf_30, kf_31, kf_32, kf_33, kf_34, kf_35, kf_36, kf_37, kf_38, kf_39, kf_40, kf_41, kf_42, kf_43, kf_44, kf_45, kf_46, kf_47, kf_48, kf_49, kf_50, kf_51, kf_52, kf_53, kf_54, rf_1_0, rf_1_1, rf_1_2, rf_1_3, rf_1_4, rf_1_5, rf_1_6, rf_1_7, rf_1_8, rf_2_3, rf_2_4, rf_2_5, rf_2_6, rf_7_0, rf_9_0, rf_11_0, rf_11_1, rf_11_4, rf_12_3, rf_12_4, rf_12_5, rf_12_6, rf_17_0, rf_20_1, rf_22_0, rf_22_1, rf_25_2, rf_25_3, rf_25_4, rf_25_5, rf_30_1, rf_30_2, rf_30_3, rf_30_4, rf_34_0, rf_36_0, rf_36_1, rf_36_2, rf_40_0, rf_40_1, rf_40_2, rf_40_3, rf_40_4, rf_40_6, rf_40_7, rf_40_9, rf_40_12, rf_40_14, rf_40_22, rf_40_23, rf_40_24, rf_40_25, li_0, li_1, li_2, li_3, li_4, li_5, li_6, li_7, li_8, li_9, li_10, li_11, li_12, li_13, li_14, li_15, li_16, li_17, li_18, li_19, li_20, li_21, li_22, li_23, li_24, li_25, li_26, li_27, li_28, li_29, li_30, li_31, li_32, li_33, li_34, li_35, li_36, li_37, li_38, li_39, li_40, li_41, li_42, li_43, li_44, li_45, li_46, li_47, li_48, li_49, li_50, li_51, li_52, li_53, li_54, li_55, li_56, li_57, li_58, li_59, li_60, li_61, li_62, li_63, li_99, li_100, li_107, li_124, li_126, li_240, li_255, li_256, li_1000, li_1178, li_1240, li_9000, li_65536, li_1000000, nI_add, pk_mul, nI_ltI, nI_leI, nI_eq, xin_nI, nI_clamp, decide_true, decide_false, Bool.and_true, Bool.true_and, Bool.and_false, Bool.false_and, Bool.not_true, Bool.not_false, cond_true, cond_false, Option.bind_some, Option.toList_some, Option.toList_none, List.cons_append, List.nil_append, List.append_nil, Nat.not_lt_zero, Nat.zero_le, Nat.le_refl, Nat.lt_irrefl, Nat.reduceLT, Nat.reduceLeDiff, Nat.reduceEqDiff, Nat.reduceAdd, Nat.reduceMul, Bool.toNat_true, Bool.toNat_false, Nat.add_zero, Nat.zero_add, Nat.succ_ne_zero, Nat.one_ne_zero, decide_eq_true, decide_eq_false, bb1, bb0, bbT, eq_self, reduceIte, and_self, and_true, true_and]
        · refine ⟨by simp (disch := omega) only [xu_off, xu_at], fun h => by omega, fun _ _ => ⟨by simp (disch := omega) only [xu_off, xu_at], xu_at⟩, fun _ h => by rw [hd] at h; cases h⟩
      · have hbd := isD_b hd
        obtain ⟨M', m1, m2, m3, m4, m5, m6, m7⟩ := c_Rfigs (L := L) (J := J) tx hc (dge n f (skp n f p) - skp n f p) (skp n f p) (xu (xu (xu (xu (xu (xu M 40 16 (nI (skp n f p))) 40 17 (nI (skp n f p))) 40 18 (nI (f (skp n f p)))) 40 19 (nI 0)) 40 20 (nI 0)) 40 18 (nI 48)) (by have := dge_ge (n := n) (f := f) (skp n f p); omega) (Nat.le_refl _) ⟨by simp (disch := omega) only [xu_off]; exact hT.1, fun j hj => by simp (disch := omega) only [xu_ne]; exact hT.2 j hj⟩ (by simp (disch := omega) only [xu_off, xu_at]) (by simp (disch := omega) only [xu_off, xu_at]) xu_at (by simp (disch := omega) only [xu_off, xu_at, Nat.sub_self]) (by simp (disch := omega) only [xu_off, xu_at, Nat.sub_self]; rfl)
        refine ⟨M', ?_, ⟨only_tr (only_xu' (only_xu' (only_xu' (only_xu' (only_xu' only_xu))))) m2.1, fun k hk => ?_⟩, ?_⟩
        · simp (disch := omega) only [he, b_R_step_4, ne32', xu_at, he1, b_R_step_35, xu_off, ll_48, ll_57, c_Rin, hbd.1, hbd.2, b_R_step_62, m1, kf_1, kf_2, kf_3, kf_4, kf_5, kf_6, kf_7, kf_8, kf_9, kf_10, kf_11, kf_12, kf_13, kf_14, kf_15, kf_16, kf_17, kf_18, kf_19, kf_20, kf_21, kf_22, kf_23, kf_24, kf_25, kf_26, kf_27, kf_28, kf_29, kf_30, kf_31, kf_32, kf_33, kf_34, kf_35, kf_36, kf_37, kf_38, kf_39, kf_40, kf_41, kf_42, kf_43, kf_44, kf_45, kf_46, kf_47, kf_48, kf_49, kf_50, kf_51, kf_52, kf_53, kf_54, rf_1_0, rf_1_1, rf_1_2, rf_1_3, rf_1_4, rf_1_5, rf_1_6, rf_1_7, rf_1_8, rf_2_3, rf_2_4, rf_2_5, rf_2_6, rf_7_0, rf_9_0, rf_11_0, rf_11_1, rf_11_4, rf_12_3, rf_12_4, rf_12_5, rf_12_6, rf_17_0, rf_20_1, rf_22_0, rf_22_1, rf_25_2, rf_25_3, rf_25_4, rf_25_5, rf_30_1, rf_30_2, rf_30_3, rf_30_4, rf_34_0, rf_36_0, rf_36_1, rf_36_2, rf_40_0, rf_40_1, rf_40_2, rf_40_3, rf_40_4, rf_40_6, rf_40_7, rf_40_9, rf_40_12, rf_40_14, rf_40_22, rf_40_23, rf_40_24, rf_40_25, li_0, li_1, li_2, li_3, li_4, li_5, li_6, li_7, li_8, li_9, li_10, li_11, li_12, li_13, li_14, li_15, li_16, li_17, li_18, li_19, li_20, li_21, li_22, li_23, li_24, li_25, li_26, li_27, li_28, li_29, li_30, li_31, li_32, li_33, li_34, li_35, li_36, li_37, li_38, li_39, li_40, li_41, li_42, li_43, li_44, li_45, li_46, li_47, li_48, li_49, li_50, li_51, li_52, li_53, li_54, li_55, li_56, li_57, li_58, li_59, li_60, li_61, li_62, li_63, li_99, li_100, li_107, li_124, li_126, li_240, li_255, li_256, li_1000, li_1178, li_1240, li_9000, li_65536, li_1000000, nI_add, pk_mul, nI_ltI, nI_leI, nI_eq, xin_nI, nI_clamp, decide_true, decide_false, Bool.and_true, Bool.true_and, Bool.and_false, Bool.false_and, Bool.not_true, Bool.not_false, cond_true, cond_false, Option.bind_some, Option.toList_some, Option.toList_none, List.cons_append, List.nil_append, List.append_nil, Nat.not_lt_zero, Nat.zero_le, Nat.le_refl, Nat.lt_irrefl, Nat.reduceLT, Nat.reduceLeDiff, Nat.reduceEqDiff, Nat.reduceAdd, Nat.reduceMul, Bool.toNat_true, Bool.toNat_false, Nat.add_zero, Nat.zero_add, Nat.succ_ne_zero, Nat.one_ne_zero, decide_eq_true, decide_eq_false, bb1, bb0, bbT, eq_self, reduceIte, and_self, and_true, true_and]
        · rw [m2.2 k hk]
          simp (disch := omega) only [xu_off]
        · exact ⟨m4, (fun h => by omega), (fun _ h => by rw [hd] at h; cases h), fun _ _ => ⟨m5, m3, m6, m7⟩⟩
    · have hl : ltr n f (skp n f p) = -nI 1 := if_neg hc
      have hin : ¬ (nI 48 ≤ -nI 1 ∧ -nI 1 ≤ nI 57) := by decide
      have hng : ¬ (nI 0 ≤ -nI 1) := by decide
      rw [hl] at he he1 ne32
      refine ⟨xu (xu (xu (xu (xu (xu M 40 16 (nI (skp n f p))) 40 17 (nI (skp n f p))) 40 18 (-nI 1)) 40 19 (nI 0)) 40 20 (nI 0)) 40 16 (nI (skp n f p)), ?_, ⟨only_xu' (only_xu' (only_xu' (only_xu' (only_xu' only_xu)))), fun k hk => by simp (disch := omega) only [xu_off]⟩, ?_⟩
      · simp (disch := omega) only [he, b_R_step_4, ne32, xu_at, he1, b_R_step_35, xu_off, ll_48, ll_57, c_Rin, hin, b_R_step_62, hng, kf_1, kf_2, kf_3, kf_4, kf_5, kf_6, kf_7, kf_8, kf_9, kf_10, kf_11, kf_12, kf_13, kf_14, kf_15, kf_16, kf_17, kf_18, kf_19, kf_20, kf_21, kf_22, kf_23, kf_24, kf_25, kf_26, kf_27, kf_28, kf_29, kf_30, kf_31, kf_32, kf_33, kf_34, kf_35, kf_36, kf_37, kf_38, kf_39, kf_40, kf_41, kf_42, kf_43, kf_44, kf_45, kf_46, kf_47, kf_48, kf_49, kf_50, kf_51, kf_52, kf_53, kf_54, rf_1_0, rf_1_1, rf_1_2, rf_1_3, rf_1_4, rf_1_5, rf_1_6, rf_1_7, rf_1_8, rf_2_3, rf_2_4, rf_2_5, rf_2_6, rf_7_0, rf_9_0, rf_11_0, rf_11_1, rf_11_4, rf_12_3, rf_12_4, rf_12_5, rf_12_6, rf_17_0, rf_20_1, rf_22_0, rf_22_1, rf_25_2, rf_25_3, rf_25_4, rf_25_5, rf_30_1, rf_30_2, rf_30_3, rf_30_4, rf_34_0, rf_36_0, rf_36_1, rf_36_2, rf_40_0, rf_40_1, rf_40_2, rf_40_3, rf_40_4, rf_40_6, rf_40_7, rf_40_9, rf_40_12, rf_40_14, rf_40_22, rf_40_23, rf_40_24, rf_40_25, li_0, li_1, li_2, li_3, li_4, li_5, li_6, li_7, li_8, li_9, li_10, li_11, li_12, li_13, li_14, li_15, li_16, li_17, li_18, li_19, li_20, li_21, li_22, li_23, li_24, li_25, li_26, li_27, li_28, li_29, li_30, li_31, li_32, li_33, li_34, li_35, li_36, li_37, li_38, li_39, li_40, li_41, li_42, li_43, li_44, li_45, li_46, li_47, li_48, li_49, li_50, li_51, li_52, li_53, li_54, li_55, li_56, li_57, li_58, li_59, li_60, li_61, li_62, li_63, li_99, li_100, li_107, li_124, li_126, li_240, li_255, li_256, li_1000, li_1178, li_1240, li_9000, li_65536, li_1000000, nI_add, pk_mul, nI_ltI, nI_leI, nI_eq, xin_nI, nI_clamp, decide_true, decide_false, Bool.and_true, Bool.true_and, Bool.and_false, Bool.false_and, Bool.not_true, Bool.not_false, cond_true, cond_false, Option.bind_some, Option.toList_some, Option.toList_none, List.cons_append, List.nil_append, List.append_nil, Nat.not_lt_zero, Nat.zero_le, Nat.le_refl, Nat.lt_irrefl, Nat.reduceLT, Nat.reduceLeDiff, Nat.reduceEqDiff, Nat.reduceAdd, Nat.reduceMul, Bool.toNat_true, Bool.toNat_false, Nat.add_zero, Nat.zero_add, Nat.succ_ne_zero, Nat.one_ne_zero, decide_eq_true, decide_eq_false, bb1, bb0, bbT, eq_self, reduceIte, and_self, and_true, true_and]
      · refine ⟨by simp (disch := omega) only [xu_off, xu_at], fun _ => ⟨by simp (disch := omega) only [xu_off, xu_at]; rfl, xu_at⟩, fun h => absurd h hc, fun h => absurd h hc⟩
  · intro i _ hi hpi
    refine Or.inr ⟨(), ?_, by omega⟩
    have he := c_Rhere (L := L) (J := J) tx (T0 i) xu_at (by omega)
    have hl : ltr n f i = nI 32 := by unfold ltr; rw [if_pos (by omega), skp_in hpi hi]
    rw [hl] at he
    rw [b_R_step_0]
    simp (disch := omega) only [he, b_R_step_4, xu_at, xu_xu, kf_1, kf_2, kf_3, kf_4, kf_5, kf_6, kf_7, kf_8, kf_9, kf_10, kf_11, kf_12, kf_13, kf_14, kf_15, kf_16, kf_17, kf_18, kf_19, kf_20, kf_21, kf_22, kf_23, kf_24, kf_25, kf_26, kf_27, kf_28, kf_29, kf_30, kf_31, kf_32, kf_33, kf_34, kf_35, kf_36, kf_37, kf_38, kf_39, kf_40, kf_41, kf_42, kf_43, kf_44, kf_45, kf_46, kf_47, kf_48, kf_49, kf_50, kf_51, kf_52, kf_53, kf_54, rf_1_0, rf_1_1, rf_1_2, rf_1_3, rf_1_4, rf_1_5, rf_1_6, rf_1_7, rf_1_8, rf_2_3, rf_2_4, rf_2_5, rf_2_6, rf_7_0, rf_9_0, rf_11_0, rf_11_1, rf_11_4, rf_12_3, rf_12_4, rf_12_5, rf_12_6, rf_17_0, rf_20_1, rf_22_0, rf_22_1, rf_25_2, rf_25_3, rf_25_4, rf_25_5, rf_30_1, rf_30_2, rf_30_3, rf_30_4, rf_34_0, rf_36_0, rf_36_1, rf_36_2, rf_40_0, rf_40_1, rf_40_2, rf_40_3, rf_40_4, rf_40_6, rf_40_7, rf_40_9, rf_40_12, rf_40_14, rf_40_22, rf_40_23, rf_40_24, rf_40_25, li_0, li_1, li_2, li_3, li_4, li_5, li_6, li_7, li_8, li_9, li_10, li_11, li_12, li_13, li_14, li_15, li_16, li_17, li_18, li_19, li_20, li_21, li_22, li_23, li_24, li_25, li_26, li_27, li_28, li_29, li_30, li_31, li_32, li_33, li_34, li_35, li_36, li_37, li_38, li_39, li_40, li_41, li_42, li_43, li_44, li_45, li_46, li_47, li_48, li_49, li_50, li_51, li_52, li_53, li_54, li_55, li_56, li_57, li_58, li_59, li_60, li_61, li_62, li_63, li_99, li_100, li_107, li_124, li_126, li_240, li_255, li_256, li_1000, li_1178, li_1240, li_9000, li_65536, li_1000000, nI_add, pk_mul, nI_ltI, nI_leI, nI_eq, xin_nI, nI_clamp, decide_true, decide_false, Bool.and_true, Bool.true_and, Bool.and_false, Bool.false_and, Bool.not_true, Bool.not_false, cond_true, cond_false, Option.bind_some, Option.toList_some, Option.toList_none, List.cons_append, List.nil_append, List.append_nil, Nat.not_lt_zero, Nat.zero_le, Nat.le_refl, Nat.lt_irrefl, Nat.reduceLT, Nat.reduceLeDiff, Nat.reduceEqDiff, Nat.reduceAdd, Nat.reduceMul, Bool.toNat_true, Bool.toNat_false, Nat.add_zero, Nat.zero_add, Nat.succ_ne_zero, Nat.one_ne_zero, decide_eq_true, decide_eq_false, bb1, bb0, bbT, eq_self, reduceIte, and_self, and_true, true_and]
theorem tok_1 (tx : txOk n f) {lo hi : Nat} {e : Nat × Nat} (ht : tokR M n f (skp n f p)) (hpn : p ≤ n) (s : numS n f lo hi p = .inl e) : M 40 17 = nI e.2 ∧ ((e.1 = 1 ∧ ¬ M 40 18 = nI 48) ∨ (e.1 = 2 ∧ M 40 18 = nI 48 ∧ ∃ fg v, fg ≤ 240 ∧ v ≤ 999 ∧ M 40 19 = nI fg ∧ M 40 20 = nI v ∧ (3 < fg ∨ (fg ≤ 3 ∧ ¬ (lo ≤ v ∧ v ≤ hi))))) := by
  obtain ⟨t1, t2, t3, t4⟩ := ht
  have hle := skp_le (f := f) hpn
  have hn := tx.1
  unfold numS at s
  split at s
  · rename_i hc
    obtain ⟨q1, q2, q3, q4⟩ := t4 hc.1 hc.2
    have hdl := dge_le (f := f) (Nat.le_of_lt hc.1)
    split at s
    · cases s
    · rename_i hv
      cases s
      refine ⟨t1, Or.inr ⟨rfl, q1, _, _, ?_, ?_, q3, q4, ?_⟩⟩
      · omega
      · exact dval_le (by omega) (fun j hj => dge_in (n := n) (p := skp n f p) (by omega) (by omega))
      · by_cases h3 : 3 < dge n f (skp n f p) - skp n f p
        · exact Or.inl h3
        · refine Or.inr ⟨by omega, fun z => hv ⟨by omega, ?_⟩⟩
          rw [show min 3 (dge n f (skp n f p) - skp n f p) = dge n f (skp n f p) - skp n f p by omega] at z
          exact z
  · rename_i hc
    cases s
    refine ⟨t1, Or.inl ⟨rfl, ?_⟩⟩
    by_cases hlt : skp n f p < n
    · have hd : isD (f (skp n f p)) = false := by
        cases h : isD (f (skp n f p))
        · rfl
        · exact absurd ⟨hlt, h⟩ hc
      rw [(t3 hlt hd).1, nI_eq (by have := tx.2 _ hlt; omega) (by decide)]
      have := isD_f hd
      omega
    · rw [(t2 (by omega)).1]
      decide
theorem tok_2 {lo hi : Nat} {x : Nat × Nat} (ht : tokR M n f (skp n f p)) (s : numS n f lo hi p = .inr x) : M 40 17 = nI (skp n f p) ∧ M 40 18 = nI 48 ∧ M 40 16 = nI x.2 ∧ M 40 20 = nI x.1 ∧ ∃ fg, fg ≤ 3 ∧ M 40 19 = nI fg := by
  obtain ⟨t1, t2, t3, t4⟩ := ht
  unfold numS at s
  split at s
  · rename_i hc
    obtain ⟨q1, q2, q3, q4⟩ := t4 hc.1 hc.2
    split at s
    · rename_i hv
      cases s
      rw [show min 3 (dge n f (skp n f p) - skp n f p) = dge n f (skp n f p) - skp n f p by omega] at q4
      exact ⟨t1, q1, q2, q4, _, hv.1, q3⟩
    · cases s
  · cases s
theorem c_Rnumber (tx : txOk n f) (hT : textR M n f) (h16 : M 40 16 = nI p) (hpn : p ≤ n) (hr : rowR M r) {j lo hi : Nat} (hj : j < 41) (hlh : lo ≤ hi) (hhi : hi ≤ 1000) : ∃ b M', ev (142, 0, [.ref 40, .int (nI j), .int (nI lo), .int (nI hi)], [], (xSH L, M, J)) = some (some (.int b), (xSH L, M', J)) ∧ fr16 M M' ∧ finR M' b (sb (numS n f lo hi p) fun x => .inr (upN r j x.1, x.2)) := by
  obtain ⟨M1, m1, m2, m3⟩ := c_Rstep (L := L) (J := J) tx hT h16 hpn
  rcases s : numS n f lo hi p with e | x
  · obtain ⟨t1, t2⟩ := tok_1 tx m3 hpn s
    refine ⟨nI 0, xu M1 40 21 (nI e.1), ?_, fr16_tr (fr16_S m2) fr16_21, rfl, by rw [xu_off (by decide)]; exact t1, xu_at⟩
    rcases t2 with ⟨e1, q1⟩ | ⟨e1, q1, fg, v, b1, b2, q3, q4, h | ⟨h, h2⟩⟩
    · rw [e1]
      simp (disch := omega) only [b_R_number_0, m1, b_R_number_4, q1, b_R_fails_0, b_R_number_18, kf_1, kf_2, kf_3, kf_4, kf_5, kf_6, kf_7, kf_8, kf_9, kf_10, kf_11, kf_12, kf_13, kf_14, kf_15, kf_16, kf_17, kf_18, kf_19, kf_20, kf_21, kf_22, kf_23, kf_24, kf_25, kf_26, kf_27, kf_28, kf_29, kf_30, kf_31, kf_32, kf_33, kf_34, kf_35, kf_36, kf_37, kf_38, kf_39, kf_40, kf_41, kf_42, kf_43, kf_44, kf_45, kf_46, kf_47, kf_48, kf_49, kf_50, kf_51, kf_52, kf_53, kf_54, rf_1_0, rf_1_1, rf_1_2, rf_1_3, rf_1_4, rf_1_5, rf_1_6, rf_1_7, rf_1_8, rf_2_3, rf_2_4, rf_2_5, rf_2_6, rf_7_0, rf_9_0, rf_11_0, rf_11_1, rf_11_4, rf_12_3, rf_12_4, rf_12_5, rf_12_6, rf_17_0, rf_20_1, rf_22_0, rf_22_1, rf_25_2, rf_25_3, rf_25_4, rf_25_5, rf_30_1, rf_30_2, rf_30_3, rf_30_4, rf_34_0, rf_36_0, rf_36_1, rf_36_2, rf_40_0, rf_40_1, rf_40_2, rf_40_3, rf_40_4, rf_40_6, rf_40_7, rf_40_9, rf_40_12, rf_40_14, rf_40_22, rf_40_23, rf_40_24, rf_40_25, li_0, li_1, li_2, li_3, li_4, li_5, li_6, li_7, li_8, li_9, li_10, li_11, li_12, li_13, li_14, li_15, li_16, li_17, li_18, li_19, li_20, li_21, li_22, li_23, li_24, li_25, li_26, li_27, li_28, li_29, li_30, li_31, li_32, li_33, li_34, li_35, li_36, li_37, li_38, li_39, li_40, li_41, li_42, li_43, li_44, li_45, li_46, li_47, li_48, li_49, li_50, li_51, li_52, li_53, li_54, li_55, li_56, li_57, li_58, li_59, li_60, li_61, li_62, li_63, li_99, li_100, li_107, li_124, li_126, li_240, li_255, li_256, li_1000, li_1178, li_1240, li_9000, li_65536, li_1000000, nI_add, pk_mul, nI_ltI, nI_leI, nI_eq, xin_nI, nI_clamp, decide_true, decide_false, Bool.and_true, Bool.true_and, Bool.and_false, Bool.false_and, Bool.not_true, Bool.not_false, cond_true, cond_false, Option.bind_some, Option.toList_some, Option.toList_none, List.cons_append, List.nil_append, List.append_nil, Nat.not_lt_zero, Nat.zero_le, Nat.le_refl, Nat.lt_irrefl, Nat.reduceLT, Nat.reduceLeDiff, Nat.reduceEqDiff, Nat.reduceAdd, Nat.reduceMul, Bool.toNat_true, Bool.toNat_false, Nat.add_zero, Nat.zero_add, Nat.succ_ne_zero, Nat.one_ne_zero, decide_eq_true, decide_eq_false, bb1, bb0, bbT, eq_self, reduceIte, and_self, and_true, true_and]
    · rw [e1]
      simp (disch := omega) only [b_R_number_0, m1, b_R_number_4, q1, q3, h, b_R_fails_0, b_R_number_47, kf_1, kf_2, kf_3, kf_4, kf_5, kf_6, kf_7, kf_8, kf_9, kf_10, kf_11, kf_12, kf_13, kf_14, kf_15, kf_16, kf_17, kf_18, kf_19, kf_20, kf_21, kf_22, kf_23, kf_24, kf_25, kf_26, kf_27, kf_28, kf_29, kf_30, kf_31, kf_32, kf_33, kf_34, kf_35, kf_36, kf_37, kf_38, kf_39, kf_40, kf_41, kf_42, kf_43, kf_44, kf_45, kf_46, kf_47, kf_48, kf_49, kf_50, kf_51, kf_52, kf_53, kf_54, rf_1_0, rf_1_1, rf_1_2, rf_1_3, rf_1_4, rf_1_5, rf_1_6, rf_1_7, rf_1_8, rf_2_3, rf_2_4, rf_2_5, rf_2_6, rf_7_0, rf_9_0, rf_11_0, rf_11_1, rf_11_4, rf_12_3, rf_12_4, rf_12_5, rf_12_6, rf_17_0, rf_20_1, rf_22_0, rf_22_1, rf_25_2, rf_25_3, rf_25_4, rf_25_5, rf_30_1, rf_30_2, rf_30_3, rf_30_4, rf_34_0, rf_36_0, rf_36_1, rf_36_2, rf_40_0, rf_40_1, rf_40_2, rf_40_3, rf_40_4, rf_40_6, rf_40_7, rf_40_9, rf_40_12, rf_40_14, rf_40_22, rf_40_23, rf_40_24, rf_40_25, li_0, li_1, li_2, li_3, li_4, li_5, li_6, li_7, li_8, li_9, li_10, li_11, li_12, li_13, li_14, li_15, li_16, li_17, li_18, li_19, li_20, li_21, li_22, li_23, li_24, li_25, li_26, li_27, li_28, li_29, li_30, li_31, li_32, li_33, li_34, li_35, li_36, li_37, li_38, li_39, li_40, li_41, li_42, li_43, li_44, li_45, li_46, li_47, li_48, li_49, li_50, li_51, li_52, li_53, li_54, li_55, li_56, li_57, li_58, li_59, li_60, li_61, li_62, li_63, li_99, li_100, li_107, li_124, li_126, li_240, li_255, li_256, li_1000, li_1178, li_1240, li_9000, li_65536, li_1000000, nI_add, pk_mul, nI_ltI, nI_leI, nI_eq, xin_nI, nI_clamp, decide_true, decide_false, Bool.and_true, Bool.true_and, Bool.and_false, Bool.false_and, Bool.not_true, Bool.not_false, cond_true, cond_false, Option.bind_some, Option.toList_some, Option.toList_none, List.cons_append, List.nil_append, List.append_nil, Nat.not_lt_zero, Nat.zero_le, Nat.le_refl, Nat.lt_irrefl, Nat.reduceLT, Nat.reduceLeDiff, Nat.reduceEqDiff, Nat.reduceAdd, Nat.reduceMul, Bool.toNat_true, Bool.toNat_false, Nat.add_zero, Nat.zero_add, Nat.succ_ne_zero, Nat.one_ne_zero, decide_eq_true, decide_eq_false, bb1, bb0, bbT, eq_self, reduceIte, and_self, and_true, true_and]
    · rw [e1]
      have h3 : ¬ 3 < fg := by omega
      simp (disch := omega) only [b_R_number_0, m1, b_R_number_4, q1, q3, q4, h3, c_Rin, h2, b_R_number_39, b_R_fails_0, b_R_number_47, kf_1, kf_2, kf_3, kf_4, kf_5, kf_6, kf_7, kf_8, kf_9, kf_10, kf_11, kf_12, kf_13, kf_14, kf_15, kf_16, kf_17, kf_18, kf_19, kf_20, kf_21, kf_22, kf_23, kf_24, kf_25, kf_26, kf_27, kf_28, kf_29, kf_30, kf_31, kf_32, kf_33, kf_34, kf_35, kf_36, kf_37, kf_38, kf_39, kf_40, kf_41, kf_42, kf_43, kf_44, kf_45, kf_46, kf_47, kf_48, kf_49, kf_50, kf_51, kf_52, kf_53, kf_54, rf_1_0, rf_1_1, rf_1_2, rf_1_3, rf_1_4, rf_1_5, rf_1_6, rf_1_7, rf_1_8, rf_2_3, rf_2_4, rf_2_5, rf_2_6, rf_7_0, rf_9_0, rf_11_0, rf_11_1, rf_11_4, rf_12_3, rf_12_4, rf_12_5, rf_12_6, rf_17_0, rf_20_1, rf_22_0, rf_22_1, rf_25_2, rf_25_3, rf_25_4, rf_25_5, rf_30_1, rf_30_2, rf_30_3, rf_30_4, rf_34_0, rf_36_0, rf_36_1, rf_36_2, rf_40_0, rf_40_1, rf_40_2, rf_40_3, rf_40_4, rf_40_6, rf_40_7, rf_40_9, rf_40_12, rf_40_14, rf_40_22, rf_40_23, rf_40_24, rf_40_25, li_0, li_1, li_2, li_3, li_4, li_5, li_6, li_7, li_8, li_9, li_10, li_11, li_12, li_13, li_14, li_15, li_16, li_17, li_18, li_19, li_20, li_21, li_22, li_23, li_24, li_25, li_26, li_27, li_28, li_29, li_30, li_31, li_32, li_33, li_34, li_35, li_36, li_37, li_38, li_39, li_40, li_41, li_42, li_43, li_44, li_45, li_46, li_47, li_48, li_49, li_50, li_51, li_52, li_53, li_54, li_55, li_56, li_57, li_58, li_59, li_60, li_61, li_62, li_63, li_99, li_100, li_107, li_124, li_126, li_240, li_255, li_256, li_1000, li_1178, li_1240, li_9000, li_65536, li_1000000, nI_add, pk_mul, nI_ltI, nI_leI, nI_eq, xin_nI, nI_clamp, decide_true, decide_false, Bool.and_true, Bool.true_and, Bool.and_false, Bool.false_and, Bool.not_true, Bool.not_false, cond_true, cond_false, Option.bind_some, Option.toList_some, Option.toList_none, List.cons_append, List.nil_append, List.append_nil, Nat.not_lt_zero, Nat.zero_le, Nat.le_refl, Nat.lt_irrefl, Nat.reduceLT, Nat.reduceLeDiff, Nat.reduceEqDiff, Nat.reduceAdd, Nat.reduceMul, Bool.toNat_true, Bool.toNat_false, Nat.add_zero, Nat.zero_add, Nat.succ_ne_zero, Nat.one_ne_zero, decide_eq_true, decide_eq_false, bb1, bb0, bbT, eq_self, reduceIte, and_self, and_true, true_and]
  · obtain ⟨t1, q1, q2, q4, fg, hfg, q3⟩ := tok_2 m3 s
    have hb := numS_inr s hpn
    have h3 : ¬ 3 < fg := by omega
    refine ⟨nI 1, xu M1 42 j (nI x.1), ?_, fr16_tr (fr16_S m2) fr16_42, rfl, by rw [xu_ne (by decide)]; exact q2, rowR_up (rowR_S hr m2)⟩
    simp (disch := omega) only [b_R_number_0, m1, b_R_number_4, q1, q3, q4, h3, c_Rin, hb.1, hb.2.1, b_R_number_39, hj, kf_1, kf_2, kf_3, kf_4, kf_5, kf_6, kf_7, kf_8, kf_9, kf_10, kf_11, kf_12, kf_13, kf_14, kf_15, kf_16, kf_17, kf_18, kf_19, kf_20, kf_21, kf_22, kf_23, kf_24, kf_25, kf_26, kf_27, kf_28, kf_29, kf_30, kf_31, kf_32, kf_33, kf_34, kf_35, kf_36, kf_37, kf_38, kf_39, kf_40, kf_41, kf_42, kf_43, kf_44, kf_45, kf_46, kf_47, kf_48, kf_49, kf_50, kf_51, kf_52, kf_53, kf_54, rf_1_0, rf_1_1, rf_1_2, rf_1_3, rf_1_4, rf_1_5, rf_1_6, rf_1_7, rf_1_8, rf_2_3, rf_2_4, rf_2_5, rf_2_6, rf_7_0, rf_9_0, rf_11_0, rf_11_1, rf_11_4, rf_12_3, rf_12_4, rf_12_5, rf_12_6, rf_17_0, rf_20_1, rf_22_0, rf_22_1, rf_25_2, rf_25_3, rf_25_4, rf_25_5, rf_30_1, rf_30_2, rf_30_3, rf_30_4, rf_34_0, rf_36_0, rf_36_1, rf_36_2, rf_40_0, rf_40_1, rf_40_2, rf_40_3, rf_40_4, rf_40_6, rf_40_7, rf_40_9, rf_40_12, rf_40_14, rf_40_22, rf_40_23, rf_40_24, rf_40_25, li_0, li_1, li_2, li_3, li_4, li_5, li_6, li_7, li_8, li_9, li_10, li_11, li_12, li_13, li_14, li_15, li_16, li_17, li_18, li_19, li_20, li_21, li_22, li_23, li_24, li_25, li_26, li_27, li_28, li_29, li_30, li_31, li_32, li_33, li_34, li_35, li_36, li_37, li_38, li_39, li_40, li_41, li_42, li_43, li_44, li_45, li_46, li_47, li_48, li_49, li_50, li_51, li_52, li_53, li_54, li_55, li_56, li_57, li_58, li_59, li_60, li_61, li_62, li_63, li_99, li_100, li_107, li_124, li_126, li_240, li_255, li_256, li_1000, li_1178, li_1240, li_9000, li_65536, li_1000000, nI_add, pk_mul, nI_ltI, nI_leI, nI_eq, xin_nI, nI_clamp, decide_true, decide_false, Bool.and_true, Bool.true_and, Bool.and_false, Bool.false_and, Bool.not_true, Bool.not_false, cond_true, cond_false, Option.bind_some, Option.toList_some, Option.toList_none, List.cons_append, List.nil_append, List.append_nil, Nat.not_lt_zero, Nat.zero_le, Nat.le_refl, Nat.lt_irrefl, Nat.reduceLT, Nat.reduceLeDiff, Nat.reduceEqDiff, Nat.reduceAdd, Nat.reduceMul, Bool.toNat_true, Bool.toNat_false, Nat.add_zero, Nat.zero_add, Nat.succ_ne_zero, Nat.one_ne_zero, decide_eq_true, decide_eq_false, bb1, bb0, bbT, eq_self, reduceIte, and_self, and_true, true_and]
theorem c_Rends (tx : txOk n f) (hT : textR M n f) (h16 : M 40 16 = nI p) (hpn : p ≤ n) (hr : rowR M r) : ∃ b M', ev (143, 0, [.ref 40], [], (xSH L, M, J)) = some (some (.int b), (xSH L, M', J)) ∧ fr16 M M' ∧ finR M' b (sb (endS n f p) fun q => .inr (r, q)) := by
  obtain ⟨M1, m1, m2, t1, t2, t3, t4⟩ := c_Rstep (L := L) (J := J) tx hT h16 hpn
  have hle := skp_le (f := f) hpn
  by_cases hc : skp n f p < n ∧ f (skp n f p) = 59
  · have hend : endS n f p = .inr (skp n f p + 1) := by unfold endS; rw [if_pos hc]
    obtain ⟨q1, q2⟩ := t3 hc.1 (by rw [hc.2]; rfl)
    rw [hc.2] at q1
    rw [hend, sb_inr]
    refine ⟨nI 1, M1, ?_, fr16_S m2, rfl, q2, rowR_S hr m2⟩
    simp (disch := omega) only [b_R_ends_0, m1, b_R_ends_4, q1, kf_1, kf_2, kf_3, kf_4, kf_5, kf_6, kf_7, kf_8, kf_9, kf_10, kf_11, kf_12, kf_13, kf_14, kf_15, kf_16, kf_17, kf_18, kf_19, kf_20, kf_21, kf_22, kf_23, kf_24, kf_25, kf_26, kf_27, kf_28, kf_29, kf_30, kf_31, kf_32, kf_33, kf_34, kf_35, kf_36, kf_37, kf_38, kf_39, kf_40, kf_41, kf_42, kf_43, kf_44, kf_45, kf_46, kf_47, kf_48, kf_49, kf_50, kf_51, kf_52, kf_53, kf_54, rf_1_0, rf_1_1, rf_1_2, rf_1_3, rf_1_4, rf_1_5, rf_1_6, rf_1_7, rf_1_8, rf_2_3, rf_2_4, rf_2_5, rf_2_6, rf_7_0, rf_9_0, rf_11_0, rf_11_1, rf_11_4, rf_12_3, rf_12_4, rf_12_5, rf_12_6, rf_17_0, rf_20_1, rf_22_0, rf_22_1, rf_25_2, rf_25_3, rf_25_4, rf_25_5, rf_30_1, rf_30_2, rf_30_3, rf_30_4, rf_34_0, rf_36_0, rf_36_1, rf_36_2, rf_40_0, rf_40_1, rf_40_2, rf_40_3, rf_40_4, rf_40_6, rf_40_7, rf_40_9, rf_40_12, rf_40_14, rf_40_22, rf_40_23, rf_40_24, rf_40_25, li_0, li_1, li_2, li_3, li_4, li_5, li_6, li_7, li_8, li_9, li_10, li_11, li_12, li_13, li_14, li_15, li_16, li_17, li_18, li_19, li_20, li_21, li_22, li_23, li_24, li_25, li_26, li_27, li_28, li_29, li_30, li_31, li_32, li_33, li_34, li_35, li_36, li_37, li_38, li_39, li_40, li_41, li_42, li_43, li_44, li_45, li_46, li_47, li_48, li_49, li_50, li_51, li_52, li_53, li_54, li_55, li_56, li_57, li_58, li_59, li_60, li_61, li_62, li_63, li_99, li_100, li_107, li_124, li_126, li_240, li_255, li_256, li_1000, li_1178, li_1240, li_9000, li_65536, li_1000000, nI_add, pk_mul, nI_ltI, nI_leI, nI_eq, xin_nI, nI_clamp, decide_true, decide_false, Bool.and_true, Bool.true_and, Bool.and_false, Bool.false_and, Bool.not_true, Bool.not_false, cond_true, cond_false, Option.bind_some, Option.toList_some, Option.toList_none, List.cons_append, List.nil_append, List.append_nil, Nat.not_lt_zero, Nat.zero_le, Nat.le_refl, Nat.lt_irrefl, Nat.reduceLT, Nat.reduceLeDiff, Nat.reduceEqDiff, Nat.reduceAdd, Nat.reduceMul, Bool.toNat_true, Bool.toNat_false, Nat.add_zero, Nat.zero_add, Nat.succ_ne_zero, Nat.one_ne_zero, decide_eq_true, decide_eq_false, bb1, bb0, bbT, eq_self, reduceIte, and_self, and_true, true_and]
  · have hend : endS n f p = .inl (1, skp n f p) := by unfold endS; rw [if_neg hc]
    have hne : ¬ M1 40 18 = nI 59 := by
      by_cases hlt : skp n f p < n
      · cases hd : isD (f (skp n f p))
        · rw [(t3 hlt hd).1, nI_eq (by have := tx.2 _ hlt; omega) (by decide)]
          exact fun z => hc ⟨hlt, z⟩
        · rw [(t4 hlt hd).1]
          decide
      · rw [(t2 (by omega)).1]
        decide
    rw [hend, sb_inl]
    refine ⟨nI 0, xu M1 40 21 (nI 1), ?_, fr16_tr (fr16_S m2) fr16_21, rfl, by rw [xu_off (by decide)]; exact t1, xu_at⟩
    simp (disch := omega) only [b_R_ends_0, m1, b_R_ends_4, hne, b_R_fails_0, b_R_ends_18, kf_1, kf_2, kf_3, kf_4, kf_5, kf_6, kf_7, kf_8, kf_9, kf_10, kf_11, kf_12, kf_13, kf_14, kf_15, kf_16, kf_17, kf_18, kf_19, kf_20, kf_21, kf_22, kf_23, kf_24, kf_25, kf_26, kf_27, kf_28, kf_29, kf_30, kf_31, kf_32, kf_33, kf_34, kf_35, kf_36, kf_37, kf_38, kf_39, kf_40, kf_41, kf_42, kf_43, kf_44, kf_45, kf_46, kf_47, kf_48, kf_49, kf_50, kf_51, kf_52, kf_53, kf_54, rf_1_0, rf_1_1, rf_1_2, rf_1_3, rf_1_4, rf_1_5, rf_1_6, rf_1_7, rf_1_8, rf_2_3, rf_2_4, rf_2_5, rf_2_6, rf_7_0, rf_9_0, rf_11_0, rf_11_1, rf_11_4, rf_12_3, rf_12_4, rf_12_5, rf_12_6, rf_17_0, rf_20_1, rf_22_0, rf_22_1, rf_25_2, rf_25_3, rf_25_4, rf_25_5, rf_30_1, rf_30_2, rf_30_3, rf_30_4, rf_34_0, rf_36_0, rf_36_1, rf_36_2, rf_40_0, rf_40_1, rf_40_2, rf_40_3, rf_40_4, rf_40_6, rf_40_7, rf_40_9, rf_40_12, rf_40_14, rf_40_22, rf_40_23, rf_40_24, rf_40_25, li_0, li_1, li_2, li_3, li_4, li_5, li_6, li_7, li_8, li_9, li_10, li_11, li_12, li_13, li_14, li_15, li_16, li_17, li_18, li_19, li_20, li_21, li_22, li_23, li_24, li_25, li_26, li_27, li_28, li_29, li_30, li_31, li_32, li_33, li_34, li_35, li_36, li_37, li_38, li_39, li_40, li_41, li_42, li_43, li_44, li_45, li_46, li_47, li_48, li_49, li_50, li_51, li_52, li_53, li_54, li_55, li_56, li_57, li_58, li_59, li_60, li_61, li_62, li_63, li_99, li_100, li_107, li_124, li_126, li_240, li_255, li_256, li_1000, li_1178, li_1240, li_9000, li_65536, li_1000000, nI_add, pk_mul, nI_ltI, nI_leI, nI_eq, xin_nI, nI_clamp, decide_true, decide_false, Bool.and_true, Bool.true_and, Bool.and_false, Bool.false_and, Bool.not_true, Bool.not_false, cond_true, cond_false, Option.bind_some, Option.toList_some, Option.toList_none, List.cons_append, List.nil_append, List.append_nil, Nat.not_lt_zero, Nat.zero_le, Nat.le_refl, Nat.lt_irrefl, Nat.reduceLT, Nat.reduceLeDiff, Nat.reduceEqDiff, Nat.reduceAdd, Nat.reduceMul, Bool.toNat_true, Bool.toNat_false, Nat.add_zero, Nat.zero_add, Nat.succ_ne_zero, Nat.one_ne_zero, decide_eq_true, decide_eq_false, bb1, bb0, bbT, eq_self, reduceIte, and_self, and_true, true_and]
end READR
