/-! ===== copies, history ===== -/
theorem xcp_at {M : Mem} {a0 sp a1 dp n : Nat} (i : Nat) : xcp M a0 sp a1 dp n a1 i = if dp ≤ i ∧ i < dp + n then M a0 (sp + (i - dp)) else M a1 i := by
  unfold xcp
  by_cases h : dp ≤ i ∧ i < dp + n
  · rw [if_pos ⟨rfl, h⟩, if_pos h]
  · rw [if_neg (fun q => h q.2), if_neg h]
theorem xcp_in {M : Mem} {a0 sp a1 dp n k : Nat} (h : k < n) : xcp M a0 sp a1 dp n a1 (dp + k) = M a0 (sp + k) := by
  rw [xcp_at, if_pos ⟨by omega, by omega⟩, Nat.add_sub_cancel_left]
theorem xcp_out {M : Mem} {a0 sp a1 dp n i : Nat} (h : i < dp ∨ dp + n ≤ i) : xcp M a0 sp a1 dp n a1 i = M a1 i := by
  rw [xcp_at, if_neg (by omega)]
theorem xcp_0 {M : Mem} {a0 sp a1 dp : Nat} : xcp M a0 sp a1 dp 0 = M := by
  funext a i
  unfold xcp
  rw [if_neg (by omega)]
theorem xcp_s {M : Mem} {a0 sp a1 dp n : Nat} (h : a0 ≠ a1) : xu (xcp M a0 sp a1 dp n) a1 (dp + n) (xcp M a0 sp a1 dp n a0 (sp + n)) = xcp M a0 sp a1 dp (n + 1) := by
  rw [xcp_ne h]
  funext a i
  unfold xu xcp
  by_cases ha : a = a1
  · subst ha
    by_cases hi : i = dp + n
    · subst hi
      rw [if_pos ⟨rfl, rfl⟩, if_pos ⟨rfl, by omega, by omega⟩, Nat.add_sub_cancel_left]
    · rw [if_neg (fun q => hi q.2)]
      by_cases hj : dp ≤ i ∧ i < dp + n
      · rw [if_pos ⟨rfl, hj⟩, if_pos ⟨rfl, by omega, by omega⟩]
      · rw [if_neg (fun q => hj q.2), if_neg (by omega)]
  · rw [if_neg (fun q => ha q.1), if_neg (fun q => ha q.1), if_neg (fun q => ha q.1)]
theorem xmin_nI {a b : Nat} (ha : a < 2 ^ 31) (hb : b < 2 ^ 31) : xmin (nI a) (nI b) = nI (min a b) := by
  unfold xmin
  simp only [nI_ltI hb ha]
  split
  · rw [Nat.min_eq_right (by omega)]
  · rw [Nat.min_eq_left (by omega)]
theorem xmax_nI {a b : Nat} (ha : a < 2 ^ 31) (hb : b < 2 ^ 31) : xmax (nI a) (nI b) = nI (max a b) := by
  unfold xmax
  simp only [nI_ltI ha hb]
  split
  · rw [Nat.max_eq_right (by omega)]
  · rw [Nat.max_eq_left (by omega)]
def remG (g : Gh) (T : Sc) : Gh := (gH g, T, gn g, gf g, gfa g, gd g, (gT g :: ghi g).take 20, gim g, gsn g, gbk g)
def setG (g : Gh) (T : Sc) : Gh := (gH g, T, gn g, gf g, gfa g, gd g, ghi g, gim g, gsn g, gbk g)
theorem remG_ok {g : Gh} {T : Sc} (hg : gOk g) (hT : scOk (gH g) T) : gOk (remG g T) := by
  obtain ⟨o1, o2, o3, o4, o5, o6, o7, o8, o9⟩ := hg
  refine ⟨o1, hT, o3, o4, o5, ⟨?_, fun S hS => ?_⟩, o7, o8, o9⟩
  · show ((gT g :: ghi g).take 20).length ≤ 20
    rw [List.length_take]; omega
  · rcases List.mem_cons.mp (List.mem_of_mem_take hS) with h | h
    · rw [h]; exact o2
    · exact o6.2 S h
theorem setG_ok {g : Gh} {T : Sc} (hg : gOk g) (hT : scOk (gH g) T) : gOk (setG g T) := by
  obtain ⟨o1, o2, o3, o4, o5, o6, o7, o8, o9⟩ := hg
  exact ⟨o1, hT, o3, o4, o5, o6, o7, o8, o9⟩
theorem RelC_sc {M M' : Mem} {g : Gh} {T : Sc} (h : RelC M g) (o : only M M' 8) (hT : sceneC M' 8 T) : RelC M' (setG g T) := by
  obtain ⟨a1, a2, a3, a4, a5, a6, a7, a8, a9⟩ := h
  exact ⟨houseC_o a1 o (by decide), hT, textC_o a3 o (by decide), by rw [o 1 (by decide)]; exact a4, by rw [o 1 (by decide)]; exact a5, histC_o a6 o (by decide), imgC_o a7 o (by decide), seenC_o a8 o (by decide), bookC_o a9 o (by decide)⟩
theorem RelR_sc {M M' : Mem} {J : Nat → Nat → Int64} {g : Gh} {T : Sc} (h : RelR M J g) (o : only M M' 43) (hT : sceneR M' 43 T) : RelR M' J (setG g T) := by
  obtain ⟨a1, a2, a3, a4, a5, a6, a7, a8, a9⟩ := h
  exact ⟨houseR_o a1 o (by decide), hT, textR_o a3 o (by decide), by rw [o 40 (by decide)]; exact a4, a5, histR_o a6 o (by decide), imgR_o a7 o (by decide), seenR_o a8 o (by decide), bookR_o a9 o (by decide)⟩
theorem take_get {α : Type} {l : List α} {n j : Nat} {S : α} (h : (l.take n)[j]? = some S) : j < n ∧ l[j]? = some S := by
  rw [List.getElem?_take] at h
  split at h
  · exact ⟨by assumption, h⟩
  · cases h
section HIST
variable {sh : xSh} {L : Nat} {M : Mem} {J : Nat → Nat → Int64} {g : Gh}
theorem c_Rcopies {a0 n0 a1 n1 i j n : Nat} (h0 : sh.2.2.1 a0 = (11, n0)) (h1 : sh.2.2.1 a1 = (11, n1)) (hne : a0 ≠ a1) (hi : i + n ≤ n0) (hj : j + n ≤ n1) (b0 : n0 ≤ 2000) (b1 : n1 ≤ 2000) : ev (136, 0, [.ref a0, .int (nI i), .ref a1, .int (nI j), .int (nI n), .null], [], (sh, M, J)) = some (none, (sh, xcp M a0 i a1 j n, J)) := by
  rw [b_R_copies_0]
  have h := loop_inv (E := fun k (_ : Unit) => ev (136, 3, [.ref a0, .int (nI i), .ref a1, .int (nI j), .int (nI n), .int (nI k)], [], (sh, xcp M a0 i a1 j k, J))) (R := some (none, (sh, xcp M a0 i a1 j n, J))) (fun _ _ => True) (n := n) ?_ ?_ n 0 () (by omega) trivial
  · rw [xcp_0] at h
    exact h
  · intro _ _
    rw [b_R_copies_3]
    simp (disch := omega) only [li_0, li_1, li_2, li_3, li_4, li_5, li_6, li_7, li_8, li_9, li_10, li_11, li_12, li_13, li_14, li_15, li_16, li_17, li_18, li_19, li_20, li_21, li_22, li_23, li_24, li_25, li_26, li_27, li_28, li_29, li_30, li_31, li_32, li_33, li_34, li_35, li_36, li_37, li_38, li_39, li_40, li_41, li_42, li_43, li_44, li_45, li_46, li_47, li_48, li_49, li_50, li_51, li_52, li_53, li_54, li_55, li_56, li_57, li_58, li_59, li_60, li_61, li_62, li_63, li_99, li_100, li_107, li_124, li_126, li_240, li_255, li_256, li_1000, li_1178, li_1240, li_9000, li_65536, li_1000000, nI_add, pk_mul, nI_ltI, nI_leI, nI_eq, xin_nI, nI_clamp, decide_true, decide_false, Bool.and_true, Bool.true_and, Bool.and_false, Bool.false_and, Bool.not_true, Bool.not_false, cond_true, cond_false, Option.bind_some, Option.toList_some, Option.toList_none, List.cons_append, List.nil_append, List.append_nil, Nat.not_lt_zero, Nat.zero_le, Nat.le_refl, Nat.lt_irrefl, Nat.reduceLT, Nat.reduceLeDiff, Nat.reduceEqDiff, Nat.reduceAdd, Nat.reduceMul, Bool.toNat_true, Bool.toNat_false, Nat.add_zero, Nat.zero_add, Nat.succ_ne_zero, Nat.one_ne_zero, decide_eq_true, decide_eq_false, bb1, bb0, bbT, eq_self, reduceIte, and_self, and_true, true_and]
  · intro k _ hk _
    refine Or.inr ⟨(), ?_, trivial⟩
    have e4 : ¬ n ≤ k := by omega
    have q0 : i + k < n0 := by omega
    have q1 : j + k < n1 := by omega
    rw [b_R_copies_3]
    simp (disch := omega) only [e4, h0, h1, q0, q1, xcp_s hne, li_0, li_1, li_2, li_3, li_4, li_5, li_6, li_7, li_8, li_9, li_10, li_11, li_12, li_13, li_14, li_15, li_16, li_17, li_18, li_19, li_20, li_21, li_22, li_23, li_24, li_25, li_26, li_27, li_28, li_29, li_30, li_31, li_32, li_33, li_34, li_35, li_36, li_37, li_38, li_39, li_40, li_41, li_42, li_43, li_44, li_45, li_46, li_47, li_48, li_49, li_50, li_51, li_52, li_53, li_54, li_55, li_56, li_57, li_58, li_59, li_60, li_61, li_62, li_63, li_99, li_100, li_107, li_124, li_126, li_240, li_255, li_256, li_1000, li_1178, li_1240, li_9000, li_65536, li_1000000, nI_add, pk_mul, nI_ltI, nI_leI, nI_eq, xin_nI, nI_clamp, decide_true, decide_false, Bool.and_true, Bool.true_and, Bool.and_false, Bool.false_and, Bool.not_true, Bool.not_false, cond_true, cond_false, Option.bind_some, Option.toList_some, Option.toList_none, List.cons_append, List.nil_append, List.append_nil, Nat.not_lt_zero, Nat.zero_le, Nat.le_refl, Nat.lt_irrefl, Nat.reduceLT, Nat.reduceLeDiff, Nat.reduceEqDiff, Nat.reduceAdd, Nat.reduceMul, Bool.toNat_true, Bool.toNat_false, Nat.add_zero, Nat.zero_add, Nat.succ_ne_zero, Nat.one_ne_zero, decide_eq_true, decide_eq_false, bb1, bb0, bbT, eq_self, reduceIte, and_self, and_true, true_and]
theorem c_remember0 {len nw : Nat} (h0 : M 20 0 = nI len) (h2 : M 20 2 = nI nw) (hl : len ≤ 20) (hn : nw < 20) : ev (2, 0, [.ref 20, .ref 7], [], (xSH L, M, J)) = some (none, (xSH L, xu (xcp (xu M 20 2 (nI ((nw + 1) % 20))) 8 0 21 ((nw + 1) % 20 * 62) 62) 20 0 (nI (min (len + 1) 20)), J)) := by
  rw [b_History_remember_0]
  by_cases hw : 19 ≤ nw
  · have e1 : (nw + 1) % 20 = 0 := by omega
    rw [e1]
    simp (disch := omega) only [h2, hw, xu_at, xcp_ne (show (20 : Nat) ≠ 21 by decide), xu_off (show (0 : Nat) ≠ 2 by decide), h0, xmin_nI, Nat.zero_mul, kf_1, kf_2, kf_3, kf_4, kf_5, kf_6, kf_7, kf_8, kf_9, kf_10, kf_11, kf_12, kf_13, kf_14, kf_15, kf_16, kf_17, kf_18, kf_19, kf_20, kf_21, kf_22, kf_23, kf_24, kf_25, kf_26, kf_27, kf_28, kf_29, kf_30, kf_31, kf_32, kf_33, kf_34, kf_35, kf_36, kf_37, kf_38, kf_39, kf_40, kf_41, kf_42, kf_43, kf_44, kf_45, kf_46, kf_47, kf_48, kf_49, kf_50, kf_51, kf_52, kf_53, kf_54, rf_1_0, rf_1_1, rf_1_2, rf_1_3, rf_1_4, rf_1_5, rf_1_6, rf_1_7, rf_1_8, rf_2_3, rf_2_4, rf_2_5, rf_2_6, rf_7_0, rf_9_0, rf_11_0, rf_11_1, rf_11_4, rf_12_3, rf_12_4, rf_12_5, rf_12_6, rf_17_0, rf_20_1, rf_22_0, rf_22_1, rf_25_2, rf_25_3, rf_25_4, rf_25_5, rf_30_1, rf_30_2, rf_30_3, rf_30_4, rf_34_0, rf_36_0, rf_36_1, rf_36_2, rf_40_0, rf_40_1, rf_40_2, rf_40_3, rf_40_4, rf_40_6, rf_40_7, rf_40_9, rf_40_12, rf_40_14, rf_40_22, rf_40_23, rf_40_24, rf_40_25, li_0, li_1, li_2, li_3, li_4, li_5, li_6, li_7, li_8, li_9, li_10, li_11, li_12, li_13, li_14, li_15, li_16, li_17, li_18, li_19, li_20, li_21, li_22, li_23, li_24, li_25, li_26, li_27, li_28, li_29, li_30, li_31, li_32, li_33, li_34, li_35, li_36, li_37, li_38, li_39, li_40, li_41, li_42, li_43, li_44, li_45, li_46, li_47, li_48, li_49, li_50, li_51, li_52, li_53, li_54, li_55, li_56, li_57, li_58, li_59, li_60, li_61, li_62, li_63, li_99, li_100, li_107, li_124, li_126, li_240, li_255, li_256, li_1000, li_1178, li_1240, li_9000, li_65536, li_1000000, nI_add, pk_mul, nI_ltI, nI_leI, nI_eq, xin_nI, nI_clamp, decide_true, decide_false, Bool.and_true, Bool.true_and, Bool.and_false, Bool.false_and, Bool.not_true, Bool.not_false, cond_true, cond_false, Option.bind_some, Option.toList_some, Option.toList_none, List.cons_append, List.nil_append, List.append_nil, Nat.not_lt_zero, Nat.zero_le, Nat.le_refl, Nat.lt_irrefl, Nat.reduceLT, Nat.reduceLeDiff, Nat.reduceEqDiff, Nat.reduceAdd, Nat.reduceMul, Bool.toNat_true, Bool.toNat_false, Nat.add_zero, Nat.zero_add, Nat.succ_ne_zero, Nat.one_ne_zero, decide_eq_true, decide_eq_false, bb1, bb0, bbT, eq_self, reduceIte, and_self, and_true, true_and]
  · have e1 : (nw + 1) % 20 = nw + 1 := by omega
    have e2 : (nw + 1) * 62 + 62 ≤ 1240 := by omega
    rw [e1]
    simp (disch := omega) only [h2, hw, e2, xu_at, xcp_ne (show (20 : Nat) ≠ 21 by decide), xu_off (show (0 : Nat) ≠ 2 by decide), h0, xmin_nI, kf_1, kf_2, kf_3, kf_4, kf_5, kf_6, kf_7, kf_8, kf_9, kf_10, kf_11, kf_12, kf_13, kf_14, kf_15, kf_16, kf_17, kf_18, kf_19, kf_20, kf_21, kf_22, kf_23, kf_24, kf_25, kf_26, kf_27, kf_28, kf_29, kf_30, kf_31, kf_32, kf_33, kf_34, kf_35, kf_36, kf_37, kf_38, kf_39, kf_40, kf_41, kf_42, kf_43, kf_44, kf_45, kf_46, kf_47, kf_48, kf_49, kf_50, kf_51, kf_52, kf_53, kf_54, rf_1_0, rf_1_1, rf_1_2, rf_1_3, rf_1_4, rf_1_5, rf_1_6, rf_1_7, rf_1_8, rf_2_3, rf_2_4, rf_2_5, rf_2_6, rf_7_0, rf_9_0, rf_11_0, rf_11_1, rf_11_4, rf_12_3, rf_12_4, rf_12_5, rf_12_6, rf_17_0, rf_20_1, rf_22_0, rf_22_1, rf_25_2, rf_25_3, rf_25_4, rf_25_5, rf_30_1, rf_30_2, rf_30_3, rf_30_4, rf_34_0, rf_36_0, rf_36_1, rf_36_2, rf_40_0, rf_40_1, rf_40_2, rf_40_3, rf_40_4, rf_40_6, rf_40_7, rf_40_9, rf_40_12, rf_40_14, rf_40_22, rf_40_23, rf_40_24, rf_40_25, li_0, li_1, li_2, li_3, li_4, li_5, li_6, li_7, li_8, li_9, li_10, li_11, li_12, li_13, li_14, li_15, li_16, li_17, li_18, li_19, li_20, li_21, li_22, li_23, li_24, li_25, li_26, li_27, li_28, li_29, li_30, li_31, li_32, li_33, li_34, li_35, li_36, li_37, li_38, li_39, li_40, li_41, li_42, li_43, li_44, li_45, li_46, li_47, li_48, li_49, li_50, li_51, li_52, li_53, li_54, li_55, li_56, li_57, li_58, li_59, li_60, li_61, li_62, li_63, li_99, li_100, li_107, li_124, li_126, li_240, li_255, li_256, li_1000, li_1178, li_1240, li_9000, li_65536, li_1000000, nI_add, pk_mul, nI_ltI, nI_leI, nI_eq, xin_nI, nI_clamp, decide_true, decide_false, Bool.and_true, Bool.true_and, Bool.and_false, Bool.false_and, Bool.not_true, Bool.not_false, cond_true, cond_false, Option.bind_some, Option.toList_some, Option.toList_none, List.cons_append, List.nil_append, List.append_nil, Nat.not_lt_zero, Nat.zero_le, Nat.le_refl, Nat.lt_irrefl, Nat.reduceLT, Nat.reduceLeDiff, Nat.reduceEqDiff, Nat.reduceAdd, Nat.reduceMul, Bool.toNat_true, Bool.toNat_false, Nat.add_zero, Nat.zero_add, Nat.succ_ne_zero, Nat.one_ne_zero, decide_eq_true, decide_eq_false, bb1, bb0, bbT, eq_self, reduceIte, and_self, and_true, true_and]
theorem c_remember (hM : RelC M g) (hg : gOk g) : ∃ M', ev (2, 0, [.ref 20, .ref 7], [], (xSH L, M, J)) = some (none, (xSH L, M', J)) ∧ RelC M' (remG g (gT g)) ∧ onlyL M M' [20, 21] := by
  obtain ⟨a1, a2, a3, a4, a5, ⟨h0, nw, hn, h2, h3⟩, a7, a8, a9⟩ := hM
  refine ⟨_, c_remember0 h0 h2 hg.2.2.2.2.2.1.1 hn, ?_⟩
  have o : onlyL M (xu (xcp (xu M 20 2 (nI ((nw + 1) % 20))) 8 0 21 ((nw + 1) % 20 * 62) 62) 20 0 (nI (min ((ghi g).length + 1) 20))) [20, 21] := by
    refine onlyL_xu (fun a ha => ?_) (by decide)
    rw [xcp_ne (fun q => ha (by rw [q]; decide)), xu_ne (fun q => ha (by rw [q]; decide))]
  refine ⟨⟨houseC_l a1 o (by decide), sceneC_l a2 o (by decide), textC_l a3 o (by decide), by rw [o 1 (by decide)]; exact a4, by rw [o 1 (by decide)]; exact a5, ⟨?_, (nw + 1) % 20, Nat.mod_lt _ (by decide), ?_, fun j S hS => ?_⟩, imgC_l a7 o (by decide), seenC_l a8 o (by decide), bookC_l a9 o (by decide)⟩, o⟩
  · rw [xu_at]
    show _ = nI ((gT g :: ghi g).take 20).length
    rw [List.length_take, List.length_cons, Nat.min_comm]
  · rw [xu_off (by decide), xcp_ne (by decide), xu_at]
  · obtain ⟨hj, hS⟩ := take_get hS
    rw [xu_ne (by decide)]
    cases j with
    | zero =>
      simp only [List.getElem?_cons_zero, Option.some.injEq] at hS
      subst hS
      refine scC_cong (f := M 8) (fun k hk => ?_) a2
      rw [show 62 * (((nw + 1) % 20 + 20 - 0) % 20) + k = (nw + 1) % 20 * 62 + k by omega, xcp_in hk, Nat.zero_add, xu_ne (by decide)]
    | succ j =>
      rw [List.getElem?_cons_succ] at hS
      refine scC_cong (fun k hk => ?_) (h3 j S hS)
      have e1 : ((nw + 1) % 20 + 20 - (j + 1)) % 20 = (nw + 20 - j) % 20 := by omega
      have e2 : (nw + 20 - j) % 20 ≠ (nw + 1) % 20 := by omega
      rw [e1, xcp_out (by omega), xu_ne (by decide)]
def shf (M : Mem) (k : Nat) : Mem := fun a i => if a = 45 ∧ i < k then M 45 (i + 62) else M a i
theorem shf_ne {k a : Nat} (h : a ≠ 45) : shf M k a = M a := by
  funext i
  unfold shf
  rw [if_neg (fun q => h q.1)]
theorem shf_in {k i : Nat} (h : i < k) : shf M k 45 i = M 45 (i + 62) := by unfold shf; rw [if_pos ⟨rfl, h⟩]
theorem shf_out {k i : Nat} (h : k ≤ i) : shf M k 45 i = M 45 i := by unfold shf; rw [if_neg (by omega)]
theorem shf_0 : shf M 0 = M := by
  funext a i
  unfold shf
  rw [if_neg (by omega)]
theorem shf_s {k : Nat} : xu (shf M k) 45 k (shf M k 45 (k + 62)) = shf M (k + 1) := by
  rw [shf_out (by omega)]
  funext a i
  unfold xu shf
  by_cases ha : a = 45
  · subst ha
    by_cases hi : i = k
    · subst hi; rw [if_pos ⟨rfl, rfl⟩, if_pos ⟨rfl, by omega⟩]
    · rw [if_neg (fun q => hi q.2)]
      by_cases hk : i < k
      · rw [if_pos ⟨rfl, hk⟩, if_pos ⟨rfl, by omega⟩]
      · rw [if_neg (by omega), if_neg (by omega)]
  · rw [if_neg (fun q => ha q.1), if_neg (fun q => ha q.1), if_neg (fun q => ha q.1)]
theorem c_Rremember (hM : RelR M J g) (hg : gOk g) : ∃ M', ev (168, 0, [.ref 40, .null], [], (xSH L, M, J)) = some (none, (xSH L, M', J)) ∧ RelR M' J (remG g (gT g)) ∧ onlyL M M' [40, 45] := by
  obtain ⟨a1, a2, a3, a4, a5, ⟨h0, h3⟩, a7, a8, a9⟩ := hM
  have hl := hg.2.2.2.2.2.1.1
  by_cases h20 : (ghi g).length = 20
  · have hcp := fun {J : Nat → Nat → Int64} {M : Mem} => c_Rcopies (sh := xSH L) (M := M) (J := J) (i := 0) (j := 1178) (n := 62) (kf_43 L) (kf_45 L) (by decide) (by decide) (by decide) (by decide) (by decide)
    have loop : ev (168, 11, [.ref 40, .int (nI 0)], [], (xSH L, M, J)) = some (none, (xSH L, xu (xcp (xu (shf M 1178) 40 5 (nI 19)) 43 0 45 1178 62) 40 5 (nI 20), J)) := by
      have h := loop_inv (E := fun k (_ : Unit) => ev (168, 11, [.ref 40, .int (nI k)], [], (xSH L, shf M k, J))) (R := some (none, (xSH L, xu (xcp (xu (shf M 1178) 40 5 (nI 19)) 43 0 45 1178 62) 40 5 (nI 20), J))) (fun _ _ => True) (n := 1178) ?_ ?_ 1178 0 () (by omega) trivial
      · rw [shf_0] at h
        exact h
      · intro _ _
        have e1 : nI 20 - nI 1 = nI 19 := by decide
        rw [b_R_remember_11]
        simp (disch := omega) only [shf_ne (show (40 : Nat) ≠ 45 by decide), h0, h20, e1, xu_at, hcp, b_R_remember_70, xcp_ne (show (40 : Nat) ≠ 45 by decide), kf_1, kf_2, kf_3, kf_4, kf_5, kf_6, kf_7, kf_8, kf_9, kf_10, kf_11, kf_12, kf_13, kf_14, kf_15, kf_16, kf_17, kf_18, kf_19, kf_20, kf_21, kf_22, kf_23, kf_24, kf_25, kf_26, kf_27, kf_28, kf_29, kf_30, kf_31, kf_32, kf_33, kf_34, kf_35, kf_36, kf_37, kf_38, kf_39, kf_40, kf_41, kf_42, kf_43, kf_44, kf_45, kf_46, kf_47, kf_48, kf_49, kf_50, kf_51, kf_52, kf_53, kf_54, rf_1_0, rf_1_1, rf_1_2, rf_1_3, rf_1_4, rf_1_5, rf_1_6, rf_1_7, rf_1_8, rf_2_3, rf_2_4, rf_2_5, rf_2_6, rf_7_0, rf_9_0, rf_11_0, rf_11_1, rf_11_4, rf_12_3, rf_12_4, rf_12_5, rf_12_6, rf_17_0, rf_20_1, rf_22_0, rf_22_1, rf_25_2, rf_25_3, rf_25_4, rf_25_5, rf_30_1, rf_30_2, rf_30_3, rf_30_4, rf_34_0, rf_36_0, rf_36_1, rf_36_2, rf_40_0, rf_40_1, rf_40_2, rf_40_3, rf_40_4, rf_40_6, rf_40_7, rf_40_9, rf_40_12, rf_40_14, rf_40_22, rf_40_23, rf_40_24, rf_40_25, li_0, li_1, li_2, li_3, li_4, li_5, li_6, li_7, li_8, li_9, li_10, li_11, li_12, li_13, li_14, li_15, li_16, li_17, li_18, li_19, li_20, li_21, li_22, li_23, li_24, li_25, li_26, li_27, li_28, li_29, li_30, li_31, li_32, li_33, li_34, li_35, li_36, li_37, li_38, li_39, li_40, li_41, li_42, li_43, li_44, li_45, li_46, li_47, li_48, li_49, li_50, li_51, li_52, li_53, li_54, li_55, li_56, li_57, li_58, li_59, li_60, li_61, li_62, li_63, li_99, li_100, li_107, li_124, li_126, li_240, li_255, li_256, li_1000, li_1178, li_1240, li_9000, li_65536, li_1000000, nI_add, pk_mul, nI_ltI, nI_leI, nI_eq, xin_nI, nI_clamp, decide_true, decide_false, Bool.and_true, Bool.true_and, Bool.and_false, Bool.false_and, Bool.not_true, Bool.not_false, cond_true, cond_false, Option.bind_some, Option.toList_some, Option.toList_none, List.cons_append, List.nil_append, List.append_nil, Nat.not_lt_zero, Nat.zero_le, Nat.le_refl, Nat.lt_irrefl, Nat.reduceLT, Nat.reduceLeDiff, Nat.reduceEqDiff, Nat.reduceAdd, Nat.reduceMul, Bool.toNat_true, Bool.toNat_false, Nat.add_zero, Nat.zero_add, Nat.succ_ne_zero, Nat.one_ne_zero, decide_eq_true, decide_eq_false, bb1, bb0, bbT, eq_self, reduceIte, and_self, and_true, true_and]
      · intro k _ hk _
        refine Or.inr ⟨(), ?_, trivial⟩
        have e4 : ¬ 1178 ≤ k := by omega
        have q0 : k + 62 < 1240 := by omega
        have q1 : k < 1240 := by omega
        rw [b_R_remember_11]
        simp (disch := omega) only [e4, q0, q1, shf_s, kf_1, kf_2, kf_3, kf_4, kf_5, kf_6, kf_7, kf_8, kf_9, kf_10, kf_11, kf_12, kf_13, kf_14, kf_15, kf_16, kf_17, kf_18, kf_19, kf_20, kf_21, kf_22, kf_23, kf_24, kf_25, kf_26, kf_27, kf_28, kf_29, kf_30, kf_31, kf_32, kf_33, kf_34, kf_35, kf_36, kf_37, kf_38, kf_39, kf_40, kf_41, kf_42, kf_43, kf_44, kf_45, kf_46, kf_47, kf_48, kf_49, kf_50, kf_51, kf_52, kf_53, kf_54, rf_1_0, rf_1_1, rf_1_2, rf_1_3, rf_1_4, rf_1_5, rf_1_6, rf_1_7, rf_1_8, rf_2_3, rf_2_4, rf_2_5, rf_2_6, rf_7_0, rf_9_0, rf_11_0, rf_11_1, rf_11_4, rf_12_3, rf_12_4, rf_12_5, rf_12_6, rf_17_0, rf_20_1, rf_22_0, rf_22_1, rf_25_2, rf_25_3, rf_25_4, rf_25_5, rf_30_1, rf_30_2, rf_30_3, rf_30_4, rf_34_0, rf_36_0, rf_36_1, rf_36_2, rf_40_0, rf_40_1, rf_40_2, rf_40_3, rf_40_4, rf_40_6, rf_40_7, rf_40_9, rf_40_12, rf_40_14, rf_40_22, rf_40_23, rf_40_24, rf_40_25, li_0, li_1, li_2, li_3, li_4, li_5, li_6, li_7, li_8, li_9, li_10, li_11, li_12, li_13, li_14, li_15, li_16, li_17, li_18, li_19, li_20, li_21, li_22, li_23, li_24, li_25, li_26, li_27, li_28, li_29, li_30, li_31, li_32, li_33, li_34, li_35, li_36, li_37, li_38, li_39, li_40, li_41, li_42, li_43, li_44, li_45, li_46, li_47, li_48, li_49, li_50, li_51, li_52, li_53, li_54, li_55, li_56, li_57, li_58, li_59, li_60, li_61, li_62, li_63, li_99, li_100, li_107, li_124, li_126, li_240, li_255, li_256, li_1000, li_1178, li_1240, li_9000, li_65536, li_1000000, nI_add, pk_mul, nI_ltI, nI_leI, nI_eq, xin_nI, nI_clamp, decide_true, decide_false, Bool.and_true, Bool.true_and, Bool.and_false, Bool.false_and, Bool.not_true, Bool.not_false, cond_true, cond_false, Option.bind_some, Option.toList_some, Option.toList_none, List.cons_append, List.nil_append, List.append_nil, Nat.not_lt_zero, Nat.zero_le, Nat.le_refl, Nat.lt_irrefl, Nat.reduceLT, Nat.reduceLeDiff, Nat.reduceEqDiff, Nat.reduceAdd, Nat.reduceMul, Bool.toNat_true, Bool.toNat_false, Nat.add_zero, Nat.zero_add, Nat.succ_ne_zero, Nat.one_ne_zero, decide_eq_true, decide_eq_false, bb1, bb0, bbT, eq_self, reduceIte, and_self, and_true, true_and]
    refine ⟨xu (xcp (xu (shf M 1178) 40 5 (nI 19)) 43 0 45 1178 62) 40 5 (nI 20), ?_, ?_⟩
    · rw [b_R_remember_0]
      simp (disch := omega) only [h0, h20, loop, kf_1, kf_2, kf_3, kf_4, kf_5, kf_6, kf_7, kf_8, kf_9, kf_10, kf_11, kf_12, kf_13, kf_14, kf_15, kf_16, kf_17, kf_18, kf_19, kf_20, kf_21, kf_22, kf_23, kf_24, kf_25, kf_26, kf_27, kf_28, kf_29, kf_30, kf_31, kf_32, kf_33, kf_34, kf_35, kf_36, kf_37, kf_38, kf_39, kf_40, kf_41, kf_42, kf_43, kf_44, kf_45, kf_46, kf_47, kf_48, kf_49, kf_50, kf_51, kf_52, kf_53, kf_54, rf_1_0, rf_1_1, rf_1_2, rf_1_3, rf_1_4, rf_1_5, rf_1_6, rf_1_7, rf_1_8, rf_2_3, rf_2_4, rf_2_5, rf_2_6, rf_7_0, rf_9_0, rf_11_0, rf_11_1, rf_11_4, rf_12_3, rf_12_4, rf_12_5, rf_12_6, rf_17_0, rf_20_1, rf_22_0, rf_22_1, rf_25_2, rf_25_3, rf_25_4, rf_25_5, rf_30_1, rf_30_2, rf_30_3, rf_30_4, rf_34_0, rf_36_0, rf_36_1, rf_36_2, rf_40_0, rf_40_1, rf_40_2, rf_40_3, rf_40_4, rf_40_6, rf_40_7, rf_40_9, rf_40_12, rf_40_14, rf_40_22, rf_40_23, rf_40_24, rf_40_25, li_0, li_1, li_2, li_3, li_4, li_5, li_6, li_7, li_8, li_9, li_10, li_11, li_12, li_13, li_14, li_15, li_16, li_17, li_18, li_19, li_20, li_21, li_22, li_23, li_24, li_25, li_26, li_27, li_28, li_29, li_30, li_31, li_32, li_33, li_34, li_35, li_36, li_37, li_38, li_39, li_40, li_41, li_42, li_43, li_44, li_45, li_46, li_47, li_48, li_49, li_50, li_51, li_52, li_53, li_54, li_55, li_56, li_57, li_58, li_59, li_60, li_61, li_62, li_63, li_99, li_100, li_107, li_124, li_126, li_240, li_255, li_256, li_1000, li_1178, li_1240, li_9000, li_65536, li_1000000, nI_add, pk_mul, nI_ltI, nI_leI, nI_eq, xin_nI, nI_clamp, decide_true, decide_false, Bool.and_true, Bool.true_and, Bool.and_false, Bool.false_and, Bool.not_true, Bool.not_false, cond_true, cond_false, Option.bind_some, Option.toList_some, Option.toList_none, List.cons_append, List.nil_append, List.append_nil, Nat.not_lt_zero, Nat.zero_le, Nat.le_refl, Nat.lt_irrefl, Nat.reduceLT, Nat.reduceLeDiff, Nat.reduceEqDiff, Nat.reduceAdd, Nat.reduceMul, Bool.toNat_true, Bool.toNat_false, Nat.add_zero, Nat.zero_add, Nat.succ_ne_zero, Nat.one_ne_zero, decide_eq_true, decide_eq_false, bb1, bb0, bbT, eq_self, reduceIte, and_self, and_true, true_and]
    · have o : onlyL M (xu (xcp (xu (shf M 1178) 40 5 (nI 19)) 43 0 45 1178 62) 40 5 (nI 20)) [40, 45] := by
        refine onlyL_xu (fun a ha => ?_) (by decide)
        rw [xcp_ne (fun q => ha (by rw [q]; decide)), xu_ne (fun q => ha (by rw [q]; decide)), shf_ne (fun q => ha (by rw [q]; decide))]
      have hf : ∀ k, k ≠ 5 → xu (xcp (xu (shf M 1178) 40 5 (nI 19)) 43 0 45 1178 62) 40 5 (nI 20) 40 k = M 40 k := fun k hk => by rw [xu_off hk, xcp_ne (by decide), xu_off hk, shf_ne (by decide)]
      have hlen : ((gT g :: ghi g).take 20).length = 20 := by rw [List.length_take, List.length_cons, h20]; rfl
      refine ⟨⟨houseR_l a1 o (by decide), sceneR_l a2 o (by decide), textR_l a3 o (by decide) (hf _ (by decide)), (hf _ (by decide)).trans a4, a5, ⟨?_, fun j S hS => ?_⟩, imgR_l a7 o (by decide), seenR_l a8 o (by decide) (hf _ (by decide)), bookR_l a9 o (by decide) (hf _ (by decide))⟩, o⟩
      · rw [xu_at]
        show _ = nI ((gT g :: ghi g).take 20).length
        rw [hlen]
      · have hS' : ((gT g :: ghi g).take 20)[j]? = some S := hS
        obtain ⟨hj, hS'⟩ := take_get hS'
        rw [xu_ne (by decide)]
        show scR (fun k => xcp (xu (shf M 1178) 40 5 (nI 19)) 43 0 45 1178 62 45 (62 * (((gT g :: ghi g).take 20).length - 1 - j) + k)) S
        rw [hlen]
        cases j with
        | zero =>
          simp only [List.getElem?_cons_zero, Option.some.injEq] at hS'
          subst hS'
          refine scR_cong (f := M 43) (fun k hk => ?_) a2
          rw [show 62 * (20 - 1 - 0) + k = 1178 + k by omega, xcp_in hk, Nat.zero_add, xu_ne (by decide), shf_ne (by decide)]
        | succ j =>
          rw [List.getElem?_cons_succ] at hS'
          refine scR_cong (fun k hk => ?_) (h3 j S hS')
          rw [xcp_out (by omega), xu_ne (by decide), shf_in (by omega), h20]
          rw [show 62 * (20 - 1 - (j + 1)) + k + 62 = 62 * (20 - 1 - j) + k by omega]
  · have hlt : (ghi g).length < 20 := by omega
    have hcp := fun {J : Nat → Nat → Int64} {M : Mem} => c_Rcopies (sh := xSH L) (M := M) (J := J) (i := 0) (j := 62 * (ghi g).length) (n := 62) (kf_43 L) (kf_45 L) (by decide) (by decide) (by omega) (by decide) (by decide)
    refine ⟨xu (xcp M 43 0 45 (62 * (ghi g).length) 62) 40 5 (nI ((ghi g).length + 1)), ?_, ?_⟩
    · rw [b_R_remember_0]
      generalize (ghi g).length = n at *
      simp (disch := omega) only [h0, h20, hcp, b_R_remember_70, xcp_ne (show (40 : Nat) ≠ 45 by decide), kf_1, kf_2, kf_3, kf_4, kf_5, kf_6, kf_7, kf_8, kf_9, kf_10, kf_11, kf_12, kf_13, kf_14, kf_15, kf_16, kf_17, kf_18, kf_19, kf_20, kf_21, kf_22, kf_23, kf_24, kf_25, kf_26, kf_27, kf_28, kf_29, kf_30, kf_31, kf_32, kf_33, kf_34, kf_35, kf_36, kf_37, kf_38, kf_39, kf_40, kf_41, kf_42, kf_43, kf_44, kf_45, kf_46, kf_47, kf_48, kf_49, kf_50, kf_51, kf_52, kf_53, kf_54, rf_1_0, rf_1_1, rf_1_2, rf_1_3, rf_1_4, rf_1_5, rf_1_6, rf_1_7, rf_1_8, rf_2_3, rf_2_4, rf_2_5, rf_2_6, rf_7_0, rf_9_0, rf_11_0, rf_11_1, rf_11_4, rf_12_3, rf_12_4, rf_12_5, rf_12_6, rf_17_0, rf_20_1, rf_22_0, rf_22_1, rf_25_2, rf_25_3, rf_25_4, rf_25_5, rf_30_1, rf_30_2, rf_30_3, rf_30_4, rf_34_0, rf_36_0, rf_36_1, rf_36_2, rf_40_0, rf_40_1, rf_40_2, rf_40_3, rf_40_4, rf_40_6, rf_40_7, rf_40_9, rf_40_12, rf_40_14, rf_40_22, rf_40_23, rf_40_24, rf_40_25, li_0, li_1, li_2, li_3, li_4, li_5, li_6, li_7, li_8, li_9, li_10, li_11, li_12, li_13, li_14, li_15, li_16, li_17, li_18, li_19, li_20, li_21, li_22, li_23, li_24, li_25, li_26, li_27, li_28, li_29, li_30, li_31, li_32, li_33, li_34, li_35, li_36, li_37, li_38, li_39, li_40, li_41, li_42, li_43, li_44, li_45, li_46, li_47, li_48, li_49, li_50, li_51, li_52, li_53, li_54, li_55, li_56, li_57, li_58, li_59, li_60, li_61, li_62, li_63, li_99, li_100, li_107, li_124, li_126, li_240, li_255, li_256, li_1000, li_1178, li_1240, li_9000, li_65536, li_1000000, nI_add, pk_mul, nI_ltI, nI_leI, nI_eq, xin_nI, nI_clamp, decide_true, decide_false, Bool.and_true, Bool.true_and, Bool.and_false, Bool.false_and, Bool.not_true, Bool.not_false, cond_true, cond_false, Option.bind_some, Option.toList_some, Option.toList_none, List.cons_append, List.nil_append, List.append_nil, Nat.not_lt_zero, Nat.zero_le, Nat.le_refl, Nat.lt_irrefl, Nat.reduceLT, Nat.reduceLeDiff, Nat.reduceEqDiff, Nat.reduceAdd, Nat.reduceMul, Bool.toNat_true, Bool.toNat_false, Nat.add_zero, Nat.zero_add, Nat.succ_ne_zero, Nat.one_ne_zero, decide_eq_true, decide_eq_false, bb1, bb0, bbT, eq_self, reduceIte, and_self, and_true, true_and]
    · have o : onlyL M (xu (xcp M 43 0 45 (62 * (ghi g).length) 62) 40 5 (nI ((ghi g).length + 1))) [40, 45] := by
        refine onlyL_xu (fun a ha => ?_) (by decide)
        rw [xcp_ne (fun q => ha (by rw [q]; decide))]
      have hf : ∀ k, k ≠ 5 → xu (xcp M 43 0 45 (62 * (ghi g).length) 62) 40 5 (nI ((ghi g).length + 1)) 40 k = M 40 k := fun k hk => by rw [xu_off hk, xcp_ne (by decide)]
      have hlen : ((gT g :: ghi g).take 20).length = (ghi g).length + 1 := by rw [List.length_take, List.length_cons]; omega
      refine ⟨⟨houseR_l a1 o (by decide), sceneR_l a2 o (by decide), textR_l a3 o (by decide) (hf _ (by decide)), (hf _ (by decide)).trans a4, a5, ⟨?_, fun j S hS => ?_⟩, imgR_l a7 o (by decide), seenR_l a8 o (by decide) (hf _ (by decide)), bookR_l a9 o (by decide) (hf _ (by decide))⟩, o⟩
      · rw [xu_at]
        show _ = nI ((gT g :: ghi g).take 20).length
        rw [hlen]
      · have hS' : ((gT g :: ghi g).take 20)[j]? = some S := hS
        obtain ⟨hj, hS'⟩ := take_get hS'
        rw [xu_ne (by decide)]
        show scR (fun k => xcp M 43 0 45 (62 * (ghi g).length) 62 45 (62 * (((gT g :: ghi g).take 20).length - 1 - j) + k)) S
        rw [hlen]
        cases j with
        | zero =>
          simp only [List.getElem?_cons_zero, Option.some.injEq] at hS'
          subst hS'
          refine scR_cong (f := M 43) (fun k hk => ?_) a2
          rw [show 62 * ((ghi g).length + 1 - 1 - 0) + k = 62 * (ghi g).length + k by omega, xcp_in hk, Nat.zero_add]
        | succ j =>
          rw [List.getElem?_cons_succ] at hS'
          have hjl := get_lt hS'
          refine scR_cong (fun k hk => ?_) (h3 j S hS')
          rw [xcp_out (by omega)]
          rw [show (ghi g).length + 1 - 1 - (j + 1) = (ghi g).length - 1 - j by omega]
end HIST
