/-! ===== what the cells mean: a house, a scene ===== -/
/-- W, G, A, weights, likings, minutes, heights -/
abbrev Ho : Type := Nat × Nat × Nat × (Nat → Nat) × (Nat → Nat) × (Nat → Nat) × (Nat → Nat)
/-- holes, cloth, column, on, pieces, patches, bared, nights -/
abbrev Sc : Type := Nat × (Nat → Nat) × (Nat → Nat) × (Nat → Nat) × (Nat → Nat) × (Nat → Int32) × (Nat → Int32) × Int32
abbrev Mem : Type := Nat → Nat → Int32
abbrev hW (H : Ho) : Nat := H.1
abbrev hG (H : Ho) : Nat := H.2.1
abbrev hA (H : Ho) : Nat := H.2.2.1
abbrev hwt (H : Ho) : Nat → Nat := H.2.2.2.1
abbrev hlk (H : Ho) : Nat → Nat := H.2.2.2.2.1
abbrev hmn (H : Ho) : Nat → Nat := H.2.2.2.2.2.1
abbrev hht (H : Ho) : Nat → Nat := H.2.2.2.2.2.2
abbrev sH (T : Sc) : Nat := T.1
abbrev sK (T : Sc) : Nat → Nat := T.2.1
abbrev sX (T : Sc) : Nat → Nat := T.2.2.1
abbrev sO (T : Sc) : Nat → Nat := T.2.2.2.1
abbrev sP (T : Sc) : Nat → Nat := T.2.2.2.2.1
abbrev sQ (T : Sc) : Nat → Int32 := T.2.2.2.2.2.1
abbrev sB (T : Sc) : Nat → Int32 := T.2.2.2.2.2.2.1
abbrev sN (T : Sc) : Int32 := T.2.2.2.2.2.2.2
def hoOk (H : Ho) : Prop := hW H ≤ 5 ∧ hG H ≤ 4 ∧ hA H ≤ 5 ∧ (hW H = 0 ↔ hG H = 0) ∧ (hW H = 0 → hA H = 0) ∧ (∀ k, k < 5 → hwt H k ≤ 99 ∧ hlk H k ≤ 9 ∧ hmn H k ≤ 60 ∧ 1 ≤ hmn H k) ∧ ∀ a, a < 5 → hht H a ≤ 4
def scOk (H : Ho) (T : Sc) : Prop := sH T < 2 ^ (hW H * hG H) ∧ (∀ c, c < 20 → sK T c < 5) ∧ (∀ a, a < 5 → sX T a < 5 ∧ sO T a < 5 ∧ sP T a ≤ 9) ∧ ∀ a, a < hA H → sX T a < hW H
def houseC (M : Mem) (h aw al am ah : Nat) (H : Ho) : Prop := M h 0 = nI (hW H) ∧ M h 1 = nI (hG H) ∧ M h 2 = nI (hA H) ∧ ∀ k, k < 5 → M aw k = nI (hwt H k) ∧ M al k = nI (hlk H k) ∧ M am k = nI (hmn H k) ∧ M ah k = nI (hht H k)
def houseR (M : Mem) (r : Nat) (H : Ho) : Prop := M r 0 = nI (hW H) ∧ M r 1 = nI (hG H) ∧ M r 2 = nI (hA H) ∧ ∀ k, k < 5 → M r (5 + k) = nI (hwt H k) ∧ M r (10 + k) = nI (hlk H k) ∧ M r (15 + k) = nI (hmn H k) ∧ M r (20 + k) = nI (hht H k)
def sceneC (M : Mem) (r : Nat) (T : Sc) : Prop := M r 0 = nI (sH T) ∧ M r 1 = sN T ∧ (∀ c, c < 20 → M r (2 + c) = nI (sK T c) ∧ M r (22 + c) = sQ T c) ∧ ∀ a, a < 5 → M r (42 + a) = nI (sX T a) ∧ M r (47 + a) = nI (sO T a) ∧ M r (52 + a) = nI (sP T a) ∧ M r (57 + a) = sB T a
def sceneR (M : Mem) (r : Nat) (T : Sc) : Prop := M r 20 = nI (sH T) ∧ M r 61 = sN T ∧ (∀ c, c < 20 → M r (0 + c) = nI (sK T c) ∧ M r (21 + c) = sQ T c) ∧ ∀ a, a < 5 → M r (41 + a) = nI (sX T a) ∧ M r (46 + a) = nI (sO T a) ∧ M r (51 + a) = nI (sP T a) ∧ M r (56 + a) = sB T a
/-- an object of class House, its rows -/
def isHouse (sh : xSh) (h aw al am ah : Nat) : Prop := sh.2.2.1 h = (1, 0) ∧ sh.2.2.2 h 3 = aw ∧ sh.2.2.2 h 4 = al ∧ sh.2.2.2 h 5 = am ∧ sh.2.2.2 h 6 = ah ∧ sh.2.2.1 aw = (11, 5) ∧ sh.2.2.1 al = (11, 5) ∧ sh.2.2.1 am = (11, 5) ∧ sh.2.2.1 ah = (11, 5)
def isScene (sh : xSh) (t r : Nat) : Prop := sh.2.2.1 t = (6, 0) ∧ sh.2.2.2 t 0 = r ∧ sh.2.2.1 r = (11, 62)
theorem hs2 (L : Nat) : isHouse (xSH L) 2 3 4 5 6 := ⟨rfl, rfl, rfl, rfl, rfl, rfl, rfl, rfl, rfl⟩
theorem hs12 (L : Nat) : isHouse (xSH L) 12 13 14 15 16 := ⟨rfl, rfl, rfl, rfl, rfl, rfl, rfl, rfl, rfl⟩
theorem sc7 (L : Nat) : isScene (xSH L) 7 8 := ⟨rfl, rfl, rfl⟩
theorem sc9 (L : Nat) : isScene (xSH L) 9 10 := ⟨rfl, rfl, rfl⟩
theorem sc17 (L : Nat) : isScene (xSH L) 17 18 := ⟨rfl, rfl, rfl⟩
theorem sc34 (L : Nat) : isScene (xSH L) 34 35 := ⟨rfl, rfl, rfl⟩
/-! ===== the class's small methods ===== -/
section SMALL
variable {sh : xSh} {t r h aw al am ah : Nat} {M : Mem} {J : Nat → Nat → Int64}
theorem c_holes (hS : isScene sh t r) : ev (59, 0, [.ref t], [], (sh, M, J)) = some (some (.int (M r 0)), (sh, M, J)) := by
  obtain ⟨h1, h2, h3⟩ := hS
  simp (disch := omega) only [b_Scene_holes_0, h1, h2, h3, li_0, li_1, li_2, li_3, li_4, li_5, li_6, li_8, li_9, li_10, li_12, li_15, li_16, li_19, li_20, li_21, li_22, li_25, li_30, li_31, li_32, li_35, li_40, li_41, li_42, li_46, li_47, li_48, li_50, li_51, li_52, li_56, li_57, li_59, li_60, li_61, li_62, li_63, li_99, li_100, li_107, li_124, li_126, li_240, li_255, li_256, li_1000, li_1178, li_1240, li_9000, li_65536, li_1000000, nI_add, pk_mul, nI_ltI, nI_leI, nI_eq, xin_nI, nI_clamp, decide_true, decide_false, Bool.and_true, Bool.true_and, Bool.and_false, Bool.false_and, Bool.not_true, Bool.not_false, cond_true, cond_false, Option.bind_some, Option.toList_some, Option.toList_none, List.cons_append, List.nil_append, List.append_nil, Nat.not_lt_zero, Nat.zero_le, Nat.le_refl, Nat.lt_irrefl, Nat.reduceLT, Nat.reduceLeDiff, Nat.reduceEqDiff, Nat.reduceAdd, Nat.reduceMul]
theorem c_nights (hS : isScene sh t r) : ev (60, 0, [.ref t], [], (sh, M, J)) = some (some (.int (M r 1)), (sh, M, J)) := by
  obtain ⟨h1, h2, h3⟩ := hS
  simp (disch := omega) only [b_Scene_nights_0, h1, h2, h3, li_0, li_1, li_2, li_3, li_4, li_5, li_6, li_8, li_9, li_10, li_12, li_15, li_16, li_19, li_20, li_21, li_22, li_25, li_30, li_31, li_32, li_35, li_40, li_41, li_42, li_46, li_47, li_48, li_50, li_51, li_52, li_56, li_57, li_59, li_60, li_61, li_62, li_63, li_99, li_100, li_107, li_124, li_126, li_240, li_255, li_256, li_1000, li_1178, li_1240, li_9000, li_65536, li_1000000, nI_add, pk_mul, nI_ltI, nI_leI, nI_eq, xin_nI, nI_clamp, decide_true, decide_false, Bool.and_true, Bool.true_and, Bool.and_false, Bool.false_and, Bool.not_true, Bool.not_false, cond_true, cond_false, Option.bind_some, Option.toList_some, Option.toList_none, List.cons_append, List.nil_append, List.append_nil, Nat.not_lt_zero, Nat.zero_le, Nat.le_refl, Nat.lt_irrefl, Nat.reduceLT, Nat.reduceLeDiff, Nat.reduceEqDiff, Nat.reduceAdd, Nat.reduceMul]
theorem c_clothAt (hS : isScene sh t r) {c : Nat} (hc : c < 20) : ev (61, 0, [.ref t, .int (nI c)], [], (sh, M, J)) = some (some (.int (M r (2 + c))), (sh, M, J)) := by
  obtain ⟨h1, h2, h3⟩ := hS
  have e1 : ¬ 20 ≤ c := by omega
  have e2 : 2 + c < 62 := by omega
  simp (disch := omega) only [b_Scene_clothAt_0, h1, h2, h3, e1, e2, li_0, li_1, li_2, li_3, li_4, li_5, li_6, li_8, li_9, li_10, li_12, li_15, li_16, li_19, li_20, li_21, li_22, li_25, li_30, li_31, li_32, li_35, li_40, li_41, li_42, li_46, li_47, li_48, li_50, li_51, li_52, li_56, li_57, li_59, li_60, li_61, li_62, li_63, li_99, li_100, li_107, li_124, li_126, li_240, li_255, li_256, li_1000, li_1178, li_1240, li_9000, li_65536, li_1000000, nI_add, pk_mul, nI_ltI, nI_leI, nI_eq, xin_nI, nI_clamp, decide_true, decide_false, Bool.and_true, Bool.true_and, Bool.and_false, Bool.false_and, Bool.not_true, Bool.not_false, cond_true, cond_false, Option.bind_some, Option.toList_some, Option.toList_none, List.cons_append, List.nil_append, List.append_nil, Nat.not_lt_zero, Nat.zero_le, Nat.le_refl, Nat.lt_irrefl, Nat.reduceLT, Nat.reduceLeDiff, Nat.reduceEqDiff, Nat.reduceAdd, Nat.reduceMul]
theorem c_patchesAt (hS : isScene sh t r) {c : Nat} (hc : c < 20) : ev (62, 0, [.ref t, .int (nI c)], [], (sh, M, J)) = some (some (.int (M r (22 + c))), (sh, M, J)) := by
  obtain ⟨h1, h2, h3⟩ := hS
  have e1 : ¬ 20 ≤ c := by omega
  have e2 : 22 + c < 62 := by omega
  simp (disch := omega) only [b_Scene_patchesAt_0, h1, h2, h3, e1, e2, li_0, li_1, li_2, li_3, li_4, li_5, li_6, li_8, li_9, li_10, li_12, li_15, li_16, li_19, li_20, li_21, li_22, li_25, li_30, li_31, li_32, li_35, li_40, li_41, li_42, li_46, li_47, li_48, li_50, li_51, li_52, li_56, li_57, li_59, li_60, li_61, li_62, li_63, li_99, li_100, li_107, li_124, li_126, li_240, li_255, li_256, li_1000, li_1178, li_1240, li_9000, li_65536, li_1000000, nI_add, pk_mul, nI_ltI, nI_leI, nI_eq, xin_nI, nI_clamp, decide_true, decide_false, Bool.and_true, Bool.true_and, Bool.and_false, Bool.false_and, Bool.not_true, Bool.not_false, cond_true, cond_false, Option.bind_some, Option.toList_some, Option.toList_none, List.cons_append, List.nil_append, List.append_nil, Nat.not_lt_zero, Nat.zero_le, Nat.le_refl, Nat.lt_irrefl, Nat.reduceLT, Nat.reduceLeDiff, Nat.reduceEqDiff, Nat.reduceAdd, Nat.reduceMul]
theorem c_columnOf (hS : isScene sh t r) {c : Nat} (hc : c < 5) : ev (63, 0, [.ref t, .int (nI c)], [], (sh, M, J)) = some (some (.int (M r (42 + c))), (sh, M, J)) := by
  obtain ⟨h1, h2, h3⟩ := hS
  have e1 : ¬ 5 ≤ c := by omega
  have e2 : 42 + c < 62 := by omega
  simp (disch := omega) only [b_Scene_columnOf_0, h1, h2, h3, e1, e2, li_0, li_1, li_2, li_3, li_4, li_5, li_6, li_8, li_9, li_10, li_12, li_15, li_16, li_19, li_20, li_21, li_22, li_25, li_30, li_31, li_32, li_35, li_40, li_41, li_42, li_46, li_47, li_48, li_50, li_51, li_52, li_56, li_57, li_59, li_60, li_61, li_62, li_63, li_99, li_100, li_107, li_124, li_126, li_240, li_255, li_256, li_1000, li_1178, li_1240, li_9000, li_65536, li_1000000, nI_add, pk_mul, nI_ltI, nI_leI, nI_eq, xin_nI, nI_clamp, decide_true, decide_false, Bool.and_true, Bool.true_and, Bool.and_false, Bool.false_and, Bool.not_true, Bool.not_false, cond_true, cond_false, Option.bind_some, Option.toList_some, Option.toList_none, List.cons_append, List.nil_append, List.append_nil, Nat.not_lt_zero, Nat.zero_le, Nat.le_refl, Nat.lt_irrefl, Nat.reduceLT, Nat.reduceLeDiff, Nat.reduceEqDiff, Nat.reduceAdd, Nat.reduceMul]
theorem c_wornBy (hS : isScene sh t r) {c : Nat} (hc : c < 5) : ev (64, 0, [.ref t, .int (nI c)], [], (sh, M, J)) = some (some (.int (M r (47 + c))), (sh, M, J)) := by
  obtain ⟨h1, h2, h3⟩ := hS
  have e1 : ¬ 5 ≤ c := by omega
  have e2 : 47 + c < 62 := by omega
  simp (disch := omega) only [b_Scene_wornBy_0, h1, h2, h3, e1, e2, li_0, li_1, li_2, li_3, li_4, li_5, li_6, li_8, li_9, li_10, li_12, li_15, li_16, li_19, li_20, li_21, li_22, li_25, li_30, li_31, li_32, li_35, li_40, li_41, li_42, li_46, li_47, li_48, li_50, li_51, li_52, li_56, li_57, li_59, li_60, li_61, li_62, li_63, li_99, li_100, li_107, li_124, li_126, li_240, li_255, li_256, li_1000, li_1178, li_1240, li_9000, li_65536, li_1000000, nI_add, pk_mul, nI_ltI, nI_leI, nI_eq, xin_nI, nI_clamp, decide_true, decide_false, Bool.and_true, Bool.true_and, Bool.and_false, Bool.false_and, Bool.not_true, Bool.not_false, cond_true, cond_false, Option.bind_some, Option.toList_some, Option.toList_none, List.cons_append, List.nil_append, List.append_nil, Nat.not_lt_zero, Nat.zero_le, Nat.le_refl, Nat.lt_irrefl, Nat.reduceLT, Nat.reduceLeDiff, Nat.reduceEqDiff, Nat.reduceAdd, Nat.reduceMul]
theorem c_piecesOf (hS : isScene sh t r) {c : Nat} (hc : c < 5) : ev (65, 0, [.ref t, .int (nI c)], [], (sh, M, J)) = some (some (.int (M r (52 + c))), (sh, M, J)) := by
  obtain ⟨h1, h2, h3⟩ := hS
  have e1 : ¬ 5 ≤ c := by omega
  have e2 : 52 + c < 62 := by omega
  simp (disch := omega) only [b_Scene_piecesOf_0, h1, h2, h3, e1, e2, li_0, li_1, li_2, li_3, li_4, li_5, li_6, li_8, li_9, li_10, li_12, li_15, li_16, li_19, li_20, li_21, li_22, li_25, li_30, li_31, li_32, li_35, li_40, li_41, li_42, li_46, li_47, li_48, li_50, li_51, li_52, li_56, li_57, li_59, li_60, li_61, li_62, li_63, li_99, li_100, li_107, li_124, li_126, li_240, li_255, li_256, li_1000, li_1178, li_1240, li_9000, li_65536, li_1000000, nI_add, pk_mul, nI_ltI, nI_leI, nI_eq, xin_nI, nI_clamp, decide_true, decide_false, Bool.and_true, Bool.true_and, Bool.and_false, Bool.false_and, Bool.not_true, Bool.not_false, cond_true, cond_false, Option.bind_some, Option.toList_some, Option.toList_none, List.cons_append, List.nil_append, List.append_nil, Nat.not_lt_zero, Nat.zero_le, Nat.le_refl, Nat.lt_irrefl, Nat.reduceLT, Nat.reduceLeDiff, Nat.reduceEqDiff, Nat.reduceAdd, Nat.reduceMul]
theorem c_baredOf (hS : isScene sh t r) {c : Nat} (hc : c < 5) : ev (66, 0, [.ref t, .int (nI c)], [], (sh, M, J)) = some (some (.int (M r (57 + c))), (sh, M, J)) := by
  obtain ⟨h1, h2, h3⟩ := hS
  have e1 : ¬ 5 ≤ c := by omega
  have e2 : 57 + c < 62 := by omega
  simp (disch := omega) only [b_Scene_baredOf_0, h1, h2, h3, e1, e2, li_0, li_1, li_2, li_3, li_4, li_5, li_6, li_8, li_9, li_10, li_12, li_15, li_16, li_19, li_20, li_21, li_22, li_25, li_30, li_31, li_32, li_35, li_40, li_41, li_42, li_46, li_47, li_48, li_50, li_51, li_52, li_56, li_57, li_59, li_60, li_61, li_62, li_63, li_99, li_100, li_107, li_124, li_126, li_240, li_255, li_256, li_1000, li_1178, li_1240, li_9000, li_65536, li_1000000, nI_add, pk_mul, nI_ltI, nI_leI, nI_eq, xin_nI, nI_clamp, decide_true, decide_false, Bool.and_true, Bool.true_and, Bool.and_false, Bool.false_and, Bool.not_true, Bool.not_false, cond_true, cond_false, Option.bind_some, Option.toList_some, Option.toList_none, List.cons_append, List.nil_append, List.append_nil, Nat.not_lt_zero, Nat.zero_le, Nat.le_refl, Nat.lt_irrefl, Nat.reduceLT, Nat.reduceLeDiff, Nat.reduceEqDiff, Nat.reduceAdd, Nat.reduceMul]
theorem c_weightOf (hS : isHouse sh h aw al am ah) {c : Nat} (hc : c < 5) : ev (9, 0, [.ref h, .int (nI c)], [], (sh, M, J)) = some (some (.int (M aw c)), (sh, M, J)) := by
  obtain ⟨h1, h3, h4, h5, h6, k5, k6, k7, k8⟩ := hS
  have e1 : ¬ 5 ≤ c := by omega
  simp (disch := omega) only [b_House_weightOf_0, h1, h3, k5, e1, hc, li_0, li_1, li_2, li_3, li_4, li_5, li_6, li_8, li_9, li_10, li_12, li_15, li_16, li_19, li_20, li_21, li_22, li_25, li_30, li_31, li_32, li_35, li_40, li_41, li_42, li_46, li_47, li_48, li_50, li_51, li_52, li_56, li_57, li_59, li_60, li_61, li_62, li_63, li_99, li_100, li_107, li_124, li_126, li_240, li_255, li_256, li_1000, li_1178, li_1240, li_9000, li_65536, li_1000000, nI_add, pk_mul, nI_ltI, nI_leI, nI_eq, xin_nI, nI_clamp, decide_true, decide_false, Bool.and_true, Bool.true_and, Bool.and_false, Bool.false_and, Bool.not_true, Bool.not_false, cond_true, cond_false, Option.bind_some, Option.toList_some, Option.toList_none, List.cons_append, List.nil_append, List.append_nil, Nat.not_lt_zero, Nat.zero_le, Nat.le_refl, Nat.lt_irrefl, Nat.reduceLT, Nat.reduceLeDiff, Nat.reduceEqDiff, Nat.reduceAdd, Nat.reduceMul]
theorem c_likingOf (hS : isHouse sh h aw al am ah) {c : Nat} (hc : c < 5) : ev (10, 0, [.ref h, .int (nI c)], [], (sh, M, J)) = some (some (.int (M al c)), (sh, M, J)) := by
  obtain ⟨h1, h3, h4, h5, h6, k5, k6, k7, k8⟩ := hS
  have e1 : ¬ 5 ≤ c := by omega
  simp (disch := omega) only [b_House_likingOf_0, h1, h4, k6, e1, hc, li_0, li_1, li_2, li_3, li_4, li_5, li_6, li_8, li_9, li_10, li_12, li_15, li_16, li_19, li_20, li_21, li_22, li_25, li_30, li_31, li_32, li_35, li_40, li_41, li_42, li_46, li_47, li_48, li_50, li_51, li_52, li_56, li_57, li_59, li_60, li_61, li_62, li_63, li_99, li_100, li_107, li_124, li_126, li_240, li_255, li_256, li_1000, li_1178, li_1240, li_9000, li_65536, li_1000000, nI_add, pk_mul, nI_ltI, nI_leI, nI_eq, xin_nI, nI_clamp, decide_true, decide_false, Bool.and_true, Bool.true_and, Bool.and_false, Bool.false_and, Bool.not_true, Bool.not_false, cond_true, cond_false, Option.bind_some, Option.toList_some, Option.toList_none, List.cons_append, List.nil_append, List.append_nil, Nat.not_lt_zero, Nat.zero_le, Nat.le_refl, Nat.lt_irrefl, Nat.reduceLT, Nat.reduceLeDiff, Nat.reduceEqDiff, Nat.reduceAdd, Nat.reduceMul]
theorem c_minutesOf (hS : isHouse sh h aw al am ah) {c : Nat} (hc : c < 5) : ev (11, 0, [.ref h, .int (nI c)], [], (sh, M, J)) = some (some (.int (M am c)), (sh, M, J)) := by
  obtain ⟨h1, h3, h4, h5, h6, k5, k6, k7, k8⟩ := hS
  have e1 : ¬ 5 ≤ c := by omega
  simp (disch := omega) only [b_House_minutesOf_0, h1, h5, k7, e1, hc, li_0, li_1, li_2, li_3, li_4, li_5, li_6, li_8, li_9, li_10, li_12, li_15, li_16, li_19, li_20, li_21, li_22, li_25, li_30, li_31, li_32, li_35, li_40, li_41, li_42, li_46, li_47, li_48, li_50, li_51, li_52, li_56, li_57, li_59, li_60, li_61, li_62, li_63, li_99, li_100, li_107, li_124, li_126, li_240, li_255, li_256, li_1000, li_1178, li_1240, li_9000, li_65536, li_1000000, nI_add, pk_mul, nI_ltI, nI_leI, nI_eq, xin_nI, nI_clamp, decide_true, decide_false, Bool.and_true, Bool.true_and, Bool.and_false, Bool.false_and, Bool.not_true, Bool.not_false, cond_true, cond_false, Option.bind_some, Option.toList_some, Option.toList_none, List.cons_append, List.nil_append, List.append_nil, Nat.not_lt_zero, Nat.zero_le, Nat.le_refl, Nat.lt_irrefl, Nat.reduceLT, Nat.reduceLeDiff, Nat.reduceEqDiff, Nat.reduceAdd, Nat.reduceMul]
theorem c_heightOf (hS : isHouse sh h aw al am ah) {c : Nat} (hc : c < 5) : ev (12, 0, [.ref h, .int (nI c)], [], (sh, M, J)) = some (some (.int (M ah c)), (sh, M, J)) := by
  obtain ⟨h1, h3, h4, h5, h6, k5, k6, k7, k8⟩ := hS
  have e1 : ¬ 5 ≤ c := by omega
  simp (disch := omega) only [b_House_heightOf_0, h1, h6, k8, e1, hc, li_0, li_1, li_2, li_3, li_4, li_5, li_6, li_8, li_9, li_10, li_12, li_15, li_16, li_19, li_20, li_21, li_22, li_25, li_30, li_31, li_32, li_35, li_40, li_41, li_42, li_46, li_47, li_48, li_50, li_51, li_52, li_56, li_57, li_59, li_60, li_61, li_62, li_63, li_99, li_100, li_107, li_124, li_126, li_240, li_255, li_256, li_1000, li_1178, li_1240, li_9000, li_65536, li_1000000, nI_add, pk_mul, nI_ltI, nI_leI, nI_eq, xin_nI, nI_clamp, decide_true, decide_false, Bool.and_true, Bool.true_and, Bool.and_false, Bool.false_and, Bool.not_true, Bool.not_false, cond_true, cond_false, Option.bind_some, Option.toList_some, Option.toList_none, List.cons_append, List.nil_append, List.append_nil, Nat.not_lt_zero, Nat.zero_le, Nat.le_refl, Nat.lt_irrefl, Nat.reduceLT, Nat.reduceLeDiff, Nat.reduceEqDiff, Nat.reduceAdd, Nat.reduceMul]
theorem c_cells (hS : isHouse sh h aw al am ah) : ev (13, 0, [.ref h], [], (sh, M, J)) = some (some (.int (M h 0 * M h 1)), (sh, M, J)) := by
  obtain ⟨h1, -⟩ := hS
  simp (disch := omega) only [b_House_cells_0, h1, li_0, li_1, li_2, li_3, li_4, li_5, li_6, li_8, li_9, li_10, li_12, li_15, li_16, li_19, li_20, li_21, li_22, li_25, li_30, li_31, li_32, li_35, li_40, li_41, li_42, li_46, li_47, li_48, li_50, li_51, li_52, li_56, li_57, li_59, li_60, li_61, li_62, li_63, li_99, li_100, li_107, li_124, li_126, li_240, li_255, li_256, li_1000, li_1178, li_1240, li_9000, li_65536, li_1000000, nI_add, pk_mul, nI_ltI, nI_leI, nI_eq, xin_nI, nI_clamp, decide_true, decide_false, Bool.and_true, Bool.true_and, Bool.and_false, Bool.false_and, Bool.not_true, Bool.not_false, cond_true, cond_false, Option.bind_some, Option.toList_some, Option.toList_none, List.cons_append, List.nil_append, List.append_nil, Nat.not_lt_zero, Nat.zero_le, Nat.le_refl, Nat.lt_irrefl, Nat.reduceLT, Nat.reduceLeDiff, Nat.reduceEqDiff, Nat.reduceAdd, Nat.reduceMul]
theorem c_cellAt (hS : isHouse sh h aw al am ah) {x g : Int32} : ev (17, 0, [.ref h, .int x, .int g], [], (sh, M, J)) = some (some (.int (g * M h 0 + x)), (sh, M, J)) := by
  obtain ⟨h1, -⟩ := hS
  simp (disch := omega) only [b_House_cellAt_0, h1, li_0, li_1, li_2, li_3, li_4, li_5, li_6, li_8, li_9, li_10, li_12, li_15, li_16, li_19, li_20, li_21, li_22, li_25, li_30, li_31, li_32, li_35, li_40, li_41, li_42, li_46, li_47, li_48, li_50, li_51, li_52, li_56, li_57, li_59, li_60, li_61, li_62, li_63, li_99, li_100, li_107, li_124, li_126, li_240, li_255, li_256, li_1000, li_1178, li_1240, li_9000, li_65536, li_1000000, nI_add, pk_mul, nI_ltI, nI_leI, nI_eq, xin_nI, nI_clamp, decide_true, decide_false, Bool.and_true, Bool.true_and, Bool.and_false, Bool.false_and, Bool.not_true, Bool.not_false, cond_true, cond_false, Option.bind_some, Option.toList_some, Option.toList_none, List.cons_append, List.nil_append, List.append_nil, Nat.not_lt_zero, Nat.zero_le, Nat.le_refl, Nat.lt_irrefl, Nat.reduceLT, Nat.reduceLeDiff, Nat.reduceEqDiff, Nat.reduceAdd, Nat.reduceMul]
theorem c_hasBit {s j : Nat} (hs : s < 2 ^ 31) (hj : j < 31) : ev (127, 0, [.int (nI s), .int (nI j)], [], (sh, M, J)) = some (some (.int (nI (s.testBit j).toNat)), (sh, M, J)) := by
  have e1 : ¬ 31 ≤ j := by omega
  rw [b_C_hasBit_0]
  rw [nI_bit hs (by omega)]
  cases s.testBit j <;> simp [nI_pos (show j < 2 ^ 31 by omega), nI_leI (show 31 < 2 ^ 31 by decide) (show j < 2 ^ 31 by omega), show (31 : Int32) = nI 31 from rfl, e1, show nI 1 = 1 from rfl, show nI 0 = 0 from rfl]
theorem c_isWithin {v lo hi : Int32} : ev (125, 0, [.int v, .int lo, .int hi], [], (sh, M, J)) = some (some (.int (if lo ≤ v ∧ v ≤ hi then 1 else 0)), (sh, M, J)) := by
  rw [b_C_isWithin_0]
  by_cases h1 : lo ≤ v
  · have h1' : ¬ v < lo := Int32.not_lt.mpr h1
    by_cases h2 : v ≤ hi
    · have h2' : ¬ hi < v := Int32.not_lt.mpr h2
      simp [h1, h1', h2, h2']
    · have h2' : hi < v := Int32.not_le.mp h2
      simp [h1, h1', h2, h2']
  · have h1' : v < lo := Int32.not_le.mp h1
    simp [h1, h1']
end SMALL
