section SHOWNB
variable {sh : xSh} {t r h aw al am ah : Nat} {M : Mem} {J : Nat → Nat → Int64} {H : Ho} {T : Sc}
theorem pow_lt31 {j : Nat} (h : j < 31) : 2 ^ j < 2 ^ 31 := Nat.pow_lt_pow_right (by decide) h
theorem shownS_lt (H : Ho) (T : Sc) (hA5 : hA H ≤ 5) : ∀ k s, k ≤ 5 → s < 2 ^ 5 → it (fun a s => if shown1 H (sH T) (leans H T) (sX T a) (hht H a) then s ||| 2 ^ a else s) k 0 s < 2 ^ 5
  | 0, s, _, hs => hs
  | k + 1, s, hk, hs => by
    rw [it_succ, Nat.zero_add]
    have ih := shownS_lt H T hA5 k s (by omega) hs
    split
    · exact or_lt ih (by omega)
    · exact ih
theorem c_shownNow (hH : isHouse sh h aw al am ah) (hS : isScene sh t r) (HC : houseC M h aw al am ah H) (SC : sceneC M r T) (ho : hoOk H) (hT : scOk H T) : ev (76, 0, [.ref t, .ref h, .null, .null, .null], [], (sh, M, J)) = some (some (.int (nI (shownS H T))), (sh, M, J)) := by
  have hs31 := scH_lt ho hT
  have k1 := hH.1
  have k2 := hS.1
  have w3 := HC.2.2.1
  have e0 := SC.1
  have hA5 := ho.2.2.1
  have hl := fun {J : Nat → Nat → Int64} => c_leansWith (J := J) hH hS HC SC ho hT hs31
  rw [b_Scene_shownNow_0]
  simp (disch := omega) only [k1, k2, c_holes hS, e0, b_Scene_shownNow_6, hl, b_Scene_shownNow_9, li_0, li_1, li_2, li_3, li_4, li_5, li_6, li_8, li_9, li_10, li_12, li_15, li_16, li_19, li_20, li_21, li_22, li_25, li_30, li_31, li_32, li_35, li_40, li_41, li_42, li_46, li_47, li_48, li_50, li_51, li_52, li_56, li_57, li_59, li_60, li_61, li_62, li_63, li_99, li_100, li_107, li_124, li_126, li_240, li_255, li_256, li_1000, li_1178, li_1240, li_9000, li_65536, li_1000000, nI_add, pk_mul, nI_ltI, nI_leI, nI_eq, xin_nI, nI_clamp, decide_true, decide_false, Bool.and_true, Bool.true_and, Bool.and_false, Bool.false_and, Bool.not_true, Bool.not_false, cond_true, cond_false, Option.bind_some, Option.toList_some, Option.toList_none, List.cons_append, List.nil_append, List.append_nil, Nat.not_lt_zero, Nat.zero_le, Nat.le_refl, Nat.lt_irrefl, Nat.reduceLT, Nat.reduceLeDiff, Nat.reduceEqDiff, Nat.reduceAdd, Nat.reduceMul, Bool.toNat_true, Bool.toNat_false, Nat.add_zero, Nat.zero_add, Nat.succ_ne_zero, Nat.one_ne_zero, decide_eq_true, decide_eq_false]
  have key := loop_it (E := fun a s => ev (76, 15, [.ref t, .ref h, .int (leans H T), .int (nI s), .int (nI a)], [], (sh, M, J))) (F := fun s => some (some (.int (nI s)), (sh, M, J))) (fun a s => if shown1 H (sH T) (leans H T) (sX T a) (hht H a) then s ||| 2 ^ a else s) (fun _ _ => True) (n := hA H) ?_ ?_ (hA H) 0 0 (by omega) trivial
  · exact key.1
  · intro s _
    rw [b_Scene_shownNow_15]
    simp (disch := omega) only [k1, w3, li_0, li_1, li_2, li_3, li_4, li_5, li_6, li_8, li_9, li_10, li_12, li_15, li_16, li_19, li_20, li_21, li_22, li_25, li_30, li_31, li_32, li_35, li_40, li_41, li_42, li_46, li_47, li_48, li_50, li_51, li_52, li_56, li_57, li_59, li_60, li_61, li_62, li_63, li_99, li_100, li_107, li_124, li_126, li_240, li_255, li_256, li_1000, li_1178, li_1240, li_9000, li_65536, li_1000000, nI_add, pk_mul, nI_ltI, nI_leI, nI_eq, xin_nI, nI_clamp, decide_true, decide_false, Bool.and_true, Bool.true_and, Bool.and_false, Bool.false_and, Bool.not_true, Bool.not_false, cond_true, cond_false, Option.bind_some, Option.toList_some, Option.toList_none, List.cons_append, List.nil_append, List.append_nil, Nat.not_lt_zero, Nat.zero_le, Nat.le_refl, Nat.lt_irrefl, Nat.reduceLT, Nat.reduceLeDiff, Nat.reduceEqDiff, Nat.reduceAdd, Nat.reduceMul, Bool.toNat_true, Bool.toNat_false, Nat.add_zero, Nat.zero_add, Nat.succ_ne_zero, Nat.one_ne_zero, decide_eq_true, decide_eq_false]
  · intro a s hlt _
    refine ⟨?_, trivial⟩
    have e4 : ¬ hA H ≤ a := by omega
    have hsh := fun {J : Nat → Nat → Int64} => c_isShown (J := J) (ln := leans H T) hH hS HC SC ho hs31 (a := a) (by omega) (hT.2.2.2 a hlt)
    have hpw : (nI 1 : Int32) <<< (nI a &&& nI 31) = nI (2 ^ a) := nI_shl1 (by omega)
    rw [b_Scene_shownNow_15]
    cases hb : shown1 H (sH T) (leans H T) (sX T a) (hht H a)
    · simp (disch := omega) only [k1, k2, w3, e4, c_holes hS, e0, b_Scene_shownNow_32, hsh, hb, b_Scene_shownNow_36, li_0, li_1, li_2, li_3, li_4, li_5, li_6, li_8, li_9, li_10, li_12, li_15, li_16, li_19, li_20, li_21, li_22, li_25, li_30, li_31, li_32, li_35, li_40, li_41, li_42, li_46, li_47, li_48, li_50, li_51, li_52, li_56, li_57, li_59, li_60, li_61, li_62, li_63, li_99, li_100, li_107, li_124, li_126, li_240, li_255, li_256, li_1000, li_1178, li_1240, li_9000, li_65536, li_1000000, nI_add, pk_mul, nI_ltI, nI_leI, nI_eq, xin_nI, nI_clamp, decide_true, decide_false, Bool.and_true, Bool.true_and, Bool.and_false, Bool.false_and, Bool.not_true, Bool.not_false, cond_true, cond_false, Option.bind_some, Option.toList_some, Option.toList_none, List.cons_append, List.nil_append, List.append_nil, Nat.not_lt_zero, Nat.zero_le, Nat.le_refl, Nat.lt_irrefl, Nat.reduceLT, Nat.reduceLeDiff, Nat.reduceEqDiff, Nat.reduceAdd, Nat.reduceMul, Bool.toNat_true, Bool.toNat_false, Nat.add_zero, Nat.zero_add, Nat.succ_ne_zero, Nat.one_ne_zero, decide_eq_true, decide_eq_false]
      rfl
    · simp (disch := omega) only [k1, k2, w3, e4, c_holes hS, e0, b_Scene_shownNow_32, hsh, hb, b_Scene_shownNow_36, hpw, nI_or, li_0, li_1, li_2, li_3, li_4, li_5, li_6, li_8, li_9, li_10, li_12, li_15, li_16, li_19, li_20, li_21, li_22, li_25, li_30, li_31, li_32, li_35, li_40, li_41, li_42, li_46, li_47, li_48, li_50, li_51, li_52, li_56, li_57, li_59, li_60, li_61, li_62, li_63, li_99, li_100, li_107, li_124, li_126, li_240, li_255, li_256, li_1000, li_1178, li_1240, li_9000, li_65536, li_1000000, nI_add, pk_mul, nI_ltI, nI_leI, nI_eq, xin_nI, nI_clamp, decide_true, decide_false, Bool.and_true, Bool.true_and, Bool.and_false, Bool.false_and, Bool.not_true, Bool.not_false, cond_true, cond_false, Option.bind_some, Option.toList_some, Option.toList_none, List.cons_append, List.nil_append, List.append_nil, Nat.not_lt_zero, Nat.zero_le, Nat.le_refl, Nat.lt_irrefl, Nat.reduceLT, Nat.reduceLeDiff, Nat.reduceEqDiff, Nat.reduceAdd, Nat.reduceMul, Bool.toNat_true, Bool.toNat_false, Nat.add_zero, Nat.zero_add, Nat.succ_ne_zero, Nat.one_ne_zero, decide_eq_true, decide_eq_false]
      rfl
theorem c_leansNow (hH : isHouse sh h aw al am ah) (hS : isScene sh t r) (HC : houseC M h aw al am ah H) (SC : sceneC M r T) (ho : hoOk H) (hT : scOk H T) : ev (75, 0, [.ref t, .ref h], [], (sh, M, J)) = some (some (.int (leans H T)), (sh, M, J)) := by
  have hs31 := scH_lt ho hT
  have k1 := hH.1
  have k2 := hS.1
  have e0 := SC.1
  have hl := fun {J : Nat → Nat → Int64} => c_leansWith (J := J) hH hS HC SC ho hT hs31
  simp (disch := omega) only [b_Scene_leansNow_0, k1, k2, c_holes hS, e0, b_Scene_leansNow_6, hl, b_Scene_leansNow_9, li_0, li_1, li_2, li_3, li_4, li_5, li_6, li_8, li_9, li_10, li_12, li_15, li_16, li_19, li_20, li_21, li_22, li_25, li_30, li_31, li_32, li_35, li_40, li_41, li_42, li_46, li_47, li_48, li_50, li_51, li_52, li_56, li_57, li_59, li_60, li_61, li_62, li_63, li_99, li_100, li_107, li_124, li_126, li_240, li_255, li_256, li_1000, li_1178, li_1240, li_9000, li_65536, li_1000000, nI_add, pk_mul, nI_ltI, nI_leI, nI_eq, xin_nI, nI_clamp, decide_true, decide_false, Bool.and_true, Bool.true_and, Bool.and_false, Bool.false_and, Bool.not_true, Bool.not_false, cond_true, cond_false, Option.bind_some, Option.toList_some, Option.toList_none, List.cons_append, List.nil_append, List.append_nil, Nat.not_lt_zero, Nat.zero_le, Nat.le_refl, Nat.lt_irrefl, Nat.reduceLT, Nat.reduceLeDiff, Nat.reduceEqDiff, Nat.reduceAdd, Nat.reduceMul, Bool.toNat_true, Bool.toNat_false, Nat.add_zero, Nat.zero_add, Nat.succ_ne_zero, Nat.one_ne_zero, decide_eq_true, decide_eq_false]
/-- the least row of a column with a HOLE -/
def lowG (H : Ho) (hs x : Nat) : Nat → Nat
  | 0 => 0
  | n + 1 => if lowG H hs x n < n then lowG H hs x n else if hs.testBit (n * hW H + x) then n else n + 1
/-- the least CELL with a HOLE in a column: some c, none -/
def lowest (H : Ho) (hs x : Nat) : Option Nat := if lowG H hs x (hG H) < hG H then some (lowG H hs x (hG H) * hW H + x) else none
def optI (o : Option Nat) : Int32 := match o with
  | some c => nI c
  | none => -1
theorem lowG_spec (H : Ho) (hs x : Nat) : ∀ n, lowG H hs x n ≤ n ∧ (∀ i, i < lowG H hs x n → hs.testBit (i * hW H + x) = false) ∧ (lowG H hs x n < n → hs.testBit (lowG H hs x n * hW H + x) = true)
  | 0 => ⟨Nat.le_refl 0, fun i hi => by simp [lowG] at hi, fun hi => by simp [lowG] at hi⟩
  | n + 1 => by
    obtain ⟨h1, h2, h3⟩ := lowG_spec H hs x n
    by_cases c1 : lowG H hs x n < n
    · have e : lowG H hs x (n + 1) = lowG H hs x n := by rw [lowG, if_pos c1]
      rw [e]
      exact ⟨by omega, h2, fun _ => h3 c1⟩
    · have hn : lowG H hs x n = n := by omega
      by_cases c2 : hs.testBit (n * hW H + x) = true
      · have e : lowG H hs x (n + 1) = n := by rw [lowG, if_neg c1, if_pos c2]
        rw [e]
        exact ⟨by omega, fun i hi => h2 i (by omega), fun _ => c2⟩
      · have e : lowG H hs x (n + 1) = n + 1 := by rw [lowG, if_neg c1, if_neg c2]
        rw [e]
        refine ⟨by omega, fun i hi => ?_, fun q => by omega⟩
        rcases Nat.lt_or_ge i n with h | h
        · exact h2 i (by omega)
        · rw [show i = n by omega]; simpa using c2
theorem lowest_some {H : Ho} {hs x c : Nat} (h : lowest H hs x = some c) : ∃ g, g < hG H ∧ c = g * hW H + x ∧ hs.testBit c = true ∧ ∀ i, i < g → hs.testBit (i * hW H + x) = false := by
  unfold lowest at h
  split at h
  · rename_i hlt
    obtain ⟨h1, h2, h3⟩ := lowG_spec H hs x (hG H)
    cases h
    exact ⟨_, hlt, rfl, h3 hlt, h2⟩
  · cases h
theorem lowest_none {H : Ho} {hs x : Nat} (h : lowest H hs x = none) : ∀ i, i < hG H → hs.testBit (i * hW H + x) = false := by
  unfold lowest at h
  split at h
  · cases h
  · rename_i hlt
    obtain ⟨h1, h2, h3⟩ := lowG_spec H hs x (hG H)
    intro i hi
    exact h2 i (by omega)
theorem lowest_is {H : Ho} {hs x g : Nat} (hg : g < hG H) (hb : hs.testBit (g * hW H + x) = true) (hno : ∀ i, i < g → hs.testBit (i * hW H + x) = false) : lowest H hs x = some (g * hW H + x) := by
  obtain ⟨h1, h2, h3⟩ := lowG_spec H hs x (hG H)
  have e : lowG H hs x (hG H) = g := by
    rcases Nat.lt_trichotomy (lowG H hs x (hG H)) g with h | h | h
    · rw [hno _ h] at h3
      have := h3 (by omega)
      cases this
    · exact h
    · rw [h2 g h] at hb; cases hb
  unfold lowest
  rw [e, if_pos hg]
theorem lowest_not {H : Ho} {hs x : Nat} (hno : ∀ i, i < hG H → hs.testBit (i * hW H + x) = false) : lowest H hs x = none := by
  cases h : lowest H hs x with
  | none => rfl
  | some c =>
    obtain ⟨g, hg, rfl, hb, -⟩ := lowest_some h
    rw [hno g hg] at hb; cases hb
theorem c_lowestHole (hH : isHouse sh h aw al am ah) (hS : isScene sh t r) (HC : houseC M h aw al am ah H) (ho : hoOk H) {hs x : Nat} (e0 : M r 0 = nI hs) (hhs : hs < 2 ^ 31) (hx : x < 5) : ev (79, 0, [.ref t, .ref h, .int (nI x), .null], [], (sh, M, J)) = some (some (.int (optI (lowest H hs x))), (sh, M, J)) := by
  obtain ⟨w1, w2, w3, w4⟩ := HC
  have k1 := hH.1
  have k2 := hS.1
  have g5 := ho.1
  have g4 := ho.2.1
  rw [b_Scene_lowestHole_0]
  refine loop_inv (E := fun g (_ : Unit) => ev (79, 2, [.ref t, .ref h, .int (nI x), .int (nI g)], [], (sh, M, J))) (fun g _ => ∀ i, i < g → hs.testBit (i * hW H + x) = false) (n := hG H) ?_ ?_ (hG H) 0 () (by omega) (fun i hi => by omega)
  · intro _ hno
    rw [lowest_not hno, b_Scene_lowestHole_2]
    simp (disch := omega) only [k1, w2, li_0, li_1, li_2, li_3, li_4, li_5, li_6, li_8, li_9, li_10, li_12, li_15, li_16, li_19, li_20, li_21, li_22, li_25, li_30, li_31, li_32, li_35, li_40, li_41, li_42, li_46, li_47, li_48, li_50, li_51, li_52, li_56, li_57, li_59, li_60, li_61, li_62, li_63, li_99, li_100, li_107, li_124, li_126, li_240, li_255, li_256, li_1000, li_1178, li_1240, li_9000, li_65536, li_1000000, nI_add, pk_mul, nI_ltI, nI_leI, nI_eq, xin_nI, nI_clamp, decide_true, decide_false, Bool.and_true, Bool.true_and, Bool.and_false, Bool.false_and, Bool.not_true, Bool.not_false, cond_true, cond_false, Option.bind_some, Option.toList_some, Option.toList_none, List.cons_append, List.nil_append, List.append_nil, Nat.not_lt_zero, Nat.zero_le, Nat.le_refl, Nat.lt_irrefl, Nat.reduceLT, Nat.reduceLeDiff, Nat.reduceEqDiff, Nat.reduceAdd, Nat.reduceMul, Bool.toNat_true, Bool.toNat_false, Nat.add_zero, Nat.zero_add, Nat.succ_ne_zero, Nat.one_ne_zero, decide_eq_true, decide_eq_false]
    rfl
  · intro g _ hg hno
    have e4 : ¬ hG H ≤ g := by omega
    have hm : nI g * nI (hW H) = nI (g * hW H) := pk_mul _ _
    have hc31 : g * hW H + x < 31 := by
      have : (g + 1) * hW H ≤ 4 * 5 := Nat.mul_le_mul (by omega) g5
      rw [Nat.succ_mul] at this
      omega
    rw [b_Scene_lowestHole_2]
    cases hbit : hs.testBit (g * hW H + x) with
    | false =>
      right
      refine ⟨(), ?_, fun i hi => ?_⟩
      · generalize g * hW H = gw at *
        simp (disch := omega) only [k1, k2, w1, w2, e4, c_holes hS, e0, b_Scene_lowestHole_14, c_cellAt hH, hm, b_Scene_lowestHole_20, c_hasBit, hbit, b_Scene_lowestHole_23, li_0, li_1, li_2, li_3, li_4, li_5, li_6, li_8, li_9, li_10, li_12, li_15, li_16, li_19, li_20, li_21, li_22, li_25, li_30, li_31, li_32, li_35, li_40, li_41, li_42, li_46, li_47, li_48, li_50, li_51, li_52, li_56, li_57, li_59, li_60, li_61, li_62, li_63, li_99, li_100, li_107, li_124, li_126, li_240, li_255, li_256, li_1000, li_1178, li_1240, li_9000, li_65536, li_1000000, nI_add, pk_mul, nI_ltI, nI_leI, nI_eq, xin_nI, nI_clamp, decide_true, decide_false, Bool.and_true, Bool.true_and, Bool.and_false, Bool.false_and, Bool.not_true, Bool.not_false, cond_true, cond_false, Option.bind_some, Option.toList_some, Option.toList_none, List.cons_append, List.nil_append, List.append_nil, Nat.not_lt_zero, Nat.zero_le, Nat.le_refl, Nat.lt_irrefl, Nat.reduceLT, Nat.reduceLeDiff, Nat.reduceEqDiff, Nat.reduceAdd, Nat.reduceMul, Bool.toNat_true, Bool.toNat_false, Nat.add_zero, Nat.zero_add, Nat.succ_ne_zero, Nat.one_ne_zero, decide_eq_true, decide_eq_false]
      · rcases Nat.lt_or_ge i g with h | h
        · exact hno i h
        · rw [show i = g by omega]; exact hbit
    | true =>
      left
      rw [lowest_is hg hbit hno]
      generalize g * hW H = gw at *
      simp (disch := omega) only [k1, k2, w1, w2, e4, c_holes hS, e0, b_Scene_lowestHole_14, c_cellAt hH, hm, b_Scene_lowestHole_20, c_hasBit, hbit, b_Scene_lowestHole_23, b_Scene_lowestHole_32, li_0, li_1, li_2, li_3, li_4, li_5, li_6, li_8, li_9, li_10, li_12, li_15, li_16, li_19, li_20, li_21, li_22, li_25, li_30, li_31, li_32, li_35, li_40, li_41, li_42, li_46, li_47, li_48, li_50, li_51, li_52, li_56, li_57, li_59, li_60, li_61, li_62, li_63, li_99, li_100, li_107, li_124, li_126, li_240, li_255, li_256, li_1000, li_1178, li_1240, li_9000, li_65536, li_1000000, nI_add, pk_mul, nI_ltI, nI_leI, nI_eq, xin_nI, nI_clamp, decide_true, decide_false, Bool.and_true, Bool.true_and, Bool.and_false, Bool.false_and, Bool.not_true, Bool.not_false, cond_true, cond_false, Option.bind_some, Option.toList_some, Option.toList_none, List.cons_append, List.nil_append, List.append_nil, Nat.not_lt_zero, Nat.zero_le, Nat.le_refl, Nat.lt_irrefl, Nat.reduceLT, Nat.reduceLeDiff, Nat.reduceEqDiff, Nat.reduceAdd, Nat.reduceMul, Bool.toNat_true, Bool.toNat_false, Nat.add_zero, Nat.zero_add, Nat.succ_ne_zero, Nat.one_ne_zero, decide_eq_true, decide_eq_false]
      rfl
end SHOWNB
