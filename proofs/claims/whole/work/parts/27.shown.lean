/-! ===== who is SHOWN ===== -/
def anyB (p : Nat → Bool) : Nat → Bool
  | 0 => false
  | n + 1 => anyB p n || p n
theorem anyB_no {p : Nat → Bool} : ∀ {n : Nat}, anyB p n = false ↔ ∀ i, i < n → p i = false
  | 0 => ⟨fun _ i h => by omega, fun _ => rfl⟩
  | n + 1 => by
    rw [anyB, Bool.or_eq_false_iff, anyB_no (n := n)]
    constructor
    · intro h i hi
      rcases Nat.lt_or_ge i n with h1 | h1
      · exact h.1 i h1
      · rw [show i = n by omega]; exact h.2
    · intro h
      exact ⟨fun i hi => h i (by omega), h n (by omega)⟩
theorem anyB_yes {p : Nat → Bool} {n i : Nat} (hi : i < n) (h : p i = true) : anyB p n = true := by
  cases hb : anyB p n with
  | true => rfl
  | false => rw [anyB_no.mp hb i hi] at h; cases h
theorem anyB_ex {p : Nat → Bool} {n : Nat} (h : anyB p n = true) : ∃ i, i < n ∧ p i = true := by
  by_cases hx : ∃ i, i < n ∧ p i = true
  · exact hx
  · have : anyB p n = false := anyB_no.mpr (fun i hi => by
      cases hp : p i with
      | false => rfl
      | true => exact absurd ⟨i, hi, hp⟩ hx)
    rw [this] at h; cases h
theorem anyB_cols {W G x : Nat} (hx : x < W) (q : Nat → Bool) : anyB (fun c => decide (c % W = x) && q c) (W * G) = anyB (fun g => q (g * W + x)) G := by
  cases hb : anyB (fun g => q (g * W + x)) G with
  | true =>
    obtain ⟨g, hg, hq⟩ := anyB_ex hb
    refine anyB_yes (i := g * W + x) ?_ ?_
    · have : (g + 1) * W ≤ G * W := Nat.mul_le_mul_right W hg
      rw [Nat.succ_mul] at this
      rw [Nat.mul_comm W G]
      omega
    · have e : (g * W + x) % W = x := by rw [Nat.mul_comm, Nat.mul_add_mod, Nat.mod_eq_of_lt hx]
      simp only [e, decide_true, Bool.true_and]
      exact hq
  | false =>
    rw [anyB_no] at hb ⊢
    intro c hc
    by_cases e : c % W = x
    · have h1 := hb (c / W) (Nat.div_lt_of_lt_mul hc)
      rw [← e, Nat.div_add_mod'] at h1
      simp [h1]
    · simp [e]
/-- a HOLE in row g of column x hangs before one of that height -/
def shC (H : Ho) (hs : Nat) (ln : Int32) (x ht g : Nat) : Bool := hs.testBit (g * hW H + x) && (decide (nI 0 ≤ nI g + side (hW H) x * ln) && decide (nI g + side (hW H) x * ln ≤ nI ht - nI 1))
def shown1 (H : Ho) (hs : Nat) (ln : Int32) (x ht : Nat) : Bool := anyB (shC H hs ln x ht) (hG H)
def shownS (H : Ho) (T : Sc) : Nat := it (fun a s => if shown1 H (sH T) (leans H T) (sX T a) (hht H a) then s ||| 2 ^ a else s) (hA H) 0 0
section SHOWN
variable {sh : xSh} {t r h aw al am ah : Nat} {M : Mem} {J : Nat → Nat → Int64} {H : Ho} {T : Sc}
theorem c_isShown (hH : isHouse sh h aw al am ah) (hS : isScene sh t r) (HC : houseC M h aw al am ah H) (SC : sceneC M r T) (ho : hoOk H) {hs a : Nat} {ln : Int32} (hhs : hs < 2 ^ 31) (ha : a < 5) (hx : sX T a < hW H) : ev (81, 0, [.ref t, .ref h, .int (nI a), .int (nI hs), .int ln, .null, .null, .null], [], (sh, M, J)) = some (some (.int (nI (shown1 H hs ln (sX T a) (hht H a)).toNat)), (sh, M, J)) := by
  obtain ⟨w1, w2, w3, w4⟩ := HC
  have k1 := hH.1
  have k2 := hS.1
  have g5 := ho.1
  have g4 := ho.2.1
  have e0 := (SC.2.2.2 a ha).1
  have eh := (w4 a ha).2.2.2
  rw [b_Scene_isShown_0]
  simp (disch := omega) only [k1, k2, c_columnOf hS, e0, b_Scene_isShown_5, c_sideOf hH w1, b_Scene_isShown_13, li_0, li_1, li_2, li_3, li_4, li_5, li_6, li_8, li_9, li_10, li_12, li_15, li_16, li_19, li_20, li_21, li_22, li_25, li_30, li_31, li_32, li_35, li_40, li_41, li_42, li_46, li_47, li_48, li_50, li_51, li_52, li_56, li_57, li_59, li_60, li_61, li_62, li_63, li_99, li_100, li_107, li_124, li_126, li_240, li_255, li_256, li_1000, li_1178, li_1240, li_9000, li_65536, li_1000000, nI_add, pk_mul, nI_ltI, nI_leI, nI_eq, xin_nI, nI_clamp, decide_true, decide_false, Bool.and_true, Bool.true_and, Bool.and_false, Bool.false_and, Bool.not_true, Bool.not_false, cond_true, cond_false, Option.bind_some, Option.toList_some, Option.toList_none, List.cons_append, List.nil_append, List.append_nil, Nat.not_lt_zero, Nat.zero_le, Nat.le_refl, Nat.lt_irrefl, Nat.reduceLT, Nat.reduceLeDiff, Nat.reduceEqDiff, Nat.reduceAdd, Nat.reduceMul, Bool.toNat_true, Bool.toNat_false, Nat.add_zero, Nat.zero_add, Nat.succ_ne_zero, Nat.one_ne_zero, decide_eq_true, decide_eq_false]
  generalize sX T a = x at *
  refine loop_inv (E := fun g (_ : Unit) => ev (81, 21, [.null, .ref h, .int (nI a), .int (nI hs), .null, .int (nI x), .int (side (hW H) x * ln), .int (nI g)], [], (sh, M, J))) (fun g _ => anyB (shC H hs ln x (hht H a)) g = false) (n := hG H) ?_ ?_ (hG H) 0 () (by omega) rfl
  · intro _ hno
    unfold shown1
    rw [hno, b_Scene_isShown_21]
    simp (disch := omega) only [k1, w2, li_0, li_1, li_2, li_3, li_4, li_5, li_6, li_8, li_9, li_10, li_12, li_15, li_16, li_19, li_20, li_21, li_22, li_25, li_30, li_31, li_32, li_35, li_40, li_41, li_42, li_46, li_47, li_48, li_50, li_51, li_52, li_56, li_57, li_59, li_60, li_61, li_62, li_63, li_99, li_100, li_107, li_124, li_126, li_240, li_255, li_256, li_1000, li_1178, li_1240, li_9000, li_65536, li_1000000, nI_add, pk_mul, nI_ltI, nI_leI, nI_eq, xin_nI, nI_clamp, decide_true, decide_false, Bool.and_true, Bool.true_and, Bool.and_false, Bool.false_and, Bool.not_true, Bool.not_false, cond_true, cond_false, Option.bind_some, Option.toList_some, Option.toList_none, List.cons_append, List.nil_append, List.append_nil, Nat.not_lt_zero, Nat.zero_le, Nat.le_refl, Nat.lt_irrefl, Nat.reduceLT, Nat.reduceLeDiff, Nat.reduceEqDiff, Nat.reduceAdd, Nat.reduceMul, Bool.toNat_true, Bool.toNat_false, Nat.add_zero, Nat.zero_add, Nat.succ_ne_zero, Nat.one_ne_zero, decide_eq_true, decide_eq_false]
  · intro g _ hg hno
    have e4 : ¬ hG H ≤ g := by omega
    have hm : nI g * nI (hW H) = nI (g * hW H) := pk_mul _ _
    have hc20 : g * hW H + x < 20 := by
      have : (g + 1) * hW H ≤ 4 * 5 := Nat.mul_le_mul (by omega) g5
      rw [Nat.succ_mul] at this
      omega
    have hstep : ∀ b : Bool, shC H hs ln x (hht H a) g = b → (b = false → anyB (shC H hs ln x (hht H a)) (g + 1) = false) ∧ (b = true → shown1 H hs ln x (hht H a) = true) := by
      intro b hb
      refine ⟨fun q => ?_, fun q => anyB_yes hg (hb.trans q)⟩
      rw [anyB, hno, hb, q]; rfl
    cases hbit : hs.testBit (g * hW H + x) with
    | false =>
      right
      refine ⟨(), ?_, (hstep false (by unfold shC; rw [hbit]; rfl)).1 rfl⟩
      rw [b_Scene_isShown_21]
      generalize g * hW H = gw at *
      simp (disch := omega) only [k1, w1, w2, e4, c_cellAt hH, hm, b_Scene_isShown_39, c_hasBit, hbit, b_Scene_isShown_42, li_0, li_1, li_2, li_3, li_4, li_5, li_6, li_8, li_9, li_10, li_12, li_15, li_16, li_19, li_20, li_21, li_22, li_25, li_30, li_31, li_32, li_35, li_40, li_41, li_42, li_46, li_47, li_48, li_50, li_51, li_52, li_56, li_57, li_59, li_60, li_61, li_62, li_63, li_99, li_100, li_107, li_124, li_126, li_240, li_255, li_256, li_1000, li_1178, li_1240, li_9000, li_65536, li_1000000, nI_add, pk_mul, nI_ltI, nI_leI, nI_eq, xin_nI, nI_clamp, decide_true, decide_false, Bool.and_true, Bool.true_and, Bool.and_false, Bool.false_and, Bool.not_true, Bool.not_false, cond_true, cond_false, Option.bind_some, Option.toList_some, Option.toList_none, List.cons_append, List.nil_append, List.append_nil, Nat.not_lt_zero, Nat.zero_le, Nat.le_refl, Nat.lt_irrefl, Nat.reduceLT, Nat.reduceLeDiff, Nat.reduceEqDiff, Nat.reduceAdd, Nat.reduceMul, Bool.toNat_true, Bool.toNat_false, Nat.add_zero, Nat.zero_add, Nat.succ_ne_zero, Nat.one_ne_zero, decide_eq_true, decide_eq_false]
    | true =>
      by_cases hin : nI 0 ≤ nI g + side (hW H) x * ln ∧ nI g + side (hW H) x * ln ≤ nI (hht H a) - nI 1
      · left
        have hs1 := (hstep true (by unfold shC; rw [hbit]; simp [hin.1, hin.2])).2 rfl
        rw [hs1, b_Scene_isShown_21]
        generalize g * hW H = gw at *
        simp (disch := omega) only [k1, w1, w2, e4, c_cellAt hH, hm, b_Scene_isShown_39, c_hasBit, hbit, b_Scene_isShown_42, c_heightOf hH, eh, b_Scene_isShown_56, c_isWithin, if_pos hin, b_Scene_isShown_61, li_0, li_1, li_2, li_3, li_4, li_5, li_6, li_8, li_9, li_10, li_12, li_15, li_16, li_19, li_20, li_21, li_22, li_25, li_30, li_31, li_32, li_35, li_40, li_41, li_42, li_46, li_47, li_48, li_50, li_51, li_52, li_56, li_57, li_59, li_60, li_61, li_62, li_63, li_99, li_100, li_107, li_124, li_126, li_240, li_255, li_256, li_1000, li_1178, li_1240, li_9000, li_65536, li_1000000, nI_add, pk_mul, nI_ltI, nI_leI, nI_eq, xin_nI, nI_clamp, decide_true, decide_false, Bool.and_true, Bool.true_and, Bool.and_false, Bool.false_and, Bool.not_true, Bool.not_false, cond_true, cond_false, Option.bind_some, Option.toList_some, Option.toList_none, List.cons_append, List.nil_append, List.append_nil, Nat.not_lt_zero, Nat.zero_le, Nat.le_refl, Nat.lt_irrefl, Nat.reduceLT, Nat.reduceLeDiff, Nat.reduceEqDiff, Nat.reduceAdd, Nat.reduceMul, Bool.toNat_true, Bool.toNat_false, Nat.add_zero, Nat.zero_add, Nat.succ_ne_zero, Nat.one_ne_zero, decide_eq_true, decide_eq_false]
      · right
        refine ⟨(), ?_, (hstep false (by
          unfold shC; rw [hbit]
          rw [Bool.true_and, Bool.and_eq_false_iff]
          by_cases q : nI 0 ≤ nI g + side (hW H) x * ln
          · exact Or.inr (decide_eq_false (fun q2 => hin ⟨q, q2⟩))
          · exact Or.inl (decide_eq_false q))).1 rfl⟩
        rw [b_Scene_isShown_21]
        generalize g * hW H = gw at *
        simp (disch := omega) only [k1, w1, w2, e4, c_cellAt hH, hm, b_Scene_isShown_39, c_hasBit, hbit, b_Scene_isShown_42, c_heightOf hH, eh, b_Scene_isShown_56, c_isWithin, if_neg hin, b_Scene_isShown_61, li_0, li_1, li_2, li_3, li_4, li_5, li_6, li_8, li_9, li_10, li_12, li_15, li_16, li_19, li_20, li_21, li_22, li_25, li_30, li_31, li_32, li_35, li_40, li_41, li_42, li_46, li_47, li_48, li_50, li_51, li_52, li_56, li_57, li_59, li_60, li_61, li_62, li_63, li_99, li_100, li_107, li_124, li_126, li_240, li_255, li_256, li_1000, li_1178, li_1240, li_9000, li_65536, li_1000000, nI_add, pk_mul, nI_ltI, nI_leI, nI_eq, xin_nI, nI_clamp, decide_true, decide_false, Bool.and_true, Bool.true_and, Bool.and_false, Bool.false_and, Bool.not_true, Bool.not_false, cond_true, cond_false, Option.bind_some, Option.toList_some, Option.toList_none, List.cons_append, List.nil_append, List.append_nil, Nat.not_lt_zero, Nat.zero_le, Nat.le_refl, Nat.lt_irrefl, Nat.reduceLT, Nat.reduceLeDiff, Nat.reduceEqDiff, Nat.reduceAdd, Nat.reduceMul, Bool.toNat_true, Bool.toNat_false, Nat.add_zero, Nat.zero_add, Nat.succ_ne_zero, Nat.one_ne_zero, decide_eq_true, decide_eq_false]
end SHOWN
