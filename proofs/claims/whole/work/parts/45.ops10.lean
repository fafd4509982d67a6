/-! ===== sewing ===== -/
theorem pop_top : ∀ (n s : Nat), pop (n + 1) s = pop n s + (s.testBit n).toNat
  | 0, s => by
    show s % 2 + 0 = 0 + _
    rw [Nat.testBit_zero]
    rcases Nat.mod_two_eq_zero_or_one s with h | h <;> simp [h]
  | n + 1, s => by
    rw [pop, pop_top n (s / 2), pop, Nat.testBit_succ, Nat.add_assoc]
theorem pop_mono (s : Nat) : ∀ (d c : Nat), pop c s ≤ pop (c + d) s
  | 0, c => Nat.le_refl _
  | d + 1, c => by
    rw [← Nat.add_assoc, pop_top]
    have := pop_mono s d c
    omega
theorem pop_hi {s c : Nat} (hs : s < 2 ^ c) : ∀ d, pop (c + d) s = pop c s
  | 0 => rfl
  | d + 1 => by
    rw [← Nat.add_assoc, pop_top, pop_hi hs d, Nat.testBit_lt_two_pow (Nat.lt_of_lt_of_le hs (Nat.pow_le_pow_right (by decide) (by omega)))]
    rfl
def holF (H : Ho) (T : Sc) (c : Nat) (q : Nat × (Nat → Nat)) : Nat × (Nat → Nat) := if (sH T).testBit c then (q.1 + 1, upN q.2 q.1 (hmn H (sK T c))) else q
def holQ (H : Ho) (T : Sc) (c : Nat) : Nat × (Nat → Nat) := it (holF H T) c 0 (0, fun _ => 0)
theorem holQ_s (H : Ho) (T : Sc) (c : Nat) : holQ H T (c + 1) = holF H T c (holQ H T c) := by
  unfold holQ
  rw [it_succ, Nat.zero_add]
theorem hol_cnt (H : Ho) (T : Sc) : ∀ c, (holQ H T c).1 = pop c (sH T)
  | 0 => rfl
  | c + 1 => by
    rw [holQ_s, pop_top, ← hol_cnt H T c]
    unfold holF
    cases (sH T).testBit c <;> rfl
theorem hol_60 {H : Ho} {T : Sc} (ho : hoOk H) (hT : scOk H T) : ∀ c, c ≤ 20 → ∀ i, (holQ H T c).2 i ≤ 60
  | 0, _, i => Nat.zero_le _
  | c + 1, hc, i => by
    rw [holQ_s]
    have ih := hol_60 ho hT c (by omega) i
    unfold holF
    split
    · show upN _ _ _ i ≤ 60
      unfold upN
      split
      · exact (ho.2.2.2.2.2.1 _ (hT.2.1 c (by omega))).2.2.1
      · exact ih
    · exact ih
theorem hol_stop (H : Ho) (T : Sc) (c : Nat) : ∀ d, pop (c + d) (sH T) = pop c (sH T) → holQ H T (c + d) = holQ H T c
  | 0, _ => rfl
  | d + 1, h => by
    rw [← Nat.add_assoc, pop_top] at h
    have h1 := pop_mono (sH T) d c
    have hb : (sH T).testBit (c + d) = false := by
      cases hb : (sH T).testBit (c + d)
      · rfl
      · rw [hb] at h; simp at h; omega
    rw [hb] at h
    have h2 : pop (c + d) (sH T) = pop c (sH T) := by simpa using h
    rw [← Nat.add_assoc, holQ_s, hol_stop H T c d h2]
    unfold holF
    rw [hb]; rfl
theorem nI_xor (a b : Nat) : nI a ^^^ nI b = nI (a ^^^ b) := by
  apply Int32.toBitVec_inj.mp
  rw [Int32.toBitVec_xor, nI_bv, nI_bv, nI_bv, BitVec.ofNat_xor]
theorem xor_sub {p s : Nat} (h : p &&& s = p) : (s ^^^ p) &&& s = s ^^^ p := sub_of_bits (fun i hi => by
  rw [Nat.testBit_xor] at hi
  cases hs : s.testBit i
  · cases hp : p.testBit i
    · rw [hs, hp] at hi; exact absurd hi (by decide)
    · exact (bits_of_sub h hp) ▸ hs ▸ rfl
  · rfl)
theorem RelC_3x {M M' : Mem} {g : Gh} {l : List Nat} (h : RelC M g) (o : onlyL M M' l) (hl : ∀ a ∈ l, 30 ≤ a) : RelC M' g := RelC_agree h (fun a ha => o a (fun q => by have := hl a q; simp at ha; omega))
theorem RelR_5x {M M' : Mem} {J : Nat → Nat → Int64} {g : Gh} {l : List Nat} (h : RelR M J g) (o : onlyL M M' l) (hl : ∀ a ∈ l, 51 ≤ a ∨ a = 44) : RelR M' J g := RelR_agree h (fun a ha => o a (fun q => by have := hl a q; simp at ha; omega))
def nx1 (n : Nat) (m A : Nat → Nat) (s v : Nat) : Prop := v ≤ A s ∧ (∀ p, 0 < p → p &&& s = p → v ≤ max (one n m p) (A (s ^^^ p))) ∧ (v = A s ∨ ∃ p, 0 < p ∧ p &&& s = p ∧ v = max (one n m p) (A (s ^^^ p)))
section OPS10
variable {sh : xSh} {L n : Nat} {M : Mem} {J : Nat → Nat → Int64} {g : Gh} {H : Ho} {T : Sc} {m A : Nat → Nat}
theorem c_take (hM : RelC M g) (hg : gOk g) (h8 : pop 20 (sH (gT g)) ≤ 8) : ∃ M', ev (85, 0, [.ref 36, .ref 2, .ref 7, .null], [], (xSH L, M, J)) = some (none, (xSH L, M', J)) ∧ (M' 36 3 = nI (holQ (gH g) (gT g) (hW (gH g) * hG (gH g))).1 ∧ ∀ i, i < (holQ (gH g) (gT g) (hW (gH g) * hG (gH g))).1 → M' 37 i = nI ((holQ (gH g) (gT g) (hW (gH g) * hG (gH g))).2 i)) ∧ onlyL M M' [36, 37] := by
  have hh := hs2 L
  have hs := sc7 L
  have ho := hg.1
  have hT := hg.2.1
  have hn := hcells ho
  have hs31 := scH_lt ho hT
  have hpe : pop 20 (sH (gT g)) = pop (hW (gH g) * hG (gH g)) (sH (gT g)) := by
    have := pop_hi hT.1 (20 - hW (gH g) * hG (gH g))
    rw [show hW (gH g) * hG (gH g) + (20 - hW (gH g) * hG (gH g)) = 20 by omega] at this
    exact this
  have key := loop_to (E := fun c (q : Mem) => ev (85, 7, [.ref 36, .ref 2, .ref 7, .int (nI c)], [], (xSH L, q, J))) (F := fun M' : Mem => some (none, (xSH L, M', J))) (fun M' => (M' 36 3 = nI (holQ (gH g) (gT g) (hW (gH g) * hG (gH g))).1 ∧ ∀ i, i < (holQ (gH g) (gT g) (hW (gH g) * hG (gH g))).1 → M' 37 i = nI ((holQ (gH g) (gT g) (hW (gH g) * hG (gH g))).2 i)) ∧ onlyL M M' [36, 37]) (fun c q => (q 36 3 = nI (holQ (gH g) (gT g) c).1 ∧ ∀ i, i < (holQ (gH g) (gT g) c).1 → q 37 i = nI ((holQ (gH g) (gT g) c).2 i)) ∧ onlyL M q [36, 37]) (n := hW (gH g) * hG (gH g)) ?_ ?_ (hW (gH g) * hG (gH g)) 0 (xu M 36 3 (nI 0)) (by omega) ⟨⟨xu_at, fun i hi => absurd hi (Nat.not_lt_zero i)⟩, onlyL_xu onlyL_rf (by decide)⟩
  · obtain ⟨M', k1, k2⟩ := key
    refine ⟨M', ?_, k2⟩
    simp (disch := omega) only [b_Sewing_take_0, kf_1, kf_2, kf_3, kf_4, kf_5, kf_6, kf_7, kf_8, kf_9, kf_10, kf_11, kf_12, kf_13, kf_14, kf_15, kf_16, kf_17, kf_18, kf_19, kf_20, kf_21, kf_22, kf_23, kf_24, kf_25, kf_26, kf_27, kf_28, kf_29, kf_30, kf_31, kf_32, kf_33, kf_34, kf_35, kf_36, kf_37, kf_38, kf_39, kf_40, kf_41, kf_42, kf_43, kf_44, kf_45, kf_46, kf_47, kf_48, kf_49, kf_50, kf_51, kf_52, kf_53, kf_54, rf_1_0, rf_1_1, rf_1_2, rf_1_3, rf_1_4, rf_1_5, rf_1_6, rf_1_7, rf_1_8, rf_2_3, rf_2_4, rf_2_5, rf_2_6, rf_7_0, rf_9_0, rf_11_0, rf_11_1, rf_11_4, rf_12_3, rf_12_4, rf_12_5, rf_12_6, rf_17_0, rf_20_1, rf_22_0, rf_22_1, rf_25_2, rf_25_3, rf_25_4, rf_25_5, rf_30_1, rf_30_2, rf_30_3, rf_30_4, rf_34_0, rf_36_0, rf_36_1, rf_36_2, rf_40_0, rf_40_1, rf_40_2, rf_40_3, rf_40_4, rf_40_6, rf_40_7, rf_40_9, rf_40_12, rf_40_14, rf_40_22, rf_40_23, rf_40_24, rf_40_25, li_0, li_1, li_2, li_3, li_4, li_5, li_6, li_7, li_8, li_9, li_10, li_11, li_12, li_13, li_14, li_15, li_16, li_17, li_18, li_19, li_20, li_21, li_22, li_23, li_24, li_25, li_26, li_27, li_28, li_29, li_30, li_31, li_32, li_33, li_34, li_35, li_36, li_37, li_38, li_39, li_40, li_41, li_42, li_43, li_44, li_45, li_46, li_47, li_48, li_49, li_50, li_51, li_52, li_53, li_54, li_55, li_56, li_57, li_58, li_59, li_60, li_61, li_62, li_63, li_99, li_100, li_107, li_124, li_126, li_240, li_255, li_256, li_1000, li_1178, li_1240, li_9000, li_65536, li_1000000, nI_add, pk_mul, nI_ltI, nI_leI, nI_eq, xin_nI, nI_clamp, decide_true, decide_false, Bool.and_true, Bool.true_and, Bool.and_false, Bool.false_and, Bool.not_true, Bool.not_false, cond_true, cond_false, Option.bind_some, Option.toList_some, Option.toList_none, List.cons_append, List.nil_append, List.append_nil, Nat.not_lt_zero, Nat.zero_le, Nat.le_refl, Nat.lt_irrefl, Nat.reduceLT, Nat.reduceLeDiff, Nat.reduceEqDiff, Nat.reduceAdd, Nat.reduceMul, Bool.toNat_true, Bool.toNat_false, Nat.add_zero, Nat.zero_add, Nat.succ_ne_zero, Nat.one_ne_zero, decide_eq_true, decide_eq_false, bb1, bb0, bbT, eq_self, reduceIte, and_self, and_true, true_and]
    exact k1
  · intro q ⟨q1, q2⟩
    have HC := houseC_l hM.1 q2 (by decide)
    have w1 := HC.1
    have w2 := HC.2.1
    have hcn : nI (hW (gH g) * hG (gH g)) ≤ nI (hW (gH g) * hG (gH g)) := Int32.le_refl _
    refine ⟨q, ?_, q1, q2⟩
    rw [b_Sewing_take_7]
    simp (disch := omega) only [c_cells hh, w1, w2, b_Sewing_take_12, hcn, kf_1, kf_2, kf_3, kf_4, kf_5, kf_6, kf_7, kf_8, kf_9, kf_10, kf_11, kf_12, kf_13, kf_14, kf_15, kf_16, kf_17, kf_18, kf_19, kf_20, kf_21, kf_22, kf_23, kf_24, kf_25, kf_26, kf_27, kf_28, kf_29, kf_30, kf_31, kf_32, kf_33, kf_34, kf_35, kf_36, kf_37, kf_38, kf_39, kf_40, kf_41, kf_42, kf_43, kf_44, kf_45, kf_46, kf_47, kf_48, kf_49, kf_50, kf_51, kf_52, kf_53, kf_54, rf_1_0, rf_1_1, rf_1_2, rf_1_3, rf_1_4, rf_1_5, rf_1_6, rf_1_7, rf_1_8, rf_2_3, rf_2_4, rf_2_5, rf_2_6, rf_7_0, rf_9_0, rf_11_0, rf_11_1, rf_11_4, rf_12_3, rf_12_4, rf_12_5, rf_12_6, rf_17_0, rf_20_1, rf_22_0, rf_22_1, rf_25_2, rf_25_3, rf_25_4, rf_25_5, rf_30_1, rf_30_2, rf_30_3, rf_30_4, rf_34_0, rf_36_0, rf_36_1, rf_36_2, rf_40_0, rf_40_1, rf_40_2, rf_40_3, rf_40_4, rf_40_6, rf_40_7, rf_40_9, rf_40_12, rf_40_14, rf_40_22, rf_40_23, rf_40_24, rf_40_25, li_0, li_1, li_2, li_3, li_4, li_5, li_6, li_7, li_8, li_9, li_10, li_11, li_12, li_13, li_14, li_15, li_16, li_17, li_18, li_19, li_20, li_21, li_22, li_23, li_24, li_25, li_26, li_27, li_28, li_29, li_30, li_31, li_32, li_33, li_34, li_35, li_36, li_37, li_38, li_39, li_40, li_41, li_42, li_43, li_44, li_45, li_46, li_47, li_48, li_49, li_50, li_51, li_52, li_53, li_54, li_55, li_56, li_57, li_58, li_59, li_60, li_61, li_62, li_63, li_99, li_100, li_107, li_124, li_126, li_240, li_255, li_256, li_1000, li_1178, li_1240, li_9000, li_65536, li_1000000, nI_add, pk_mul, nI_ltI, nI_leI, nI_eq, xin_nI, nI_clamp, decide_true, decide_false, Bool.and_true, Bool.true_and, Bool.and_false, Bool.false_and, Bool.not_true, Bool.not_false, cond_true, cond_false, Option.bind_some, Option.toList_some, Option.toList_none, List.cons_append, List.nil_append, List.append_nil, Nat.not_lt_zero, Nat.zero_le, Nat.le_refl, Nat.lt_irrefl, Nat.reduceLT, Nat.reduceLeDiff, Nat.reduceEqDiff, Nat.reduceAdd, Nat.reduceMul, Bool.toNat_true, Bool.toNat_false, Nat.add_zero, Nat.zero_add, Nat.succ_ne_zero, Nat.one_ne_zero, decide_eq_true, decide_eq_false, bb1, bb0, bbT, eq_self, reduceIte, and_self, and_true, true_and]
  · intro c q hlt ⟨⟨q1, q1'⟩, q2⟩
    have HC := houseC_l hM.1 q2 (by decide)
    have SC := sceneC_l hM.2.1 q2 (by decide)
    have w1 := HC.1
    have w2 := HC.2.1
    have e0 := SC.1
    have hc20 : c < 20 := by omega
    have hcn : ¬ nI (hW (gH g) * hG (gH g)) ≤ nI c := by rw [nI_leI (by omega) (by omega)]; omega
    have hcnt := hol_cnt (gH g) (gT g) c
    have hmono := pop_mono (sH (gT g)) (hW (gH g) * hG (gH g) - c) c
    rw [show c + (hW (gH g) * hG (gH g) - c) = hW (gH g) * hG (gH g) by omega] at hmono
    by_cases hst : 8 ≤ (holQ (gH g) (gT g) c).1
    · left
      have hstop := hol_stop (gH g) (gT g) c (hW (gH g) * hG (gH g) - c) (by rw [show c + (hW (gH g) * hG (gH g) - c) = hW (gH g) * hG (gH g) by omega]; omega)
      rw [show c + (hW (gH g) * hG (gH g) - c) = hW (gH g) * hG (gH g) by omega] at hstop
      rw [hstop]
      refine ⟨q, ?_, ⟨q1, q1'⟩, q2⟩
      rw [b_Sewing_take_7]
      generalize (holQ (gH g) (gT g) c).1 = k at *
      simp (disch := omega) only [c_cells hh, w1, w2, b_Sewing_take_12, hcn, q1, hst, kf_1, kf_2, kf_3, kf_4, kf_5, kf_6, kf_7, kf_8, kf_9, kf_10, kf_11, kf_12, kf_13, kf_14, kf_15, kf_16, kf_17, kf_18, kf_19, kf_20, kf_21, kf_22, kf_23, kf_24, kf_25, kf_26, kf_27, kf_28, kf_29, kf_30, kf_31, kf_32, kf_33, kf_34, kf_35, kf_36, kf_37, kf_38, kf_39, kf_40, kf_41, kf_42, kf_43, kf_44, kf_45, kf_46, kf_47, kf_48, kf_49, kf_50, kf_51, kf_52, kf_53, kf_54, rf_1_0, rf_1_1, rf_1_2, rf_1_3, rf_1_4, rf_1_5, rf_1_6, rf_1_7, rf_1_8, rf_2_3, rf_2_4, rf_2_5, rf_2_6, rf_7_0, rf_9_0, rf_11_0, rf_11_1, rf_11_4, rf_12_3, rf_12_4, rf_12_5, rf_12_6, rf_17_0, rf_20_1, rf_22_0, rf_22_1, rf_25_2, rf_25_3, rf_25_4, rf_25_5, rf_30_1, rf_30_2, rf_30_3, rf_30_4, rf_34_0, rf_36_0, rf_36_1, rf_36_2, rf_40_0, rf_40_1, rf_40_2, rf_40_3, rf_40_4, rf_40_6, rf_40_7, rf_40_9, rf_40_12, rf_40_14, rf_40_22, rf_40_23, rf_40_24, rf_40_25, li_0, li_1, li_2, li_3, li_4, li_5, li_6, li_7, li_8, li_9, li_10, li_11, li_12, li_13, li_14, li_15, li_16, li_17, li_18, li_19, li_20, li_21, li_22, li_23, li_24, li_25, li_26, li_27, li_28, li_29, li_30, li_31, li_32, li_33, li_34, li_35, li_36, li_37, li_38, li_39, li_40, li_41, li_42, li_43, li_44, li_45, li_46, li_47, li_48, li_49, li_50, li_51, li_52, li_53, li_54, li_55, li_56, li_57, li_58, li_59, li_60, li_61, li_62, li_63, li_99, li_100, li_107, li_124, li_126, li_240, li_255, li_256, li_1000, li_1178, li_1240, li_9000, li_65536, li_1000000, nI_add, pk_mul, nI_ltI, nI_leI, nI_eq, xin_nI, nI_clamp, decide_true, decide_false, Bool.and_true, Bool.true_and, Bool.and_false, Bool.false_and, Bool.not_true, Bool.not_false, cond_true, cond_false, Option.bind_some, Option.toList_some, Option.toList_none, List.cons_append, List.nil_append, List.append_nil, Nat.not_lt_zero, Nat.zero_le, Nat.le_refl, Nat.lt_irrefl, Nat.reduceLT, Nat.reduceLeDiff, Nat.reduceEqDiff, Nat.reduceAdd, Nat.reduceMul, Bool.toNat_true, Bool.toNat_false, Nat.add_zero, Nat.zero_add, Nat.succ_ne_zero, Nat.one_ne_zero, decide_eq_true, decide_eq_false, bb1, bb0, bbT, eq_self, reduceIte, and_self, and_true, true_and]
    · right
      have hs9 := holQ_s (gH g) (gT g) c
      cases hb : (sH (gT g)).testBit c
      · have he : holQ (gH g) (gT g) (c + 1) = holQ (gH g) (gT g) c := by rw [hs9]; unfold holF; rw [hb]; rfl
        refine ⟨q, ?_, by rw [he]; exact ⟨q1, q1'⟩, q2⟩
        rw [b_Sewing_take_7]
        generalize (holQ (gH g) (gT g) c).1 = k at *
        simp (disch := omega) only [c_cells hh, w1, w2, b_Sewing_take_12, hcn, q1, hst, c_holes hs, e0, b_Sewing_take_28, c_hasBit, hb, b_Sewing_take_32, kf_1, kf_2, kf_3, kf_4, kf_5, kf_6, kf_7, kf_8, kf_9, kf_10, kf_11, kf_12, kf_13, kf_14, kf_15, kf_16, kf_17, kf_18, kf_19, kf_20, kf_21, kf_22, kf_23, kf_24, kf_25, kf_26, kf_27, kf_28, kf_29, kf_30, kf_31, kf_32, kf_33, kf_34, kf_35, kf_36, kf_37, kf_38, kf_39, kf_40, kf_41, kf_42, kf_43, kf_44, kf_45, kf_46, kf_47, kf_48, kf_49, kf_50, kf_51, kf_52, kf_53, kf_54, rf_1_0, rf_1_1, rf_1_2, rf_1_3, rf_1_4, rf_1_5, rf_1_6, rf_1_7, rf_1_8, rf_2_3, rf_2_4, rf_2_5, rf_2_6, rf_7_0, rf_9_0, rf_11_0, rf_11_1, rf_11_4, rf_12_3, rf_12_4, rf_12_5, rf_12_6, rf_17_0, rf_20_1, rf_22_0, rf_22_1, rf_25_2, rf_25_3, rf_25_4, rf_25_5, rf_30_1, rf_30_2, rf_30_3, rf_30_4, rf_34_0, rf_36_0, rf_36_1, rf_36_2, rf_40_0, rf_40_1, rf_40_2, rf_40_3, rf_40_4, rf_40_6, rf_40_7, rf_40_9, rf_40_12, rf_40_14, rf_40_22, rf_40_23, rf_40_24, rf_40_25, li_0, li_1, li_2, li_3, li_4, li_5, li_6, li_7, li_8, li_9, li_10, li_11, li_12, li_13, li_14, li_15, li_16, li_17, li_18, li_19, li_20, li_21, li_22, li_23, li_24, li_25, li_26, li_27, li_28, li_29, li_30, li_31, li_32, li_33, li_34, li_35, li_36, li_37, li_38, li_39, li_40, li_41, li_42, li_43, li_44, li_45, li_46, li_47, li_48, li_49, li_50, li_51, li_52, li_53, li_54, li_55, li_56, li_57, li_58, li_59, li_60, li_61, li_62, li_63, li_99, li_100, li_107, li_124, li_126, li_240, li_255, li_256, li_1000, li_1178, li_1240, li_9000, li_65536, li_1000000, nI_add, pk_mul, nI_ltI, nI_leI, nI_eq, xin_nI, nI_clamp, decide_true, decide_false, Bool.and_true, Bool.true_and, Bool.and_false, Bool.false_and, Bool.not_true, Bool.not_false, cond_true, cond_false, Option.bind_some, Option.toList_some, Option.toList_none, List.cons_append, List.nil_append, List.append_nil, Nat.not_lt_zero, Nat.zero_le, Nat.le_refl, Nat.lt_irrefl, Nat.reduceLT, Nat.reduceLeDiff, Nat.reduceEqDiff, Nat.reduceAdd, Nat.reduceMul, Bool.toNat_true, Bool.toNat_false, Nat.add_zero, Nat.zero_add, Nat.succ_ne_zero, Nat.one_ne_zero, decide_eq_true, decide_eq_false, bb1, bb0, bbT, eq_self, reduceIte, and_self, and_true, true_and]
      · have he : holQ (gH g) (gT g) (c + 1) = ((holQ (gH g) (gT g) c).1 + 1, upN (holQ (gH g) (gT g) c).2 (holQ (gH g) (gT g) c).1 (hmn (gH g) (sK (gT g) c))) := by rw [hs9]; unfold holF; rw [hb]; rfl
        have e1 := (SC.2.2.1 c hc20).1
        have e2 := hT.2.1 c hc20
        have e3 := (HC.2.2.2 _ e2).2.2.1
        have hp := fun {J : Nat → Nat → Int64} {M : Mem} {v : Int32} => c_put (sh := xSH L) (M := M) (J := J) (v := v) (kf_37 L) (by decide) (show (holQ (gH g) (gT g) c).1 < 8 by omega)
        refine ⟨xu (xu q 37 (holQ (gH g) (gT g) c).1 (nI (hmn (gH g) (sK (gT g) c)))) 36 3 (nI ((holQ (gH g) (gT g) c).1 + 1)), ?_, ⟨?_, fun i hi => ?_⟩, onlyL_xu (onlyL_xu q2 (by decide)) (by decide)⟩
        · rw [b_Sewing_take_7]
          generalize (holQ (gH g) (gT g) c).1 = k at *
          simp (disch := omega) only [c_cells hh, w1, w2, b_Sewing_take_12, hcn, q1, hst, c_holes hs, e0, b_Sewing_take_28, c_hasBit, hb, b_Sewing_take_32, c_clothAt hs, e1, b_Sewing_take_49, c_minutesOf hh, e3, b_Sewing_take_52, hp, b_Sewing_take_55, xu_ne (show (36 : Nat) ≠ 37 by decide), kf_1, kf_2, kf_3, kf_4, kf_5, kf_6, kf_7, kf_8, kf_9, kf_10, kf_11, kf_12, kf_13, kf_14, kf_15, kf_16, kf_17, kf_18, kf_19, kf_20, kf_21, kf_22, kf_23, kf_24, kf_25, kf_26, kf_27, kf_28, kf_29, kf_30, kf_31, kf_32, kf_33, kf_34, kf_35, kf_36, kf_37, kf_38, kf_39, kf_40, kf_41, kf_42, kf_43, kf_44, kf_45, kf_46, kf_47, kf_48, kf_49, kf_50, kf_51, kf_52, kf_53, kf_54, rf_1_0, rf_1_1, rf_1_2, rf_1_3, rf_1_4, rf_1_5, rf_1_6, rf_1_7, rf_1_8, rf_2_3, rf_2_4, rf_2_5, rf_2_6, rf_7_0, rf_9_0, rf_11_0, rf_11_1, rf_11_4, rf_12_3, rf_12_4, rf_12_5, rf_12_6, rf_17_0, rf_20_1, rf_22_0, rf_22_1, rf_25_2, rf_25_3, rf_25_4, rf_25_5, rf_30_1, rf_30_2, rf_30_3, rf_30_4, rf_34_0, rf_36_0, rf_36_1, rf_36_2, rf_40_0, rf_40_1, rf_40_2, rf_40_3, rf_40_4, rf_40_6, rf_40_7, rf_40_9, rf_40_12, rf_40_14, rf_40_22, rf_40_23, rf_40_24, rf_40_25, li_0, li_1, li_2, li_3, li_4, li_5, li_6, li_7, li_8, li_9, li_10, li_11, li_12, li_13, li_14, li_15, li_16, li_17, li_18, li_19, li_20, li_21, li_22, li_23, li_24, li_25, li_26, li_27, li_28, li_29, li_30, li_31, li_32, li_33, li_34, li_35, li_36, li_37, li_38, li_39, li_40, li_41, li_42, li_43, li_44, li_45, li_46, li_47, li_48, li_49, li_50, li_51, li_52, li_53, li_54, li_55, li_56, li_57, li_58, li_59, li_60, li_61, li_62, li_63, li_99, li_100, li_107, li_124, li_126, li_240, li_255, li_256, li_1000, li_1178, li_1240, li_9000, li_65536, li_1000000, nI_add, pk_mul, nI_ltI, nI_leI, nI_eq, xin_nI, nI_clamp, decide_true, decide_false, Bool.and_true, Bool.true_and, Bool.and_false, Bool.false_and, Bool.not_true, Bool.not_false, cond_true, cond_false, Option.bind_some, Option.toList_some, Option.toList_none, List.cons_append, List.nil_append, List.append_nil, Nat.not_lt_zero, Nat.zero_le, Nat.le_refl, Nat.lt_irrefl, Nat.reduceLT, Nat.reduceLeDiff, Nat.reduceEqDiff, Nat.reduceAdd, Nat.reduceMul, Bool.toNat_true, Bool.toNat_false, Nat.add_zero, Nat.zero_add, Nat.succ_ne_zero, Nat.one_ne_zero, decide_eq_true, decide_eq_false, bb1, bb0, bbT, eq_self, reduceIte, and_self, and_true, true_and]
        · rw [xu_at, he]
        · rw [he] at hi ⊢
          have hi' : i < (holQ (gH g) (gT g) c).1 + 1 := hi
          rw [xu_ne (by decide)]
          show _ = nI (upN _ _ _ i)
          unfold upN
          by_cases hq : i = (holQ (gH g) (gT g) c).1
          · rw [if_pos hq, hq, xu_at]
          · rw [if_neg hq, xu_off hq]; exact q1' i (by omega)
theorem c_minutesByOne (h3 : M 36 3 = nI n) (hm : ∀ i, i < n → M 37 i = nI (m i)) (hn : n ≤ 8) {s : Nat} (hs : s < 2 ^ 31) : ev (87, 0, [.ref 36, .int (nI s), .null, .null], [], (xSH L, M, J)) = some (some (.int (nI (one n m s))), (xSH L, M, J)) := by
  rw [b_Sewing_minutesByOne_0]
  have key := loop_it (E := fun i z => ev (87, 4, [.ref 36, .int (nI s), .int (nI z), .int (nI i)], [], (xSH L, M, J))) (F := fun z => some (some (.int (nI z)), (xSH L, M, J))) (fun i z => if s.testBit i then z + m i else z) (fun _ _ => True) (n := n) ?_ ?_ n 0 0 (by omega) trivial
  · exact key.1
  · intro z _
    rw [b_Sewing_minutesByOne_4]
    simp (disch := omega) only [h3, kf_1, kf_2, kf_3, kf_4, kf_5, kf_6, kf_7, kf_8, kf_9, kf_10, kf_11, kf_12, kf_13, kf_14, kf_15, kf_16, kf_17, kf_18, kf_19, kf_20, kf_21, kf_22, kf_23, kf_24, kf_25, kf_26, kf_27, kf_28, kf_29, kf_30, kf_31, kf_32, kf_33, kf_34, kf_35, kf_36, kf_37, kf_38, kf_39, kf_40, kf_41, kf_42, kf_43, kf_44, kf_45, kf_46, kf_47, kf_48, kf_49, kf_50, kf_51, kf_52, kf_53, kf_54, rf_1_0, rf_1_1, rf_1_2, rf_1_3, rf_1_4, rf_1_5, rf_1_6, rf_1_7, rf_1_8, rf_2_3, rf_2_4, rf_2_5, rf_2_6, rf_7_0, rf_9_0, rf_11_0, rf_11_1, rf_11_4, rf_12_3, rf_12_4, rf_12_5, rf_12_6, rf_17_0, rf_20_1, rf_22_0, rf_22_1, rf_25_2, rf_25_3, rf_25_4, rf_25_5, rf_30_1, rf_30_2, rf_30_3, rf_30_4, rf_34_0, rf_36_0, rf_36_1, rf_36_2, rf_40_0, rf_40_1, rf_40_2, rf_40_3, rf_40_4, rf_40_6, rf_40_7, rf_40_9, rf_40_12, rf_40_14, rf_40_22, rf_40_23, rf_40_24, rf_40_25, li_0, li_1, li_2, li_3, li_4, li_5, li_6, li_7, li_8, li_9, li_10, li_11, li_12, li_13, li_14, li_15, li_16, li_17, li_18, li_19, li_20, li_21, li_22, li_23, li_24, li_25, li_26, li_27, li_28, li_29, li_30, li_31, li_32, li_33, li_34, li_35, li_36, li_37, li_38, li_39, li_40, li_41, li_42, li_43, li_44, li_45, li_46, li_47, li_48, li_49, li_50, li_51, li_52, li_53, li_54, li_55, li_56, li_57, li_58, li_59, li_60, li_61, li_62, li_63, li_99, li_100, li_107, li_124, li_126, li_240, li_255, li_256, li_1000, li_1178, li_1240, li_9000, li_65536, li_1000000, nI_add, pk_mul, nI_ltI, nI_leI, nI_eq, xin_nI, nI_clamp, decide_true, decide_false, Bool.and_true, Bool.true_and, Bool.and_false, Bool.false_and, Bool.not_true, Bool.not_false, cond_true, cond_false, Option.bind_some, Option.toList_some, Option.toList_none, List.cons_append, List.nil_append, List.append_nil, Nat.not_lt_zero, Nat.zero_le, Nat.le_refl, Nat.lt_irrefl, Nat.reduceLT, Nat.reduceLeDiff, Nat.reduceEqDiff, Nat.reduceAdd, Nat.reduceMul, Bool.toNat_true, Bool.toNat_false, Nat.add_zero, Nat.zero_add, Nat.succ_ne_zero, Nat.one_ne_zero, decide_eq_true, decide_eq_false, bb1, bb0, bbT, eq_self, reduceIte, and_self, and_true, true_and]
  · intro i z hlt _
    refine ⟨?_, trivial⟩
    have e4 : ¬ n ≤ i := by omega
    have em := hm i hlt
    have hp := fun {J : Nat → Nat → Int64} => c_at (sh := xSH L) (M := M) (J := J) (kf_37 L) (by decide) (show i < 8 by omega)
    rw [b_Sewing_minutesByOne_4]
    cases hb : s.testBit i
    · simp (disch := omega) only [h3, e4, c_hasBit, hb, b_Sewing_minutesByOne_18, kf_1, kf_2, kf_3, kf_4, kf_5, kf_6, kf_7, kf_8, kf_9, kf_10, kf_11, kf_12, kf_13, kf_14, kf_15, kf_16, kf_17, kf_18, kf_19, kf_20, kf_21, kf_22, kf_23, kf_24, kf_25, kf_26, kf_27, kf_28, kf_29, kf_30, kf_31, kf_32, kf_33, kf_34, kf_35, kf_36, kf_37, kf_38, kf_39, kf_40, kf_41, kf_42, kf_43, kf_44, kf_45, kf_46, kf_47, kf_48, kf_49, kf_50, kf_51, kf_52, kf_53, kf_54, rf_1_0, rf_1_1, rf_1_2, rf_1_3, rf_1_4, rf_1_5, rf_1_6, rf_1_7, rf_1_8, rf_2_3, rf_2_4, rf_2_5, rf_2_6, rf_7_0, rf_9_0, rf_11_0, rf_11_1, rf_11_4, rf_12_3, rf_12_4, rf_12_5, rf_12_6, rf_17_0, rf_20_1, rf_22_0, rf_22_1, rf_25_2, rf_25_3, rf_25_4, rf_25_5, rf_30_1, rf_30_2, rf_30_3, rf_30_4, rf_34_0, rf_36_0, rf_36_1, rf_36_2, rf_40_0, rf_40_1, rf_40_2, rf_40_3, rf_40_4, rf_40_6, rf_40_7, rf_40_9, rf_40_12, rf_40_14, rf_40_22, rf_40_23, rf_40_24, rf_40_25, li_0, li_1, li_2, li_3, li_4, li_5, li_6, li_7, li_8, li_9, li_10, li_11, li_12, li_13, li_14, li_15, li_16, li_17, li_18, li_19, li_20, li_21, li_22, li_23, li_24, li_25, li_26, li_27, li_28, li_29, li_30, li_31, li_32, li_33, li_34, li_35, li_36, li_37, li_38, li_39, li_40, li_41, li_42, li_43, li_44, li_45, li_46, li_47, li_48, li_49, li_50, li_51, li_52, li_53, li_54, li_55, li_56, li_57, li_58, li_59, li_60, li_61, li_62, li_63, li_99, li_100, li_107, li_124, li_126, li_240, li_255, li_256, li_1000, li_1178, li_1240, li_9000, li_65536, li_1000000, nI_add, pk_mul, nI_ltI, nI_leI, nI_eq, xin_nI, nI_clamp, decide_true, decide_false, Bool.and_true, Bool.true_and, Bool.and_false, Bool.false_and, Bool.not_true, Bool.not_false, cond_true, cond_false, Option.bind_some, Option.toList_some, Option.toList_none, List.cons_append, List.nil_append, List.append_nil, Nat.not_lt_zero, Nat.zero_le, Nat.le_refl, Nat.lt_irrefl, Nat.reduceLT, Nat.reduceLeDiff, Nat.reduceEqDiff, Nat.reduceAdd, Nat.reduceMul, Bool.toNat_true, Bool.toNat_false, Nat.add_zero, Nat.zero_add, Nat.succ_ne_zero, Nat.one_ne_zero, decide_eq_true, decide_eq_false, bb1, bb0, bbT, eq_self, reduceIte, and_self, and_true, true_and]
      rfl
    · simp (disch := omega) only [h3, e4, c_hasBit, hb, b_Sewing_minutesByOne_18, hp, em, b_Sewing_minutesByOne_29, kf_1, kf_2, kf_3, kf_4, kf_5, kf_6, kf_7, kf_8, kf_9, kf_10, kf_11, kf_12, kf_13, kf_14, kf_15, kf_16, kf_17, kf_18, kf_19, kf_20, kf_21, kf_22, kf_23, kf_24, kf_25, kf_26, kf_27, kf_28, kf_29, kf_30, kf_31, kf_32, kf_33, kf_34, kf_35, kf_36, kf_37, kf_38, kf_39, kf_40, kf_41, kf_42, kf_43, kf_44, kf_45, kf_46, kf_47, kf_48, kf_49, kf_50, kf_51, kf_52, kf_53, kf_54, rf_1_0, rf_1_1, rf_1_2, rf_1_3, rf_1_4, rf_1_5, rf_1_6, rf_1_7, rf_1_8, rf_2_3, rf_2_4, rf_2_5, rf_2_6, rf_7_0, rf_9_0, rf_11_0, rf_11_1, rf_11_4, rf_12_3, rf_12_4, rf_12_5, rf_12_6, rf_17_0, rf_20_1, rf_22_0, rf_22_1, rf_25_2, rf_25_3, rf_25_4, rf_25_5, rf_30_1, rf_30_2, rf_30_3, rf_30_4, rf_34_0, rf_36_0, rf_36_1, rf_36_2, rf_40_0, rf_40_1, rf_40_2, rf_40_3, rf_40_4, rf_40_6, rf_40_7, rf_40_9, rf_40_12, rf_40_14, rf_40_22, rf_40_23, rf_40_24, rf_40_25, li_0, li_1, li_2, li_3, li_4, li_5, li_6, li_7, li_8, li_9, li_10, li_11, li_12, li_13, li_14, li_15, li_16, li_17, li_18, li_19, li_20, li_21, li_22, li_23, li_24, li_25, li_26, li_27, li_28, li_29, li_30, li_31, li_32, li_33, li_34, li_35, li_36, li_37, li_38, li_39, li_40, li_41, li_42, li_43, li_44, li_45, li_46, li_47, li_48, li_49, li_50, li_51, li_52, li_53, li_54, li_55, li_56, li_57, li_58, li_59, li_60, li_61, li_62, li_63, li_99, li_100, li_107, li_124, li_126, li_240, li_255, li_256, li_1000, li_1178, li_1240, li_9000, li_65536, li_1000000, nI_add, pk_mul, nI_ltI, nI_leI, nI_eq, xin_nI, nI_clamp, decide_true, decide_false, Bool.and_true, Bool.true_and, Bool.and_false, Bool.false_and, Bool.not_true, Bool.not_false, cond_true, cond_false, Option.bind_some, Option.toList_some, Option.toList_none, List.cons_append, List.nil_append, List.append_nil, Nat.not_lt_zero, Nat.zero_le, Nat.le_refl, Nat.lt_irrefl, Nat.reduceLT, Nat.reduceLeDiff, Nat.reduceEqDiff, Nat.reduceAdd, Nat.reduceMul, Bool.toNat_true, Bool.toNat_false, Nat.add_zero, Nat.zero_add, Nat.succ_ne_zero, Nat.one_ne_zero, decide_eq_true, decide_eq_false, bb1, bb0, bbT, eq_self, reduceIte, and_self, and_true, true_and]
theorem c_addInner (hn : n ≤ 8) (h38 : ∀ s, s < 2 ^ n → M 38 s = nI (one n m s)) (hm : ∀ i, i < n → m i ≤ 60) {set : Nat} (hset : set < 2 ^ n) (h0 : 0 < set) (h39 : ∀ s, s ≤ set → M 39 s = nI (A s)) (hA : ∀ s, s < 2 ^ n → A s ≤ 1000) : ∀ (k part fw : Nat), part < k → part &&& set = part → (∀ p, part < p → p &&& set = p → fw ≤ max (one n m p) (A (set ^^^ p))) → fw ≤ A set → (fw = A set ∨ ∃ p, 0 < p ∧ p &&& set = p ∧ fw = max (one n m p) (A (set ^^^ p))) → ∃ v, ev (88, 18, [.ref 36, .null, .int (nI set), .int (nI fw), .int (nI part)], [], (xSH L, M, J)) = ev (88, 2, [.ref 36, .null, .int (nI (set - 1)), .null, .null], [], (xSH L, xu M 39 set (nI v), J)) ∧ nx1 n m A set v := by
  have h256 : 2 ^ n ≤ 256 := Nat.pow_le_pow_right (n := 2) (by decide) hn
  have eneg : nI set + -nI 1 = nI (set - 1) := by rw [← Int32.sub_eq_add_neg, pk_sub (by omega)]
  intro k
  induction k with
  | zero => intro part fw h; omega
  | succ k ih =>
    intro part fw hk hps ha hb hc
    have hple : part ≤ set := by have : part &&& set ≤ set := Nat.and_le_right; omega
    have hAs := hA set hset
    rw [b_Sewing_addTailor_18]
    by_cases hz : part ≤ 0
    · have e : part = 0 := by omega
      subst e
      refine ⟨fw, ?_, hb, fun p hp0 hps' => ha p hp0 hps', hc⟩
      have hp := fun {J : Nat → Nat → Int64} {M : Mem} {v : Int32} => c_put (sh := xSH L) (M := M) (J := J) (v := v) (kf_39 L) (by decide) (show set < 256 by omega)
      simp (disch := omega) only [hp, b_Sewing_addTailor_71, eneg, kf_1, kf_2, kf_3, kf_4, kf_5, kf_6, kf_7, kf_8, kf_9, kf_10, kf_11, kf_12, kf_13, kf_14, kf_15, kf_16, kf_17, kf_18, kf_19, kf_20, kf_21, kf_22, kf_23, kf_24, kf_25, kf_26, kf_27, kf_28, kf_29, kf_30, kf_31, kf_32, kf_33, kf_34, kf_35, kf_36, kf_37, kf_38, kf_39, kf_40, kf_41, kf_42, kf_43, kf_44, kf_45, kf_46, kf_47, kf_48, kf_49, kf_50, kf_51, kf_52, kf_53, kf_54, rf_1_0, rf_1_1, rf_1_2, rf_1_3, rf_1_4, rf_1_5, rf_1_6, rf_1_7, rf_1_8, rf_2_3, rf_2_4, rf_2_5, rf_2_6, rf_7_0, rf_9_0, rf_11_0, rf_11_1, rf_11_4, rf_12_3, rf_12_4, rf_12_5, rf_12_6, rf_17_0, rf_20_1, rf_22_0, rf_22_1, rf_25_2, rf_25_3, rf_25_4, rf_25_5, rf_30_1, rf_30_2, rf_30_3, rf_30_4, rf_34_0, rf_36_0, rf_36_1, rf_36_2, rf_40_0, rf_40_1, rf_40_2, rf_40_3, rf_40_4, rf_40_6, rf_40_7, rf_40_9, rf_40_12, rf_40_14, rf_40_22, rf_40_23, rf_40_24, rf_40_25, li_0, li_1, li_2, li_3, li_4, li_5, li_6, li_7, li_8, li_9, li_10, li_11, li_12, li_13, li_14, li_15, li_16, li_17, li_18, li_19, li_20, li_21, li_22, li_23, li_24, li_25, li_26, li_27, li_28, li_29, li_30, li_31, li_32, li_33, li_34, li_35, li_36, li_37, li_38, li_39, li_40, li_41, li_42, li_43, li_44, li_45, li_46, li_47, li_48, li_49, li_50, li_51, li_52, li_53, li_54, li_55, li_56, li_57, li_58, li_59, li_60, li_61, li_62, li_63, li_99, li_100, li_107, li_124, li_126, li_240, li_255, li_256, li_1000, li_1178, li_1240, li_9000, li_65536, li_1000000, nI_add, pk_mul, nI_ltI, nI_leI, nI_eq, xin_nI, nI_clamp, decide_true, decide_false, Bool.and_true, Bool.true_and, Bool.and_false, Bool.false_and, Bool.not_true, Bool.not_false, cond_true, cond_false, Option.bind_some, Option.toList_some, Option.toList_none, List.cons_append, List.nil_append, List.append_nil, Nat.not_lt_zero, Nat.zero_le, Nat.le_refl, Nat.lt_irrefl, Nat.reduceLT, Nat.reduceLeDiff, Nat.reduceEqDiff, Nat.reduceAdd, Nat.reduceMul, Bool.toNat_true, Bool.toNat_false, Nat.add_zero, Nat.zero_add, Nat.succ_ne_zero, Nat.one_ne_zero, decide_eq_true, decide_eq_false, bb1, bb0, bbT, eq_self, reduceIte, and_self, and_true, true_and]
    · have hx := xor_sub hps
      have hxle : set ^^^ part ≤ set := by have : (set ^^^ part) &&& set ≤ set := Nat.and_le_right; omega
      have e38 := h38 part (by omega)
      have e39 := h39 (set ^^^ part) hxle
      have hAx := hA (set ^^^ part) (by omega)
      have ho : one n m part ≤ 60 * n := sel_le hm
      have g1 := fun {J : Nat → Nat → Int64} => c_at (sh := xSH L) (M := M) (J := J) (kf_38 L) (by decide) (show part < 256 by omega)
      have g2 := fun {J : Nat → Nat → Int64} => c_at (sh := xSH L) (M := M) (J := J) (kf_39 L) (by decide) (show set ^^^ part < 256 by omega)
      have e1 : nI part - nI 1 = nI (part - 1) := pk_sub (by omega)
      have hle : (part - 1) &&& set ≤ part - 1 := Nat.and_le_left
      obtain ⟨v, v1, v2⟩ := ih ((part - 1) &&& set) (min fw (max (one n m part) (A (set ^^^ part)))) (by omega) (by rw [Nat.and_assoc, Nat.and_self]) (fun p hp hps' => by
        rcases Nat.lt_trichotomy p part with q | q | q
        · have := sub_step n set part p (by omega) hps hps' q
          omega
        · subst q; omega
        · have := ha p q hps'; omega) (by omega) (by
        rcases Nat.le_total fw (max (one n m part) (A (set ^^^ part))) with q | q
        · rw [Nat.min_eq_left q]; exact hc
        · rw [Nat.min_eq_right q]; exact Or.inr ⟨part, by omega, hps, rfl⟩)
      refine ⟨v, ?_, v2⟩
      rw [← v1]
      simp (disch := omega) only [hz, g1, e38, b_Sewing_addTailor_33, nI_xor, g2, e39, b_Sewing_addTailor_44, xmax_nI, xmin_nI, e1, nI_and, kf_1, kf_2, kf_3, kf_4, kf_5, kf_6, kf_7, kf_8, kf_9, kf_10, kf_11, kf_12, kf_13, kf_14, kf_15, kf_16, kf_17, kf_18, kf_19, kf_20, kf_21, kf_22, kf_23, kf_24, kf_25, kf_26, kf_27, kf_28, kf_29, kf_30, kf_31, kf_32, kf_33, kf_34, kf_35, kf_36, kf_37, kf_38, kf_39, kf_40, kf_41, kf_42, kf_43, kf_44, kf_45, kf_46, kf_47, kf_48, kf_49, kf_50, kf_51, kf_52, kf_53, kf_54, rf_1_0, rf_1_1, rf_1_2, rf_1_3, rf_1_4, rf_1_5, rf_1_6, rf_1_7, rf_1_8, rf_2_3, rf_2_4, rf_2_5, rf_2_6, rf_7_0, rf_9_0, rf_11_0, rf_11_1, rf_11_4, rf_12_3, rf_12_4, rf_12_5, rf_12_6, rf_17_0, rf_20_1, rf_22_0, rf_22_1, rf_25_2, rf_25_3, rf_25_4, rf_25_5, rf_30_1, rf_30_2, rf_30_3, rf_30_4, rf_34_0, rf_36_0, rf_36_1, rf_36_2, rf_40_0, rf_40_1, rf_40_2, rf_40_3, rf_40_4, rf_40_6, rf_40_7, rf_40_9, rf_40_12, rf_40_14, rf_40_22, rf_40_23, rf_40_24, rf_40_25, li_0, li_1, li_2, li_3, li_4, li_5, li_6, li_7, li_8, li_9, li_10, li_11, li_12, li_13, li_14, li_15, li_16, li_17, li_18, li_19, li_20, li_21, li_22, li_23, li_24, li_25, li_26, li_27, li_28, li_29, li_30, li_31, li_32, li_33, li_34, li_35, li_36, li_37, li_38, li_39, li_40, li_41, li_42, li_43, li_44, li_45, li_46, li_47, li_48, li_49, li_50, li_51, li_52, li_53, li_54, li_55, li_56, li_57, li_58, li_59, li_60, li_61, li_62, li_63, li_99, li_100, li_107, li_124, li_126, li_240, li_255, li_256, li_1000, li_1178, li_1240, li_9000, li_65536, li_1000000, nI_add, pk_mul, nI_ltI, nI_leI, nI_eq, xin_nI, nI_clamp, decide_true, decide_false, Bool.and_true, Bool.true_and, Bool.and_false, Bool.false_and, Bool.not_true, Bool.not_false, cond_true, cond_false, Option.bind_some, Option.toList_some, Option.toList_none, List.cons_append, List.nil_append, List.append_nil, Nat.not_lt_zero, Nat.zero_le, Nat.le_refl, Nat.lt_irrefl, Nat.reduceLT, Nat.reduceLeDiff, Nat.reduceEqDiff, Nat.reduceAdd, Nat.reduceMul, Bool.toNat_true, Bool.toNat_false, Nat.add_zero, Nat.zero_add, Nat.succ_ne_zero, Nat.one_ne_zero, decide_eq_true, decide_eq_false, bb1, bb0, bbT, eq_self, reduceIte, and_self, and_true, true_and]
theorem c_addTailor (hn : n ≤ 8) (hm : ∀ i, i < n → m i ≤ 60) (hA : ∀ s, s < 2 ^ n → A s ≤ 1000) (h38 : ∀ s, s < 2 ^ n → M 38 s = nI (one n m s)) (h39 : ∀ s, s < 2 ^ n → M 39 s = nI (A s)) : ∃ M' A', ev (88, 0, [.ref 36, .int (nI (2 ^ n - 1)), .null, .null, .null], [], (xSH L, M, J)) = some (none, (xSH L, M', J)) ∧ isNext n m A A' ∧ (∀ s, s < 2 ^ n → M' 39 s = nI (A' s)) ∧ only M M' 39 := by
  have h256 : 2 ^ n ≤ 256 := Nat.pow_le_pow_right (n := 2) (by decide) hn
  have h1 : 0 < 2 ^ n := Nat.pow_pos (by decide)
  have key : ∀ (set : Nat) (M2 : Mem) (B : Nat → Nat), set < 2 ^ n → only M M2 39 → (∀ s, s < 2 ^ n → M2 39 s = nI (B s)) → (∀ s, s ≤ set → B s = A s) → (∀ s, set < s → s < 2 ^ n → nx1 n m A s (B s)) → ∃ M' A', ev (88, 2, [.ref 36, .null, .int (nI set), .null, .null], [], (xSH L, M2, J)) = some (none, (xSH L, M', J)) ∧ isNext n m A A' ∧ (∀ s, s < 2 ^ n → M' 39 s = nI (A' s)) ∧ only M M' 39 := by
    intro set
    induction set with
    | zero =>
      intro M2 B _ o hB hle hgt
      refine ⟨M2, B, ?_, fun s hs => ?_, hB, o⟩
      · rw [b_Sewing_addTailor_2]
        simp (disch := omega) only [li_0, li_1, li_2, li_3, li_4, li_5, li_6, li_7, li_8, li_9, li_10, li_11, li_12, li_13, li_14, li_15, li_16, li_17, li_18, li_19, li_20, li_21, li_22, li_23, li_24, li_25, li_26, li_27, li_28, li_29, li_30, li_31, li_32, li_33, li_34, li_35, li_36, li_37, li_38, li_39, li_40, li_41, li_42, li_43, li_44, li_45, li_46, li_47, li_48, li_49, li_50, li_51, li_52, li_53, li_54, li_55, li_56, li_57, li_58, li_59, li_60, li_61, li_62, li_63, li_99, li_100, li_107, li_124, li_126, li_240, li_255, li_256, li_1000, li_1178, li_1240, li_9000, li_65536, li_1000000, nI_add, pk_mul, nI_ltI, nI_leI, nI_eq, xin_nI, nI_clamp, decide_true, decide_false, Bool.and_true, Bool.true_and, Bool.and_false, Bool.false_and, Bool.not_true, Bool.not_false, cond_true, cond_false, Option.bind_some, Option.toList_some, Option.toList_none, List.cons_append, List.nil_append, List.append_nil, Nat.not_lt_zero, Nat.zero_le, Nat.le_refl, Nat.lt_irrefl, Nat.reduceLT, Nat.reduceLeDiff, Nat.reduceEqDiff, Nat.reduceAdd, Nat.reduceMul, Bool.toNat_true, Bool.toNat_false, Nat.add_zero, Nat.zero_add, Nat.succ_ne_zero, Nat.one_ne_zero, decide_eq_true, decide_eq_false, bb1, bb0, bbT, eq_self, reduceIte, and_self, and_true, true_and]
      · rcases Nat.eq_zero_or_pos s with q | q
        · subst q
          rw [hle 0 (Nat.le_refl 0)]
          refine ⟨Nat.le_refl _, fun p hp0 hps => ?_, Or.inl rfl⟩
          rw [Nat.and_zero] at hps
          omega
        · exact hgt s q hs
    | succ set ih =>
      intro M2 B hset o hB hle hgt
      have e4 : ¬ set + 1 ≤ 0 := by omega
      have e39 := hB (set + 1) hset
      rw [hle (set + 1) (Nat.le_refl _)] at e39
      have g2 := fun {J : Nat → Nat → Int64} => c_at (sh := xSH L) (M := M2) (J := J) (kf_39 L) (by decide) (show set + 1 < 256 by omega)
      obtain ⟨v, v1, v2⟩ := c_addInner (L := L) (J := J) (M := M2) hn (fun s hs => by rw [o 38 (by decide)]; exact h38 s hs) hm hset (by omega) (fun s hs => by rw [hB s (by omega), hle s hs]) hA (set + 2) (set + 1) (A (set + 1)) (by omega) (Nat.and_self _) (fun p hp hps => by
        have : p &&& (set + 1) ≤ set + 1 := Nat.and_le_right
        omega) (Nat.le_refl _) (Or.inl rfl)
      rw [Nat.add_sub_cancel] at v1
      obtain ⟨M', A', k1, k2, k3, k4⟩ := ih (xu M2 39 (set + 1) (nI v)) (upN B (set + 1) v) (by omega) (only_xu' o) (fun s hs => by
        unfold upN
        by_cases q : s = set + 1
        · rw [if_pos q, q, xu_at]
        · rw [if_neg q, xu_off q]; exact hB s hs) (fun s hs => by
        unfold upN
        rw [if_neg (by omega)]; exact hle s (by omega)) (fun s hs1 hs2 => by
        unfold upN
        by_cases q : s = set + 1
        · rw [if_pos q, q]; exact v2
        · rw [if_neg q]; exact hgt s (by omega) hs2)
      refine ⟨M', A', ?_, k2, k3, k4⟩
      rw [← k1, ← v1, b_Sewing_addTailor_2]
      simp (disch := omega) only [e4, g2, e39, b_Sewing_addTailor_14, kf_1, kf_2, kf_3, kf_4, kf_5, kf_6, kf_7, kf_8, kf_9, kf_10, kf_11, kf_12, kf_13, kf_14, kf_15, kf_16, kf_17, kf_18, kf_19, kf_20, kf_21, kf_22, kf_23, kf_24, kf_25, kf_26, kf_27, kf_28, kf_29, kf_30, kf_31, kf_32, kf_33, kf_34, kf_35, kf_36, kf_37, kf_38, kf_39, kf_40, kf_41, kf_42, kf_43, kf_44, kf_45, kf_46, kf_47, kf_48, kf_49, kf_50, kf_51, kf_52, kf_53, kf_54, rf_1_0, rf_1_1, rf_1_2, rf_1_3, rf_1_4, rf_1_5, rf_1_6, rf_1_7, rf_1_8, rf_2_3, rf_2_4, rf_2_5, rf_2_6, rf_7_0, rf_9_0, rf_11_0, rf_11_1, rf_11_4, rf_12_3, rf_12_4, rf_12_5, rf_12_6, rf_17_0, rf_20_1, rf_22_0, rf_22_1, rf_25_2, rf_25_3, rf_25_4, rf_25_5, rf_30_1, rf_30_2, rf_30_3, rf_30_4, rf_34_0, rf_36_0, rf_36_1, rf_36_2, rf_40_0, rf_40_1, rf_40_2, rf_40_3, rf_40_4, rf_40_6, rf_40_7, rf_40_9, rf_40_12, rf_40_14, rf_40_22, rf_40_23, rf_40_24, rf_40_25, li_0, li_1, li_2, li_3, li_4, li_5, li_6, li_7, li_8, li_9, li_10, li_11, li_12, li_13, li_14, li_15, li_16, li_17, li_18, li_19, li_20, li_21, li_22, li_23, li_24, li_25, li_26, li_27, li_28, li_29, li_30, li_31, li_32, li_33, li_34, li_35, li_36, li_37, li_38, li_39, li_40, li_41, li_42, li_43, li_44, li_45, li_46, li_47, li_48, li_49, li_50, li_51, li_52, li_53, li_54, li_55, li_56, li_57, li_58, li_59, li_60, li_61, li_62, li_63, li_99, li_100, li_107, li_124, li_126, li_240, li_255, li_256, li_1000, li_1178, li_1240, li_9000, li_65536, li_1000000, nI_add, pk_mul, nI_ltI, nI_leI, nI_eq, xin_nI, nI_clamp, decide_true, decide_false, Bool.and_true, Bool.true_and, Bool.and_false, Bool.false_and, Bool.not_true, Bool.not_false, cond_true, cond_false, Option.bind_some, Option.toList_some, Option.toList_none, List.cons_append, List.nil_append, List.append_nil, Nat.not_lt_zero, Nat.zero_le, Nat.le_refl, Nat.lt_irrefl, Nat.reduceLT, Nat.reduceLeDiff, Nat.reduceEqDiff, Nat.reduceAdd, Nat.reduceMul, Bool.toNat_true, Bool.toNat_false, Nat.add_zero, Nat.zero_add, Nat.succ_ne_zero, Nat.one_ne_zero, decide_eq_true, decide_eq_false, bb1, bb0, bbT, eq_self, reduceIte, and_self, and_true, true_and]
  obtain ⟨M', A', k1, k2⟩ := key (2 ^ n - 1) M A (by omega) only_rf h39 (fun s _ => rfl) (fun s h h2 => by omega)
  refine ⟨M', A', ?_, k2⟩
  rw [b_Sewing_addTailor_0]
  exact k1
theorem att_1000 {t : Nat} (hn : n ≤ 8) (hm : ∀ i, i < n → m i ≤ 60) (h : AttC n m A t) : ∀ s, s < 2 ^ n → A s ≤ 1000 := by
  intro s hs
  obtain ⟨f, -, he⟩ := h s hs
  have := vmax_le (f := f) (s := s) hm t
  omega
theorem c_fewest (hn : n ≤ 8) (hm60 : ∀ i, i < n → m i ≤ 60) (h3 : M 36 3 = nI n) (hm : ∀ i, i < n → M 37 i = nI (m i)) {k : Nat} (hk1 : 1 ≤ k) (hk3 : k ≤ 3) : ∃ M', ev (86, 0, [.ref 36, .int (nI k), .null, .null, .null], [], (xSH L, M, J)) = some (some (.int (nI (sewV n m k))), (xSH L, M', J)) ∧ onlyL M M' [38, 39] := by
  have h256 : 2 ^ n ≤ 256 := Nat.pow_le_pow_right (n := 2) (by decide) hn
  have h1 : 0 < 2 ^ n := Nat.pow_pos (by decide)
  have hpw : (nI 1 : Int32) <<< (nI n &&& nI 31) = nI (2 ^ n) := nI_shl1 (by omega)
  have e1 : nI (2 ^ n) - nI 1 = nI (2 ^ n - 1) := pk_sub (by omega)
  have two : ∀ (d t : Nat) (M2 : Mem) (A : Nat → Nat), t + d = k → 1 ≤ t → onlyL M M2 [38, 39] → LowC n m A t → AttC n m A t → (∀ s, s < 2 ^ n → M2 38 s = nI (one n m s)) → (∀ s, s < 2 ^ n → M2 39 s = nI (A s)) → ∃ M', ev (86, 51, [.ref 36, .int (nI k), .int (nI (2 ^ n - 1)), .int (nI t), .null], [], (xSH L, M2, J)) = some (some (.int (nI (sewV n m k))), (xSH L, M', J)) ∧ onlyL M M' [38, 39] := by
    intro d
    induction d with
    | zero =>
      intro t M2 A htd ht1 o hl ha h38 h39
      have e : t = k := by omega
      subst e
      have g2 := fun {J : Nat → Nat → Int64} => c_at (sh := xSH L) (M := M2) (J := J) (kf_39 L) (by decide) (show 2 ^ n - 1 < 256 by omega)
      have e39 := h39 (2 ^ n - 1) (by omega)
      rw [sew_eq (by omega) hn hm60 hl ha] at e39
      refine ⟨M2, ?_, o⟩
      rw [b_Sewing_fewestMinutes_51]
      generalize 2 ^ n - 1 = fl at *
      simp (disch := omega) only [g2, e39, b_Sewing_fewestMinutes_75, kf_1, kf_2, kf_3, kf_4, kf_5, kf_6, kf_7, kf_8, kf_9, kf_10, kf_11, kf_12, kf_13, kf_14, kf_15, kf_16, kf_17, kf_18, kf_19, kf_20, kf_21, kf_22, kf_23, kf_24, kf_25, kf_26, kf_27, kf_28, kf_29, kf_30, kf_31, kf_32, kf_33, kf_34, kf_35, kf_36, kf_37, kf_38, kf_39, kf_40, kf_41, kf_42, kf_43, kf_44, kf_45, kf_46, kf_47, kf_48, kf_49, kf_50, kf_51, kf_52, kf_53, kf_54, rf_1_0, rf_1_1, rf_1_2, rf_1_3, rf_1_4, rf_1_5, rf_1_6, rf_1_7, rf_1_8, rf_2_3, rf_2_4, rf_2_5, rf_2_6, rf_7_0, rf_9_0, rf_11_0, rf_11_1, rf_11_4, rf_12_3, rf_12_4, rf_12_5, rf_12_6, rf_17_0, rf_20_1, rf_22_0, rf_22_1, rf_25_2, rf_25_3, rf_25_4, rf_25_5, rf_30_1, rf_30_2, rf_30_3, rf_30_4, rf_34_0, rf_36_0, rf_36_1, rf_36_2, rf_40_0, rf_40_1, rf_40_2, rf_40_3, rf_40_4, rf_40_6, rf_40_7, rf_40_9, rf_40_12, rf_40_14, rf_40_22, rf_40_23, rf_40_24, rf_40_25, li_0, li_1, li_2, li_3, li_4, li_5, li_6, li_7, li_8, li_9, li_10, li_11, li_12, li_13, li_14, li_15, li_16, li_17, li_18, li_19, li_20, li_21, li_22, li_23, li_24, li_25, li_26, li_27, li_28, li_29, li_30, li_31, li_32, li_33, li_34, li_35, li_36, li_37, li_38, li_39, li_40, li_41, li_42, li_43, li_44, li_45, li_46, li_47, li_48, li_49, li_50, li_51, li_52, li_53, li_54, li_55, li_56, li_57, li_58, li_59, li_60, li_61, li_62, li_63, li_99, li_100, li_107, li_124, li_126, li_240, li_255, li_256, li_1000, li_1178, li_1240, li_9000, li_65536, li_1000000, nI_add, pk_mul, nI_ltI, nI_leI, nI_eq, xin_nI, nI_clamp, decide_true, decide_false, Bool.and_true, Bool.true_and, Bool.and_false, Bool.false_and, Bool.not_true, Bool.not_false, cond_true, cond_false, Option.bind_some, Option.toList_some, Option.toList_none, List.cons_append, List.nil_append, List.append_nil, Nat.not_lt_zero, Nat.zero_le, Nat.le_refl, Nat.lt_irrefl, Nat.reduceLT, Nat.reduceLeDiff, Nat.reduceEqDiff, Nat.reduceAdd, Nat.reduceMul, Bool.toNat_true, Bool.toNat_false, Nat.add_zero, Nat.zero_add, Nat.succ_ne_zero, Nat.one_ne_zero, decide_eq_true, decide_eq_false, bb1, bb0, bbT, eq_self, reduceIte, and_self, and_true, true_and]
    | succ d ih =>
      intro t M2 A htd ht1 o hl ha h38 h39
      have e4 : ¬ k ≤ t := by omega
      obtain ⟨M3, A', a1, a2, a3, a4⟩ := c_addTailor (L := L) (J := J) hn hm60 (att_1000 hn hm60 ha) h38 h39
      obtain ⟨M', k1, k2⟩ := ih (t + 1) M3 A' (by omega) (by omega) (onlyL_tr o (onlyL_of a4 (by decide))) (next_low a2 hl) (next_att a2 ha) (fun s hs => by rw [a4 38 (by decide)]; exact h38 s hs) a3
      refine ⟨M', ?_, k2⟩
      rw [← k1, b_Sewing_fewestMinutes_51]
      generalize 2 ^ n - 1 = fl at *
      simp (disch := omega) only [e4, a1, b_Sewing_fewestMinutes_61, kf_1, kf_2, kf_3, kf_4, kf_5, kf_6, kf_7, kf_8, kf_9, kf_10, kf_11, kf_12, kf_13, kf_14, kf_15, kf_16, kf_17, kf_18, kf_19, kf_20, kf_21, kf_22, kf_23, kf_24, kf_25, kf_26, kf_27, kf_28, kf_29, kf_30, kf_31, kf_32, kf_33, kf_34, kf_35, kf_36, kf_37, kf_38, kf_39, kf_40, kf_41, kf_42, kf_43, kf_44, kf_45, kf_46, kf_47, kf_48, kf_49, kf_50, kf_51, kf_52, kf_53, kf_54, rf_1_0, rf_1_1, rf_1_2, rf_1_3, rf_1_4, rf_1_5, rf_1_6, rf_1_7, rf_1_8, rf_2_3, rf_2_4, rf_2_5, rf_2_6, rf_7_0, rf_9_0, rf_11_0, rf_11_1, rf_11_4, rf_12_3, rf_12_4, rf_12_5, rf_12_6, rf_17_0, rf_20_1, rf_22_0, rf_22_1, rf_25_2, rf_25_3, rf_25_4, rf_25_5, rf_30_1, rf_30_2, rf_30_3, rf_30_4, rf_34_0, rf_36_0, rf_36_1, rf_36_2, rf_40_0, rf_40_1, rf_40_2, rf_40_3, rf_40_4, rf_40_6, rf_40_7, rf_40_9, rf_40_12, rf_40_14, rf_40_22, rf_40_23, rf_40_24, rf_40_25, li_0, li_1, li_2, li_3, li_4, li_5, li_6, li_7, li_8, li_9, li_10, li_11, li_12, li_13, li_14, li_15, li_16, li_17, li_18, li_19, li_20, li_21, li_22, li_23, li_24, li_25, li_26, li_27, li_28, li_29, li_30, li_31, li_32, li_33, li_34, li_35, li_36, li_37, li_38, li_39, li_40, li_41, li_42, li_43, li_44, li_45, li_46, li_47, li_48, li_49, li_50, li_51, li_52, li_53, li_54, li_55, li_56, li_57, li_58, li_59, li_60, li_61, li_62, li_63, li_99, li_100, li_107, li_124, li_126, li_240, li_255, li_256, li_1000, li_1178, li_1240, li_9000, li_65536, li_1000000, nI_add, pk_mul, nI_ltI, nI_leI, nI_eq, xin_nI, nI_clamp, decide_true, decide_false, Bool.and_true, Bool.true_and, Bool.and_false, Bool.false_and, Bool.not_true, Bool.not_false, cond_true, cond_false, Option.bind_some, Option.toList_some, Option.toList_none, List.cons_append, List.nil_append, List.append_nil, Nat.not_lt_zero, Nat.zero_le, Nat.le_refl, Nat.lt_irrefl, Nat.reduceLT, Nat.reduceLeDiff, Nat.reduceEqDiff, Nat.reduceAdd, Nat.reduceMul, Bool.toNat_true, Bool.toNat_false, Nat.add_zero, Nat.zero_add, Nat.succ_ne_zero, Nat.one_ne_zero, decide_eq_true, decide_eq_false, bb1, bb0, bbT, eq_self, reduceIte, and_self, and_true, true_and]
  have key := loop_to (E := fun s (q : Mem) => ev (86, 11, [.ref 36, .int (nI k), .int (nI (2 ^ n - 1)), .int (nI s), .null], [], (xSH L, q, J))) (F := fun M' : Mem => some (some (.int (nI (sewV n m k))), (xSH L, M', J))) (fun M' => onlyL M M' [38, 39]) (fun s q => onlyL M q [38, 39] ∧ ∀ z, z < s → q 38 z = nI (one n m z) ∧ q 39 z = nI (one n m z)) (n := 2 ^ n) ?_ ?_ (2 ^ n) 0 M (by omega) ⟨onlyL_rf, fun z hz => absurd hz (Nat.not_lt_zero z)⟩
  · obtain ⟨M', k1, k2⟩ := key
    refine ⟨M', ?_, k2⟩
    rw [b_Sewing_fewestMinutes_0]
    simp (disch := omega) only [h3, hpw, e1, kf_1, kf_2, kf_3, kf_4, kf_5, kf_6, kf_7, kf_8, kf_9, kf_10, kf_11, kf_12, kf_13, kf_14, kf_15, kf_16, kf_17, kf_18, kf_19, kf_20, kf_21, kf_22, kf_23, kf_24, kf_25, kf_26, kf_27, kf_28, kf_29, kf_30, kf_31, kf_32, kf_33, kf_34, kf_35, kf_36, kf_37, kf_38, kf_39, kf_40, kf_41, kf_42, kf_43, kf_44, kf_45, kf_46, kf_47, kf_48, kf_49, kf_50, kf_51, kf_52, kf_53, kf_54, rf_1_0, rf_1_1, rf_1_2, rf_1_3, rf_1_4, rf_1_5, rf_1_6, rf_1_7, rf_1_8, rf_2_3, rf_2_4, rf_2_5, rf_2_6, rf_7_0, rf_9_0, rf_11_0, rf_11_1, rf_11_4, rf_12_3, rf_12_4, rf_12_5, rf_12_6, rf_17_0, rf_20_1, rf_22_0, rf_22_1, rf_25_2, rf_25_3, rf_25_4, rf_25_5, rf_30_1, rf_30_2, rf_30_3, rf_30_4, rf_34_0, rf_36_0, rf_36_1, rf_36_2, rf_40_0, rf_40_1, rf_40_2, rf_40_3, rf_40_4, rf_40_6, rf_40_7, rf_40_9, rf_40_12, rf_40_14, rf_40_22, rf_40_23, rf_40_24, rf_40_25, li_0, li_1, li_2, li_3, li_4, li_5, li_6, li_7, li_8, li_9, li_10, li_11, li_12, li_13, li_14, li_15, li_16, li_17, li_18, li_19, li_20, li_21, li_22, li_23, li_24, li_25, li_26, li_27, li_28, li_29, li_30, li_31, li_32, li_33, li_34, li_35, li_36, li_37, li_38, li_39, li_40, li_41, li_42, li_43, li_44, li_45, li_46, li_47, li_48, li_49, li_50, li_51, li_52, li_53, li_54, li_55, li_56, li_57, li_58, li_59, li_60, li_61, li_62, li_63, li_99, li_100, li_107, li_124, li_126, li_240, li_255, li_256, li_1000, li_1178, li_1240, li_9000, li_65536, li_1000000, nI_add, pk_mul, nI_ltI, nI_leI, nI_eq, xin_nI, nI_clamp, decide_true, decide_false, Bool.and_true, Bool.true_and, Bool.and_false, Bool.false_and, Bool.not_true, Bool.not_false, cond_true, cond_false, Option.bind_some, Option.toList_some, Option.toList_none, List.cons_append, List.nil_append, List.append_nil, Nat.not_lt_zero, Nat.zero_le, Nat.le_refl, Nat.lt_irrefl, Nat.reduceLT, Nat.reduceLeDiff, Nat.reduceEqDiff, Nat.reduceAdd, Nat.reduceMul, Bool.toNat_true, Bool.toNat_false, Nat.add_zero, Nat.zero_add, Nat.succ_ne_zero, Nat.one_ne_zero, decide_eq_true, decide_eq_false, bb1, bb0, bbT, eq_self, reduceIte, and_self, and_true, true_and]
    exact k1
  · intro q ⟨q1, q2⟩
    obtain ⟨M', k1, k2⟩ := two (k - 1) 1 q (one n m) (by omega) (Nat.le_refl 1) q1 (low_1 (fun _ _ => rfl)) (att_1 (fun _ _ => rfl)) (fun s hs => (q2 s hs).1) (fun s hs => (q2 s hs).2)
    refine ⟨M', ?_, k2⟩
    rw [← k1, b_Sewing_fewestMinutes_11]
    have hlt : 2 ^ n - 1 < 2 ^ n := by omega
    generalize 2 ^ n = fl at *
    simp (disch := omega) only [hlt, kf_1, kf_2, kf_3, kf_4, kf_5, kf_6, kf_7, kf_8, kf_9, kf_10, kf_11, kf_12, kf_13, kf_14, kf_15, kf_16, kf_17, kf_18, kf_19, kf_20, kf_21, kf_22, kf_23, kf_24, kf_25, kf_26, kf_27, kf_28, kf_29, kf_30, kf_31, kf_32, kf_33, kf_34, kf_35, kf_36, kf_37, kf_38, kf_39, kf_40, kf_41, kf_42, kf_43, kf_44, kf_45, kf_46, kf_47, kf_48, kf_49, kf_50, kf_51, kf_52, kf_53, kf_54, rf_1_0, rf_1_1, rf_1_2, rf_1_3, rf_1_4, rf_1_5, rf_1_6, rf_1_7, rf_1_8, rf_2_3, rf_2_4, rf_2_5, rf_2_6, rf_7_0, rf_9_0, rf_11_0, rf_11_1, rf_11_4, rf_12_3, rf_12_4, rf_12_5, rf_12_6, rf_17_0, rf_20_1, rf_22_0, rf_22_1, rf_25_2, rf_25_3, rf_25_4, rf_25_5, rf_30_1, rf_30_2, rf_30_3, rf_30_4, rf_34_0, rf_36_0, rf_36_1, rf_36_2, rf_40_0, rf_40_1, rf_40_2, rf_40_3, rf_40_4, rf_40_6, rf_40_7, rf_40_9, rf_40_12, rf_40_14, rf_40_22, rf_40_23, rf_40_24, rf_40_25, li_0, li_1, li_2, li_3, li_4, li_5, li_6, li_7, li_8, li_9, li_10, li_11, li_12, li_13, li_14, li_15, li_16, li_17, li_18, li_19, li_20, li_21, li_22, li_23, li_24, li_25, li_26, li_27, li_28, li_29, li_30, li_31, li_32, li_33, li_34, li_35, li_36, li_37, li_38, li_39, li_40, li_41, li_42, li_43, li_44, li_45, li_46, li_47, li_48, li_49, li_50, li_51, li_52, li_53, li_54, li_55, li_56, li_57, li_58, li_59, li_60, li_61, li_62, li_63, li_99, li_100, li_107, li_124, li_126, li_240, li_255, li_256, li_1000, li_1178, li_1240, li_9000, li_65536, li_1000000, nI_add, pk_mul, nI_ltI, nI_leI, nI_eq, xin_nI, nI_clamp, decide_true, decide_false, Bool.and_true, Bool.true_and, Bool.and_false, Bool.false_and, Bool.not_true, Bool.not_false, cond_true, cond_false, Option.bind_some, Option.toList_some, Option.toList_none, List.cons_append, List.nil_append, List.append_nil, Nat.not_lt_zero, Nat.zero_le, Nat.le_refl, Nat.lt_irrefl, Nat.reduceLT, Nat.reduceLeDiff, Nat.reduceEqDiff, Nat.reduceAdd, Nat.reduceMul, Bool.toNat_true, Bool.toNat_false, Nat.add_zero, Nat.zero_add, Nat.succ_ne_zero, Nat.one_ne_zero, decide_eq_true, decide_eq_false, bb1, bb0, bbT, eq_self, reduceIte, and_self, and_true, true_and]
  · intro s q hlt ⟨q1, q2⟩
    right
    have hs256 : s < 256 := by omega
    have hge : ¬ nI (2 ^ n - 1) < nI s := by rw [nI_ltI (by omega) (by omega)]; omega
    have hmb := fun {J : Nat → Nat → Int64} => c_minutesByOne (L := L) (J := J) (M := q) (n := n) (m := m) (by rw [q1 36 (by decide)]; exact h3) (fun i hi => by rw [q1 37 (by decide)]; exact hm i hi) hn (s := s) (by omega)
    have p1 := fun {J : Nat → Nat → Int64} {M : Mem} {v : Int32} => c_put (sh := xSH L) (M := M) (J := J) (v := v) (kf_38 L) (by decide) hs256
    have p2 := fun {J : Nat → Nat → Int64} {M : Mem} {v : Int32} => c_put (sh := xSH L) (M := M) (J := J) (v := v) (kf_39 L) (by decide) hs256
    refine ⟨xu (xu q 38 s (nI (one n m s))) 39 s (nI (one n m s)), ?_, onlyL_xu (onlyL_xu q1 (by decide)) (by decide), fun z hz => ?_⟩
    · rw [b_Sewing_fewestMinutes_11]
      generalize 2 ^ n - 1 = fl at *
      simp (disch := omega) only [hge, hmb, b_Sewing_fewestMinutes_21, p1, b_Sewing_fewestMinutes_33, p2, b_Sewing_fewestMinutes_43, kf_1, kf_2, kf_3, kf_4, kf_5, kf_6, kf_7, kf_8, kf_9, kf_10, kf_11, kf_12, kf_13, kf_14, kf_15, kf_16, kf_17, kf_18, kf_19, kf_20, kf_21, kf_22, kf_23, kf_24, kf_25, kf_26, kf_27, kf_28, kf_29, kf_30, kf_31, kf_32, kf_33, kf_34, kf_35, kf_36, kf_37, kf_38, kf_39, kf_40, kf_41, kf_42, kf_43, kf_44, kf_45, kf_46, kf_47, kf_48, kf_49, kf_50, kf_51, kf_52, kf_53, kf_54, rf_1_0, rf_1_1, rf_1_2, rf_1_3, rf_1_4, rf_1_5, rf_1_6, rf_1_7, rf_1_8, rf_2_3, rf_2_4, rf_2_5, rf_2_6, rf_7_0, rf_9_0, rf_11_0, rf_11_1, rf_11_4, rf_12_3, rf_12_4, rf_12_5, rf_12_6, rf_17_0, rf_20_1, rf_22_0, rf_22_1, rf_25_2, rf_25_3, rf_25_4, rf_25_5, rf_30_1, rf_30_2, rf_30_3, rf_30_4, rf_34_0, rf_36_0, rf_36_1, rf_36_2, rf_40_0, rf_40_1, rf_40_2, rf_40_3, rf_40_4, rf_40_6, rf_40_7, rf_40_9, rf_40_12, rf_40_14, rf_40_22, rf_40_23, rf_40_24, rf_40_25, li_0, li_1, li_2, li_3, li_4, li_5, li_6, li_7, li_8, li_9, li_10, li_11, li_12, li_13, li_14, li_15, li_16, li_17, li_18, li_19, li_20, li_21, li_22, li_23, li_24, li_25, li_26, li_27, li_28, li_29, li_30, li_31, li_32, li_33, li_34, li_35, li_36, li_37, li_38, li_39, li_40, li_41, li_42, li_43, li_44, li_45, li_46, li_47, li_48, li_49, li_50, li_51, li_52, li_53, li_54, li_55, li_56, li_57, li_58, li_59, li_60, li_61, li_62, li_63, li_99, li_100, li_107, li_124, li_126, li_240, li_255, li_256, li_1000, li_1178, li_1240, li_9000, li_65536, li_1000000, nI_add, pk_mul, nI_ltI, nI_leI, nI_eq, xin_nI, nI_clamp, decide_true, decide_false, Bool.and_true, Bool.true_and, Bool.and_false, Bool.false_and, Bool.not_true, Bool.not_false, cond_true, cond_false, Option.bind_some, Option.toList_some, Option.toList_none, List.cons_append, List.nil_append, List.append_nil, Nat.not_lt_zero, Nat.zero_le, Nat.le_refl, Nat.lt_irrefl, Nat.reduceLT, Nat.reduceLeDiff, Nat.reduceEqDiff, Nat.reduceAdd, Nat.reduceMul, Bool.toNat_true, Bool.toNat_false, Nat.add_zero, Nat.zero_add, Nat.succ_ne_zero, Nat.one_ne_zero, decide_eq_true, decide_eq_false, bb1, bb0, bbT, eq_self, reduceIte, and_self, and_true, true_and]
    · by_cases hzs : z = s
      · subst hzs
        rw [xu_ne (by decide), xu_at, xu_at]
        exact ⟨rfl, rfl⟩
      · rw [xu_ne (by decide), xu_off hzs, xu_off hzs, xu_ne (by decide)]
        exact q2 z (by omega)
theorem vmax_up {f : Nat → Nat} {s k : Nat} (hf : ∀ i, f i < k) : ∀ d, vmax n m f s (k + d) = vmax n m f s k
  | 0 => rfl
  | d + 1 => by
    rw [← Nat.add_assoc, vmax, vmax_up hf d]
    have e : ld n m f (k + d) s = 0 := sel_none (fun i hi => by
      have := hf i
      have : ¬ f i = k + d := by omega
      simp [this])
    rw [e]
    omega
theorem ld_full {f : Nat → Nat} {j : Nat} : ld n m f j (2 ^ n - 1) = sel n m (fun i => decide (f i = j)) := sel_congr (fun i hi => by rw [Nat.testBit_two_pow_sub_one, decide_eq_true hi, Bool.true_and])
theorem c_Rtakes (hn : n ≤ 8) (hm60 : ∀ i, i < n → m i ≤ 60) (hm : ∀ i, i < n → M 53 i = nI (m i)) {k code : Nat} (hk1 : 1 ≤ k) (hk3 : k ≤ 3) (hcode : code < 10000) : ∃ M', ev (185, 0, [.ref 40, .int (nI code), .int (nI n), .int (nI k), .null, .null, .null], [], (xSH L, M, J)) = some (some (.int (nI (vmax n m (dg k code) (2 ^ n - 1) k))), (xSH L, M', J)) ∧ only M M' 54 := by
  have hdk : ∀ i, dg k code i < k := fun i => dg_lt (by omega)
  have hv3 : vmax n m (dg k code) (2 ^ n - 1) k = vmax n m (dg k code) (2 ^ n - 1) 3 := by
    have := vmax_up (n := n) (m := m) (s := 2 ^ n - 1) hdk (3 - k)
    rw [show k + (3 - k) = 3 by omega] at this
    exact this.symm
  have ph3 : ∀ (M2 : Mem), (∀ j, j < 3 → M2 54 j = nI (ld n m (dg k code) j (2 ^ n - 1))) → ev (185, 72, [.ref 40, .null, .null, .null, .null, .int (nI 0), .int (nI 0)], [], (xSH L, M2, J)) = some (some (.int (nI (vmax n m (dg k code) (2 ^ n - 1) 3))), (xSH L, M2, J)) := by
    intro M2 h54
    refine loop_inv (E := fun j (z : Nat) => ev (185, 72, [.ref 40, .null, .null, .null, .null, .int (nI z), .int (nI j)], [], (xSH L, M2, J))) (fun j z => z = vmax n m (dg k code) (2 ^ n - 1) j) (n := 3) ?_ ?_ 3 0 0 rfl rfl
    · intro z hz
      subst hz
      rw [b_R_takes_72]
      simp (disch := omega) only [li_0, li_1, li_2, li_3, li_4, li_5, li_6, li_7, li_8, li_9, li_10, li_11, li_12, li_13, li_14, li_15, li_16, li_17, li_18, li_19, li_20, li_21, li_22, li_23, li_24, li_25, li_26, li_27, li_28, li_29, li_30, li_31, li_32, li_33, li_34, li_35, li_36, li_37, li_38, li_39, li_40, li_41, li_42, li_43, li_44, li_45, li_46, li_47, li_48, li_49, li_50, li_51, li_52, li_53, li_54, li_55, li_56, li_57, li_58, li_59, li_60, li_61, li_62, li_63, li_99, li_100, li_107, li_124, li_126, li_240, li_255, li_256, li_1000, li_1178, li_1240, li_9000, li_65536, li_1000000, nI_add, pk_mul, nI_ltI, nI_leI, nI_eq, xin_nI, nI_clamp, decide_true, decide_false, Bool.and_true, Bool.true_and, Bool.and_false, Bool.false_and, Bool.not_true, Bool.not_false, cond_true, cond_false, Option.bind_some, Option.toList_some, Option.toList_none, List.cons_append, List.nil_append, List.append_nil, Nat.not_lt_zero, Nat.zero_le, Nat.le_refl, Nat.lt_irrefl, Nat.reduceLT, Nat.reduceLeDiff, Nat.reduceEqDiff, Nat.reduceAdd, Nat.reduceMul, Bool.toNat_true, Bool.toNat_false, Nat.add_zero, Nat.zero_add, Nat.succ_ne_zero, Nat.one_ne_zero, decide_eq_true, decide_eq_false, bb1, bb0, bbT, eq_self, reduceIte, and_self, and_true, true_and]
    · intro j z hj hz
      right
      have e4 : ¬ 3 ≤ j := by omega
      have e5 := h54 j hj
      have hl : ld n m (dg k code) j (2 ^ n - 1) ≤ 60 * n := sel_le hm60
      have hzl := vmax_le (f := dg k code) (s := 2 ^ n - 1) hm60 j
      rw [← hz] at hzl
      refine ⟨max z (ld n m (dg k code) j (2 ^ n - 1)), ?_, by rw [vmax, ← hz]⟩
      generalize ld n m (dg k code) j (2 ^ n - 1) = w at *
      rw [b_R_takes_72]
      by_cases hw : w ≤ z
      · rw [Nat.max_eq_left hw]
        simp (disch := omega) only [e4, hj, e5, hw, kf_1, kf_2, kf_3, kf_4, kf_5, kf_6, kf_7, kf_8, kf_9, kf_10, kf_11, kf_12, kf_13, kf_14, kf_15, kf_16, kf_17, kf_18, kf_19, kf_20, kf_21, kf_22, kf_23, kf_24, kf_25, kf_26, kf_27, kf_28, kf_29, kf_30, kf_31, kf_32, kf_33, kf_34, kf_35, kf_36, kf_37, kf_38, kf_39, kf_40, kf_41, kf_42, kf_43, kf_44, kf_45, kf_46, kf_47, kf_48, kf_49, kf_50, kf_51, kf_52, kf_53, kf_54, rf_1_0, rf_1_1, rf_1_2, rf_1_3, rf_1_4, rf_1_5, rf_1_6, rf_1_7, rf_1_8, rf_2_3, rf_2_4, rf_2_5, rf_2_6, rf_7_0, rf_9_0, rf_11_0, rf_11_1, rf_11_4, rf_12_3, rf_12_4, rf_12_5, rf_12_6, rf_17_0, rf_20_1, rf_22_0, rf_22_1, rf_25_2, rf_25_3, rf_25_4, rf_25_5, rf_30_1, rf_30_2, rf_30_3, rf_30_4, rf_34_0, rf_36_0, rf_36_1, rf_36_2, rf_40_0, rf_40_1, rf_40_2, rf_40_3, rf_40_4, rf_40_6, rf_40_7, rf_40_9, rf_40_12, rf_40_14, rf_40_22, rf_40_23, rf_40_24, rf_40_25, li_0, li_1, li_2, li_3, li_4, li_5, li_6, li_7, li_8, li_9, li_10, li_11, li_12, li_13, li_14, li_15, li_16, li_17, li_18, li_19, li_20, li_21, li_22, li_23, li_24, li_25, li_26, li_27, li_28, li_29, li_30, li_31, li_32, li_33, li_34, li_35, li_36, li_37, li_38, li_39, li_40, li_41, li_42, li_43, li_44, li_45, li_46, li_47, li_48, li_49, li_50, li_51, li_52, li_53, li_54, li_55, li_56, li_57, li_58, li_59, li_60, li_61, li_62, li_63, li_99, li_100, li_107, li_124, li_126, li_240, li_255, li_256, li_1000, li_1178, li_1240, li_9000, li_65536, li_1000000, nI_add, pk_mul, nI_ltI, nI_leI, nI_eq, xin_nI, nI_clamp, decide_true, decide_false, Bool.and_true, Bool.true_and, Bool.and_false, Bool.false_and, Bool.not_true, Bool.not_false, cond_true, cond_false, Option.bind_some, Option.toList_some, Option.toList_none, List.cons_append, List.nil_append, List.append_nil, Nat.not_lt_zero, Nat.zero_le, Nat.le_refl, Nat.lt_irrefl, Nat.reduceLT, Nat.reduceLeDiff, Nat.reduceEqDiff, Nat.reduceAdd, Nat.reduceMul, Bool.toNat_true, Bool.toNat_false, Nat.add_zero, Nat.zero_add, Nat.succ_ne_zero, Nat.one_ne_zero, decide_eq_true, decide_eq_false, bb1, bb0, bbT, eq_self, reduceIte, and_self, and_true, true_and]
      · rw [Nat.max_eq_right (by omega)]
        simp (disch := omega) only [e4, hj, e5, hw, kf_1, kf_2, kf_3, kf_4, kf_5, kf_6, kf_7, kf_8, kf_9, kf_10, kf_11, kf_12, kf_13, kf_14, kf_15, kf_16, kf_17, kf_18, kf_19, kf_20, kf_21, kf_22, kf_23, kf_24, kf_25, kf_26, kf_27, kf_28, kf_29, kf_30, kf_31, kf_32, kf_33, kf_34, kf_35, kf_36, kf_37, kf_38, kf_39, kf_40, kf_41, kf_42, kf_43, kf_44, kf_45, kf_46, kf_47, kf_48, kf_49, kf_50, kf_51, kf_52, kf_53, kf_54, rf_1_0, rf_1_1, rf_1_2, rf_1_3, rf_1_4, rf_1_5, rf_1_6, rf_1_7, rf_1_8, rf_2_3, rf_2_4, rf_2_5, rf_2_6, rf_7_0, rf_9_0, rf_11_0, rf_11_1, rf_11_4, rf_12_3, rf_12_4, rf_12_5, rf_12_6, rf_17_0, rf_20_1, rf_22_0, rf_22_1, rf_25_2, rf_25_3, rf_25_4, rf_25_5, rf_30_1, rf_30_2, rf_30_3, rf_30_4, rf_34_0, rf_36_0, rf_36_1, rf_36_2, rf_40_0, rf_40_1, rf_40_2, rf_40_3, rf_40_4, rf_40_6, rf_40_7, rf_40_9, rf_40_12, rf_40_14, rf_40_22, rf_40_23, rf_40_24, rf_40_25, li_0, li_1, li_2, li_3, li_4, li_5, li_6, li_7, li_8, li_9, li_10, li_11, li_12, li_13, li_14, li_15, li_16, li_17, li_18, li_19, li_20, li_21, li_22, li_23, li_24, li_25, li_26, li_27, li_28, li_29, li_30, li_31, li_32, li_33, li_34, li_35, li_36, li_37, li_38, li_39, li_40, li_41, li_42, li_43, li_44, li_45, li_46, li_47, li_48, li_49, li_50, li_51, li_52, li_53, li_54, li_55, li_56, li_57, li_58, li_59, li_60, li_61, li_62, li_63, li_99, li_100, li_107, li_124, li_126, li_240, li_255, li_256, li_1000, li_1178, li_1240, li_9000, li_65536, li_1000000, nI_add, pk_mul, nI_ltI, nI_leI, nI_eq, xin_nI, nI_clamp, decide_true, decide_false, Bool.and_true, Bool.true_and, Bool.and_false, Bool.false_and, Bool.not_true, Bool.not_false, cond_true, cond_false, Option.bind_some, Option.toList_some, Option.toList_none, List.cons_append, List.nil_append, List.append_nil, Nat.not_lt_zero, Nat.zero_le, Nat.le_refl, Nat.lt_irrefl, Nat.reduceLT, Nat.reduceLeDiff, Nat.reduceEqDiff, Nat.reduceAdd, Nat.reduceMul, Bool.toNat_true, Bool.toNat_false, Nat.add_zero, Nat.zero_add, Nat.succ_ne_zero, Nat.one_ne_zero, decide_eq_true, decide_eq_false, bb1, bb0, bbT, eq_self, reduceIte, and_self, and_true, true_and]
  have ph2 : ∀ (M2 : Mem), only M M2 54 → (∀ j, j < 3 → M2 54 j = nI 0) → ∃ M', ev (185, 29, [.ref 40, .null, .int (nI n), .int (nI k), .int (nI code), .int (nI 0), .null], [], (xSH L, M2, J)) = some (some (.int (nI (vmax n m (dg k code) (2 ^ n - 1) k))), (xSH L, M', J)) ∧ only M M' 54 := by
    intro M2 o h54
    have hc1 : code / k ^ 0 = code := by rw [Nat.pow_zero, Nat.div_one]
    have key := loop_to (E := fun h (q : Mem) => ev (185, 29, [.ref 40, .null, .int (nI n), .int (nI k), .int (nI (code / k ^ h)), .int (nI h), .null], [], (xSH L, q, J))) (F := fun M' : Mem => some (some (.int (nI (vmax n m (dg k code) (2 ^ n - 1) k))), (xSH L, M', J))) (fun M' => only M M' 54) (fun h q => only M q 54 ∧ ∀ j, j < 3 → q 54 j = nI (sel h m (fun i => decide (dg k code i = j)))) (n := n) ?_ ?_ n 0 M2 (by omega) ⟨o, fun j hj => by rw [h54 j hj]; rfl⟩
    · rw [hc1] at key
      exact key
    · intro q ⟨q1, q2⟩
      refine ⟨q, ?_, q1⟩
      rw [hv3, ← ph3 q (fun j hj => by rw [q2 j hj, ld_full]), b_R_takes_29]
      simp (disch := omega) only [li_0, li_1, li_2, li_3, li_4, li_5, li_6, li_7, li_8, li_9, li_10, li_11, li_12, li_13, li_14, li_15, li_16, li_17, li_18, li_19, li_20, li_21, li_22, li_23, li_24, li_25, li_26, li_27, li_28, li_29, li_30, li_31, li_32, li_33, li_34, li_35, li_36, li_37, li_38, li_39, li_40, li_41, li_42, li_43, li_44, li_45, li_46, li_47, li_48, li_49, li_50, li_51, li_52, li_53, li_54, li_55, li_56, li_57, li_58, li_59, li_60, li_61, li_62, li_63, li_99, li_100, li_107, li_124, li_126, li_240, li_255, li_256, li_1000, li_1178, li_1240, li_9000, li_65536, li_1000000, nI_add, pk_mul, nI_ltI, nI_leI, nI_eq, xin_nI, nI_clamp, decide_true, decide_false, Bool.and_true, Bool.true_and, Bool.and_false, Bool.false_and, Bool.not_true, Bool.not_false, cond_true, cond_false, Option.bind_some, Option.toList_some, Option.toList_none, List.cons_append, List.nil_append, List.append_nil, Nat.not_lt_zero, Nat.zero_le, Nat.le_refl, Nat.lt_irrefl, Nat.reduceLT, Nat.reduceLeDiff, Nat.reduceEqDiff, Nat.reduceAdd, Nat.reduceMul, Bool.toNat_true, Bool.toNat_false, Nat.add_zero, Nat.zero_add, Nat.succ_ne_zero, Nat.one_ne_zero, decide_eq_true, decide_eq_false, bb1, bb0, bbT, eq_self, reduceIte, and_self, and_true, true_and]
    · intro h q hlt ⟨q1, q2⟩
      right
      have e4 : ¬ n ≤ h := by omega
      have hk0 : ¬ nI k = nI 0 := by rw [nI_eq (by omega) (by omega)]; omega
      have hrl : code / k ^ h ≤ code := Nat.div_le_self _ _
      have hrem : xrem (nI (code / k ^ h)) (nI k) = nI (dg k code h) := xrem_nI (by omega) (by omega) (by omega)
      have hdiv : nI (code / k ^ h) / nI k = nI (code / k ^ (h + 1)) := by rw [pk_div (by omega) (by omega) (by omega), Nat.div_div_eq_div_mul, Nat.pow_succ]
      have hd3 : dg k code h < 3 := by have := hdk h; omega
      have e53 : q 53 h = nI (m h) := by rw [q1 53 (by decide)]; exact hm h hlt
      have e54 := q2 _ hd3
      have h8 : h < 8 := by omega
      refine ⟨xu q 54 (dg k code h) (nI (sel h m (fun i => decide (dg k code i = dg k code h)) + m h)), ?_, only_xu' q1, fun j hj => ?_⟩
      · rw [b_R_takes_29]
        generalize code / k ^ h = rest at *
        generalize code / k ^ (h + 1) = rest2 at *
        simp (disch := omega) only [e4, hk0, hrem, hdiv, hd3, e53, e54, h8, kf_1, kf_2, kf_3, kf_4, kf_5, kf_6, kf_7, kf_8, kf_9, kf_10, kf_11, kf_12, kf_13, kf_14, kf_15, kf_16, kf_17, kf_18, kf_19, kf_20, kf_21, kf_22, kf_23, kf_24, kf_25, kf_26, kf_27, kf_28, kf_29, kf_30, kf_31, kf_32, kf_33, kf_34, kf_35, kf_36, kf_37, kf_38, kf_39, kf_40, kf_41, kf_42, kf_43, kf_44, kf_45, kf_46, kf_47, kf_48, kf_49, kf_50, kf_51, kf_52, kf_53, kf_54, rf_1_0, rf_1_1, rf_1_2, rf_1_3, rf_1_4, rf_1_5, rf_1_6, rf_1_7, rf_1_8, rf_2_3, rf_2_4, rf_2_5, rf_2_6, rf_7_0, rf_9_0, rf_11_0, rf_11_1, rf_11_4, rf_12_3, rf_12_4, rf_12_5, rf_12_6, rf_17_0, rf_20_1, rf_22_0, rf_22_1, rf_25_2, rf_25_3, rf_25_4, rf_25_5, rf_30_1, rf_30_2, rf_30_3, rf_30_4, rf_34_0, rf_36_0, rf_36_1, rf_36_2, rf_40_0, rf_40_1, rf_40_2, rf_40_3, rf_40_4, rf_40_6, rf_40_7, rf_40_9, rf_40_12, rf_40_14, rf_40_22, rf_40_23, rf_40_24, rf_40_25, li_0, li_1, li_2, li_3, li_4, li_5, li_6, li_7, li_8, li_9, li_10, li_11, li_12, li_13, li_14, li_15, li_16, li_17, li_18, li_19, li_20, li_21, li_22, li_23, li_24, li_25, li_26, li_27, li_28, li_29, li_30, li_31, li_32, li_33, li_34, li_35, li_36, li_37, li_38, li_39, li_40, li_41, li_42, li_43, li_44, li_45, li_46, li_47, li_48, li_49, li_50, li_51, li_52, li_53, li_54, li_55, li_56, li_57, li_58, li_59, li_60, li_61, li_62, li_63, li_99, li_100, li_107, li_124, li_126, li_240, li_255, li_256, li_1000, li_1178, li_1240, li_9000, li_65536, li_1000000, nI_add, pk_mul, nI_ltI, nI_leI, nI_eq, xin_nI, nI_clamp, decide_true, decide_false, Bool.and_true, Bool.true_and, Bool.and_false, Bool.false_and, Bool.not_true, Bool.not_false, cond_true, cond_false, Option.bind_some, Option.toList_some, Option.toList_none, List.cons_append, List.nil_append, List.append_nil, Nat.not_lt_zero, Nat.zero_le, Nat.le_refl, Nat.lt_irrefl, Nat.reduceLT, Nat.reduceLeDiff, Nat.reduceEqDiff, Nat.reduceAdd, Nat.reduceMul, Bool.toNat_true, Bool.toNat_false, Nat.add_zero, Nat.zero_add, Nat.succ_ne_zero, Nat.one_ne_zero, decide_eq_true, decide_eq_false, bb1, bb0, bbT, eq_self, reduceIte, and_self, and_true, true_and]
      · rw [sel_s]
        by_cases hjd : dg k code h = j
        · subst hjd
          rw [xu_at, decide_eq_true rfl, if_pos rfl]
        · rw [xu_off (fun q => hjd q.symm), decide_eq_false hjd, if_neg (by decide)]
          exact q2 j hj
  have key := loop_to (E := fun j (q : Mem) => ev (185, 6, [.ref 40, .null, .int (nI n), .int (nI k), .int (nI code), .int (nI j), .null], [], (xSH L, q, J))) (F := fun M' : Mem => some (some (.int (nI (vmax n m (dg k code) (2 ^ n - 1) k))), (xSH L, M', J))) (fun M' => only M M' 54) (fun j q => only M q 54 ∧ ∀ i, i < j → q 54 i = nI 0) (n := 3) ?_ ?_ 3 0 M rfl ⟨only_rf, fun i hi => absurd hi (Nat.not_lt_zero i)⟩
  · rw [b_R_takes_0]
    exact key
  · intro q ⟨q1, q2⟩
    obtain ⟨M', k1, k2⟩ := ph2 q q1 q2
    refine ⟨M', ?_, k2⟩
    rw [← k1, b_R_takes_6]
    simp (disch := omega) only [li_0, li_1, li_2, li_3, li_4, li_5, li_6, li_7, li_8, li_9, li_10, li_11, li_12, li_13, li_14, li_15, li_16, li_17, li_18, li_19, li_20, li_21, li_22, li_23, li_24, li_25, li_26, li_27, li_28, li_29, li_30, li_31, li_32, li_33, li_34, li_35, li_36, li_37, li_38, li_39, li_40, li_41, li_42, li_43, li_44, li_45, li_46, li_47, li_48, li_49, li_50, li_51, li_52, li_53, li_54, li_55, li_56, li_57, li_58, li_59, li_60, li_61, li_62, li_63, li_99, li_100, li_107, li_124, li_126, li_240, li_255, li_256, li_1000, li_1178, li_1240, li_9000, li_65536, li_1000000, nI_add, pk_mul, nI_ltI, nI_leI, nI_eq, xin_nI, nI_clamp, decide_true, decide_false, Bool.and_true, Bool.true_and, Bool.and_false, Bool.false_and, Bool.not_true, Bool.not_false, cond_true, cond_false, Option.bind_some, Option.toList_some, Option.toList_none, List.cons_append, List.nil_append, List.append_nil, Nat.not_lt_zero, Nat.zero_le, Nat.le_refl, Nat.lt_irrefl, Nat.reduceLT, Nat.reduceLeDiff, Nat.reduceEqDiff, Nat.reduceAdd, Nat.reduceMul, Bool.toNat_true, Bool.toNat_false, Nat.add_zero, Nat.zero_add, Nat.succ_ne_zero, Nat.one_ne_zero, decide_eq_true, decide_eq_false, bb1, bb0, bbT, eq_self, reduceIte, and_self, and_true, true_and]
  · intro j q hj ⟨q1, q2⟩
    right
    have e4 : ¬ 3 ≤ j := by omega
    refine ⟨xu q 54 j (nI 0), ?_, only_xu' q1, fun i hi => ?_⟩
    · rw [b_R_takes_6]
      simp (disch := omega) only [e4, hj, kf_1, kf_2, kf_3, kf_4, kf_5, kf_6, kf_7, kf_8, kf_9, kf_10, kf_11, kf_12, kf_13, kf_14, kf_15, kf_16, kf_17, kf_18, kf_19, kf_20, kf_21, kf_22, kf_23, kf_24, kf_25, kf_26, kf_27, kf_28, kf_29, kf_30, kf_31, kf_32, kf_33, kf_34, kf_35, kf_36, kf_37, kf_38, kf_39, kf_40, kf_41, kf_42, kf_43, kf_44, kf_45, kf_46, kf_47, kf_48, kf_49, kf_50, kf_51, kf_52, kf_53, kf_54, rf_1_0, rf_1_1, rf_1_2, rf_1_3, rf_1_4, rf_1_5, rf_1_6, rf_1_7, rf_1_8, rf_2_3, rf_2_4, rf_2_5, rf_2_6, rf_7_0, rf_9_0, rf_11_0, rf_11_1, rf_11_4, rf_12_3, rf_12_4, rf_12_5, rf_12_6, rf_17_0, rf_20_1, rf_22_0, rf_22_1, rf_25_2, rf_25_3, rf_25_4, rf_25_5, rf_30_1, rf_30_2, rf_30_3, rf_30_4, rf_34_0, rf_36_0, rf_36_1, rf_36_2, rf_40_0, rf_40_1, rf_40_2, rf_40_3, rf_40_4, rf_40_6, rf_40_7, rf_40_9, rf_40_12, rf_40_14, rf_40_22, rf_40_23, rf_40_24, rf_40_25, li_0, li_1, li_2, li_3, li_4, li_5, li_6, li_7, li_8, li_9, li_10, li_11, li_12, li_13, li_14, li_15, li_16, li_17, li_18, li_19, li_20, li_21, li_22, li_23, li_24, li_25, li_26, li_27, li_28, li_29, li_30, li_31, li_32, li_33, li_34, li_35, li_36, li_37, li_38, li_39, li_40, li_41, li_42, li_43, li_44, li_45, li_46, li_47, li_48, li_49, li_50, li_51, li_52, li_53, li_54, li_55, li_56, li_57, li_58, li_59, li_60, li_61, li_62, li_63, li_99, li_100, li_107, li_124, li_126, li_240, li_255, li_256, li_1000, li_1178, li_1240, li_9000, li_65536, li_1000000, nI_add, pk_mul, nI_ltI, nI_leI, nI_eq, xin_nI, nI_clamp, decide_true, decide_false, Bool.and_true, Bool.true_and, Bool.and_false, Bool.false_and, Bool.not_true, Bool.not_false, cond_true, cond_false, Option.bind_some, Option.toList_some, Option.toList_none, List.cons_append, List.nil_append, List.append_nil, Nat.not_lt_zero, Nat.zero_le, Nat.le_refl, Nat.lt_irrefl, Nat.reduceLT, Nat.reduceLeDiff, Nat.reduceEqDiff, Nat.reduceAdd, Nat.reduceMul, Bool.toNat_true, Bool.toNat_false, Nat.add_zero, Nat.zero_add, Nat.succ_ne_zero, Nat.one_ne_zero, decide_eq_true, decide_eq_false, bb1, bb0, bbT, eq_self, reduceIte, and_self, and_true, true_and]
    · by_cases hij : i = j
      · subst hij; exact xu_at
      · rw [xu_off hij]; exact q2 i (by omega)
theorem pow_8 {k n : Nat} (hk : k ≤ 3) (hn : n ≤ 8) : k ^ n ≤ 6561 := by
  have h1 : k ^ n ≤ 3 ^ n := Nat.pow_le_pow_left hk n
  have h2 : 3 ^ n ≤ 3 ^ 8 := Nat.pow_le_pow_right (by decide) hn
  have h3 : 3 ^ 8 = 6561 := by decide
  omega
theorem op_sewing (hg : gOk g) (v : Int32) : opOk L 108 186 [.ref 1, .int v] [.ref 40, .int v, .null, .null, .null, .null, .null] g := by
  have hh := hs2 L
  have hs := sc7 L
  have ho := hg.1
  have hT := hg.2.1
  have hn := hcells ho
  have hs31 := scH_lt ho hT
  have h20 := scH20 ho hT
  have hp20 := pop_le 20 (sH (gT g))
  by_cases hv : nI 1 ≤ v ∧ v ≤ nI 3
  · by_cases h8 : pop 20 (sH (gT g)) ≤ 8
    · obtain ⟨k, hk3, rfl⟩ := inR_c (n := 3) (by decide) ⟨Int32.le_trans (by decide) hv.1, hv.2⟩
      have hk1 : 1 ≤ k := by
        have := hv.1
        rw [nI_leI (by omega) (by omega)] at this
        exact this
      have hpe : pop 20 (sH (gT g)) = pop (hW (gH g) * hG (gH g)) (sH (gT g)) := by
        have := pop_hi hT.1 (20 - hW (gH g) * hG (gH g))
        rw [show hW (gH g) * hG (gH g) + (20 - hW (gH g) * hG (gH g)) = 20 by omega] at this
        exact this
      have hcnt := hol_cnt (gH g) (gT g) (hW (gH g) * hG (gH g))
      have hc8 : (holQ (gH g) (gT g) (hW (gH g) * hG (gH g))).1 ≤ 8 := by omega
      have hm60 := fun i (_ : i < (holQ (gH g) (gT g) (hW (gH g) * hG (gH g))).1) => hol_60 ho hT (hW (gH g) * hG (gH g)) hn i
      refine ⟨nI (sewV (holQ (gH g) (gT g) (hW (gH g) * hG (gH g))).1 (holQ (gH g) (gT g) (hW (gH g) * hG (gH g))).2 k), g, hg, fun M J hM => ?_, fun M J hM => ?_⟩
      · obtain ⟨M1, m1, ⟨m2, m3⟩, m4⟩ := c_take (L := L) (J := J) hM hg h8
        obtain ⟨M2, n1, n2⟩ := c_fewest (L := L) (J := J) hc8 hm60 m2 m3 hk1 hk3
        have e0 := hM.2.1.1
        have bc := fun {J : Nat → Nat → Int64} => c_bitCount (sh := xSH L) (M := M) (J := J) h20
        refine ⟨M2, ?_, RelC_3x (RelC_3x hM m4 (by decide)) n2 (by decide), onlyC_tr (onlyC_l m4 (by decide)) (onlyC_l n2 (by decide))⟩
        generalize pop 20 (sH (gT g)) = pp at *
        simp (disch := omega) only [b_C_sewing_0, c_isWithin, hk1, hk3, b_C_sewing_6, c_holes hs, e0, b_C_sewing_19, bc, b_C_sewing_22, h8, m1, b_C_sewing_45, n1, b_C_sewing_53, kf_1, kf_2, kf_3, kf_4, kf_5, kf_6, kf_7, kf_8, kf_9, kf_10, kf_11, kf_12, kf_13, kf_14, kf_15, kf_16, kf_17, kf_18, kf_19, kf_20, kf_21, kf_22, kf_23, kf_24, kf_25, kf_26, kf_27, kf_28, kf_29, kf_30, kf_31, kf_32, kf_33, kf_34, kf_35, kf_36, kf_37, kf_38, kf_39, kf_40, kf_41, kf_42, kf_43, kf_44, kf_45, kf_46, kf_47, kf_48, kf_49, kf_50, kf_51, kf_52, kf_53, kf_54, rf_1_0, rf_1_1, rf_1_2, rf_1_3, rf_1_4, rf_1_5, rf_1_6, rf_1_7, rf_1_8, rf_2_3, rf_2_4, rf_2_5, rf_2_6, rf_7_0, rf_9_0, rf_11_0, rf_11_1, rf_11_4, rf_12_3, rf_12_4, rf_12_5, rf_12_6, rf_17_0, rf_20_1, rf_22_0, rf_22_1, rf_25_2, rf_25_3, rf_25_4, rf_25_5, rf_30_1, rf_30_2, rf_30_3, rf_30_4, rf_34_0, rf_36_0, rf_36_1, rf_36_2, rf_40_0, rf_40_1, rf_40_2, rf_40_3, rf_40_4, rf_40_6, rf_40_7, rf_40_9, rf_40_12, rf_40_14, rf_40_22, rf_40_23, rf_40_24, rf_40_25, li_0, li_1, li_2, li_3, li_4, li_5, li_6, li_7, li_8, li_9, li_10, li_11, li_12, li_13, li_14, li_15, li_16, li_17, li_18, li_19, li_20, li_21, li_22, li_23, li_24, li_25, li_26, li_27, li_28, li_29, li_30, li_31, li_32, li_33, li_34, li_35, li_36, li_37, li_38, li_39, li_40, li_41, li_42, li_43, li_44, li_45, li_46, li_47, li_48, li_49, li_50, li_51, li_52, li_53, li_54, li_55, li_56, li_57, li_58, li_59, li_60, li_61, li_62, li_63, li_99, li_100, li_107, li_124, li_126, li_240, li_255, li_256, li_1000, li_1178, li_1240, li_9000, li_65536, li_1000000, nI_add, pk_mul, nI_ltI, nI_leI, nI_eq, xin_nI, nI_clamp, decide_true, decide_false, Bool.and_true, Bool.true_and, Bool.and_false, Bool.false_and, Bool.not_true, Bool.not_false, cond_true, cond_false, Option.bind_some, Option.toList_some, Option.toList_none, List.cons_append, List.nil_append, List.append_nil, Nat.not_lt_zero, Nat.zero_le, Nat.le_refl, Nat.lt_irrefl, Nat.reduceLT, Nat.reduceLeDiff, Nat.reduceEqDiff, Nat.reduceAdd, Nat.reduceMul, Bool.toNat_true, Bool.toNat_false, Nat.add_zero, Nat.zero_add, Nat.succ_ne_zero, Nat.one_ne_zero, decide_eq_true, decide_eq_false, bb1, bb0, bbT, eq_self, reduceIte, and_self, and_true, true_and]
      · have e0 := hM.2.1.1
        have bc := fun {J : Nat → Nat → Int64} => c_Rbits (sh := xSH L) (M := M) (J := J) h20
        have ph2 : ∀ (M2 : Mem) (n : Nat) (m : Nat → Nat), n ≤ 8 → (∀ i, i < n → m i ≤ 60) → onlyL M M2 [53] → (∀ i, i < n → M2 53 i = nI (m i)) → ∃ M', ev (186, 107, [.ref 40, .int (nI k), .int (nI n), .int (nI (k ^ n)), .int (nI 1000000), .int (nI 0), .null], [], (xSH L, M2, J)) = some (some (.int (nI (sewV n m k))), (xSH L, M', J)) ∧ onlyL M M' [53, 54] := by
          intro M2 n m hn8 hm60 o h53
          have hp8 := pow_8 hk3 hn8
          refine loop_to (E := fun code (q : Mem × Nat) => ev (186, 107, [.ref 40, .int (nI k), .int (nI n), .int (nI (k ^ n)), .int (nI q.2), .int (nI code), .null], [], (xSH L, q.1, J))) (F := fun M' : Mem => some (some (.int (nI (sewV n m k))), (xSH L, M', J))) (fun M' => onlyL M M' [53, 54]) (fun code q => onlyL M q.1 [53, 54] ∧ q.1 53 = M2 53 ∧ q.2 = itmin (fun code => vmax n m (dg k code) (2 ^ n - 1) k) code 1000000) (n := k ^ n) ?_ ?_ (k ^ n) 0 (M2, 1000000) (by omega) ⟨fun a ha => o a (fun q => ha (by simp at q; rw [q]; decide)), rfl, rfl⟩
          · intro q ⟨q1, q2, q3⟩
            refine ⟨q.1, ?_, q1⟩
            unfold sewV
            rw [← q3, b_R_sewing_107]
            generalize k ^ n = kn at *
            simp (disch := omega) only [li_0, li_1, li_2, li_3, li_4, li_5, li_6, li_7, li_8, li_9, li_10, li_11, li_12, li_13, li_14, li_15, li_16, li_17, li_18, li_19, li_20, li_21, li_22, li_23, li_24, li_25, li_26, li_27, li_28, li_29, li_30, li_31, li_32, li_33, li_34, li_35, li_36, li_37, li_38, li_39, li_40, li_41, li_42, li_43, li_44, li_45, li_46, li_47, li_48, li_49, li_50, li_51, li_52, li_53, li_54, li_55, li_56, li_57, li_58, li_59, li_60, li_61, li_62, li_63, li_99, li_100, li_107, li_124, li_126, li_240, li_255, li_256, li_1000, li_1178, li_1240, li_9000, li_65536, li_1000000, nI_add, pk_mul, nI_ltI, nI_leI, nI_eq, xin_nI, nI_clamp, decide_true, decide_false, Bool.and_true, Bool.true_and, Bool.and_false, Bool.false_and, Bool.not_true, Bool.not_false, cond_true, cond_false, Option.bind_some, Option.toList_some, Option.toList_none, List.cons_append, List.nil_append, List.append_nil, Nat.not_lt_zero, Nat.zero_le, Nat.le_refl, Nat.lt_irrefl, Nat.reduceLT, Nat.reduceLeDiff, Nat.reduceEqDiff, Nat.reduceAdd, Nat.reduceMul, Bool.toNat_true, Bool.toNat_false, Nat.add_zero, Nat.zero_add, Nat.succ_ne_zero, Nat.one_ne_zero, decide_eq_true, decide_eq_false, bb1, bb0, bbT, eq_self, reduceIte, and_self, and_true, true_and]
          · intro code q hlt ⟨q1, q2, q3⟩
            right
            obtain ⟨M3, t1, t2⟩ := c_Rtakes (L := L) (J := J) (M := q.1) (n := n) (m := m) hn8 hm60 (fun i hi => by rw [q2]; exact h53 i hi) hk1 hk3 (code := code) (by omega)
            have hvl := vmax_le (f := dg k code) (s := 2 ^ n - 1) hm60 k
            have hq2 : q.2 ≤ 1000000 := by
              rw [q3]
              rcases itmin_att (fun code => vmax n m (dg k code) (2 ^ n - 1) k) 1000000 code with h | ⟨c, hc, h⟩
              · omega
              · rw [h]
                have := vmax_le (f := dg k c) (s := 2 ^ n - 1) hm60 k
                omega
            refine ⟨(M3, min q.2 (vmax n m (dg k code) (2 ^ n - 1) k)), ?_, onlyL_tr q1 (onlyL_of t2 (by decide)), (t2 53 (by decide)).trans q2, by rw [itmin_s, ← q3]⟩
            have hcn : ¬ nI (k ^ n) ≤ nI code := by rw [nI_leI (by omega) (by omega)]; omega
            rw [b_R_sewing_107]
            generalize vmax n m (dg k code) (2 ^ n - 1) k = w at *
            generalize k ^ n = kn at *
            by_cases hw : q.2 ≤ w
            · rw [Nat.min_eq_left hw]
              simp (disch := omega) only [hcn, t1, b_R_sewing_121, hw, kf_1, kf_2, kf_3, kf_4, kf_5, kf_6, kf_7, kf_8, kf_9, kf_10, kf_11, kf_12, kf_13, kf_14, kf_15, kf_16, kf_17, kf_18, kf_19, kf_20, kf_21, kf_22, kf_23, kf_24, kf_25, kf_26, kf_27, kf_28, kf_29, kf_30, kf_31, kf_32, kf_33, kf_34, kf_35, kf_36, kf_37, kf_38, kf_39, kf_40, kf_41, kf_42, kf_43, kf_44, kf_45, kf_46, kf_47, kf_48, kf_49, kf_50, kf_51, kf_52, kf_53, kf_54, rf_1_0, rf_1_1, rf_1_2, rf_1_3, rf_1_4, rf_1_5, rf_1_6, rf_1_7, rf_1_8, rf_2_3, rf_2_4, rf_2_5, rf_2_6, rf_7_0, rf_9_0, rf_11_0, rf_11_1, rf_11_4, rf_12_3, rf_12_4, rf_12_5, rf_12_6, rf_17_0, rf_20_1, rf_22_0, rf_22_1, rf_25_2, rf_25_3, rf_25_4, rf_25_5, rf_30_1, rf_30_2, rf_30_3, rf_30_4, rf_34_0, rf_36_0, rf_36_1, rf_36_2, rf_40_0, rf_40_1, rf_40_2, rf_40_3, rf_40_4, rf_40_6, rf_40_7, rf_40_9, rf_40_12, rf_40_14, rf_40_22, rf_40_23, rf_40_24, rf_40_25, li_0, li_1, li_2, li_3, li_4, li_5, li_6, li_7, li_8, li_9, li_10, li_11, li_12, li_13, li_14, li_15, li_16, li_17, li_18, li_19, li_20, li_21, li_22, li_23, li_24, li_25, li_26, li_27, li_28, li_29, li_30, li_31, li_32, li_33, li_34, li_35, li_36, li_37, li_38, li_39, li_40, li_41, li_42, li_43, li_44, li_45, li_46, li_47, li_48, li_49, li_50, li_51, li_52, li_53, li_54, li_55, li_56, li_57, li_58, li_59, li_60, li_61, li_62, li_63, li_99, li_100, li_107, li_124, li_126, li_240, li_255, li_256, li_1000, li_1178, li_1240, li_9000, li_65536, li_1000000, nI_add, pk_mul, nI_ltI, nI_leI, nI_eq, xin_nI, nI_clamp, decide_true, decide_false, Bool.and_true, Bool.true_and, Bool.and_false, Bool.false_and, Bool.not_true, Bool.not_false, cond_true, cond_false, Option.bind_some, Option.toList_some, Option.toList_none, List.cons_append, List.nil_append, List.append_nil, Nat.not_lt_zero, Nat.zero_le, Nat.le_refl, Nat.lt_irrefl, Nat.reduceLT, Nat.reduceLeDiff, Nat.reduceEqDiff, Nat.reduceAdd, Nat.reduceMul, Bool.toNat_true, Bool.toNat_false, Nat.add_zero, Nat.zero_add, Nat.succ_ne_zero, Nat.one_ne_zero, decide_eq_true, decide_eq_false, bb1, bb0, bbT, eq_self, reduceIte, and_self, and_true, true_and]
            · rw [Nat.min_eq_right (by omega)]
              simp (disch := omega) only [hcn, t1, b_R_sewing_121, hw, kf_1, kf_2, kf_3, kf_4, kf_5, kf_6, kf_7, kf_8, kf_9, kf_10, kf_11, kf_12, kf_13, kf_14, kf_15, kf_16, kf_17, kf_18, kf_19, kf_20, kf_21, kf_22, kf_23, kf_24, kf_25, kf_26, kf_27, kf_28, kf_29, kf_30, kf_31, kf_32, kf_33, kf_34, kf_35, kf_36, kf_37, kf_38, kf_39, kf_40, kf_41, kf_42, kf_43, kf_44, kf_45, kf_46, kf_47, kf_48, kf_49, kf_50, kf_51, kf_52, kf_53, kf_54, rf_1_0, rf_1_1, rf_1_2, rf_1_3, rf_1_4, rf_1_5, rf_1_6, rf_1_7, rf_1_8, rf_2_3, rf_2_4, rf_2_5, rf_2_6, rf_7_0, rf_9_0, rf_11_0, rf_11_1, rf_11_4, rf_12_3, rf_12_4, rf_12_5, rf_12_6, rf_17_0, rf_20_1, rf_22_0, rf_22_1, rf_25_2, rf_25_3, rf_25_4, rf_25_5, rf_30_1, rf_30_2, rf_30_3, rf_30_4, rf_34_0, rf_36_0, rf_36_1, rf_36_2, rf_40_0, rf_40_1, rf_40_2, rf_40_3, rf_40_4, rf_40_6, rf_40_7, rf_40_9, rf_40_12, rf_40_14, rf_40_22, rf_40_23, rf_40_24, rf_40_25, li_0, li_1, li_2, li_3, li_4, li_5, li_6, li_7, li_8, li_9, li_10, li_11, li_12, li_13, li_14, li_15, li_16, li_17, li_18, li_19, li_20, li_21, li_22, li_23, li_24, li_25, li_26, li_27, li_28, li_29, li_30, li_31, li_32, li_33, li_34, li_35, li_36, li_37, li_38, li_39, li_40, li_41, li_42, li_43, li_44, li_45, li_46, li_47, li_48, li_49, li_50, li_51, li_52, li_53, li_54, li_55, li_56, li_57, li_58, li_59, li_60, li_61, li_62, li_63, li_99, li_100, li_107, li_124, li_126, li_240, li_255, li_256, li_1000, li_1178, li_1240, li_9000, li_65536, li_1000000, nI_add, pk_mul, nI_ltI, nI_leI, nI_eq, xin_nI, nI_clamp, decide_true, decide_false, Bool.and_true, Bool.true_and, Bool.and_false, Bool.false_and, Bool.not_true, Bool.not_false, cond_true, cond_false, Option.bind_some, Option.toList_some, Option.toList_none, List.cons_append, List.nil_append, List.append_nil, Nat.not_lt_zero, Nat.zero_le, Nat.le_refl, Nat.lt_irrefl, Nat.reduceLT, Nat.reduceLeDiff, Nat.reduceEqDiff, Nat.reduceAdd, Nat.reduceMul, Bool.toNat_true, Bool.toNat_false, Nat.add_zero, Nat.zero_add, Nat.succ_ne_zero, Nat.one_ne_zero, decide_eq_true, decide_eq_false, bb1, bb0, bbT, eq_self, reduceIte, and_self, and_true, true_and]
        have key := loop_to (E := fun c (q : Mem) => ev (186, 40, [.ref 40, .int (nI k), .int (nI (holQ (gH g) (gT g) c).1), .int (nI (k ^ (holQ (gH g) (gT g) c).1)), .int (nI c), .null, .null], [], (xSH L, q, J))) (F := fun M' : Mem => some (some (.int (nI (sewV (holQ (gH g) (gT g) (hW (gH g) * hG (gH g))).1 (holQ (gH g) (gT g) (hW (gH g) * hG (gH g))).2 k))), (xSH L, M', J))) (fun M' => onlyL M M' [53, 54]) (fun c q => onlyL M q [53] ∧ ∀ i, i < (holQ (gH g) (gT g) c).1 → q 53 i = nI ((holQ (gH g) (gT g) c).2 i)) (n := hW (gH g) * hG (gH g)) ?_ ?_ (hW (gH g) * hG (gH g)) 0 M (by omega) ⟨onlyL_rf, fun i hi => absurd hi (Nat.not_lt_zero i)⟩
        · obtain ⟨M', k1, k2⟩ := key
          refine ⟨M', J, ?_, RelR_5x hM k2 (by decide), onlyR_l k2 (by decide)⟩
          have k1' : ev (186, 40, [.ref 40, .int (nI k), .int (nI 0), .int (nI 1), .int (nI 0), .null, .null], [], (xSH L, M, J)) = _ := k1
          generalize pop 20 (sH (gT g)) = pp at *
          simp (disch := omega) only [b_R_sewing_0, ll_1, ll_3, c_Rin, hk1, hk3, b_R_sewing_9, e0, bc, b_R_sewing_25, h8, k1', kf_1, kf_2, kf_3, kf_4, kf_5, kf_6, kf_7, kf_8, kf_9, kf_10, kf_11, kf_12, kf_13, kf_14, kf_15, kf_16, kf_17, kf_18, kf_19, kf_20, kf_21, kf_22, kf_23, kf_24, kf_25, kf_26, kf_27, kf_28, kf_29, kf_30, kf_31, kf_32, kf_33, kf_34, kf_35, kf_36, kf_37, kf_38, kf_39, kf_40, kf_41, kf_42, kf_43, kf_44, kf_45, kf_46, kf_47, kf_48, kf_49, kf_50, kf_51, kf_52, kf_53, kf_54, rf_1_0, rf_1_1, rf_1_2, rf_1_3, rf_1_4, rf_1_5, rf_1_6, rf_1_7, rf_1_8, rf_2_3, rf_2_4, rf_2_5, rf_2_6, rf_7_0, rf_9_0, rf_11_0, rf_11_1, rf_11_4, rf_12_3, rf_12_4, rf_12_5, rf_12_6, rf_17_0, rf_20_1, rf_22_0, rf_22_1, rf_25_2, rf_25_3, rf_25_4, rf_25_5, rf_30_1, rf_30_2, rf_30_3, rf_30_4, rf_34_0, rf_36_0, rf_36_1, rf_36_2, rf_40_0, rf_40_1, rf_40_2, rf_40_3, rf_40_4, rf_40_6, rf_40_7, rf_40_9, rf_40_12, rf_40_14, rf_40_22, rf_40_23, rf_40_24, rf_40_25, li_0, li_1, li_2, li_3, li_4, li_5, li_6, li_7, li_8, li_9, li_10, li_11, li_12, li_13, li_14, li_15, li_16, li_17, li_18, li_19, li_20, li_21, li_22, li_23, li_24, li_25, li_26, li_27, li_28, li_29, li_30, li_31, li_32, li_33, li_34, li_35, li_36, li_37, li_38, li_39, li_40, li_41, li_42, li_43, li_44, li_45, li_46, li_47, li_48, li_49, li_50, li_51, li_52, li_53, li_54, li_55, li_56, li_57, li_58, li_59, li_60, li_61, li_62, li_63, li_99, li_100, li_107, li_124, li_126, li_240, li_255, li_256, li_1000, li_1178, li_1240, li_9000, li_65536, li_1000000, nI_add, pk_mul, nI_ltI, nI_leI, nI_eq, xin_nI, nI_clamp, decide_true, decide_false, Bool.and_true, Bool.true_and, Bool.and_false, Bool.false_and, Bool.not_true, Bool.not_false, cond_true, cond_false, Option.bind_some, Option.toList_some, Option.toList_none, List.cons_append, List.nil_append, List.append_nil, Nat.not_lt_zero, Nat.zero_le, Nat.le_refl, Nat.lt_irrefl, Nat.reduceLT, Nat.reduceLeDiff, Nat.reduceEqDiff, Nat.reduceAdd, Nat.reduceMul, Bool.toNat_true, Bool.toNat_false, Nat.add_zero, Nat.zero_add, Nat.succ_ne_zero, Nat.one_ne_zero, decide_eq_true, decide_eq_false, bb1, bb0, bbT, eq_self, reduceIte, and_self, and_true, true_and]
        · intro q ⟨q1, q2⟩
          obtain ⟨M', k1, k2⟩ := ph2 q _ _ hc8 hm60 q1 q2
          have HR := houseR_l hM.1 q1 (by decide)
          have w1 := HR.1
          have w2 := HR.2.1
          have hcn : nI (hW (gH g) * hG (gH g)) ≤ nI (hW (gH g) * hG (gH g)) := Int32.le_refl _
          refine ⟨M', ?_, k2⟩
          rw [← k1, b_R_sewing_40]
          generalize (holQ (gH g) (gT g) (hW (gH g) * hG (gH g))).1 = nn at *
          simp (disch := omega) only [c_Rcells, w1, w2, b_R_sewing_46, hcn, kf_1, kf_2, kf_3, kf_4, kf_5, kf_6, kf_7, kf_8, kf_9, kf_10, kf_11, kf_12, kf_13, kf_14, kf_15, kf_16, kf_17, kf_18, kf_19, kf_20, kf_21, kf_22, kf_23, kf_24, kf_25, kf_26, kf_27, kf_28, kf_29, kf_30, kf_31, kf_32, kf_33, kf_34, kf_35, kf_36, kf_37, kf_38, kf_39, kf_40, kf_41, kf_42, kf_43, kf_44, kf_45, kf_46, kf_47, kf_48, kf_49, kf_50, kf_51, kf_52, kf_53, kf_54, rf_1_0, rf_1_1, rf_1_2, rf_1_3, rf_1_4, rf_1_5, rf_1_6, rf_1_7, rf_1_8, rf_2_3, rf_2_4, rf_2_5, rf_2_6, rf_7_0, rf_9_0, rf_11_0, rf_11_1, rf_11_4, rf_12_3, rf_12_4, rf_12_5, rf_12_6, rf_17_0, rf_20_1, rf_22_0, rf_22_1, rf_25_2, rf_25_3, rf_25_4, rf_25_5, rf_30_1, rf_30_2, rf_30_3, rf_30_4, rf_34_0, rf_36_0, rf_36_1, rf_36_2, rf_40_0, rf_40_1, rf_40_2, rf_40_3, rf_40_4, rf_40_6, rf_40_7, rf_40_9, rf_40_12, rf_40_14, rf_40_22, rf_40_23, rf_40_24, rf_40_25, li_0, li_1, li_2, li_3, li_4, li_5, li_6, li_7, li_8, li_9, li_10, li_11, li_12, li_13, li_14, li_15, li_16, li_17, li_18, li_19, li_20, li_21, li_22, li_23, li_24, li_25, li_26, li_27, li_28, li_29, li_30, li_31, li_32, li_33, li_34, li_35, li_36, li_37, li_38, li_39, li_40, li_41, li_42, li_43, li_44, li_45, li_46, li_47, li_48, li_49, li_50, li_51, li_52, li_53, li_54, li_55, li_56, li_57, li_58, li_59, li_60, li_61, li_62, li_63, li_99, li_100, li_107, li_124, li_126, li_240, li_255, li_256, li_1000, li_1178, li_1240, li_9000, li_65536, li_1000000, nI_add, pk_mul, nI_ltI, nI_leI, nI_eq, xin_nI, nI_clamp, decide_true, decide_false, Bool.and_true, Bool.true_and, Bool.and_false, Bool.false_and, Bool.not_true, Bool.not_false, cond_true, cond_false, Option.bind_some, Option.toList_some, Option.toList_none, List.cons_append, List.nil_append, List.append_nil, Nat.not_lt_zero, Nat.zero_le, Nat.le_refl, Nat.lt_irrefl, Nat.reduceLT, Nat.reduceLeDiff, Nat.reduceEqDiff, Nat.reduceAdd, Nat.reduceMul, Bool.toNat_true, Bool.toNat_false, Nat.add_zero, Nat.zero_add, Nat.succ_ne_zero, Nat.one_ne_zero, decide_eq_true, decide_eq_false, bb1, bb0, bbT, eq_self, reduceIte, and_self, and_true, true_and]
        · intro c q hlt ⟨q1, q2⟩
          right
          have HR := houseR_l hM.1 q1 (by decide)
          have SR := sceneR_l hM.2.1 q1 (by decide)
          have w1 := HR.1
          have w2 := HR.2.1
          have e0' := SR.1
          have hc20 : c < 20 := by omega
          have hc62 : c < 62 := by omega
          have hcn : ¬ nI (hW (gH g) * hG (gH g)) ≤ nI c := by rw [nI_leI (by omega) (by omega)]; omega
          have hs9 := holQ_s (gH g) (gT g) c
          cases hb : (sH (gT g)).testBit c
          · have he : holQ (gH g) (gT g) (c + 1) = holQ (gH g) (gT g) c := by rw [hs9]; unfold holF; rw [hb]; rfl
            refine ⟨q, ?_, q1, by rw [he]; exact q2⟩
            rw [he, b_R_sewing_40]
            simp (disch := omega) only [c_Rcells, w1, w2, b_R_sewing_46, hcn, e0', c_Rhas, hb, b_R_sewing_61, kf_1, kf_2, kf_3, kf_4, kf_5, kf_6, kf_7, kf_8, kf_9, kf_10, kf_11, kf_12, kf_13, kf_14, kf_15, kf_16, kf_17, kf_18, kf_19, kf_20, kf_21, kf_22, kf_23, kf_24, kf_25, kf_26, kf_27, kf_28, kf_29, kf_30, kf_31, kf_32, kf_33, kf_34, kf_35, kf_36, kf_37, kf_38, kf_39, kf_40, kf_41, kf_42, kf_43, kf_44, kf_45, kf_46, kf_47, kf_48, kf_49, kf_50, kf_51, kf_52, kf_53, kf_54, rf_1_0, rf_1_1, rf_1_2, rf_1_3, rf_1_4, rf_1_5, rf_1_6, rf_1_7, rf_1_8, rf_2_3, rf_2_4, rf_2_5, rf_2_6, rf_7_0, rf_9_0, rf_11_0, rf_11_1, rf_11_4, rf_12_3, rf_12_4, rf_12_5, rf_12_6, rf_17_0, rf_20_1, rf_22_0, rf_22_1, rf_25_2, rf_25_3, rf_25_4, rf_25_5, rf_30_1, rf_30_2, rf_30_3, rf_30_4, rf_34_0, rf_36_0, rf_36_1, rf_36_2, rf_40_0, rf_40_1, rf_40_2, rf_40_3, rf_40_4, rf_40_6, rf_40_7, rf_40_9, rf_40_12, rf_40_14, rf_40_22, rf_40_23, rf_40_24, rf_40_25, li_0, li_1, li_2, li_3, li_4, li_5, li_6, li_7, li_8, li_9, li_10, li_11, li_12, li_13, li_14, li_15, li_16, li_17, li_18, li_19, li_20, li_21, li_22, li_23, li_24, li_25, li_26, li_27, li_28, li_29, li_30, li_31, li_32, li_33, li_34, li_35, li_36, li_37, li_38, li_39, li_40, li_41, li_42, li_43, li_44, li_45, li_46, li_47, li_48, li_49, li_50, li_51, li_52, li_53, li_54, li_55, li_56, li_57, li_58, li_59, li_60, li_61, li_62, li_63, li_99, li_100, li_107, li_124, li_126, li_240, li_255, li_256, li_1000, li_1178, li_1240, li_9000, li_65536, li_1000000, nI_add, pk_mul, nI_ltI, nI_leI, nI_eq, xin_nI, nI_clamp, decide_true, decide_false, Bool.and_true, Bool.true_and, Bool.and_false, Bool.false_and, Bool.not_true, Bool.not_false, cond_true, cond_false, Option.bind_some, Option.toList_some, Option.toList_none, List.cons_append, List.nil_append, List.append_nil, Nat.not_lt_zero, Nat.zero_le, Nat.le_refl, Nat.lt_irrefl, Nat.reduceLT, Nat.reduceLeDiff, Nat.reduceEqDiff, Nat.reduceAdd, Nat.reduceMul, Bool.toNat_true, Bool.toNat_false, Nat.add_zero, Nat.zero_add, Nat.succ_ne_zero, Nat.one_ne_zero, decide_eq_true, decide_eq_false, bb1, bb0, bbT, eq_self, reduceIte, and_self, and_true, true_and]
          · have he : holQ (gH g) (gT g) (c + 1) = ((holQ (gH g) (gT g) c).1 + 1, upN (holQ (gH g) (gT g) c).2 (holQ (gH g) (gT g) c).1 (hmn (gH g) (sK (gT g) c))) := by rw [hs9]; unfold holF; rw [hb]; rfl
            have hcnt1 := hol_cnt (gH g) (gT g) (c + 1)
            have hmono := pop_mono (sH (gT g)) (hW (gH g) * hG (gH g) - (c + 1)) (c + 1)
            rw [show c + 1 + (hW (gH g) * hG (gH g) - (c + 1)) = hW (gH g) * hG (gH g) by omega] at hmono
            rw [he] at hcnt1
            have hlt8 : (holQ (gH g) (gT g) c).1 < 8 := by dsimp only at hcnt1; omega
            have e1 := (SR.2.2.1 c hc20).1
            rw [Nat.zero_add] at e1
            have e2 := hT.2.1 c hc20
            have e3 : q 41 (15 + sK (gT g) c) = nI (hmn (gH g) (sK (gT g) c)) := (HR.2.2.2 _ e2).2.2.1
            have i3 : 15 + sK (gT g) c < 41 := by omega
            have epw : nI (k ^ (holQ (gH g) (gT g) c).1) * nI k = nI (k ^ ((holQ (gH g) (gT g) c).1 + 1)) := by rw [pk_mul, Nat.pow_succ]
            refine ⟨xu q 53 (holQ (gH g) (gT g) c).1 (nI (hmn (gH g) (sK (gT g) c))), ?_, onlyL_xu q1 (by decide), fun i hi => ?_⟩
            · rw [he, b_R_sewing_40]
              dsimp only
              generalize (holQ (gH g) (gT g) c).1 = nn at *
              generalize k ^ (nn + 1) = kn1 at *
              generalize k ^ nn = kn at *
              simp (disch := omega) only [c_Rcells, w1, w2, b_R_sewing_46, hcn, e0', c_Rhas, hb, b_R_sewing_61, e1, e3, i3, hc62, hlt8, epw, kf_1, kf_2, kf_3, kf_4, kf_5, kf_6, kf_7, kf_8, kf_9, kf_10, kf_11, kf_12, kf_13, kf_14, kf_15, kf_16, kf_17, kf_18, kf_19, kf_20, kf_21, kf_22, kf_23, kf_24, kf_25, kf_26, kf_27, kf_28, kf_29, kf_30, kf_31, kf_32, kf_33, kf_34, kf_35, kf_36, kf_37, kf_38, kf_39, kf_40, kf_41, kf_42, kf_43, kf_44, kf_45, kf_46, kf_47, kf_48, kf_49, kf_50, kf_51, kf_52, kf_53, kf_54, rf_1_0, rf_1_1, rf_1_2, rf_1_3, rf_1_4, rf_1_5, rf_1_6, rf_1_7, rf_1_8, rf_2_3, rf_2_4, rf_2_5, rf_2_6, rf_7_0, rf_9_0, rf_11_0, rf_11_1, rf_11_4, rf_12_3, rf_12_4, rf_12_5, rf_12_6, rf_17_0, rf_20_1, rf_22_0, rf_22_1, rf_25_2, rf_25_3, rf_25_4, rf_25_5, rf_30_1, rf_30_2, rf_30_3, rf_30_4, rf_34_0, rf_36_0, rf_36_1, rf_36_2, rf_40_0, rf_40_1, rf_40_2, rf_40_3, rf_40_4, rf_40_6, rf_40_7, rf_40_9, rf_40_12, rf_40_14, rf_40_22, rf_40_23, rf_40_24, rf_40_25, li_0, li_1, li_2, li_3, li_4, li_5, li_6, li_7, li_8, li_9, li_10, li_11, li_12, li_13, li_14, li_15, li_16, li_17, li_18, li_19, li_20, li_21, li_22, li_23, li_24, li_25, li_26, li_27, li_28, li_29, li_30, li_31, li_32, li_33, li_34, li_35, li_36, li_37, li_38, li_39, li_40, li_41, li_42, li_43, li_44, li_45, li_46, li_47, li_48, li_49, li_50, li_51, li_52, li_53, li_54, li_55, li_56, li_57, li_58, li_59, li_60, li_61, li_62, li_63, li_99, li_100, li_107, li_124, li_126, li_240, li_255, li_256, li_1000, li_1178, li_1240, li_9000, li_65536, li_1000000, nI_add, pk_mul, nI_ltI, nI_leI, nI_eq, xin_nI, nI_clamp, decide_true, decide_false, Bool.and_true, Bool.true_and, Bool.and_false, Bool.false_and, Bool.not_true, Bool.not_false, cond_true, cond_false, Option.bind_some, Option.toList_some, Option.toList_none, List.cons_append, List.nil_append, List.append_nil, Nat.not_lt_zero, Nat.zero_le, Nat.le_refl, Nat.lt_irrefl, Nat.reduceLT, Nat.reduceLeDiff, Nat.reduceEqDiff, Nat.reduceAdd, Nat.reduceMul, Bool.toNat_true, Bool.toNat_false, Nat.add_zero, Nat.zero_add, Nat.succ_ne_zero, Nat.one_ne_zero, decide_eq_true, decide_eq_false, bb1, bb0, bbT, eq_self, reduceIte, and_self, and_true, true_and]
            · rw [he] at hi ⊢
              have hi' : i < (holQ (gH g) (gT g) c).1 + 1 := hi
              show _ = nI (upN _ _ _ i)
              unfold upN
              by_cases hq : i = (holQ (gH g) (gT g) c).1
              · rw [if_pos hq, hq, xu_at]
              · rw [if_neg hq, xu_off hq]; exact q2 i (by omega)
    · refine ⟨-1000000003, g, hg, ansC_rd (fun M J hM => ?_), ansR_rd (fun M J hM => ?_)⟩
      · have e0 := hM.2.1.1
        have bc := fun {J : Nat → Nat → Int64} => c_bitCount (sh := xSH L) (M := M) (J := J) h20
        generalize pop 20 (sH (gT g)) = pp at *
        simp (disch := omega) only [b_C_sewing_0, c_isWithin, if_pos hv, b_C_sewing_6, c_holes hs, e0, b_C_sewing_19, bc, b_C_sewing_22, h8, kf_1, kf_2, kf_3, kf_4, kf_5, kf_6, kf_7, kf_8, kf_9, kf_10, kf_11, kf_12, kf_13, kf_14, kf_15, kf_16, kf_17, kf_18, kf_19, kf_20, kf_21, kf_22, kf_23, kf_24, kf_25, kf_26, kf_27, kf_28, kf_29, kf_30, kf_31, kf_32, kf_33, kf_34, kf_35, kf_36, kf_37, kf_38, kf_39, kf_40, kf_41, kf_42, kf_43, kf_44, kf_45, kf_46, kf_47, kf_48, kf_49, kf_50, kf_51, kf_52, kf_53, kf_54, rf_1_0, rf_1_1, rf_1_2, rf_1_3, rf_1_4, rf_1_5, rf_1_6, rf_1_7, rf_1_8, rf_2_3, rf_2_4, rf_2_5, rf_2_6, rf_7_0, rf_9_0, rf_11_0, rf_11_1, rf_11_4, rf_12_3, rf_12_4, rf_12_5, rf_12_6, rf_17_0, rf_20_1, rf_22_0, rf_22_1, rf_25_2, rf_25_3, rf_25_4, rf_25_5, rf_30_1, rf_30_2, rf_30_3, rf_30_4, rf_34_0, rf_36_0, rf_36_1, rf_36_2, rf_40_0, rf_40_1, rf_40_2, rf_40_3, rf_40_4, rf_40_6, rf_40_7, rf_40_9, rf_40_12, rf_40_14, rf_40_22, rf_40_23, rf_40_24, rf_40_25, li_0, li_1, li_2, li_3, li_4, li_5, li_6, li_7, li_8, li_9, li_10, li_11, li_12, li_13, li_14, li_15, li_16, li_17, li_18, li_19, li_20, li_21, li_22, li_23, li_24, li_25, li_26, li_27, li_28, li_29, li_30, li_31, li_32, li_33, li_34, li_35, li_36, li_37, li_38, li_39, li_40, li_41, li_42, li_43, li_44, li_45, li_46, li_47, li_48, li_49, li_50, li_51, li_52, li_53, li_54, li_55, li_56, li_57, li_58, li_59, li_60, li_61, li_62, li_63, li_99, li_100, li_107, li_124, li_126, li_240, li_255, li_256, li_1000, li_1178, li_1240, li_9000, li_65536, li_1000000, nI_add, pk_mul, nI_ltI, nI_leI, nI_eq, xin_nI, nI_clamp, decide_true, decide_false, Bool.and_true, Bool.true_and, Bool.and_false, Bool.false_and, Bool.not_true, Bool.not_false, cond_true, cond_false, Option.bind_some, Option.toList_some, Option.toList_none, List.cons_append, List.nil_append, List.append_nil, Nat.not_lt_zero, Nat.zero_le, Nat.le_refl, Nat.lt_irrefl, Nat.reduceLT, Nat.reduceLeDiff, Nat.reduceEqDiff, Nat.reduceAdd, Nat.reduceMul, Bool.toNat_true, Bool.toNat_false, Nat.add_zero, Nat.zero_add, Nat.succ_ne_zero, Nat.one_ne_zero, decide_eq_true, decide_eq_false, bb1, bb0, bbT, eq_self, reduceIte, and_self, and_true, true_and]
      · have e0 := hM.2.1.1
        have bc := fun {J : Nat → Nat → Int64} => c_Rbits (sh := xSH L) (M := M) (J := J) h20
        generalize pop 20 (sH (gT g)) = pp at *
        simp (disch := omega) only [b_R_sewing_0, ll_1, ll_3, c_Rin, if_pos hv, b_R_sewing_9, e0, bc, b_R_sewing_25, h8, kf_1, kf_2, kf_3, kf_4, kf_5, kf_6, kf_7, kf_8, kf_9, kf_10, kf_11, kf_12, kf_13, kf_14, kf_15, kf_16, kf_17, kf_18, kf_19, kf_20, kf_21, kf_22, kf_23, kf_24, kf_25, kf_26, kf_27, kf_28, kf_29, kf_30, kf_31, kf_32, kf_33, kf_34, kf_35, kf_36, kf_37, kf_38, kf_39, kf_40, kf_41, kf_42, kf_43, kf_44, kf_45, kf_46, kf_47, kf_48, kf_49, kf_50, kf_51, kf_52, kf_53, kf_54, rf_1_0, rf_1_1, rf_1_2, rf_1_3, rf_1_4, rf_1_5, rf_1_6, rf_1_7, rf_1_8, rf_2_3, rf_2_4, rf_2_5, rf_2_6, rf_7_0, rf_9_0, rf_11_0, rf_11_1, rf_11_4, rf_12_3, rf_12_4, rf_12_5, rf_12_6, rf_17_0, rf_20_1, rf_22_0, rf_22_1, rf_25_2, rf_25_3, rf_25_4, rf_25_5, rf_30_1, rf_30_2, rf_30_3, rf_30_4, rf_34_0, rf_36_0, rf_36_1, rf_36_2, rf_40_0, rf_40_1, rf_40_2, rf_40_3, rf_40_4, rf_40_6, rf_40_7, rf_40_9, rf_40_12, rf_40_14, rf_40_22, rf_40_23, rf_40_24, rf_40_25, li_0, li_1, li_2, li_3, li_4, li_5, li_6, li_7, li_8, li_9, li_10, li_11, li_12, li_13, li_14, li_15, li_16, li_17, li_18, li_19, li_20, li_21, li_22, li_23, li_24, li_25, li_26, li_27, li_28, li_29, li_30, li_31, li_32, li_33, li_34, li_35, li_36, li_37, li_38, li_39, li_40, li_41, li_42, li_43, li_44, li_45, li_46, li_47, li_48, li_49, li_50, li_51, li_52, li_53, li_54, li_55, li_56, li_57, li_58, li_59, li_60, li_61, li_62, li_63, li_99, li_100, li_107, li_124, li_126, li_240, li_255, li_256, li_1000, li_1178, li_1240, li_9000, li_65536, li_1000000, nI_add, pk_mul, nI_ltI, nI_leI, nI_eq, xin_nI, nI_clamp, decide_true, decide_false, Bool.and_true, Bool.true_and, Bool.and_false, Bool.false_and, Bool.not_true, Bool.not_false, cond_true, cond_false, Option.bind_some, Option.toList_some, Option.toList_none, List.cons_append, List.nil_append, List.append_nil, Nat.not_lt_zero, Nat.zero_le, Nat.le_refl, Nat.lt_irrefl, Nat.reduceLT, Nat.reduceLeDiff, Nat.reduceEqDiff, Nat.reduceAdd, Nat.reduceMul, Bool.toNat_true, Bool.toNat_false, Nat.add_zero, Nat.zero_add, Nat.succ_ne_zero, Nat.one_ne_zero, decide_eq_true, decide_eq_false, bb1, bb0, bbT, eq_self, reduceIte, and_self, and_true, true_and]
  · refine ⟨-1000000002, g, hg, ansC_rd (fun M J hM => ?_), ansR_rd (fun M J hM => ?_)⟩
    · simp (disch := omega) only [b_C_sewing_0, c_isWithin, if_neg hv, b_C_sewing_6, kf_1, kf_2, kf_3, kf_4, kf_5, kf_6, kf_7, kf_8, kf_9, kf_10, kf_11, kf_12, kf_13, kf_14, kf_15, kf_16, kf_17, kf_18, kf_19, kf_20, kf_21, kf_22, kf_23, kf_24, kf_25, kf_26, kf_27, kf_28, kf_29, kf_30, kf_31, kf_32, kf_33, kf_34, kf_35, kf_36, kf_37, kf_38, kf_39, kf_40, kf_41, kf_42, kf_43, kf_44, kf_45, kf_46, kf_47, kf_48, kf_49, kf_50, kf_51, kf_52, kf_53, kf_54, rf_1_0, rf_1_1, rf_1_2, rf_1_3, rf_1_4, rf_1_5, rf_1_6, rf_1_7, rf_1_8, rf_2_3, rf_2_4, rf_2_5, rf_2_6, rf_7_0, rf_9_0, rf_11_0, rf_11_1, rf_11_4, rf_12_3, rf_12_4, rf_12_5, rf_12_6, rf_17_0, rf_20_1, rf_22_0, rf_22_1, rf_25_2, rf_25_3, rf_25_4, rf_25_5, rf_30_1, rf_30_2, rf_30_3, rf_30_4, rf_34_0, rf_36_0, rf_36_1, rf_36_2, rf_40_0, rf_40_1, rf_40_2, rf_40_3, rf_40_4, rf_40_6, rf_40_7, rf_40_9, rf_40_12, rf_40_14, rf_40_22, rf_40_23, rf_40_24, rf_40_25, li_0, li_1, li_2, li_3, li_4, li_5, li_6, li_7, li_8, li_9, li_10, li_11, li_12, li_13, li_14, li_15, li_16, li_17, li_18, li_19, li_20, li_21, li_22, li_23, li_24, li_25, li_26, li_27, li_28, li_29, li_30, li_31, li_32, li_33, li_34, li_35, li_36, li_37, li_38, li_39, li_40, li_41, li_42, li_43, li_44, li_45, li_46, li_47, li_48, li_49, li_50, li_51, li_52, li_53, li_54, li_55, li_56, li_57, li_58, li_59, li_60, li_61, li_62, li_63, li_99, li_100, li_107, li_124, li_126, li_240, li_255, li_256, li_1000, li_1178, li_1240, li_9000, li_65536, li_1000000, nI_add, pk_mul, nI_ltI, nI_leI, nI_eq, xin_nI, nI_clamp, decide_true, decide_false, Bool.and_true, Bool.true_and, Bool.and_false, Bool.false_and, Bool.not_true, Bool.not_false, cond_true, cond_false, Option.bind_some, Option.toList_some, Option.toList_none, List.cons_append, List.nil_append, List.append_nil, Nat.not_lt_zero, Nat.zero_le, Nat.le_refl, Nat.lt_irrefl, Nat.reduceLT, Nat.reduceLeDiff, Nat.reduceEqDiff, Nat.reduceAdd, Nat.reduceMul, Bool.toNat_true, Bool.toNat_false, Nat.add_zero, Nat.zero_add, Nat.succ_ne_zero, Nat.one_ne_zero, decide_eq_true, decide_eq_false, bb1, bb0, bbT, eq_self, reduceIte, and_self, and_true, true_and]
    · simp (disch := omega) only [b_R_sewing_0, ll_1, ll_3, c_Rin, if_neg hv, b_R_sewing_9, kf_1, kf_2, kf_3, kf_4, kf_5, kf_6, kf_7, kf_8, kf_9, kf_10, kf_11, kf_12, kf_13, kf_14, kf_15, kf_16, kf_17, kf_18, kf_19, kf_20, kf_21, kf_22, kf_23, kf_24, kf_25, kf_26, kf_27, kf_28, kf_29, kf_30, kf_31, kf_32, kf_33, kf_34, kf_35, kf_36, kf_37, kf_38, kf_39, kf_40, kf_41, kf_42, kf_43, kf_44, kf_45, kf_46, kf_47, kf_48, kf_49, kf_50, kf_51, kf_52, kf_53, kf_54, rf_1_0, rf_1_1, rf_1_2, rf_1_3, rf_1_4, rf_1_5, rf_1_6, rf_1_7, rf_1_8, rf_2_3, rf_2_4, rf_2_5, rf_2_6, rf_7_0, rf_9_0, rf_11_0, rf_11_1, rf_11_4, rf_12_3, rf_12_4, rf_12_5, rf_12_6, rf_17_0, rf_20_1, rf_22_0, rf_22_1, rf_25_2, rf_25_3, rf_25_4, rf_25_5, rf_30_1, rf_30_2, rf_30_3, rf_30_4, rf_34_0, rf_36_0, rf_36_1, rf_36_2, rf_40_0, rf_40_1, rf_40_2, rf_40_3, rf_40_4, rf_40_6, rf_40_7, rf_40_9, rf_40_12, rf_40_14, rf_40_22, rf_40_23, rf_40_24, rf_40_25, li_0, li_1, li_2, li_3, li_4, li_5, li_6, li_7, li_8, li_9, li_10, li_11, li_12, li_13, li_14, li_15, li_16, li_17, li_18, li_19, li_20, li_21, li_22, li_23, li_24, li_25, li_26, li_27, li_28, li_29, li_30, li_31, li_32, li_33, li_34, li_35, li_36, li_37, li_38, li_39, li_40, li_41, li_42, li_43, li_44, li_45, li_46, li_47, li_48, li_49, li_50, li_51, li_52, li_53, li_54, li_55, li_56, li_57, li_58, li_59, li_60, li_61, li_62, li_63, li_99, li_100, li_107, li_124, li_126, li_240, li_255, li_256, li_1000, li_1178, li_1240, li_9000, li_65536, li_1000000, nI_add, pk_mul, nI_ltI, nI_leI, nI_eq, xin_nI, nI_clamp, decide_true, decide_false, Bool.and_true, Bool.true_and, Bool.and_false, Bool.false_and, Bool.not_true, Bool.not_false, cond_true, cond_false, Option.bind_some, Option.toList_some, Option.toList_none, List.cons_append, List.nil_append, List.append_nil, Nat.not_lt_zero, Nat.zero_le, Nat.le_refl, Nat.lt_irrefl, Nat.reduceLT, Nat.reduceLeDiff, Nat.reduceEqDiff, Nat.reduceAdd, Nat.reduceMul, Bool.toNat_true, Bool.toNat_false, Nat.add_zero, Nat.zero_add, Nat.succ_ne_zero, Nat.one_ne_zero, decide_eq_true, decide_eq_false, bb1, bb0, bbT, eq_self, reduceIte, and_self, and_true, true_and]
end OPS10
