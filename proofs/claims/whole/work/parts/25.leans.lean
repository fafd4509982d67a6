/-! ===== sums of Int32 ===== -/
def sm (f : Nat → Int32) : Nat → Int32
  | 0 => 0
  | n + 1 => sm f n + f n
theorem sm_cong {f g : Nat → Int32} : ∀ {n : Nat}, (∀ k, k < n → f k = g k) → sm f n = sm g n
  | 0, _ => rfl
  | n + 1, h => by rw [sm, sm, sm_cong (fun k hk => h k (by omega)), h n (by omega)]
theorem sm_add (f g : Nat → Int32) : ∀ n, sm (fun k => f k + g k) n = sm f n + sm g n
  | 0 => by simp [sm]
  | n + 1 => by
    rw [sm, sm, sm, sm_add f g n, Int32.add_assoc, Int32.add_assoc]
    congr 1
    rw [← Int32.add_assoc, ← Int32.add_assoc, Int32.add_comm (sm g n)]
theorem sm_mul (a : Int32) (f : Nat → Int32) : ∀ n, sm (fun k => a * f k) n = a * sm f n
  | 0 => by simp [sm]
  | n + 1 => by rw [sm, sm, sm_mul a f n, Int32.mul_add]
theorem sm_split (f : Nat → Int32) (m : Nat) : ∀ n, sm f (m + n) = sm f m + sm (fun k => f (m + k)) n
  | 0 => by simp [sm]
  | n + 1 => by
    show sm f (m + n) + f (m + n) = sm f m + (sm (fun k => f (m + k)) n + f (m + n))
    rw [sm_split f m n, Int32.add_assoc]
theorem sm_cols (F : Nat → Nat → Int32) (W : Nat) (hW : 0 < W) : ∀ G, sm (fun c => F (c % W) (c / W)) (W * G) = sm (fun x => sm (F x) G) W
  | 0 => by
    have : ∀ n, sm (fun _ : Nat => (0 : Int32)) n = 0 := by
      intro n
      induction n with
      | zero => rfl
      | succ n ih => rw [sm, ih]; rfl
    rw [Nat.mul_zero]
    exact (this W).symm
  | G + 1 => by
    rw [Nat.mul_succ, sm_split, sm_cols F W hW G]
    have e1 : sm (fun k => F ((W * G + k) % W) ((W * G + k) / W)) W = sm (fun x => F x G) W := by
      apply sm_cong
      intro k hk
      rw [Nat.mul_add_mod, Nat.mod_eq_of_lt hk, Nat.mul_add_div hW, Nat.div_eq_of_lt hk, Nat.add_zero]
    rw [e1, ← sm_add]
    rfl
theorem nI_sm (f : Nat → Nat) : ∀ n, nI (it (fun c s => s + f c) n 0 0) = sm (fun c => nI (f c)) n
  | 0 => rfl
  | n + 1 => by rw [it_succ, Nat.zero_add, ← nI_add, nI_sm f n]; rfl
/-- a loop to a known answer: a step ends it or leads on -/
theorem loop_inv {σ : Type} {E : Nat → σ → Option xR} {R : Option xR} (inv : Nat → σ → Prop) {n : Nat} (hx : ∀ s, inv n s → E n s = R) (hs : ∀ i s, i < n → inv i s → E i s = R ∨ ∃ s', E i s = E (i + 1) s' ∧ inv (i + 1) s') : ∀ (k i : Nat) (s : σ), i + k = n → inv i s → E i s = R
  | 0, i, s, hi, h => by
    have : i = n := by omega
    subst this
    exact hx s h
  | k + 1, i, s, hi, h => by
    rcases hs i s (by omega) h with h1 | ⟨s', h1, h2⟩
    · exact h1
    · rw [h1]
      exact loop_inv inv hx hs k (i + 1) s' (by omega) h2
/-! ===== LEANS ===== -/
def side (W x : Nat) : Int32 := if 2 * x + 1 < W then -1 else if 2 * x + 1 = W then 0 else 1
def bal (H : Ho) (T : Sc) : Int32 := sm (fun c => -(side (hW H) (c % hW H) * nI (wAt H T c))) (hW H * hG H)
def leans (H : Ho) (T : Sc) : Int32 := bal H T / 100
theorem bal_cols {H : Ho} (T : Sc) (h : 0 < hW H) : bal H T = sm (fun x => -(side (hW H) x * sm (fun g => nI (wAt H T (g * hW H + x))) (hG H))) (hW H) := by
  unfold bal
  have e := sm_cols (fun x g => -(side (hW H) x * nI (wAt H T (g * hW H + x)))) (hW H) h (hG H)
  have e2 : sm (fun c => -(side (hW H) (c % hW H) * nI (wAt H T (c / hW H * hW H + c % hW H)))) (hW H * hG H) = sm (fun c => -(side (hW H) (c % hW H) * nI (wAt H T c))) (hW H * hG H) := by
    apply sm_cong
    intro c _
    rw [Nat.div_add_mod']
  rw [← e2, e]
  apply sm_cong
  intro x _
  have e3 : (fun g => -(side (hW H) x * nI (wAt H T (g * hW H + x)))) = fun g => (-(side (hW H) x)) * nI (wAt H T (g * hW H + x)) := by
    funext g
    rw [Int32.neg_mul]
  rw [e3, sm_mul, Int32.neg_mul]
section LEANS
variable {sh : xSh} {t r h aw al am ah : Nat} {M : Mem} {J : Nat → Nat → Int64} {H : Ho} {T : Sc}
theorem c_compare {a b : Int32} : ev (201, 0, [.int a, .int b], [], (sh, M, J)) = some (some (.int (if a < b then -1 else if a = b then 0 else 1)), (sh, M, J)) := by
  rw [b_Integer_compare_0]
  by_cases h1 : a < b
  · have h2 : ¬ b ≤ a := Int32.not_le.mpr h1
    simp [h1, h2]
  · have h2 : b ≤ a := Int32.not_lt.mp h1
    by_cases h3 : a = b
    · subst h3; simp
    · simp [h1, h2, h3]
theorem c_sideOf (hH : isHouse sh h aw al am ah) {W x : Nat} (hw : M h 0 = nI W) (h1 : 1 ≤ W) (h5 : W ≤ 5) (hx : x < 5) : ev (20, 0, [.ref h, .int (nI x)], [], (sh, M, J)) = some (some (.int (side W x)), (sh, M, J)) := by
  have k1 := hH.1
  have e1 : nI W - nI 1 = nI (W - 1) := pk_sub h1
  simp (disch := omega) only [b_House_sideOf_0, k1, c_compare, b_House_sideOf_12, hw, e1, li_0, li_1, li_2, li_3, li_4, li_5, li_6, li_8, li_9, li_10, li_12, li_15, li_16, li_19, li_20, li_21, li_22, li_25, li_30, li_31, li_32, li_35, li_40, li_41, li_42, li_46, li_47, li_48, li_50, li_51, li_52, li_56, li_57, li_59, li_60, li_61, li_62, li_63, li_99, li_100, li_107, li_124, li_126, li_240, li_255, li_256, li_1000, li_1178, li_1240, li_9000, li_65536, li_1000000, nI_add, pk_mul, nI_ltI, nI_leI, nI_eq, xin_nI, nI_clamp, decide_true, decide_false, Bool.and_true, Bool.true_and, Bool.and_false, Bool.false_and, Bool.not_true, Bool.not_false, cond_true, cond_false, Option.bind_some, Option.toList_some, Option.toList_none, List.cons_append, List.nil_append, List.append_nil, Nat.not_lt_zero, Nat.zero_le, Nat.le_refl, Nat.lt_irrefl, Nat.reduceLT, Nat.reduceLeDiff, Nat.reduceEqDiff, Nat.reduceAdd, Nat.reduceMul, Bool.toNat_true, Bool.toNat_false, Nat.add_zero, Nat.zero_add, Nat.succ_ne_zero, Nat.one_ne_zero]
  unfold side
  congr 4
  by_cases g1 : 2 * x + 1 < W
  · have g2 : 2 * x < W - 1 := by omega
    rw [if_pos g2, if_pos g1]; rfl
  · have g2 : ¬ 2 * x < W - 1 := by omega
    by_cases g3 : 2 * x + 1 = W
    · have g4 : 2 * x = W - 1 := by omega
      rw [if_neg g2, if_pos g4, if_neg g1, if_pos g3]; rfl
    · have g4 : ¬ 2 * x = W - 1 := by omega
      rw [if_neg g2, if_neg g4, if_neg g1, if_neg g3]; rfl
theorem c_leansWith (hH : isHouse sh h aw al am ah) (hS : isScene sh t r) (HC : houseC M h aw al am ah H) (SC : sceneC M r T) (ho : hoOk H) (hT : scOk H T) {hs : Nat} (hhs : hs < 2 ^ 31) : ev (74, 0, [.ref t, .ref h, .int (nI hs), .null, .null, .null, .null, .null], [], (sh, M, J)) = some (some (.int (leans H (hs, T.2))), (sh, M, J)) := by
  have hn := hcells ho
  obtain ⟨w1, w2, w3, w4⟩ := HC
  have k1 := hH.1
  have k2 := hS.1
  have g5 := ho.1
  have g4 := ho.2.1
  have inner : ∀ (x : Nat) (b : Int32), x < hW H → ev (74, 20, [.ref t, .ref h, .int (nI hs), .int b, .int (nI x), .int (nI 0), .int (nI 0), .null], [], (sh, M, J)) = ev (74, 5, [.ref t, .ref h, .int (nI hs), .int (b - side (hW H) x * sm (fun g => nI (wAt H (hs, T.2) (g * hW H + x))) (hG H)), .int (nI (x + 1)), .null, .null, .null], [], (sh, M, J)) := by
    intro x b hx
    refine loop_inv (E := fun g s => ev (74, 20, [.ref t, .ref h, .int (nI hs), .int b, .int (nI x), .int s, .int (nI g), .null], [], (sh, M, J))) (fun g s => s = sm (fun g => nI (wAt H (hs, T.2) (g * hW H + x))) g) (n := hG H) ?_ ?_ (hG H) 0 (nI 0) (by omega) rfl
    · intro s hs'
      subst hs'
      rw [b_Scene_leansWith_20]
      simp (disch := omega) only [k1, k2, w2, c_sideOf hH w1, b_Scene_leansWith_80, li_0, li_1, li_2, li_3, li_4, li_5, li_6, li_8, li_9, li_10, li_12, li_15, li_16, li_19, li_20, li_21, li_22, li_25, li_30, li_31, li_32, li_35, li_40, li_41, li_42, li_46, li_47, li_48, li_50, li_51, li_52, li_56, li_57, li_59, li_60, li_61, li_62, li_63, li_99, li_100, li_107, li_124, li_126, li_240, li_255, li_256, li_1000, li_1178, li_1240, li_9000, li_65536, li_1000000, nI_add, pk_mul, nI_ltI, nI_leI, nI_eq, xin_nI, nI_clamp, decide_true, decide_false, Bool.and_true, Bool.true_and, Bool.and_false, Bool.false_and, Bool.not_true, Bool.not_false, cond_true, cond_false, Option.bind_some, Option.toList_some, Option.toList_none, List.cons_append, List.nil_append, List.append_nil, Nat.not_lt_zero, Nat.zero_le, Nat.le_refl, Nat.lt_irrefl, Nat.reduceLT, Nat.reduceLeDiff, Nat.reduceEqDiff, Nat.reduceAdd, Nat.reduceMul, Bool.toNat_true, Bool.toNat_false, Nat.add_zero, Nat.zero_add, Nat.succ_ne_zero, Nat.one_ne_zero]
    · intro g s hg hs'
      subst hs'
      refine Or.inr ⟨_, ?_, rfl⟩
      have hc20 : g * hW H + x < 20 := by
        have : (g + 1) * hW H ≤ 4 * 5 := Nat.mul_le_mul (by omega) g5
        rw [Nat.succ_mul] at this
        omega
      have e1 := (SC.2.2.1 _ hc20).1
      have e2 := hT.2.1 _ hc20
      have e3 := (w4 _ e2).1
      have e4 : ¬ hG H ≤ g := by omega
      rw [b_Scene_leansWith_20]
      rw [show sm (fun g => nI (wAt H (hs, T.2) (g * hW H + x))) (g + 1) = sm (fun g => nI (wAt H (hs, T.2) (g * hW H + x))) g + nI (wAt H (hs, T.2) (g * hW H + x)) from rfl]
      generalize sm (fun g => nI (wAt H (hs, T.2) (g * hW H + x))) g = s0
      have hm : nI g * nI (hW H) = nI (g * hW H) := pk_mul _ _
      generalize g * hW H = gw at *
      unfold wAt
      cases hb : hs.testBit (gw + x)
      · simp (disch := omega) only [k1, k2, w1, w2, e4, c_cellAt hH, hm, b_Scene_leansWith_37, c_hasBit, hb, b_Scene_leansWith_47, c_clothAt hS, e1, b_Scene_leansWith_61, c_weightOf hH, e3, b_Scene_leansWith_64, li_0, li_1, li_2, li_3, li_4, li_5, li_6, li_8, li_9, li_10, li_12, li_15, li_16, li_19, li_20, li_21, li_22, li_25, li_30, li_31, li_32, li_35, li_40, li_41, li_42, li_46, li_47, li_48, li_50, li_51, li_52, li_56, li_57, li_59, li_60, li_61, li_62, li_63, li_99, li_100, li_107, li_124, li_126, li_240, li_255, li_256, li_1000, li_1178, li_1240, li_9000, li_65536, li_1000000, nI_add, pk_mul, nI_ltI, nI_leI, nI_eq, xin_nI, nI_clamp, decide_true, decide_false, Bool.and_true, Bool.true_and, Bool.and_false, Bool.false_and, Bool.not_true, Bool.not_false, cond_true, cond_false, Option.bind_some, Option.toList_some, Option.toList_none, List.cons_append, List.nil_append, List.append_nil, Nat.not_lt_zero, Nat.zero_le, Nat.le_refl, Nat.lt_irrefl, Nat.reduceLT, Nat.reduceLeDiff, Nat.reduceEqDiff, Nat.reduceAdd, Nat.reduceMul, Bool.toNat_true, Bool.toNat_false, Nat.add_zero, Nat.zero_add, Nat.succ_ne_zero, Nat.one_ne_zero]
        rfl
      · simp (disch := omega) only [k1, k2, w1, w2, e4, c_cellAt hH, hm, b_Scene_leansWith_37, c_hasBit, hb, b_Scene_leansWith_47, li_0, li_1, li_2, li_3, li_4, li_5, li_6, li_8, li_9, li_10, li_12, li_15, li_16, li_19, li_20, li_21, li_22, li_25, li_30, li_31, li_32, li_35, li_40, li_41, li_42, li_46, li_47, li_48, li_50, li_51, li_52, li_56, li_57, li_59, li_60, li_61, li_62, li_63, li_99, li_100, li_107, li_124, li_126, li_240, li_255, li_256, li_1000, li_1178, li_1240, li_9000, li_65536, li_1000000, nI_add, pk_mul, nI_ltI, nI_leI, nI_eq, xin_nI, nI_clamp, decide_true, decide_false, Bool.and_true, Bool.true_and, Bool.and_false, Bool.false_and, Bool.not_true, Bool.not_false, cond_true, cond_false, Option.bind_some, Option.toList_some, Option.toList_none, List.cons_append, List.nil_append, List.append_nil, Nat.not_lt_zero, Nat.zero_le, Nat.le_refl, Nat.lt_irrefl, Nat.reduceLT, Nat.reduceLeDiff, Nat.reduceEqDiff, Nat.reduceAdd, Nat.reduceMul, Bool.toNat_true, Bool.toNat_false, Nat.add_zero, Nat.zero_add, Nat.succ_ne_zero, Nat.one_ne_zero]
        rfl
  rw [b_Scene_leansWith_0]
  have outer := loop_inv (E := fun x b => ev (74, 5, [.ref t, .ref h, .int (nI hs), .int b, .int (nI x), .null, .null, .null], [], (sh, M, J))) (R := some (some (.int (leans H (hs, T.2))), (sh, M, J))) (fun x b => b = sm (fun x => -(side (hW H) x * sm (fun g => nI (wAt H (hs, T.2) (g * hW H + x))) (hG H))) x) (n := hW H) ?_ ?_ (hW H) 0 0 (by omega) rfl
  · exact outer
  · intro b hb
    subst hb
    rw [b_Scene_leansWith_5]
    have e1 : sm (fun x => -(side (hW H) x * sm (fun g => nI (wAt H (hs, T.2) (g * hW H + x))) (hG H))) (hW H) = bal H (hs, T.2) := by
      by_cases h0 : 0 < hW H
      · exact (bal_cols _ h0).symm
      · have h0' : hW H = 0 := by omega
        unfold bal
        rw [h0', Nat.zero_mul]; rfl
    rw [e1]
    simp (disch := omega) only [k1, w1, li_0, li_1, li_2, li_3, li_4, li_5, li_6, li_8, li_9, li_10, li_12, li_15, li_16, li_19, li_20, li_21, li_22, li_25, li_30, li_31, li_32, li_35, li_40, li_41, li_42, li_46, li_47, li_48, li_50, li_51, li_52, li_56, li_57, li_59, li_60, li_61, li_62, li_63, li_99, li_100, li_107, li_124, li_126, li_240, li_255, li_256, li_1000, li_1178, li_1240, li_9000, li_65536, li_1000000, nI_add, pk_mul, nI_ltI, nI_leI, nI_eq, xin_nI, nI_clamp, decide_true, decide_false, Bool.and_true, Bool.true_and, Bool.and_false, Bool.false_and, Bool.not_true, Bool.not_false, cond_true, cond_false, Option.bind_some, Option.toList_some, Option.toList_none, List.cons_append, List.nil_append, List.append_nil, Nat.not_lt_zero, Nat.zero_le, Nat.le_refl, Nat.lt_irrefl, Nat.reduceLT, Nat.reduceLeDiff, Nat.reduceEqDiff, Nat.reduceAdd, Nat.reduceMul, Bool.toNat_true, Bool.toNat_false, Nat.add_zero, Nat.zero_add, Nat.succ_ne_zero, Nat.one_ne_zero]
    rfl
  · intro x b hx hb
    subst hb
    refine Or.inr ⟨_, ?_, rfl⟩
    have e4 : ¬ hW H ≤ x := by omega
    rw [b_Scene_leansWith_5]
    simp (disch := omega) only [k1, w1, e4, li_0, li_1, li_2, li_3, li_4, li_5, li_6, li_8, li_9, li_10, li_12, li_15, li_16, li_19, li_20, li_21, li_22, li_25, li_30, li_31, li_32, li_35, li_40, li_41, li_42, li_46, li_47, li_48, li_50, li_51, li_52, li_56, li_57, li_59, li_60, li_61, li_62, li_63, li_99, li_100, li_107, li_124, li_126, li_240, li_255, li_256, li_1000, li_1178, li_1240, li_9000, li_65536, li_1000000, nI_add, pk_mul, nI_ltI, nI_leI, nI_eq, xin_nI, nI_clamp, decide_true, decide_false, Bool.and_true, Bool.true_and, Bool.and_false, Bool.false_and, Bool.not_true, Bool.not_false, cond_true, cond_false, Option.bind_some, Option.toList_some, Option.toList_none, List.cons_append, List.nil_append, List.append_nil, Nat.not_lt_zero, Nat.zero_le, Nat.le_refl, Nat.lt_irrefl, Nat.reduceLT, Nat.reduceLeDiff, Nat.reduceEqDiff, Nat.reduceAdd, Nat.reduceMul, Bool.toNat_true, Bool.toNat_false, Nat.add_zero, Nat.zero_add, Nat.succ_ne_zero, Nat.one_ne_zero]
    rw [inner x _ hx]
    rw [show sm (fun x => -(side (hW H) x * sm (fun g => nI (wAt H (hs, T.2) (g * hW H + x))) (hG H))) (x + 1) = sm (fun x => -(side (hW H) x * sm (fun g => nI (wAt H (hs, T.2) (g * hW H + x))) (hG H))) x + -(side (hW H) x * sm (fun g => nI (wAt H (hs, T.2) (g * hW H + x))) (hG H)) from rfl]
    rw [Int32.sub_eq_add_neg]
end LEANS
