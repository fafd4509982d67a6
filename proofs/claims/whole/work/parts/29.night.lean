/-! ===== a NIGHT ===== -/
def upN {α : Type} (f : Nat → α) (k : Nat) (v : α) : Nat → α := fun i => if i = k then v else f i
/-- only the row at r may differ -/
def only (M M' : Mem) (r : Nat) : Prop := ∀ a, a ≠ r → M' a = M a
theorem only_rf {M : Mem} {r : Nat} : only M M r := fun _ _ => rfl
theorem only_tr {M M' M'' : Mem} {r : Nat} (h : only M M' r) (h2 : only M' M'' r) : only M M'' r := fun a ha => (h2 a ha).trans (h a ha)
theorem only_xu {M : Mem} {r i : Nat} {v : Int32} : only M (xu M r i v) r := fun _ ha => xu_ne ha
theorem only_xu' {M M' : Mem} {r i : Nat} {v : Int32} (h : only M M' r) : only M (xu M' r i v) r := only_tr h only_xu
theorem houseC_only {M M' : Mem} {h aw al am ah r : Nat} {H : Ho} (hc : houseC M h aw al am ah H) (ho : only M M' r) (hr : r ≠ h ∧ r ≠ aw ∧ r ≠ al ∧ r ≠ am ∧ r ≠ ah) : houseC M' h aw al am ah H := by
  unfold houseC
  rw [ho h (Ne.symm hr.1), ho aw (Ne.symm hr.2.1), ho al (Ne.symm hr.2.2.1), ho am (Ne.symm hr.2.2.2.1), ho ah (Ne.symm hr.2.2.2.2)]
  exact hc
theorem houseR_only {M M' : Mem} {hr r : Nat} {H : Ho} (hc : houseR M hr H) (ho : only M M' r) (hn : r ≠ hr) : houseR M' hr H := by
  unfold houseR
  rw [ho hr (Ne.symm hn)]
  exact hc
/-- a loop that goes on to another state -/
theorem loop_to {σ τ : Type} {E : Nat → σ → Option xR} {F : τ → Option xR} (P : τ → Prop) (inv : Nat → σ → Prop) {n : Nat} (hx : ∀ s, inv n s → ∃ u, E n s = F u ∧ P u) (hs : ∀ i s, i < n → inv i s → (∃ u, E i s = F u ∧ P u) ∨ ∃ s', E i s = E (i + 1) s' ∧ inv (i + 1) s') : ∀ (k i : Nat) (s : σ), i + k = n → inv i s → ∃ u, E i s = F u ∧ P u
  | 0, i, s, hi, h => by
    have : i = n := by omega
    subst this
    exact hx s h
  | k + 1, i, s, hi, h => by
    rcases hs i s (by omega) h with h1 | ⟨s', h1, h2⟩
    · exact h1
    · rw [h1]
      exact loop_to P inv hx hs k (i + 1) s' (by omega) h2
/-- who mends, or is bared -/
def patchT (T : Sc) (a c : Nat) : Sc := (clr (sH T) c, upN (sK T) c (sO T a), sX T, sO T, upN (sP T) a (sP T a - 1), upN (sQ T) c (sQ T c + 1), sB T, sN T)
def bareT (T : Sc) (a : Nat) : Sc := (sH T, sK T, sX T, sO T, sP T, sQ T, upN (sB T) a (sB T a + 1), sN T)
def mendT (H : Ho) (a : Nat) (T : Sc) : Sc := if sP T a = 0 then bareT T a else match lowest H (sH T) (sX T a) with
  | none => T
  | some c => patchT T a c
def mend1 (H : Ho) (s : Nat) (a : Nat) (T : Sc) : Sc := if s.testBit a then mendT H a T else T
def nightT (H : Ho) (T : Sc) : Sc :=
  let T1 := it (mend1 H (shownS H T)) (hA H) 0 T
  (sH T1, sK T1, sX T1, sO T1, sP T1, sQ T1, sB T1, sN T1 + 1)
theorem lowest_lt {H : Ho} (ho : hoOk H) {hs x c : Nat} (hx : x < hW H) (h : lowest H hs x = some c) : c < hW H * hG H := by
  obtain ⟨g, hg, rfl, -⟩ := lowest_some h
  have : (g + 1) * hW H ≤ hG H * hW H := Nat.mul_le_mul_right _ hg
  rw [Nat.succ_mul] at this
  rw [Nat.mul_comm (hW H)]
  omega
theorem mendT_ok {H : Ho} {T : Sc} {a : Nat} (ho : hoOk H) (hT : scOk H T) (ha : a < hA H) : scOk H (mendT H a T) ∧ sX (mendT H a T) = sX T := by
  have hA5 := ho.2.2.1
  unfold mendT
  split
  · exact ⟨⟨hT.1, hT.2.1, hT.2.2.1, hT.2.2.2⟩, rfl⟩
  · split
    · exact ⟨hT, rfl⟩
    · rename_i hp _ c hl
      refine ⟨⟨clr_lt hT.1, fun c' hc' => ?_, fun a' ha' => ?_, hT.2.2.2⟩, rfl⟩
      · show upN (sK T) c (sO T a) c' < 5
        unfold upN
        split
        · exact (hT.2.2.1 a (by omega)).2.1
        · exact hT.2.1 c' hc'
      · have h1 := hT.2.2.1 a' ha'
        refine ⟨h1.1, h1.2.1, ?_⟩
        show upN (sP T) a (sP T a - 1) a' ≤ 9
        unfold upN
        split
        · have := (hT.2.2.1 a (by omega)).2.2
          omega
        · exact h1.2.2
section NIGHT
variable {sh : xSh} {t r h aw al am ah : Nat} {M : Mem} {J : Nat → Nat → Int64} {H : Ho} {T : Sc}
theorem sceneC_bare (SC : sceneC M r T) {a : Nat} (ha : a < 5) : sceneC (xu M r (57 + a) (M r (57 + a) + nI 1)) r (bareT T a) := by
  have hr : ∀ j, xu M r (57 + a) (M r (57 + a) + nI 1) r j = if j = 57 + a then M r (57 + a) + nI 1 else M r j := by intro j; rw [xu_eq]
  unfold sceneC
  simp only [hr]
  refine ⟨?_, ?_, fun c hc => ⟨?_, ?_⟩, fun a' ha' => ⟨?_, ?_, ?_, ?_⟩⟩
  · rw [if_neg (by omega)]; exact SC.1
  · rw [if_neg (by omega)]; exact SC.2.1
  · rw [if_neg (by omega)]; exact (SC.2.2.1 c hc).1
  · rw [if_neg (by omega)]; exact (SC.2.2.1 c hc).2
  · rw [if_neg (by omega)]; exact (SC.2.2.2 a' ha').1
  · rw [if_neg (by omega)]; exact (SC.2.2.2 a' ha').2.1
  · rw [if_neg (by omega)]; exact (SC.2.2.2 a' ha').2.2.1
  · show _ = upN (sB T) a (sB T a + 1) a'
    unfold upN
    by_cases q : a' = a
    · subst q
      rw [if_pos rfl, if_pos rfl, (SC.2.2.2 a' ha').2.2.2]; rfl
    · rw [if_neg (by omega), if_neg q]; exact (SC.2.2.2 a' ha').2.2.2
theorem sceneC_patch (SC : sceneC M r T) {a c : Nat} (ha : a < 5) (hc : c < 20) (hs31 : sH T < 2 ^ 31) (hp : 1 ≤ sP T a) :
    sceneC (xu (xu (xu (xu M r 0 (M r 0 &&& (nI (2 ^ c) ^^^ (-1)))) r (2 + c) (M r (47 + a))) r (22 + c) (M r (22 + c) + nI 1)) r (52 + a) (M r (52 + a) - nI 1)) r (patchT T a c) := by
  have hr : ∀ j, xu (xu (xu (xu M r 0 (M r 0 &&& (nI (2 ^ c) ^^^ (-1)))) r (2 + c) (M r (47 + a))) r (22 + c) (M r (22 + c) + nI 1)) r (52 + a) (M r (52 + a) - nI 1) r j = if j = 52 + a then M r (52 + a) - nI 1 else if j = 22 + c then M r (22 + c) + nI 1 else if j = 2 + c then M r (47 + a) else if j = 0 then M r 0 &&& (nI (2 ^ c) ^^^ (-1)) else M r j := by intro j; simp only [xu_eq]
  unfold sceneC
  simp only [hr]
  refine ⟨?_, ?_, fun c' hc' => ⟨?_, ?_⟩, fun a' ha' => ⟨?_, ?_, ?_, ?_⟩⟩
  · rw [if_neg (by omega), if_neg (by omega), if_neg (by omega), if_pos trivial, SC.1, nI_clr hs31 (by omega)]; rfl
  · rw [if_neg (by omega), if_neg (by omega), if_neg (by omega), if_neg (by omega)]; exact SC.2.1
  · rw [if_neg (by omega), if_neg (by omega)]
    show _ = nI (upN (sK T) c (sO T a) c')
    unfold upN
    by_cases q : c' = c
    · subst q
      rw [if_pos rfl, if_pos rfl]; exact (SC.2.2.2 a ha).2.1
    · rw [if_neg (by omega), if_neg (by omega), if_neg q]; exact (SC.2.2.1 c' hc').1
  · rw [if_neg (by omega)]
    show _ = upN (sQ T) c (sQ T c + 1) c'
    unfold upN
    by_cases q : c' = c
    · subst q
      rw [if_pos rfl, if_pos rfl, (SC.2.2.1 c' hc').2]; rfl
    · rw [if_neg (by omega), if_neg (by omega), if_neg (by omega), if_neg q]; exact (SC.2.2.1 c' hc').2
  · rw [if_neg (by omega), if_neg (by omega), if_neg (by omega), if_neg (by omega)]; exact (SC.2.2.2 a' ha').1
  · rw [if_neg (by omega), if_neg (by omega), if_neg (by omega), if_neg (by omega)]; exact (SC.2.2.2 a' ha').2.1
  · show _ = nI (upN (sP T) a (sP T a - 1) a')
    unfold upN
    by_cases q : a' = a
    · subst q
      rw [if_pos rfl, if_pos rfl, (SC.2.2.2 a' ha').2.2.1, pk_sub hp]
    · rw [if_neg (by omega), if_neg (by omega), if_neg (by omega), if_neg (by omega), if_neg q]; exact (SC.2.2.2 a' ha').2.2.1
  · rw [if_neg (by omega), if_neg (by omega), if_neg (by omega), if_neg (by omega)]; exact (SC.2.2.2 a' ha').2.2.2
theorem neg1_ne {c : Nat} (hc : c < 2 ^ 31) : ¬ nI c = -1 := by
  intro h
  have := congrArg Int32.toInt h
  rw [nI_toInt hc] at this
  have e : (-1 : Int32).toInt = -1 := by decide
  rw [e] at this
  omega
theorem c_patch (hS : isScene sh t r) {c : Nat} {k : Int32} (hc : c < 20) : ev (83, 0, [.ref t, .int (nI c), .int k], [], (sh, M, J)) = some (none, (sh, xu (xu (xu M r 0 (M r 0 &&& (nI (2 ^ c) ^^^ (-1)))) r (2 + c) k) r (22 + c) (M r (22 + c) + nI 1), J)) := by
  obtain ⟨h1, h2, h3⟩ := hS
  have hpw : (nI 1 : Int32) <<< (nI c &&& nI 31) = nI (2 ^ c) := nI_shl1 (by omega)
  have e1 : 22 + c ≠ 2 + c := by omega
  have e2 : 22 + c ≠ 0 := by omega
  simp (disch := omega) only [b_Scene_patch_0, h1, h2, h3, hpw, xu_off e1, xu_off e2, li_0, li_1, li_2, li_3, li_4, li_5, li_6, li_8, li_9, li_10, li_12, li_15, li_16, li_19, li_20, li_21, li_22, li_25, li_30, li_31, li_32, li_35, li_40, li_41, li_42, li_46, li_47, li_48, li_50, li_51, li_52, li_56, li_57, li_59, li_60, li_61, li_62, li_63, li_99, li_100, li_107, li_124, li_126, li_240, li_255, li_256, li_1000, li_1178, li_1240, li_9000, li_65536, li_1000000, nI_add, pk_mul, nI_ltI, nI_leI, nI_eq, xin_nI, nI_clamp, decide_true, decide_false, Bool.and_true, Bool.true_and, Bool.and_false, Bool.false_and, Bool.not_true, Bool.not_false, cond_true, cond_false, Option.bind_some, Option.toList_some, Option.toList_none, List.cons_append, List.nil_append, List.append_nil, Nat.not_lt_zero, Nat.zero_le, Nat.le_refl, Nat.lt_irrefl, Nat.reduceLT, Nat.reduceLeDiff, Nat.reduceEqDiff, Nat.reduceAdd, Nat.reduceMul, Bool.toNat_true, Bool.toNat_false, Nat.add_zero, Nat.zero_add, Nat.succ_ne_zero, Nat.one_ne_zero, decide_eq_true, decide_eq_false]
theorem c_mendOrBare (hH : isHouse sh h aw al am ah) (hS : isScene sh t r) (HC : houseC M h aw al am ah H) (SC : sceneC M r T) (ho : hoOk H) (hT : scOk H T) {a : Nat} (ha : a < hA H) : ∃ M', ev (82, 0, [.ref t, .ref h, .int (nI a), .null], [], (sh, M, J)) = some (none, (sh, M', J)) ∧ sceneC M' r (mendT H a T) ∧ only M M' r := by
  have hs31 := scH_lt ho hT
  have k1 := hH.1
  have k2 := hS.1
  have k3 := hS.2.1
  have k4 := hS.2.2
  have hA5 := ho.2.2.1
  have ha5 : a < 5 := by omega
  have hx := hT.2.2.2 a ha
  have hp9 := (hT.2.2.1 a ha5).2.2
  have hx5 := (hT.2.2.1 a ha5).1
  obtain ⟨ex, eo, ep, eb⟩ := SC.2.2.2 a ha5
  rw [b_Scene_mendOrBare_0]
  by_cases hp : sP T a = 0
  · have e9 : mendT H a T = bareT T a := by unfold mendT; rw [if_pos hp]
    rw [e9]
    refine ⟨_, ?_, sceneC_bare SC ha5, only_xu⟩
    · simp (disch := omega) only [k1, k2, k3, k4, c_piecesOf hS, ep, hp, b_Scene_mendOrBare_15, li_0, li_1, li_2, li_3, li_4, li_5, li_6, li_8, li_9, li_10, li_12, li_15, li_16, li_19, li_20, li_21, li_22, li_25, li_30, li_31, li_32, li_35, li_40, li_41, li_42, li_46, li_47, li_48, li_50, li_51, li_52, li_56, li_57, li_59, li_60, li_61, li_62, li_63, li_99, li_100, li_107, li_124, li_126, li_240, li_255, li_256, li_1000, li_1178, li_1240, li_9000, li_65536, li_1000000, nI_add, pk_mul, nI_ltI, nI_leI, nI_eq, xin_nI, nI_clamp, decide_true, decide_false, Bool.and_true, Bool.true_and, Bool.and_false, Bool.false_and, Bool.not_true, Bool.not_false, cond_true, cond_false, Option.bind_some, Option.toList_some, Option.toList_none, List.cons_append, List.nil_append, List.append_nil, Nat.not_lt_zero, Nat.zero_le, Nat.le_refl, Nat.lt_irrefl, Nat.reduceLT, Nat.reduceLeDiff, Nat.reduceEqDiff, Nat.reduceAdd, Nat.reduceMul, Bool.toNat_true, Bool.toNat_false, Nat.add_zero, Nat.zero_add, Nat.succ_ne_zero, Nat.one_ne_zero, decide_eq_true, decide_eq_false]
  · have hp1 : 1 ≤ sP T a := by omega
    cases hl : lowest H (sH T) (sX T a) with
    | none =>
      refine ⟨M, ?_, ?_, only_rf⟩
      · have hlow := fun {J : Nat → Nat → Int64} => c_lowestHole (J := J) hH hS HC ho SC.1 hs31 (x := sX T a) hx5
        rw [hl] at hlow
        simp (disch := omega) only [k1, k2, k3, k4, c_piecesOf hS, ep, b_Scene_mendOrBare_15, c_columnOf hS, ex, b_Scene_mendOrBare_40, hlow, b_Scene_mendOrBare_43, optI, li_0, li_1, li_2, li_3, li_4, li_5, li_6, li_8, li_9, li_10, li_12, li_15, li_16, li_19, li_20, li_21, li_22, li_25, li_30, li_31, li_32, li_35, li_40, li_41, li_42, li_46, li_47, li_48, li_50, li_51, li_52, li_56, li_57, li_59, li_60, li_61, li_62, li_63, li_99, li_100, li_107, li_124, li_126, li_240, li_255, li_256, li_1000, li_1178, li_1240, li_9000, li_65536, li_1000000, nI_add, pk_mul, nI_ltI, nI_leI, nI_eq, xin_nI, nI_clamp, decide_true, decide_false, Bool.and_true, Bool.true_and, Bool.and_false, Bool.false_and, Bool.not_true, Bool.not_false, cond_true, cond_false, Option.bind_some, Option.toList_some, Option.toList_none, List.cons_append, List.nil_append, List.append_nil, Nat.not_lt_zero, Nat.zero_le, Nat.le_refl, Nat.lt_irrefl, Nat.reduceLT, Nat.reduceLeDiff, Nat.reduceEqDiff, Nat.reduceAdd, Nat.reduceMul, Bool.toNat_true, Bool.toNat_false, Nat.add_zero, Nat.zero_add, Nat.succ_ne_zero, Nat.one_ne_zero, decide_eq_true, decide_eq_false]
      · unfold mendT
        rw [if_neg hp, hl]
        exact SC
    | some c =>
      have hc := lowest_lt ho hx hl
      have hn := hcells ho
      have hc20 : c < 20 := by omega
      have hne : ¬ nI c = -nI 1 := neg1_ne (c := c) (by omega)
      refine ⟨xu (xu (xu (xu M r 0 (M r 0 &&& (nI (2 ^ c) ^^^ (-1)))) r (2 + c) (M r (47 + a))) r (22 + c) (M r (22 + c) + nI 1)) r (52 + a) (M r (52 + a) - nI 1), ?_, ?_, ?_⟩
      · have hlow := fun {J : Nat → Nat → Int64} => c_lowestHole (J := J) hH hS HC ho SC.1 hs31 (x := sX T a) hx5
        rw [hl] at hlow
        have e1 : 52 + a ≠ 22 + c := by omega
        have e2 : 52 + a ≠ 2 + c := by omega
        have e3 : 52 + a ≠ 0 := by omega
        simp (disch := omega) only [k1, k2, k3, k4, c_piecesOf hS, ep, b_Scene_mendOrBare_15, c_columnOf hS, ex, b_Scene_mendOrBare_40, hlow, b_Scene_mendOrBare_43, optI, hne, c_wornBy hS, b_Scene_mendOrBare_56, c_patch hS, b_Scene_mendOrBare_59, xu_off e1, xu_off e2, xu_off e3, li_0, li_1, li_2, li_3, li_4, li_5, li_6, li_8, li_9, li_10, li_12, li_15, li_16, li_19, li_20, li_21, li_22, li_25, li_30, li_31, li_32, li_35, li_40, li_41, li_42, li_46, li_47, li_48, li_50, li_51, li_52, li_56, li_57, li_59, li_60, li_61, li_62, li_63, li_99, li_100, li_107, li_124, li_126, li_240, li_255, li_256, li_1000, li_1178, li_1240, li_9000, li_65536, li_1000000, nI_add, pk_mul, nI_ltI, nI_leI, nI_eq, xin_nI, nI_clamp, decide_true, decide_false, Bool.and_true, Bool.true_and, Bool.and_false, Bool.false_and, Bool.not_true, Bool.not_false, cond_true, cond_false, Option.bind_some, Option.toList_some, Option.toList_none, List.cons_append, List.nil_append, List.append_nil, Nat.not_lt_zero, Nat.zero_le, Nat.le_refl, Nat.lt_irrefl, Nat.reduceLT, Nat.reduceLeDiff, Nat.reduceEqDiff, Nat.reduceAdd, Nat.reduceMul, Bool.toNat_true, Bool.toNat_false, Nat.add_zero, Nat.zero_add, Nat.succ_ne_zero, Nat.one_ne_zero, decide_eq_true, decide_eq_false]
      · have := sceneC_patch SC ha5 hc20 hs31 hp1
        unfold mendT
        rw [if_neg hp, hl]
        exact this
      · exact only_xu' (only_xu' (only_xu' only_xu))
theorem mend1_ok {s a : Nat} (ho : hoOk H) (hT : scOk H T) (ha : a < hA H) : scOk H (mend1 H s a T) := by
  unfold mend1
  split
  · exact (mendT_ok ho hT ha).1
  · exact hT
theorem shownS_5 (ho : hoOk H) (T : Sc) : shownS H T < 2 ^ 5 := shownS_lt H T ho.2.2.1 (hA H) 0 ho.2.2.1 (by decide)
theorem sceneC_night (SC : sceneC M r T) : sceneC (xu M r 1 (M r 1 + nI 1)) r (sH T, sK T, sX T, sO T, sP T, sQ T, sB T, sN T + 1) := by
  have hr : ∀ j, xu M r 1 (M r 1 + nI 1) r j = if j = 1 then M r 1 + nI 1 else M r j := by intro j; rw [xu_eq]
  unfold sceneC
  simp only [hr]
  refine ⟨?_, ?_, fun c hc => ⟨?_, ?_⟩, fun a' ha' => ⟨?_, ?_, ?_, ?_⟩⟩
  · rw [if_neg (by omega)]; exact SC.1
  · rw [if_pos trivial, SC.2.1]; rfl
  · rw [if_neg (by omega)]; exact (SC.2.2.1 c hc).1
  · rw [if_neg (by omega)]; exact (SC.2.2.1 c hc).2
  · rw [if_neg (by omega)]; exact (SC.2.2.2 a' ha').1
  · rw [if_neg (by omega)]; exact (SC.2.2.2 a' ha').2.1
  · rw [if_neg (by omega)]; exact (SC.2.2.2 a' ha').2.2.1
  · rw [if_neg (by omega)]; exact (SC.2.2.2 a' ha').2.2.2
theorem c_playNight (hH : isHouse sh h aw al am ah) (hS : isScene sh t r) (HC : houseC M h aw al am ah H) (SC : sceneC M r T) (ho : hoOk H) (hT : scOk H T) (hr : r ≠ h ∧ r ≠ aw ∧ r ≠ al ∧ r ≠ am ∧ r ≠ ah) : ∃ M', ev (78, 0, [.ref t, .ref h, .null, .null], [], (sh, M, J)) = some (some (.int (nI (shownS H T))), (sh, M', J)) ∧ sceneC M' r (nightT H T) ∧ only M M' r ∧ scOk H (nightT H T) := by
  have k1 := hH.1
  have k2 := hS.1
  have k3 := hS.2.1
  have k4 := hS.2.2
  have hA5 := ho.2.2.1
  have h5 := shownS_5 ho T
  have hsn := fun {J : Nat → Nat → Int64} => c_shownNow (J := J) hH hS HC SC ho hT
  rw [b_Scene_playNight_0]
  simp (disch := omega) only [k1, k2, hsn, b_Scene_playNight_5, li_0, li_1, li_2, li_3, li_4, li_5, li_6, li_8, li_9, li_10, li_12, li_15, li_16, li_19, li_20, li_21, li_22, li_25, li_30, li_31, li_32, li_35, li_40, li_41, li_42, li_46, li_47, li_48, li_50, li_51, li_52, li_56, li_57, li_59, li_60, li_61, li_62, li_63, li_99, li_100, li_107, li_124, li_126, li_240, li_255, li_256, li_1000, li_1178, li_1240, li_9000, li_65536, li_1000000, nI_add, pk_mul, nI_ltI, nI_leI, nI_eq, xin_nI, nI_clamp, decide_true, decide_false, Bool.and_true, Bool.true_and, Bool.and_false, Bool.false_and, Bool.not_true, Bool.not_false, cond_true, cond_false, Option.bind_some, Option.toList_some, Option.toList_none, List.cons_append, List.nil_append, List.append_nil, Nat.not_lt_zero, Nat.zero_le, Nat.le_refl, Nat.lt_irrefl, Nat.reduceLT, Nat.reduceLeDiff, Nat.reduceEqDiff, Nat.reduceAdd, Nat.reduceMul, Bool.toNat_true, Bool.toNat_false, Nat.add_zero, Nat.zero_add, Nat.succ_ne_zero, Nat.one_ne_zero, decide_eq_true, decide_eq_false]
  generalize hs : shownS H T = s at *
  have key := loop_to (E := fun a (q : Mem × Sc) => ev (78, 8, [.ref t, .ref h, .int (nI s), .int (nI a)], [], (sh, q.1, J))) (F := fun M' : Mem => some (some (.int (nI s)), (sh, M', J))) (fun M' => sceneC M' r (nightT H T) ∧ only M M' r ∧ scOk H (nightT H T)) (fun a q => sceneC q.1 r q.2 ∧ scOk H q.2 ∧ only M q.1 r ∧ q.2 = it (mend1 H s) a 0 T) (n := hA H) ?_ ?_ (hA H) 0 (M, T) (by omega) ⟨SC, hT, only_rf, rfl⟩
  · exact key
  · intro q hq
    obtain ⟨q1, q2, q3, q4⟩ := hq
    have w3 := (houseC_only HC q3 hr).2.2.1
    have e9 : nightT H T = (sH q.2, sK q.2, sX q.2, sO q.2, sP q.2, sQ q.2, sB q.2, sN q.2 + 1) := by
      unfold nightT
      rw [hs, ← q4]
    refine ⟨xu q.1 r 1 (q.1 r 1 + nI 1), ?_, ?_, only_xu' q3, ?_⟩
    · rw [b_Scene_playNight_8]
      simp (disch := omega) only [k1, k2, k3, k4, w3, li_0, li_1, li_2, li_3, li_4, li_5, li_6, li_8, li_9, li_10, li_12, li_15, li_16, li_19, li_20, li_21, li_22, li_25, li_30, li_31, li_32, li_35, li_40, li_41, li_42, li_46, li_47, li_48, li_50, li_51, li_52, li_56, li_57, li_59, li_60, li_61, li_62, li_63, li_99, li_100, li_107, li_124, li_126, li_240, li_255, li_256, li_1000, li_1178, li_1240, li_9000, li_65536, li_1000000, nI_add, pk_mul, nI_ltI, nI_leI, nI_eq, xin_nI, nI_clamp, decide_true, decide_false, Bool.and_true, Bool.true_and, Bool.and_false, Bool.false_and, Bool.not_true, Bool.not_false, cond_true, cond_false, Option.bind_some, Option.toList_some, Option.toList_none, List.cons_append, List.nil_append, List.append_nil, Nat.not_lt_zero, Nat.zero_le, Nat.le_refl, Nat.lt_irrefl, Nat.reduceLT, Nat.reduceLeDiff, Nat.reduceEqDiff, Nat.reduceAdd, Nat.reduceMul, Bool.toNat_true, Bool.toNat_false, Nat.add_zero, Nat.zero_add, Nat.succ_ne_zero, Nat.one_ne_zero, decide_eq_true, decide_eq_false]
    · rw [e9]; exact sceneC_night q1
    · rw [e9]; exact q2
  · intro a q ha hq
    obtain ⟨q1, q2, q3, q4⟩ := hq
    right
    have w3 := (houseC_only HC q3 hr).2.2.1
    have e4 : ¬ hA H ≤ a := by omega
    have e5 : mend1 H s a q.2 = it (mend1 H s) (a + 1) 0 T := by rw [it_succ, Nat.zero_add, ← q4]
    cases hb : s.testBit a with
    | false =>
      refine ⟨q, ?_, q1, q2, q3, ?_⟩
      · rw [b_Scene_playNight_8]
        simp (disch := omega) only [k1, k2, w3, e4, c_hasBit, hb, b_Scene_playNight_21, li_0, li_1, li_2, li_3, li_4, li_5, li_6, li_8, li_9, li_10, li_12, li_15, li_16, li_19, li_20, li_21, li_22, li_25, li_30, li_31, li_32, li_35, li_40, li_41, li_42, li_46, li_47, li_48, li_50, li_51, li_52, li_56, li_57, li_59, li_60, li_61, li_62, li_63, li_99, li_100, li_107, li_124, li_126, li_240, li_255, li_256, li_1000, li_1178, li_1240, li_9000, li_65536, li_1000000, nI_add, pk_mul, nI_ltI, nI_leI, nI_eq, xin_nI, nI_clamp, decide_true, decide_false, Bool.and_true, Bool.true_and, Bool.and_false, Bool.false_and, Bool.not_true, Bool.not_false, cond_true, cond_false, Option.bind_some, Option.toList_some, Option.toList_none, List.cons_append, List.nil_append, List.append_nil, Nat.not_lt_zero, Nat.zero_le, Nat.le_refl, Nat.lt_irrefl, Nat.reduceLT, Nat.reduceLeDiff, Nat.reduceEqDiff, Nat.reduceAdd, Nat.reduceMul, Bool.toNat_true, Bool.toNat_false, Nat.add_zero, Nat.zero_add, Nat.succ_ne_zero, Nat.one_ne_zero, decide_eq_true, decide_eq_false]
      · rw [← e5]; unfold mend1; rw [hb]; rfl
    | true =>
      obtain ⟨M2, m1, m2, m3⟩ := c_mendOrBare (J := J) hH hS (houseC_only HC q3 hr) q1 ho q2 ha
      refine ⟨(M2, mendT H a q.2), ?_, m2, (mendT_ok ho q2 ha).1, only_tr q3 m3, ?_⟩
      · rw [b_Scene_playNight_8]
        simp (disch := omega) only [k1, k2, w3, e4, c_hasBit, hb, b_Scene_playNight_21, m1, b_Scene_playNight_30, li_0, li_1, li_2, li_3, li_4, li_5, li_6, li_8, li_9, li_10, li_12, li_15, li_16, li_19, li_20, li_21, li_22, li_25, li_30, li_31, li_32, li_35, li_40, li_41, li_42, li_46, li_47, li_48, li_50, li_51, li_52, li_56, li_57, li_59, li_60, li_61, li_62, li_63, li_99, li_100, li_107, li_124, li_126, li_240, li_255, li_256, li_1000, li_1178, li_1240, li_9000, li_65536, li_1000000, nI_add, pk_mul, nI_ltI, nI_leI, nI_eq, xin_nI, nI_clamp, decide_true, decide_false, Bool.and_true, Bool.true_and, Bool.and_false, Bool.false_and, Bool.not_true, Bool.not_false, cond_true, cond_false, Option.bind_some, Option.toList_some, Option.toList_none, List.cons_append, List.nil_append, List.append_nil, Nat.not_lt_zero, Nat.zero_le, Nat.le_refl, Nat.lt_irrefl, Nat.reduceLT, Nat.reduceLeDiff, Nat.reduceEqDiff, Nat.reduceAdd, Nat.reduceMul, Bool.toNat_true, Bool.toNat_false, Nat.add_zero, Nat.zero_add, Nat.succ_ne_zero, Nat.one_ne_zero, decide_eq_true, decide_eq_false]
      · rw [← e5]; unfold mend1; rw [hb]; rfl
end NIGHT
