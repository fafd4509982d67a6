/-! ===== one step of the machine for one step of the code ===== -/
def xnest (w : Cond) : Bool := match w with
  | .methodLinkNest _ _ _ _ => true
  | _ => false
def xgw : List Cond := lw_tbl.filter goodWord
def xnw : List Cond := lw_tbl.filter xnest
/-- what stands fast in a method's run -/
def xCx (p : Program) (R : Room) (S : State) (m : MethodId) (args : Array Value) (meth : Method) (c : Code) (D : va_G) (cI cZ : ClassId) (row : xMi) : Prop :=
  p.tables.exec = Jvm.exec ∧ c.code = row.2.1 ∧ meth.sig.returnType = row.2.2.2.1 ∧ c.maxLocals = row.2.2.1 ∧ S.vm.findClass row.1.cls = some m.cls ∧ (∀ w ∈ xgw, w.before args S = true) ∧ (∀ w ∈ xnw, va_Nw w S) ∧ meth.locks = false ∧ (row.1.name = "<init>" → meth.name = "<init>") ∧ va_K D xCl [(cI, .int), (cZ, .boolean)] S ∧ row.2.2.2.2.1 ≤ R.frames ∧ row.2.2.2.2.2.1 ≤ R.locals
section ONE
variable {p : Program} {l : Launch} {e : Env} {R : Room} {S : State} {m : MethodId} {args : Array Value} {below : List Frame} {meth : Method} {c : Code} {Q : State → Prop} {D : va_G} {cI cZ : ClassId} {z b n0 s0 : Nat} {row : xMi}
/-- the machine, at a state of the code -/
def xWt (p : Program) (l : Launch) (e : Env) (R : Room) (S : State) (m : MethodId) (args : Array Value) (below : List Frame) (meth : Method) (c : Code) (Q : State → Prop) (D : va_G) (cI cZ : ClassId) (z b n0 s0 : Nat) (row : xMi) (s : xSt) : Prop :=
  ∀ (H : Heap) (locs : List Loc) (la : Array Slot), xHR D cI cZ z b S s.2.2.2.2 H → va_S (xA z) S.heap H locs → xLs z b row.2.2.1 s.2.2.1 la → W p l e R S m args below meth c H locs (s.2.2.2.2.1.1 - n0) (s.2.2.2.2.1.2.1 - s0) Q (F0 m s.2.1 la (s.2.2.2.1.map (xtr z b)))
/-- a step leads on -/
def xOn (T : xSt → Prop) (q : Bool × xSt × Option xSt) : Prop := (q.1 = true → T q.2.1) ∧ (q.1 = false → ∃ s2, q.2.2 = some s2 ∧ T s2)
def xck1 (row : xMi) (ins : Instr) (v : Value) (pl : Nat) : Bool := match ins with
  | .istore_n k => decide (k.val < row.2.2.1)
  | .istore k => decide (k < row.2.2.1)
  | .lstore_n k => decide (k.val + 1 < row.2.2.1)
  | .astore_n k => decide (k.val < row.2.2.1)
  | .iinc k _ => decide (k < row.2.2.1)
  | .iconst n => decide (v = .int (Int32.ofInt n))
  | .bipush n => decide (v = .int (Int8.ofInt n).toInt32)
  | .sipush n => decide (v = .int (Int16.ofInt n).toInt32)
  | .lconst n => decide (v = .long (Int64.ofNat n.val))
  | .ldc i => match v with
    | .int k => decide (lw_tbl[pl]? = some (.constant row.1.cls i k))
    | _ => false
  | .ldc_w i => match v with
    | .int k => decide (lw_tbl[pl]? = some (.constant row.1.cls i k))
    | _ => false
  | .ldc2_w i => match v with
    | .long k => decide (lw_tbl[pl]? = some (.constantLong row.1.cls i k))
    | _ => false
  | _ => true
def xln (ins : Instr) (len : Nat) : Prop := match ins with
  | .iload _ => len = 2 | .lload _ => len = 2 | .aload _ => len = 2 | .istore _ => len = 2 | .iinc _ _ => len = 3
  | .bipush _ => len = 2 | .sipush _ => len = 3 | .ldc _ => len = 2 | .ldc_w _ => len = 3 | .ldc2_w _ => len = 3
  | .goto _ => len = 3 | .ifCond _ _ => len = 3 | .if_icmp _ _ => len = 3
  | .getfield _ => len = 3 | .putfield _ => len = 3 | .new _ => len = 3 | .newarray _ => len = 2
  | .invokevirtual _ => len = 3 | .invokespecial _ => len = 3 | .invokestatic _ => len = 3
  | .tableswitch _ _ _ _ => True | .lookupswitch _ _ => True
  | _ => len = 1
theorem xgw_of {w : Cond} {pl : Nat} (h : lw_tbl[pl]? = some w) (hg : goodWord w = true) : w ∈ xgw := List.mem_filter.mpr ⟨List.mem_of_getElem? h, hg⟩
theorem xop1_ok (C : xCx p R S m args meth c D cI cZ row) {ins : Instr} {len pl mi pc : Nat} {v : Value} {ls st : List Value} {w : xW} {q : Bool × xSt × Option xSt} (hd : decode row.2.1 pc = .ok (ins, len)) (hln : xln ins len) (hck : xck1 row ins v pl = true) (h : xop1 ins v mi pc ls st w = some (.inl q))
    (hk : xOn (xWt p l e R S m args below meth c Q D cI cZ z b n0 s0 row) q) : xWt p l e R S m args below meth c Q D cI cZ z b n0 s0 row (mi, pc, ls, st, w) := by
  obtain ⟨hx, hb, hr, hml, hown, hts, hnw, hlk, hin, hK, hfr, hlo⟩ := C
  intro H locs la hH hS hL
  unfold xop1 at h
  split at h
  all_goals (try (cases h; done))
  all_goals (simp only [xln] at hln)
  all_goals (try subst hln)
  all_goals (simp only [xck1] at hck)
  case h_1 k =>
    split at h
    · rename_i a ha
      cases h
      exact lv_iload_n hx hb hd rfl (hL.2.2 _ _ ha (by simp)) (hk.1 rfl H locs la hH hS hL)
    · cases h
  case h_2 k =>
    split at h
    · rename_i a ha
      cases h
      exact lv_iload hx hb hd (hL.2.2 _ _ ha (by simp)) (hk.1 rfl H locs la hH hS hL)
    · cases h
  case h_3 k =>
    split at h
    · rename_i a ha
      cases h
      exact lv_lload_n hx hb hd rfl (hL.2.2 _ _ ha (by simp)) (hk.1 rfl H locs la hH hS hL)
    · cases h
  case h_4 k =>
    split at h
    · rename_i a ha
      cases h
      exact lv_lload hx hb hd (hL.2.2 _ _ ha (by simp)) (hk.1 rfl H locs la hH hS hL)
    · cases h
  case h_5 k =>
    split at h
    · rename_i a ha
      cases h
      have k1 := hk.1 rfl H locs la hH hS hL
      have e1 := hL.2.2 _ _ ha (by simp)
      by_cases h0 : a = 0
      · subst h0
        exact lv_aload_nN hx hb hd rfl e1 k1
      · rw [xtr_ref h0] at e1
        simp only [List.map_cons, xtr_ref h0] at k1
        exact lv_aload_n hx hb hd rfl e1 k1
    · rename_i a ha
      cases h
      exact lv_aload_n hx hb hd rfl (hL.2.2 _ _ ha (by simp)) (hk.1 rfl H locs la hH hS hL)
    · cases h
  case h_6 k =>
    split at h
    · rename_i a ha
      cases h
      have k1 := hk.1 rfl H locs la hH hS hL
      have e1 := hL.2.2 _ _ ha (by simp)
      by_cases h0 : a = 0
      · subst h0
        exact lv_aloadN hx hb hd e1 k1
      · rw [xtr_ref h0] at e1
        simp only [List.map_cons, xtr_ref h0] at k1
        exact lv_aload hx hb hd e1 k1
    · rename_i a ha
      cases h
      exact lv_aload hx hb hd (hL.2.2 _ _ ha (by simp)) (hk.1 rfl H locs la hH hS hL)
    · cases h
  case h_7 k =>
    split at h
    · cases h
      exact lv_istore_n hx hb hd rfl (xLs_has hL) (of_decide_eq_true hck) rfl (fun la' h' => hk.1 rfl H locs la' hH hS (xLs_st1 (v := .int _) hL rfl h'))
    · cases h
  case h_8 k =>
    split at h
    · cases h
      exact lv_istore hx hb hd (xLs_has hL) (of_decide_eq_true hck) rfl (fun la' h' => hk.1 rfl H locs la' hH hS (xLs_st1 (v := .int _) hL rfl h'))
    · cases h
  case h_9 k =>
    split at h
    · cases h
      exact lv_lstore_n hx hb hd rfl (xLs_has hL) (of_decide_eq_true hck) rfl (fun la' h' => hk.1 rfl H locs la' hH hS (xLs_st2 (v := .long _) hL rfl h'))
    · cases h
  case h_10 k =>
    split at h
    · rename_i a st'
      cases h
      by_cases h0 : a = 0
      · subst h0
        exact lv_astore_nN hx hb hd rfl (xLs_has hL) (of_decide_eq_true hck) rfl (fun la' h' => hk.1 rfl H locs la' hH hS (xLs_st1 (v := .ref 0) hL rfl h'))
      · simp only [List.map_cons, xtr_ref h0]
        refine lv_astore_n hx hb hd rfl (xLs_has hL) (of_decide_eq_true hck) rfl (fun la' h' => hk.1 rfl H locs la' hH hS (xLs_st1 (v := .ref a) hL (by rw [xtr_ref h0]) h'))
    · cases h
  case h_11 i n =>
    split at h
    · rename_i a ha
      cases h
      obtain ⟨k0, hk0⟩ : ∃ k0 : Nat, (((ls.zipIdx.filter (fun q => !decide (q.1 = .null))).map (fun q => (q.2, xtr z b q.1))))[k0]? = some (i, .int a) := by
        refine List.getElem?_of_mem ?_
        exact List.mem_map.mpr ⟨(.int a, i), List.mem_filter.mpr ⟨List.mem_zipIdx_iff_getElem?.mpr ha, by simp⟩, rfl⟩
      exact lv_iinc hx hb hd (xLs_has hL) hk0 rfl (of_decide_eq_true hck) rfl (fun la' h' => hk.1 rfl H locs la' hH hS (xLs_st1 (v := .int _) hL rfl h'))
    · cases h
  case h_12 n =>
    cases h
    have hv := of_decide_eq_true hck
    subst hv
    exact lv_iconst hx hb hd rfl (hk.1 rfl H locs la hH hS hL)
  case h_13 n =>
    cases h
    have hv := of_decide_eq_true hck
    subst hv
    exact lv_bipush hx hb hd rfl (hk.1 rfl H locs la hH hS hL)
  case h_14 n =>
    cases h
    have hv := of_decide_eq_true hck
    subst hv
    exact lv_sipush hx hb hd rfl (hk.1 rfl H locs la hH hS hL)
  case h_15 n =>
    cases h
    have hv := of_decide_eq_true hck
    subst hv
    exact lv_lconst hx hb hd rfl (hk.1 rfl H locs la hH hS hL)
  case h_16 i =>
    cases h
    split at hck
    · exact lv_ldc hx hb hown (hts _ (xgw_of (of_decide_eq_true hck) rfl)) hd (hk.1 rfl H locs la hH hS hL)
    · cases hck
  case h_17 i =>
    cases h
    split at hck
    · exact lv_ldcw hx hb hown (hts _ (xgw_of (of_decide_eq_true hck) rfl)) hd (hk.1 rfl H locs la hH hS hL)
    · cases hck
  case h_18 i =>
    cases h
    split at hck
    · exact lv_ldc2 hx hb hown (hts _ (xgw_of (of_decide_eq_true hck) rfl)) hd (hk.1 rfl H locs la hH hS hL)
    · cases hck
  case h_19 =>
    split at h
    · rename_i v st'
      cases h
      by_cases h0 : v.category = 1
      · exact lv_dup hx hb hd (by rw [xtr_cat]; exact h0) (hk.1 (by simp [h0]) H locs la hH hS hL)
      · obtain ⟨s2, h2, -⟩ := hk.2 (by simp [h0]); cases h2
    · cases h
  case h_20 =>
    split at h
    · rename_i v v2 st'
      cases h
      by_cases h0 : v.category = 1 ∧ v2.category = 1
      · exact lv_dup2_11 hx hb hd (by rw [xtr_cat]; exact h0.1) (by rw [xtr_cat]; exact h0.2) (hk.1 (by simp [h0]) H locs la hH hS hL)
      · obtain ⟨s2, h2, -⟩ := hk.2 (by
          cases h1 : (v.category == 1 && v2.category == 1) with
          | false => rfl
          | true => exact absurd (by simpa using h1) h0); cases h2
    · cases h
  case h_21 =>
    split at h
    · rename_i v st'
      cases h
      by_cases h0 : v.category = 1
      · exact lv_pop hx hb hd (by rw [xtr_cat]; exact h0) (hk.1 (by simp [h0]) H locs la hH hS hL)
      · obtain ⟨s2, h2, -⟩ := hk.2 (by simp [h0]); cases h2
    · cases h
theorem xop2_ok (C : xCx p R S m args meth c D cI cZ row) {ins : Instr} {len mi pc : Nat} {ls st : List Value} {w : xW} {q : Bool × xSt × Option xSt} (hd : decode row.2.1 pc = .ok (ins, len)) (hln : xln ins len) (h : xop2 ins mi pc ls st w = some (.inl q))
    (hk : xOn (xWt p l e R S m args below meth c Q D cI cZ z b n0 s0 row) q) : xWt p l e R S m args below meth c Q D cI cZ z b n0 s0 row (mi, pc, ls, st, w) := by
  obtain ⟨hx, hb, hr, hml, hown, hts, hnw, hlk, hin, hK, hfr, hlo⟩ := C
  intro H locs la hH hS hL
  unfold xop2 at h
  split at h
  all_goals (try (cases h; done))
  all_goals (simp only [xln] at hln)
  all_goals (subst hln)
  case h_1 =>
    split at h
    · cases h; exact lv_iadd hx hb hd (hk.1 rfl H locs la hH hS hL)
    · cases h
  case h_2 =>
    split at h
    · cases h; exact lv_isub hx hb hd (hk.1 rfl H locs la hH hS hL)
    · cases h
  case h_3 =>
    split at h
    · cases h; exact lv_imul hx hb hd (hk.1 rfl H locs la hH hS hL)
    · cases h
  case h_4 =>
    split at h
    · rename_i y x st'
      cases h
      by_cases h0 : y = 0
      · obtain ⟨s2, h2, -⟩ := hk.2 (by simp [h0]); cases h2
      · exact lv_idiv hx hb hd h0 (hk.1 (by simp [h0]) H locs la hH hS hL)
    · cases h
  case h_5 =>
    split at h
    · rename_i y x st'
      cases h
      by_cases h0 : y = 0
      · obtain ⟨s2, h2, -⟩ := hk.2 (by simp [h0]); cases h2
      · exact lv_irem hx hb hd h0 (hk.1 (by simp [h0]) H locs la hH hS hL)
    · cases h
  case h_6 =>
    split at h
    · cases h; exact lv_ineg hx hb hd (hk.1 rfl H locs la hH hS hL)
    · cases h
  case h_7 =>
    split at h
    · cases h; exact lv_iand hx hb hd (hk.1 rfl H locs la hH hS hL)
    · cases h
  case h_8 =>
    split at h
    · cases h; exact lv_ior hx hb hd (hk.1 rfl H locs la hH hS hL)
    · cases h
  case h_9 =>
    split at h
    · cases h; exact lv_ixor hx hb hd (hk.1 rfl H locs la hH hS hL)
    · cases h
  case h_10 =>
    split at h
    · cases h; exact lv_ishl hx hb hd (hk.1 rfl H locs la hH hS hL)
    · cases h
  case h_11 =>
    split at h
    · cases h; exact lv_ishr hx hb hd (hk.1 rfl H locs la hH hS hL)
    · cases h
  case h_12 =>
    split at h
    · cases h; exact lv_iushr hx hb hd rfl (hk.1 rfl H locs la hH hS hL)
    · cases h
  case h_13 =>
    split at h
    · cases h; exact lv_i2l hx hb hd rfl (hk.1 rfl H locs la hH hS hL)
    · cases h
  case h_14 =>
    split at h
    · cases h; exact lv_l2i hx hb hd rfl (hk.1 rfl H locs la hH hS hL)
    · cases h
  case h_15 =>
    split at h
    · cases h; exact lv_ladd hx hb hd (hk.1 rfl H locs la hH hS hL)
    · cases h
  case h_16 =>
    split at h
    · cases h; exact lv_lmul hx hb hd (hk.1 rfl H locs la hH hS hL)
    · cases h
  case h_17 =>
    split at h
    · rename_i y x st'
      cases h
      by_cases h0 : y = 0
      · obtain ⟨s2, h2, -⟩ := hk.2 (by simp [h0]); cases h2
      · exact lv_ldiv hx hb hd h0 (hk.1 (by simp [h0]) H locs la hH hS hL)
    · cases h
  case h_18 =>
    split at h
    · rename_i y x st'
      cases h
      by_cases h0 : y = 0
      · obtain ⟨s2, h2, -⟩ := hk.2 (by simp [h0]); cases h2
      · exact lv_lrem hx hb hd h0 (hk.1 (by simp [h0]) H locs la hH hS hL)
    · cases h
  case h_19 =>
    split at h
    · cases h; exact lv_land hx hb hd (hk.1 rfl H locs la hH hS hL)
    · cases h
  case h_20 =>
    split at h
    · cases h; exact W.lcmp hx hb hd (hk.1 rfl H locs la hH hS hL)
    · cases h
end ONE
