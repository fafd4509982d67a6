section FIVE
variable {p : Program} {l : Launch} {e : Env} {R : Room} {S : State} {m : MethodId} {args : Array Value} {below : List Frame} {meth : Method} {c : Code} {Q : State → Prop} {D : va_G} {cI cZ : ClassId} {z b n0 s0 : Nat} {row : xMi}
theorem xHR_size {w : xW} {H : Heap} (hH : xHR D cI cZ z b S w H) (hn0 : S.heap.size = z + n0) (hn1 : 1 ≤ n0) (hnw : n0 ≤ w.1.1) (hsz : S.heap.size ≤ H.size) : z + w.1.1 ≤ H.size := by
  rcases Nat.eq_or_lt_of_le hnw with h | h
  · omega
  · have h1 := hH.1
    by_cases h2 : w.1.1 = 1
    · omega
    · have e1 := xws_get (cI := cI) (cZ := cZ) (z := z) (w := w) (a := w.1.1 - 1) (by omega) (by omega)
      have := (hH.2.2.2.2.1 _ _ e1).lt
      dsimp only at this
      omega
/-- behind a call -/
theorem xback {mi pc : Nat} {ls rest : List Value} {w : xW} {r : xR} {H : Heap} {locs : List Loc} {la : Array Slot} {st0 : List Value} {a : Array Value} (hnw : n0 ≤ w.1.1) (hsw : s0 ≤ w.1.2.1) (hw1 : w.1.1 ≤ r.2.1.1) (hw2 : w.1.2.1 ≤ r.2.1.2.1) (hS : va_S (xA z) S.heap H locs) (hL : xLs z b row.2.2.1 ls la)
    (hr : va_Run p l e R S m args below meth c H locs (w.1.1 - n0) (w.1.2.1 - s0) (r.2.1.1 - w.1.1) (r.2.1.2.1 - w.1.2.1) (F0 m pc la st0) (rest.map (xtr z b)) (xQc D cI cZ z b r a) (xA z))
    (hk : xWt p l e R S m args below meth c Q D cI cZ z b n0 s0 row (mi, pc + 3, ls, r.1.toList ++ rest, r.2)) : W p l e R S m args below meth c H locs (w.1.1 - n0) (w.1.2.1 - s0) Q (F0 m pc la st0) := by
  unfold xQc at hr
  obtain ⟨rv, w'⟩ := r
  cases rv with
  | none =>
    refine va_callv hr hS (fun q _ h => h) (fun q h => h) (fun u t H1 locs1 ht hvm _ hB _ _ hS1 => ?_)
    have k1 := hk H1 locs1 la (by subst ht; exact xHR_moved hvm.symm hB) hS1 hL
    have k2 : W p l e R S m args below meth c H1 locs1 (w'.1.1 - n0) (w'.1.2.1 - s0) Q (F0 m (pc + 3) la (rest.map (xtr z b))) := k1
    dsimp only at hw1 hw2 ⊢
    rw [show w.1.1 - n0 + (w'.1.1 - w.1.1) = w'.1.1 - n0 by omega, show w.1.2.1 - s0 + (w'.1.2.1 - w.1.2.1) = w'.1.2.1 - s0 by omega]
    exact k2
  | some v =>
    cases v with
    | int a =>
      refine va_calli hr hS (fun q _ h => h) (fun q h => h) (fun r2 u t H1 locs1 ht hvm hp hB _ _ hS1 => ?_)
      subst hp
      have k1 := hk H1 locs1 la (by subst ht; exact xHR_moved hvm.symm hB) hS1 hL
      have k2 : W p l e R S m args below meth c H1 locs1 (w'.1.1 - n0) (w'.1.2.1 - s0) Q (F0 m (pc + 3) la (.int r2 :: rest.map (xtr z b))) := k1
      dsimp only at hw1 hw2 ⊢
      rw [show w.1.1 - n0 + (w'.1.1 - w.1.1) = w'.1.1 - n0 by omega, show w.1.2.1 - s0 + (w'.1.2.1 - w.1.2.1) = w'.1.2.1 - s0 by omega]
      exact k2
    | _ =>
      intro T hT X
      obtain ⟨_, _, _, _, _, _, _, _, _, _, hF, _⟩ := hr T hT X
      exact hF.elim
theorem xsum_tr (rest : List Value) : ((rest.map (xtr z b)).map fun v => v.category).sum = (rest.map fun v => v.category).sum := by
  rw [List.map_map]
  congr 1
  apply List.map_congr_left
  intro v _
  exact xtr_cat z b v
theorem xop5_call (C : xCx p R S m args meth c D cI cZ row) (hn0 : S.heap.size = z + n0) (hn1 : 1 ≤ n0) {ins : Instr} {len pl mi pc x y zt u : Nat} {ls st : List Value} {w : xW} {s1 : xSt} {k : Nat × Nat × List Value × List Value} {r : xR} (hnw : n0 ≤ w.1.1) (hsw : s0 ≤ w.1.2.1) (hd : decode row.2.1 pc = .ok (ins, len)) (hln : xln ins len) (hck : xck5 row ins x y zt u pl = true) (h : xop5 ins x y zt u mi pc ls st w = some (.inr (.inr (.inl (true, s1, k)))))
    (hs : xSnd s1 r) (hroom : r.2.1.1 ≤ n0 + R.cells ∧ r.2.1.2.1 ≤ s0 + R.slots) (hk : xWt p l e R S m args below meth c Q D cI cZ z b n0 s0 row (k.1, k.2.1, k.2.2.1, r.1.toList ++ k.2.2.2, r.2)) : xWt p l e R S m args below meth c Q D cI cZ z b n0 s0 row (mi, pc, ls, st, w) := by
  obtain ⟨hx, hb, hr, hml, hown, hts, hnest, hlk, hin, hK, hfr, hlo⟩ := C
  intro H locs la hH hS hL
  have hH : xHR D cI cZ z b S w H := hH
  have hL : xLs z b row.2.2.1 ls la := hL
  show W p l e R S m args below meth c H locs (w.1.1 - n0) (w.1.2.1 - s0) Q (F0 m pc la (List.map (xtr z b) st))
  refine W_size (fun hsz => ?_)
  have hsz2 := xHR_size hH hn0 hn1 hnw hS.1
  have hHs : H.size = z + w.1.1 := by omega
  -- what every call shares
  have hpre : ∀ (vs : List Value) (U : State), U.heap = H → S.WarmedH U.vm → va_Pc (vs.map (xtr z b)) (xPc D cI cZ z b w) ((vs.map (xtr z b)).toArray) U := by
    intro vs U hU hW
    refine ⟨rfl, by rw [hU]; exact hHs, by rw [hU]; exact xHR_moved hW.alike hH, va_K.moved hW.alike hK, fun q hq => ?_⟩
    have hn := (List.mem_filter.mp hq).2
    have hq2 := hnest q hq
    unfold xnest at hn
    split at hn
    · exact va_Nw.warmM hW hq2
    · cases hn
  unfold xop5 at h
  split at h
  all_goals (try (cases h; done))
  all_goals (simp only [xln] at hln)
  all_goals (subst hln)
  all_goals (simp only [xck5] at hck)
  case h_1 i =>
    split at h
    · rename_i a rest hdrop
      unfold xcall at h
      simp only [Option.some.injEq, Sum.inr.injEq, Sum.inl.injEq, Prod.mk.injEq, Bool.and_eq_true, decide_eq_true_eq] at h
      obtain ⟨⟨g1, g2, g3⟩, rfl, rfl⟩ := h
      cases hq1 : xMs[x]? with
      | none => rw [hq1] at hck; cases hck
      | some r2 =>
        cases hq2 : xCl[zt]? with
        | none => rw [hq1, hq2] at hck; cases hck
        | some q =>
          rw [hq1, hq2] at hck
          simp only [xckC, Bool.and_eq_true, Bool.or_eq_true, decide_eq_true_eq, beq_iff_eq] at hck
          obtain ⟨⟨hM, rfl, hf1, hf2, hpar, hlink⟩, hkind, hcl⟩ := hck
          have hMo := hM
          unfold xckM at hM
          simp only [Bool.and_eq_true, decide_eq_true_eq, hkind] at hM
          obtain ⟨-, -, w2, -, w4, w5, w6⟩ := hM
          obtain ⟨-, -, -, -, -, -, -, c8⟩ := xcls zt q hq2
          have ha := hH.2.2.2.1 a (by rw [g1]; omega)
          have he := xws_get (cI := cI) (cZ := cZ) (z := z) (w := w) ha.1 ha.2
          rw [xcell_obj g1 c8] at he
          have hst : st = st.take y ++ .ref a :: rest := by rw [← hdrop]; exact (List.take_append_drop y st).symm
          have htk : (st.take y).length = y := by
            have : (st.drop y).length = (Value.ref a :: rest).length := by rw [hdrop]
            simp only [List.length_drop, List.length_cons] at this
            simp only [List.length_take]
            omega
          have hmet := xmet l (D := D) (cI := cI) (cZ := cZ) (z := z) (b := b) (vs := .ref a :: (st.take y).reverse) (w := w) (r := r) hq1 hMo g3 hs hH.1
          have hstk : (F0 m pc la (List.map (xtr z b) st)).stack = ((st.take y).reverse.map (xtr z b)).reverse ++ .ref (z + a) :: rest.map (xtr z b) := by
            show List.map (xtr z b) st = _
            conv => lhs; rw [hst]
            rw [List.map_append, List.map_cons, xtr_ref (by omega), ← List.map_reverse, List.reverse_reverse]
          have hPV : PreV S H q.1 (z + a) (va_Pc ((Value.ref a :: (st.take y).reverse).map (xtr z b)) (xPc D cI cZ z b w)) ((st.take y).reverse.map (xtr z b)) := by
            refine ⟨xPc_blind, va_recv hK hH.2.2.2.2.1 hq2 he, fun U hU hW => ?_⟩
            have h9 := hpre (.ref a :: (st.take y).reverse) U hU hW
            rw [List.map_cons, xtr_ref (by omega)] at h9 ⊢
            exact h9
          have hR8 : 2 * (F0 m pc la (List.map (xtr z b) st)).monitorRoom + ((rest.map (xtr z b)).map fun v => v.category).sum ≤ 8 := lv_room (by rw [xsum_tr]; exact g2)
          have hrm : w.1.1 - n0 + (r.2.1.1 - w.1.1) ≤ R.cells ∧ w.1.2.1 - s0 + (r.2.1.2.1 - w.1.2.1) ≤ R.slots := by
            have := hs.1; have := hs.2.1; dsimp only at *; omega
          refine xback (a := (Value.ref (z + a) :: ((st.take y).reverse.map (xtr z b))).toArray) hnw hsw hs.1 hs.2.1 hS hL ?_ hk
          rcases hlink with hlink | hlink
          · exact va_runV (C := q.1) (n := y) (index := i) (nL := row.2.2.1) ⟨hx, hb, hml, hown, hts⟩ hmet ⟨callB_of y hts (xgoodIn hMo) rfl rfl rfl (hts _ (xgw_of w2 rfl)) (hts _ (xgw_of hlink rfl)) ⟨w4.1, w4.2, hpar⟩ ⟨by dsimp only; omega, by dsimp only; omega⟩, hts _ (xgw_of w5 rfl), by rw [hcl]; exact hts _ (xgw_of w6 rfl)⟩ hPV rfl (by rw [List.length_map, List.length_reverse, htk]) hL.1 hstk hR8 hd hrm
          · exact va_runVN (C := q.1) (n := y) (index := i) (nL := row.2.2.1) ⟨hx, hb, hml, hown, hts⟩ hmet ⟨va_cnB y hts (xgoodIn hMo) rfl rfl rfl (hnest _ (List.mem_filter.mpr ⟨List.mem_of_getElem? hlink, rfl⟩)) (hts _ (xgw_of w2 rfl)) ⟨w4.1, w4.2, hpar⟩ ⟨by dsimp only; omega, by dsimp only; omega⟩, hts _ (xgw_of w5 rfl), by rw [hcl]; exact hts _ (xgw_of w6 rfl)⟩ hPV rfl (by rw [List.length_map, List.length_reverse, htk]) hL.1 hstk hR8 hd hrm
    · cases h
  case h_2 i =>
    cases hx9 : (x == 999) with
    | true =>
      rw [hx9, cond_true] at h
      split at h <;> cases h
    | false =>
      rw [hx9, cond_false] at h hck
      split at h
      · rename_i a rest hdrop
        unfold xcall at h
        simp only [Option.some.injEq, Sum.inr.injEq, Sum.inl.injEq, Prod.mk.injEq, Bool.and_eq_true, decide_eq_true_eq] at h
        obtain ⟨⟨g1, g2, g3⟩, rfl, rfl⟩ := h
        cases hq1 : xMs[x]? with
        | none => rw [hq1] at hck; cases hck
        | some r2 =>
          rw [hq1] at hck
          simp only [xckC, Bool.and_eq_true, Bool.or_eq_true, decide_eq_true_eq, beq_iff_eq] at hck
          obtain ⟨⟨hM, rfl, hf1, hf2, hpar, hlink⟩, hkind⟩ := hck
          have hMo := hM
          unfold xckM at hM
          simp only [Bool.and_eq_true, decide_eq_true_eq, hkind] at hM
          obtain ⟨-, -, w2, -, w4, w5, w6⟩ := hM
          have hst : st = st.take y ++ .ref a :: rest := by rw [← hdrop]; exact (List.take_append_drop y st).symm
          have htk : (st.take y).length = y := by
            have : (st.drop y).length = (Value.ref a :: rest).length := by rw [hdrop]
            simp only [List.length_drop, List.length_cons] at this
            simp only [List.length_take]
            omega
          have hmet := xmet l (D := D) (cI := cI) (cZ := cZ) (z := z) (b := b) (vs := .ref a :: (st.take y).reverse) (w := w) (r := r) hq1 hMo g3 hs hH.1
          have hstk : (F0 m pc la (List.map (xtr z b) st)).stack = ((st.take y).reverse.map (xtr z b)).reverse ++ .ref (z + a) :: rest.map (xtr z b) := by
            show List.map (xtr z b) st = _
            conv => lhs; rw [hst]
            rw [List.map_append, List.map_cons, xtr_ref g1, ← List.map_reverse, List.reverse_reverse]
          have hPS : PreS S H (va_Pc ((Value.ref a :: (st.take y).reverse).map (xtr z b)) (xPc D cI cZ z b w)) (.ref (z + a) :: (st.take y).reverse.map (xtr z b)) := by
            refine ⟨xPc_blind, fun U hU hW => ?_⟩
            have h9 := hpre (.ref a :: (st.take y).reverse) U hU hW
            rw [List.map_cons, xtr_ref g1] at h9 ⊢
            exact h9
          have hR8 : 2 * (F0 m pc la (List.map (xtr z b) st)).monitorRoom + ((rest.map (xtr z b)).map fun v => v.category).sum ≤ 8 := lv_room (by rw [xsum_tr]; exact g2)
          have hrm : w.1.1 - n0 + (r.2.1.1 - w.1.1) ≤ R.cells ∧ w.1.2.1 - s0 + (r.2.1.2.1 - w.1.2.1) ≤ R.slots := by
            have := hs.1; have := hs.2.1; dsimp only at *; omega
          rw [w6.2] at hmet
          refine xback (a := (Value.ref (z + a) :: ((st.take y).reverse.map (xtr z b))).toArray) hnw hsw hs.1 hs.2.1 hS hL ?_ hk
          rcases hlink with hlink | hlink
          · exact va_runI (n := y) (index := i) (nL := row.2.2.1) ⟨hx, hb, hml, hown, hts⟩ hmet ⟨callB_of y hts (by have := xgoodIn hMo; rw [w6.2] at this; exact this) rfl rfl rfl (hts _ (xgw_of w2 rfl)) (hts _ (xgw_of hlink rfl)) ⟨w4.1, w4.2, hpar⟩ ⟨by dsimp only; omega, by dsimp only; omega⟩, w6.1, hts _ (xgw_of w5 rfl)⟩ hPS rfl (by rw [List.length_map, List.length_reverse, htk]) hL.1 hstk hR8 hd hrm
          · exact va_runIN (n := y) (index := i) (nL := row.2.2.1) ⟨hx, hb, hml, hown, hts⟩ hmet ⟨va_cnB y hts (by have := xgoodIn hMo; rw [w6.2] at this; exact this) rfl rfl rfl (hnest _ (List.mem_filter.mpr ⟨List.mem_of_getElem? hlink, rfl⟩)) (hts _ (xgw_of w2 rfl)) ⟨w4.1, w4.2, hpar⟩ ⟨by dsimp only; omega, by dsimp only; omega⟩, w6.1, hts _ (xgw_of w5 rfl)⟩ hPS rfl (by rw [List.length_map, List.length_reverse, htk]) hL.1 hstk hR8 hd hrm
      · cases h
  case h_3 i =>
    cases hx9 : (x == 999) with
    | true =>
      rw [hx9, cond_true] at h
      split at h <;> cases h
    | false =>
      rw [hx9, cond_false] at h hck
      cases hx7 : (x == 997) with
      | true =>
        rw [hx7, cond_true] at h
        split at h <;> cases h
      | false =>
      rw [hx7, cond_false] at h hck
      cases hx8 : (x == 998) with
      | true =>
        rw [hx8, cond_true] at h
        split at h <;> cases h
      | false =>
      rw [hx8, cond_false] at h hck
      unfold xcall at h
      simp only [Option.some.injEq, Sum.inr.injEq, Sum.inl.injEq, Prod.mk.injEq, Bool.and_eq_true, decide_eq_true_eq] at h
      obtain ⟨⟨g1, g2, g3⟩, rfl, rfl⟩ := h
      cases hq1 : xMs[x]? with
      | none => rw [hq1] at hck; cases hck
      | some r2 =>
        rw [hq1] at hck
        simp only [xckC, Bool.and_eq_true, Bool.or_eq_true, decide_eq_true_eq, beq_iff_eq] at hck
        obtain ⟨⟨hM, rfl, hf1, hf2, hpar, hlink⟩, hkind⟩ := hck
        have hMo := hM
        unfold xckM at hM
        simp only [Bool.and_eq_true, decide_eq_true_eq, hkind] at hM
        obtain ⟨-, -, w2, -, w4, w5⟩ := hM
        have hmet := xmet l (D := D) (cI := cI) (cZ := cZ) (z := z) (b := b) (vs := (st.take y).reverse) (w := w) (r := r) hq1 hMo g3 hs hH.1
        have hstk : (F0 m pc la (List.map (xtr z b) st)).stack = ((st.take y).reverse.map (xtr z b)).reverse ++ (st.drop y).map (xtr z b) := by
          show List.map (xtr z b) st = _
          rw [← List.map_reverse, List.reverse_reverse, ← List.map_append, List.take_append_drop]
        have hPS : PreS S H (va_Pc (((st.take y).reverse).map (xtr z b)) (xPc D cI cZ z b w)) ((st.take y).reverse.map (xtr z b)) := ⟨xPc_blind, fun U hU hW => hpre _ U hU hW⟩
        have hR8 : 2 * (F0 m pc la (List.map (xtr z b) st)).monitorRoom + (((st.drop y).map (xtr z b)).map fun v => v.category).sum ≤ 8 := lv_room (by rw [xsum_tr]; exact g2)
        have hrm : w.1.1 - n0 + (r.2.1.1 - w.1.1) ≤ R.cells ∧ w.1.2.1 - s0 + (r.2.1.2.1 - w.1.2.1) ≤ R.slots := by
          have := hs.1; have := hs.2.1; dsimp only at *; omega
        refine xback (a := ((st.take y).reverse.map (xtr z b)).toArray) hnw hsw hs.1 hs.2.1 hS hL ?_ hk
        rcases hlink with hlink | hlink
        · exact va_runS (n := y) (index := i) (nL := row.2.2.1) ⟨hx, hb, hml, hown, hts⟩ hmet ⟨callB_of y hts (xgoodIn hMo) rfl rfl rfl (hts _ (xgw_of w2 rfl)) (hts _ (xgw_of hlink rfl)) ⟨w4.1, w4.2, hpar⟩ ⟨by dsimp only; omega, by dsimp only; omega⟩, hts _ (xgw_of w5 rfl)⟩ hPS rfl (by simp only [List.length_map, List.length_reverse, List.length_take]; omega) hL.1 hstk hR8 hd hrm
        · exact va_runSN (n := y) (index := i) (nL := row.2.2.1) ⟨hx, hb, hml, hown, hts⟩ hmet ⟨va_cnB y hts (xgoodIn hMo) rfl rfl rfl (hnest _ (List.mem_filter.mpr ⟨List.mem_of_getElem? hlink, rfl⟩)) (hts _ (xgw_of w2 rfl)) ⟨w4.1, w4.2, hpar⟩ ⟨by dsimp only; omega, by dsimp only; omega⟩, hts _ (xgw_of w5 rfl), trivial⟩ hPS rfl (by simp only [List.length_map, List.length_reverse, List.length_take]; omega) hL.1 hstk hR8 hd hrm
theorem va_cpy_xcp {M : Nat → Nat → Int32} {a0 a1 sp dp n : Nat} : va_cpy (M a0) (M a1) sp dp n = xcp M a0 sp a1 dp n a1 := by
  funext j
  unfold xcp
  by_cases h : dp ≤ j ∧ j < dp + n
  · rw [pk_cpy_in h.1 h.2, if_pos ⟨rfl, h⟩]
  · rw [pk_cpy_out (by omega), if_neg (fun q => h q.2)]
theorem xcp_ne {M : Nat → Nat → Int32} {a a0 a1 sp dp n : Nat} (h : a ≠ a1) : xcp M a0 sp a1 dp n a = M a := by
  funext j
  unfold xcp
  rw [if_neg (fun q => h q.1)]
theorem xob1 : Cond.instanceMethod Lib.objectInit ∈ xgw := xin_one (by decide +kernel)
theorem xob2 : Cond.code Lib.objectInit ⟨#[0xb1]⟩ 1 none ∈ xgw := xin_one (by decide +kernel)
theorem xac1 : Cond.native arraycopyName ∈ xgw := xin_one (by decide +kernel)
theorem xac2 : Cond.static arraycopyName ∈ xgw := xin_one (by decide +kernel)
theorem xac3 : Cond.initialized "java/lang/System" ∈ xgw := xin_one (by decide +kernel)
theorem xm_0 : Cond.initialized "java/lang/Math" ∈ xgw := xin_one (by decide +kernel)
theorem xm_max1 : Cond.static Lib.Math.max.name ∈ xgw := xin_one (by decide +kernel)
theorem xm_max2 : Cond.code Lib.Math.max.name Lib.Math.max.code 2 (some .int) ∈ xgw := xin_one (by decide +kernel)
theorem xm_min1 : Cond.static Lib.Math.min.name ∈ xgw := xin_one (by decide +kernel)
theorem xm_min2 : Cond.code Lib.Math.min.name Lib.Math.min.code 2 (some .int) ∈ xgw := xin_one (by decide +kernel)
theorem xop5_ok (C : xCx p R S m args meth c D cI cZ row) (hz : z < S.heap.size) {ins : Instr} {len pl mi pc x y zt u : Nat} {ls st : List Value} {w : xW} {q : Bool × xSt × Option xSt} (hce : w.1.1 - n0 ≤ R.cells ∧ w.1.2.1 - s0 ≤ R.slots) (hd : decode row.2.1 pc = .ok (ins, len)) (hln : xln ins len) (hck : xck5 row ins x y zt u pl = true) (h : xop5 ins x y zt u mi pc ls st w = some (.inl q))
    (hk : xOn (xWt p l e R S m args below meth c Q D cI cZ z b n0 s0 row) q) : xWt p l e R S m args below meth c Q D cI cZ z b n0 s0 row (mi, pc, ls, st, w) := by
  obtain ⟨hx, hb, hr, hml, hown, hts, hnest, hlk, hin, hK, hfr, hlo⟩ := C
  intro H locs la hH hS hL
  have hH : xHR D cI cZ z b S w H := hH
  have hL : xLs z b row.2.2.1 ls la := hL
  unfold xop5 at h
  split at h
  all_goals (try (cases h; done))
  all_goals (simp only [xln] at hln)
  all_goals (subst hln)
  all_goals (simp only [xck5] at hck)
  case h_1 i =>
    split at h
    · unfold xcall at h; cases h
    · cases h
  case h_2 i =>
    cases hx9 : (x == 999) with
    | false =>
      rw [hx9, cond_false] at h
      split at h
      · unfold xcall at h; cases h
      · cases h
    | true =>
      rw [hx9, cond_true] at h hck
      simp only [Bool.and_eq_true, decide_eq_true_eq] at hck
      split at h
      · rename_i a rest
        cases h
        obtain ⟨g1, g2⟩ := xOn_t hk
        simp only [Bool.and_eq_true, decide_eq_true_eq] at g1
        show W p l e R S m args below meth c H locs (w.1.1 - n0) (w.1.2.1 - s0) Q (F0 m pc la (xtr z b (.ref a) :: List.map (xtr z b) rest))
        rw [xtr_ref g1.1]
        refine W.objInit hx hb hown (hts _ (xgw_of hck.1 rfl)) (hts _ xob1) (hts _ xob2) rfl (hL.1.trans hml.symm) rfl hd (by omega) ?_ (g2 H locs la hH hS hL)
        have h8 : 2 * (F0 m pc la (List.map (xtr z b) rest)).monitorRoom + ((rest.map (xtr z b)).map fun v => v.category).sum ≤ 8 := lv_room (by rw [xsum_tr]; exact g1.2)
        have h9 : 2 * (F0 m pc la (Value.ref (z + a) :: List.map (xtr z b) rest)).monitorRoom + ((rest.map (xtr z b)).map fun v => v.category).sum ≤ 8 := h8
        omega
      · cases h
  case h_3 i =>
    cases hx9 : (x == 999) with
    | false =>
      rw [hx9, cond_false] at h hck
      have hsl : ∀ (rest : List Value), (rest.map fun v => v.category).sum ≤ 8 → ((rest.map (xtr z b)).map fun v => v.category).sum + 13 ≤ 21 := by
        intro rest hr
        rw [xsum_tr]; omega
      cases hx997 : (x == 997) with
      | true =>
        rw [hx997, cond_true] at h hck
        simp only [Bool.and_eq_true, decide_eq_true_eq] at hck
        split at h
        · rename_i y' x' rest
          cases h
          obtain ⟨g1, g2⟩ := xOn_t hk
          have g1 := of_decide_eq_true g1
          have h8 := hsl rest g1
          exact va_mmax hx hb (hml.trans hL.1.symm) hown (hts _ (xgw_of hck.1 rfl)) (hts _ xm_max1) (hts _ xm_0) (hts _ xm_max2) (by omega) (by omega) hce.1 hce.2 hd (g2 H locs la hH hS hL)
        · cases h
      | false =>
      rw [hx997, cond_false] at h hck
      cases hx998 : (x == 998) with
      | true =>
        rw [hx998, cond_true] at h hck
        simp only [Bool.and_eq_true, decide_eq_true_eq] at hck
        split at h
        · rename_i y' x' rest
          cases h
          obtain ⟨g1, g2⟩ := xOn_t hk
          have g1 := of_decide_eq_true g1
          have h8 := hsl rest g1
          exact va_mmin hx hb (hml.trans hL.1.symm) hown (hts _ (xgw_of hck.1 rfl)) (hts _ xm_min1) (hts _ xm_0) (hts _ xm_min2) (by omega) (by omega) hce.1 hce.2 hd (g2 H locs la hH hS hL)
        · cases h
      | false =>
      rw [hx998, cond_false] at h hck
      unfold xcall at h; cases h
    | true =>
      rw [hx9, cond_true] at h hck
      simp only [Bool.and_eq_true, decide_eq_true_eq] at hck
      split at h
      · rename_i n dp a1 sp a0 rest
        cases h
        obtain ⟨g1, g2⟩ := xOn_t hk
        simp only [Bool.and_eq_true, decide_eq_true_eq, Bool.not_eq_true', decide_eq_false_iff_not] at g1
        obtain ⟨k0, k1, k2, k3, k4, k5, k6, k7⟩ := g1
        have ha0 := hH.2.2.2.1 a0 (by rw [k0]; decide)
        have ha1 := hH.2.2.2.1 a1 (by rw [k1]; decide)
        have he0 := xws_get (cI := cI) (cZ := cZ) (z := z) (w := w) ha0.1 ha0.2
        have he1 := xws_get (cI := cI) (cZ := cZ) (z := z) (w := w) ha1.1 ha1.2
        rw [xcell_I k0] at he0
        rw [xcell_I k1] at he1
        show W p l e R S m args below meth c H locs (w.1.1 - n0) (w.1.2.1 - s0) Q (F0 m pc la (.int n :: .int dp :: xtr z b (.ref a1) :: .int sp :: xtr z b (.ref a0) :: List.map (xtr z b) rest))
        rw [xtr_ref (by omega), xtr_ref (by omega)]
        refine va_copyi hx hb (hml.trans hL.1.symm) hown (hts _ (xgw_of hck.1 rfl)) (hts _ xac1) (hts _ xac2) (hts _ xac3) hK hH.2.2.2.2.1 xws_D hS (a0 - 1) (a1 - 1) 0 0 he0 he1 rfl rfl rfl k2 k3 k4 k5 k6 (fun _ _ => rfl) (by omega) (by
          rw [xsum_tr]
          have : nativeFrameWords "java/lang/System" "arraycopy" 5 = 7 := by decide +kernel
          omega) hd (fun H1 locs1 hP1 _ hS1 => ?_)
        rw [xws_set (w := w) (w' := (w.1, xcp w.2.1 a0 sp.toNatClampNeg a1 dp.toNatClampNeg n.toNatClampNeg, w.2.2)) rfl ha1.1 ha1.2 (by rw [xcell_I (w := (w.1, xcp w.2.1 a0 sp.toNatClampNeg a1 dp.toNatClampNeg n.toNatClampNeg, w.2.2)) k1, va_cpy_xcp]) (fun a' h' => xcell_cong rfl (xcp_ne h') rfl rfl)] at hP1
        exact g2 H1 locs1 la (xHR_put hH hz hS hS1 rfl rfl (xcp_ne (by omega)) hP1) hS1 hL
      · cases h
end FIVE
