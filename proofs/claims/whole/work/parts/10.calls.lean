/-- a method's own words -/
def xckM (row : xMi) : Bool := decide (lw_tbl[row.2.2.2.2.2.2.2.1]? = some (.code row.1 row.2.1 row.2.2.1 row.2.2.2.1)) && (goodWord (.code row.1 row.2.1 row.2.2.1 row.2.2.2.1) && (decide (lw_tbl[row.2.2.2.2.2.2.2.2.1]? = some (.initialized row.1.cls)) && (decide (plainName row.1.cls = true) && (decide (row.1.cls ≠ "java/lang/invoke/MethodHandle" ∧ row.1.cls ≠ "java/lang/invoke/VarHandle") && (match row.2.2.2.2.2.2.1 with
  | 0 => decide (lw_tbl[row.2.2.2.2.2.2.2.2.2.1]? = some (.static row.1))
  | 1 => decide (lw_tbl[row.2.2.2.2.2.2.2.2.2.1]? = some (.instanceMethod row.1)) && decide (lw_tbl[row.2.2.2.2.2.2.2.2.2.2]? = some (.selects row.1.cls row.1 row.1))
  | _ => decide (lw_tbl[row.2.2.2.2.2.2.2.2.2.1]? = some (.instanceMethod row.1)) && decide (row.1.name = "<init>" ∧ row.2.2.2.1 = none))))))
def xckC (row r2 : xMi) (i y u pl : Nat) : Bool := xckM r2 && (r2.2.2.1 == u && (decide (r2.2.2.2.2.1 + 1 ≤ row.2.2.2.2.1) && (decide (8 + (r2.2.2.1 + 11) + r2.2.2.2.2.2.1 ≤ row.2.2.2.2.2.1) && (decide ((parseMethodDescriptor r2.1.desc).map (fun d => d.parameters.length) = some y) && (decide (lw_tbl[pl]? = some (.methodLink row.1.cls i r2.1)) || decide (lw_tbl[pl]? = some (.methodLinkNest row.1.cls i r2.1 "BaredCurtain")))))))
def xck5 (row : xMi) (ins : Instr) (x y z u pl : Nat) : Bool := match ins with
  | .invokevirtual i => match xMs[x]?, xCl[z]? with
    | some r2, some q => xckC row r2 i y u pl && (r2.2.2.2.2.2.2.1 == 1 && decide (q.1 = r2.1.cls))
    | _, _ => false
  | .invokespecial i => bif x == 999 then decide (lw_tbl[pl]? = some (.methodLink row.1.cls i Lib.objectInit)) && (decide (1 ≤ row.2.2.2.2.1) && decide (26 ≤ row.2.2.2.2.2.1)) else (match xMs[x]? with
    | some r2 => xckC row r2 i y u pl && r2.2.2.2.2.2.2.1 == 2
    | none => false)
  | .invokestatic i => bif x == 999 then decide (lw_tbl[pl]? = some (.methodLink row.1.cls i arraycopyName)) && (decide (1 ≤ row.2.2.2.2.1) && decide (26 ≤ row.2.2.2.2.2.1)) else bif x == 997 then decide (lw_tbl[pl]? = some (.methodLink row.1.cls i Lib.Math.max.name)) && (decide (1 ≤ row.2.2.2.2.1) && decide (26 ≤ row.2.2.2.2.2.1)) else bif x == 998 then decide (lw_tbl[pl]? = some (.methodLink row.1.cls i Lib.Math.min.name)) && (decide (1 ≤ row.2.2.2.2.1) && decide (26 ≤ row.2.2.2.2.2.1)) else (match xMs[x]? with
    | some r2 => xckC row r2 i y u pl && r2.2.2.2.2.2.2.1 == 0
    | none => false)
  | _ => true
/-- what 'ev' says of a state is so of the machine -/
def xSnd (s : xSt) (r : xR) : Prop := s.2.2.2.2.1.1 ≤ r.2.1.1 ∧ s.2.2.2.2.1.2.1 ≤ r.2.1.2.1 ∧ ∀ (p : Program) (l : Launch) (e : Env) (R : Room) (S : State) (m : MethodId) (args : Array Value) (below : List Frame) (meth : Method) (c : Code) (Q : State → Prop) (D : va_G) (cI cZ : ClassId) (z b n0 s0 : Nat) (row : xMi), xMs[s.1]? = some row → xCx p R S m args meth c D cI cZ row → S.heap.size = z + n0 → 1 ≤ n0 → n0 ≤ s.2.2.2.2.1.1 → s0 ≤ s.2.2.2.2.1.2.1 → r.2.1.1 ≤ n0 + R.cells → r.2.1.2.1 ≤ s0 + R.slots → xRt p l e R S m args below meth c Q D cI cZ z b n0 s0 row r → xWt p l e R S m args below meth c Q D cI cZ z b n0 s0 row s
def xQc (D : va_G) (cI cZ : ClassId) (z b : Nat) (r : xR) : Array Value → State → Outcome → State → Prop := match r.1 with
  | none => va_Qv (fun _ : Unit => True) (fun _ t => xHR D cI cZ z b t r.2 t.heap) (xA z)
  | some (.int v) => va_Qi (fun a (_ : Unit) => a = v) (fun _ t => xHR D cI cZ z b t r.2 t.heap) (xA z)
  | some _ => fun _ _ _ _ => False
def xPc (D : va_G) (cI cZ : ClassId) (z b : Nat) (w : xW) (U : State) : Prop := U.heap.size = z + w.1.1 ∧ xHR D cI cZ z b U w U.heap ∧ va_K D xCl [(cI, .int), (cZ, .boolean)] U ∧ ∀ q ∈ xnw, va_Nw q U
theorem xargs_sl {z b : Nat} : ∀ (vs : List Value), (lg_sl (vs.map (xtr z b))).length = (xargs vs).length ∧ ∀ (i : Nat) (v : Value), (xargs vs)[i]? = some v → v ≠ .null → (lg_sl (vs.map (xtr z b)))[i]? = some (.val (xtr z b v))
  | [] => ⟨rfl, fun i v h => by simp [xargs] at h⟩
  | u :: vs => by
    obtain ⟨h1, h2⟩ := xargs_sl (z := z) (b := b) vs
    by_cases hc : u.category = 2
    · have e1 : lg_sl ((u :: vs).map (xtr z b)) = .val (xtr z b u) :: .second :: lg_sl (vs.map (xtr z b)) := by
        unfold lg_sl
        rw [List.map_cons, List.flatMap_cons, if_pos (by rw [xtr_cat]; exact hc)]; rfl
      have e2 : xargs (u :: vs) = u :: .null :: xargs vs := by
        unfold xargs
        rw [List.flatMap_cons, if_pos hc]; rfl
      rw [e1, e2]
      refine ⟨by simp [h1], fun i v hi hv => ?_⟩
      match i, hi with
      | 0, hi => cases hi; rfl
      | 1, hi => cases hi; exact absurd rfl hv
      | i + 2, hi => exact h2 i v hi hv
    · have e1 : lg_sl ((u :: vs).map (xtr z b)) = .val (xtr z b u) :: lg_sl (vs.map (xtr z b)) := by
        unfold lg_sl
        rw [List.map_cons, List.flatMap_cons, if_neg (by rw [xtr_cat]; exact hc)]; rfl
      have e2 : xargs (u :: vs) = u :: xargs vs := by
        unfold xargs
        rw [List.flatMap_cons, if_neg hc]; rfl
      rw [e1, e2]
      refine ⟨by simp [h1], fun i v hi hv => ?_⟩
      match i, hi with
      | 0, hi => cases hi; rfl
      | i + 1, hi => exact h2 i v hi hv
theorem xLs_entry {z b n : Nat} {vs : List Value} (h : (xargs vs).length ≤ n) : xLs z b n (xlocs vs n) ((lg_sl (vs.map (xtr z b)) ++ List.replicate (n - (lg_sl (vs.map (xtr z b))).length) Slot.unset).toArray) := by
  obtain ⟨h1, h2⟩ := xargs_sl (z := z) (b := b) vs
  have he := lv_entry (vs.map (xtr z b)) (n := n) (by rw [h1]; exact h)
  refine ⟨he.1, he.2.1, fun i v hi hv => ?_⟩
  unfold xlocs at hi
  rw [List.getElem?_toArray]
  by_cases hl : i < (xargs vs).length
  · rw [List.getElem?_append_left hl] at hi
    rw [List.getElem?_append_left (by rw [h1]; exact hl)]
    exact h2 i v hi hv
  · rw [List.getElem?_append_right (by omega)] at hi
    rw [List.getElem?_replicate] at hi
    split at hi
    · cases hi; exact absurd rfl hv
    · cases hi
theorem xgood {row : xMi} (h : xckM row = true) : Cond.code row.1 row.2.1 row.2.2.1 row.2.2.2.1 ∈ xgw := by
  unfold xckM at h
  simp only [Bool.and_eq_true, decide_eq_true_eq] at h
  exact xgw_of h.1 h.2.1
theorem xgoodIn {row : xMi} (h : xckM row = true) : GoodIn xgw (Cond.code row.1 row.2.1 row.2.2.1 row.2.2.2.1 :: xgw) := by
  intro w hw
  have hm : w ∈ xgw := by
    rcases List.mem_cons.mp hw with rfl | h1
    · exact xgood h
    · exact h1
  exact ⟨hm, good_of_word (List.mem_filter.mp hm).2⟩
theorem xnest_on {q : Cond} (h : xnest q = true) : q.onTables = true := by
  unfold xnest at h
  split at h
  · rfl
  · cases h
theorem xPc_blind {D : va_G} {cI cZ : ClassId} {z b : Nat} {w : xW} {av : List Value} : FrameBlind (va_Pc av (xPc D cI cZ z b w)) := by
  intro a U g mk h
  obtain ⟨h0, h1, h2, h3, h4⟩ := h
  exact ⟨h0, h1, xHR_moved (u := U) (U := U.calling g mk a) (Vm.Alike.refl U.vm) h2, va_K.moved (u := U) (U := U.calling g mk a) (Vm.Alike.refl U.vm) h3, fun q hq => va_Nw.same (u := U) (xnest_on (List.mem_filter.mp hq).2) rfl (h4 q hq)⟩
theorem xmet (l : Launch) {D : va_G} {cI cZ : ClassId} {z b : Nat} {x : Nat} {row : xMi} {vs : List Value} {w : xW} {r : xR} (hrow : xMs[x]? = some row) (hok : xckM row = true) (hlen : (xargs vs).length ≤ row.2.2.1) (hs : xSnd (x, 0, xlocs vs row.2.2.1, [], w) r) (hw1 : 1 ≤ w.1.1) :
    Met l row.1 (Cond.code row.1 row.2.1 row.2.2.1 row.2.2.2.1 :: xgw) { frames := row.2.2.2.2.1, cells := r.2.1.1 - w.1.1, slots := r.2.1.2.1 - w.1.2.1, locals := row.2.2.2.2.2.1 } (va_Pc (vs.map (xtr z b)) (xPc D cI cZ z b w)) (xQc D cI cZ z b r) (r.2.1.1 - w.1.1) (r.2.1.2.1 - w.1.2.1) (xA z) := by
  have hpl : plainName row.1.cls = true := by
    unfold xckM at hok
    simp only [Bool.and_eq_true, decide_eq_true_eq] at hok
    exact hok.2.2.2.1
  refine Met.ofW (cc := row.2.1) (maxL := row.2.2.1) (ret := row.2.2.2.1) hpl rfl ?_
  intro p e s m args below meth c s₁ B hml hv
  obtain ⟨rfl, hsz, hH, hK, hnw⟩ := hv
  have hts := atoms_spec (ws := Cond.code row.1 row.2.1 row.2.2.1 row.2.2.2.1 :: xgw) B.pre
  have hnm := (name_of_methodNamed B.named B.method).1
  have hlk := B.notSynchronized
  have hr := B.returns
  have hx := B.exec
  have hb := B.bytes
  rw [lg_entry_eq]
  have key := hs.2.2 p l e { frames := row.2.2.2.2.1, cells := r.2.1.1 - w.1.1, slots := r.2.1.2.1 - w.1.2.1, locals := row.2.2.2.2.2.1 } s m ((vs.map (xtr z b)).toArray) below meth c (MQ below (xQc D cI cZ z b r) ((vs.map (xtr z b)).toArray) s (r.2.1.1 - w.1.1) (r.2.1.2.1 - w.1.2.1) (xA z)) D cI cZ z b w.1.1 w.1.2.1 row hrow ⟨hx, hb, hr, hml, findClass_of_methodNamed B.named, fun q hq => hts q (List.mem_cons_of_mem _ hq), hnw, hlk, fun h => hnm.trans h, hK, Nat.le_refl _, Nat.le_refl _⟩ hsz hw1 (Nat.le_refl _) (Nat.le_refl _) (by have := hs.1; dsimp only at this ⊢; omega) (by have := hs.2.1; dsimp only at this ⊢; omega) ?_
  · have k2 := key s.heap [] _ hH va_S.rf (xLs_entry hlen)
    simp only [Nat.sub_self] at k2
    exact k2
  · intro H locs pc la hH1 hS1 hm
    unfold xQc
    cases hr1 : r.1 with
    | none =>
      rw [hr1] at hm
      exact W.vret (cc := row.2.1) hx hb (hr.trans hm.2) (fun t ht hW => ⟨⟨(), rfl, trivial, by subst ht; exact xHR_moved hW.alike hH1⟩, hS1.F ht⟩) hS1.2.2 hm.1 hlk
    | some v =>
      rw [hr1] at hm
      cases v with
      | int a =>
        obtain ⟨h1, ty, h2, h3⟩ := hm
        exact W.zret (cc := row.2.1) (ty := ty) hx hb (hr.trans h2) h3 (fun t ht hW => ⟨⟨a, (), rfl, rfl, by subst ht; exact xHR_moved hW.alike hH1⟩, hS1.F ht⟩) hS1.2.2 h1 hlk
      | _ => exact hm.elim
