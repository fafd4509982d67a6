/-! ===== what a world says of the heap ===== -/
def xNf (ci : Nat) : Nat := match xCl[ci]? with
  | some q => q.2.2
  | none => 0
def xfld (z : Nat) (w : xW) (a k : Nat) (ty : FieldType) : Value := match ty with
  | .int => .int (w.2.1 a k)
  | .long => .long (w.2.2 a k)
  | _ => if w.1.2.2.2 a k = 0 then .null else .ref (z + w.1.2.2.2 a k)
def xcell (cI cZ : ClassId) (z : Nat) (w : xW) (a : Nat) : va_E :=
  if (w.1.2.2.1 a).1 = 10 then .inl (cZ, (w.1.2.2.1 a).2, .inl (w.2.1 a))
  else if (w.1.2.2.1 a).1 = 11 then .inl (cI, (w.1.2.2.1 a).2, .inl (w.2.1 a))
  else .inr ((w.1.2.2.1 a).1, (List.range (xNf (w.1.2.2.1 a).1)).map (fun k => xfld z w a k (xTy (w.1.2.2.1 a).1 k)))
def xws (cI cZ : ClassId) (z : Nat) (w : xW) : va_W := (List.range (w.1.1 - 1)).map (fun k => (z + (k + 1), xcell cI cZ z w (k + 1)))
def xtr (z b : Nat) : Value → Value
  | .ref a => if a = 0 then .null else .ref (z + a)
  | .retAddr _ => .ref b
  | v => v
def xHR (D : va_G) (cI cZ : ClassId) (z b : Nat) (U : State) (w : xW) (H : Heap) : Prop :=
  1 ≤ w.1.1 ∧ b ≤ z ∧ (∀ a, 1 ≤ a → a < w.1.1 → (w.1.2.2.1 a).1 < 12) ∧ (∀ a, (w.1.2.2.1 a).1 < 12 → 1 ≤ a ∧ a < w.1.1) ∧ va_P D xCl (xws cI cZ z w) H ∧ ((w.1.2.2.1 0).1 = 12 → va_X b (w.1.2.2.1 0).2 (w.2.1 0) U H)
def xLs (z b n : Nat) (ls : List Value) (la : Array Slot) : Prop := la.size = n ∧ lv_wf la ∧ ∀ (i : Nat) (v : Value), ls[i]? = some v → v ≠ .null → la[i]? = some (.val (xtr z b v))
abbrev xA (z : Nat) : Nat → Prop := fun q => z < q
theorem xws_get {cI cZ : ClassId} {z : Nat} {w : xW} {a : Nat} (h1 : 1 ≤ a) (h2 : a < w.1.1) : (xws cI cZ z w)[a - 1]? = some (z + a, xcell cI cZ z w a) := by
  unfold xws
  rw [List.getElem?_map, List.getElem?_range (by omega)]
  simp only [Option.map_some]
  rw [show a - 1 + 1 = a by omega]
theorem xws_at {cI cZ : ClassId} {z : Nat} {w : xW} {k : Nat} {q : Nat × va_E} (h : (xws cI cZ z w)[k]? = some q) : k + 1 < w.1.1 ∧ q = (z + (k + 1), xcell cI cZ z w (k + 1)) := by
  unfold xws at h
  rw [List.getElem?_map] at h
  cases hr : (List.range (w.1.1 - 1))[k]? with
  | none => rw [hr] at h; cases h
  | some j =>
    rw [hr] at h
    have hl := (List.getElem?_eq_some_iff.mp hr).1
    rw [List.length_range] at hl
    rw [List.getElem?_range hl] at hr
    cases hr
    exact ⟨by omega, (Option.some.inj h).symm⟩
theorem xws_D {cI cZ : ClassId} {z : Nat} {w : xW} : va_D (xA z) (xws cI cZ z w) := by
  refine ⟨fun i j p q hi hj h => ?_, fun k q hk => ?_⟩
  · obtain ⟨h1, rfl⟩ := xws_at hi
    obtain ⟨h2, rfl⟩ := xws_at hj
    dsimp only at h
    omega
  · obtain ⟨h1, rfl⟩ := xws_at hk
    show z < z + (k + 1)
    omega
theorem xws_set {cI cZ : ClassId} {z : Nat} {w w' : xW} {a : Nat} {e : va_E} (hn : w'.1.1 = w.1.1) (h1 : 1 ≤ a) (h2 : a < w.1.1) (he : e = xcell cI cZ z w' a) (ho : ∀ a', a' ≠ a → xcell cI cZ z w' a' = xcell cI cZ z w a') : (xws cI cZ z w).set (a - 1) (z + a, e) = xws cI cZ z w' := by
  apply List.ext_getElem?
  intro k
  have hlen : (xws cI cZ z w).length = w.1.1 - 1 := by simp [xws]
  by_cases hk : k = a - 1
  · subst hk
    rw [List.getElem?_set_self (by omega), xws_get h1 (by omega), he]
  · rw [List.getElem?_set_ne (by omega)]
    by_cases hl : k + 1 < w.1.1
    · have e1 := xws_get (cI := cI) (cZ := cZ) (z := z) (w := w) (a := k + 1) (by omega) hl
      have e2 := xws_get (cI := cI) (cZ := cZ) (z := z) (w := w') (a := k + 1) (by omega) (by omega)
      rw [show k + 1 - 1 = k by omega] at e1 e2
      rw [e1, e2, ho (k + 1) (by omega)]
    · rw [List.getElem?_eq_none (by omega), List.getElem?_eq_none (by simp [xws]; omega)]
theorem xtr_ref {z b a : Nat} (h : a ≠ 0) : xtr z b (.ref a) = .ref (z + a) := by
  show (if a = 0 then Value.null else Value.ref (z + a)) = _
  rw [if_neg h]
theorem xtr_cat (z b : Nat) (v : Value) : (xtr z b v).category = v.category := by
  cases v <;> (try rfl)
  case ref a =>
    show (if a = 0 then Value.null else Value.ref (z + a)).category = _
    split <;> rfl
theorem xHR_moved {D : va_G} {cI cZ : ClassId} {z b : Nat} {u U : State} {w : xW} {H : Heap} (hvm : u.vm.Alike U.vm) (h : xHR D cI cZ z b u w H) : xHR D cI cZ z b U w H := ⟨h.1, h.2.1, h.2.2.1, h.2.2.2.1, h.2.2.2.2.1, fun q => (h.2.2.2.2.2 q).moved hvm⟩
theorem xLs_has {z b n : Nat} {ls : List Value} {la : Array Slot} (h : xLs z b n ls la) : lv_has la n ((ls.zipIdx.filter (fun q => !decide (q.1 = .null))).map (fun q => (q.2, xtr z b q.1))) := by
  refine ⟨h.1, h.2.1, fun q hq => ?_⟩
  obtain ⟨x, hx, rfl⟩ := List.mem_map.mp hq
  obtain ⟨hx1, hx2⟩ := List.mem_filter.mp hx
  have := List.mem_zipIdx_iff_getElem?.mp hx1
  exact h.2.2 x.2 x.1 this (by simpa using hx2)
theorem xLs_kill {z b n : Nat} {ls : List Value} {la : Array Slot} (ds : List Nat) (h : xLs z b n ls la) : xLs z b n (xkill ds ls) la := by
  induction ds generalizing ls with
  | nil => exact h
  | cons d ds ih =>
    refine ih ⟨h.1, h.2.1, fun i v hi hv => ?_⟩
    by_cases hd : d = i
    · subst hd
      rw [List.getElem?_set] at hi
      simp only [if_true] at hi
      split at hi
      · cases hi; exact absurd rfl hv
      · cases hi
    · rw [List.getElem?_set_ne hd] at hi
      exact h.2.2 i v hi hv
theorem xcl_get {ls : List Value} {i j : Nat} {u : Value} (hj : (xcl ls i)[j]? = some u) (hu : u ≠ .null) : ls[j]? = some u ∧ ¬ (j + 1 = i ∧ u.category = 2) := by
  unfold xcl at hj
  cases i with
  | zero => exact ⟨hj, fun q => by omega⟩
  | succ k =>
    dsimp only at hj
    cases hk0 : ls[k]? with
    | none =>
      rw [hk0] at hj
      dsimp only at hj
      refine ⟨hj, fun q => ?_⟩
      rw [show j = k by omega, hk0] at hj
      cases hj
    | some v =>
      rw [hk0] at hj
      dsimp only at hj
      cases hc : (v.category == 2) with
      | true =>
        rw [hc, cond_true] at hj
        by_cases hk : k = j
        · subst hk
          rw [List.getElem?_set] at hj
          simp only [if_true] at hj
          split at hj
          · cases hj; exact absurd rfl hu
          · cases hj
        · rw [List.getElem?_set_ne hk] at hj
          exact ⟨hj, fun q => by omega⟩
      | false =>
        rw [hc, cond_false] at hj
        refine ⟨hj, fun q => ?_⟩
        rw [show j = k by omega, hk0] at hj
        cases hj
        rw [beq_eq_false_iff_ne] at hc
        exact hc q.2
/-- storing one slot, as the kit's rows give it -/
theorem xLs_st1 {z b n : Nat} {ls : List Value} {la la' : Array Slot} {i : Nat} {v : Value} {l' : List (Nat × Value)} (h : xLs z b n ls la) (hl : (i, xtr z b v) :: ((ls.zipIdx.filter (fun q => !decide (q.1 = .null))).map (fun q => (q.2, xtr z b q.1))).filter (fun q => !(q.1 == i) && !(q.1 + 1 == i && q.2.category == 2)) = l') (h' : lv_has la' n l') : xLs z b n (xst1 ls i v) la' := by
  refine ⟨h'.1, h'.2.1, fun j u hj hu => ?_⟩
  unfold xst1 at hj
  by_cases hij : i = j
  · subst hij
    rw [List.getElem?_set] at hj
    simp only [if_true] at hj
    split at hj
    · cases hj
      exact h'.2.2 (i, xtr z b v) (by rw [← hl]; exact List.mem_cons_self)
    · cases hj
  · rw [List.getElem?_set_ne hij] at hj
    have hjj := xcl_get hj hu
    refine h'.2.2 (j, xtr z b u) ?_
    rw [← hl]
    refine List.mem_cons_of_mem _ (List.mem_filter.mpr ⟨List.mem_map.mpr ⟨(u, j), List.mem_filter.mpr ⟨List.mem_zipIdx_iff_getElem?.mpr hjj.1, by simpa using hu⟩, rfl⟩, ?_⟩)
    simp only [Bool.and_eq_true, Bool.not_eq_true', beq_eq_false_iff_ne, ne_eq, Bool.and_eq_false_iff, xtr_cat]
    refine ⟨fun q => hij q.symm, ?_⟩
    by_cases q : j + 1 = i
    · exact Or.inr (fun c => hjj.2 ⟨q, c⟩)
    · exact Or.inl q
theorem xLs_st2 {z b n : Nat} {ls : List Value} {la la' : Array Slot} {i : Nat} {v : Value} {l' : List (Nat × Value)} (h : xLs z b n ls la) (hl : (i, xtr z b v) :: ((ls.zipIdx.filter (fun q => !decide (q.1 = .null))).map (fun q => (q.2, xtr z b q.1))).filter (fun q => !(q.1 == i) && (!(q.1 == i + 1) && !(q.1 + 1 == i && q.2.category == 2))) = l') (h' : lv_has la' n l') : xLs z b n (xst2 ls i v) la' := by
  refine ⟨h'.1, h'.2.1, fun j u hj hu => ?_⟩
  unfold xst2 at hj
  by_cases hj1 : i + 1 = j
  · subst hj1
    rw [List.getElem?_set] at hj
    simp only [if_true] at hj
    split at hj
    · cases hj; exact absurd rfl hu
    · cases hj
  rw [List.getElem?_set_ne hj1] at hj
  by_cases hij : i = j
  · subst hij
    rw [List.getElem?_set] at hj
    simp only [if_true] at hj
    split at hj
    · cases hj
      exact h'.2.2 (i, xtr z b v) (by rw [← hl]; exact List.mem_cons_self)
    · cases hj
  · rw [List.getElem?_set_ne hij] at hj
    have hjj := xcl_get hj hu
    refine h'.2.2 (j, xtr z b u) ?_
    rw [← hl]
    refine List.mem_cons_of_mem _ (List.mem_filter.mpr ⟨List.mem_map.mpr ⟨(u, j), List.mem_filter.mpr ⟨List.mem_zipIdx_iff_getElem?.mpr hjj.1, by simpa using hu⟩, rfl⟩, ?_⟩)
    simp only [Bool.and_eq_true, Bool.not_eq_true', beq_eq_false_iff_ne, ne_eq, Bool.and_eq_false_iff, xtr_cat]
    refine ⟨fun q => hij q.symm, fun q => hj1 q.symm, ?_⟩
    by_cases q : j + 1 = i
    · exact Or.inr (fun c => hjj.2 ⟨q, c⟩)
    · exact Or.inl q
