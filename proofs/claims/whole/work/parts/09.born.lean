section FOUR
variable {p : Program} {l : Launch} {e : Env} {R : Room} {S : State} {m : MethodId} {args : Array Value} {below : List Frame} {meth : Method} {c : Code} {Q : State → Prop} {D : va_G} {cI cZ : ClassId} {z b n0 s0 : Nat} {row : xMi}
/-- a world with one cell more -/
def xborn (w : xW) (k : Nat × Nat) (sl : Nat) : xW := ((w.1.1 + 1, w.1.2.1 + sl, xur w.1.2.2.1 w.1.1 k, xur w.1.2.2.2 w.1.1 (fun _ => 0)), xur w.2.1 w.1.1 (fun _ => 0), xur w.2.2 w.1.1 (fun _ => 0))
theorem xws_born {w : xW} {k : Nat × Nat} {sl : Nat} {ce : va_E} (h1 : 1 ≤ w.1.1) (hce : ce = xcell cI cZ z (xborn w k sl) w.1.1) : xws cI cZ z w ++ [(z + w.1.1, ce)] = xws cI cZ z (xborn w k sl) := by
  unfold xws
  show _ = (List.range (w.1.1 + 1 - 1)).map _
  rw [show w.1.1 + 1 - 1 = (w.1.1 - 1) + 1 by omega, List.range_succ, List.map_append]
  congr 1
  · apply List.map_congr_left
    intro a ha
    have ha := List.mem_range.mp ha
    have hne : a + 1 ≠ w.1.1 := by omega
    congr 1
    exact (xcell_cong (by exact xur_ne hne) (by exact xur_ne hne) (by exact xur_ne hne) (by exact xur_ne hne)).symm
  · simp only [List.map_cons, List.map_nil]
    rw [show w.1.1 - 1 + 1 = w.1.1 by omega, hce]
/-- the new cell lies just behind -/
theorem xborn_at {w : xW} {H1 : Heap} {q : Nat} {ce : va_E} (hP : va_P D xCl (xws cI cZ z w ++ [(q, ce)]) H1) (hD : va_D (xA z) (xws cI cZ z w ++ [(q, ce)])) (h1 : 1 ≤ w.1.1) (hsz : H1.size ≤ z + w.1.1 + 1) : q = z + w.1.1 := by
  have hlen : (xws cI cZ z w).length = w.1.1 - 1 := by simp [xws]
  have e1 : (xws cI cZ z w ++ [(q, ce)])[w.1.1 - 1]? = some (q, ce) := by
    rw [List.getElem?_append_right (by omega), hlen, Nat.sub_self]; rfl
  have hlt : q < H1.size := (hP _ _ e1).lt
  have hA : z < q := hD.2 _ _ e1
  rcases Nat.lt_or_ge q (z + w.1.1) with hq | hq
  · have e2 : (xws cI cZ z w ++ [(q, ce)])[q - z - 1]? = some (z + (q - z), xcell cI cZ z w (q - z)) := by
      rw [List.getElem?_append_left (by omega)]
      exact xws_get (by omega) (by omega)
    have := hD.1 _ _ _ _ e1 e2 (by show q = z + (q - z); omega)
    omega
  · omega
theorem xborn_HR {w : xW} {H H1 : Heap} {locs locs1 : List Loc} {k : Nat × Nat} {sl : Nat} (hH : xHR D cI cZ z b S w H) (hz : z < S.heap.size) (hS : va_S (xA z) S.heap H locs) (hS1 : va_S (xA z) S.heap H1 locs1) (hk : k.1 < 12) (hP : va_P D xCl (xws cI cZ z (xborn w k sl)) H1) : xHR D cI cZ z b S (xborn w k sl) H1 := by
  have h1 := hH.1
  refine ⟨by show 1 ≤ w.1.1 + 1; omega, hH.2.1, fun a ha1 ha2 => ?_, fun a ha => ?_, hP, ?_⟩
  · by_cases h : a = w.1.1
    · subst h
      show (xur w.1.2.2.1 w.1.1 k w.1.1).1 < 12
      rw [xur_eq]; exact hk
    · show (xur w.1.2.2.1 w.1.1 k a).1 < 12
      rw [xur_ne h]
      exact hH.2.2.1 a ha1 (by have : a < w.1.1 + 1 := ha2; omega)
  · show 1 ≤ a ∧ a < w.1.1 + 1
    by_cases h : a = w.1.1
    · omega
    · have ha' : (xur w.1.2.2.1 w.1.1 k a).1 < 12 := ha
      rw [xur_ne h] at ha'
      have := hH.2.2.2.1 a ha'
      omega
  · show (xur w.1.2.2.1 w.1.1 k 0).1 = 12 → va_X b (xur w.1.2.2.1 w.1.1 k 0).2 (xur w.2.1 w.1.1 (fun _ => 0) 0) S H1
    rw [xur_ne (by omega), xur_ne (by omega)]
    exact xHR_keep (w' := w) hH hz hS hS1
theorem xnew_ok (C : xCx p R S m args meth c D cI cZ row) (hn0 : S.heap.size = z + n0) (hn1 : 1 ≤ n0) {i pl mi pc x y : Nat} {ls st : List Value} {w : xW} (hnw : n0 ≤ w.1.1) (hsw : s0 ≤ w.1.2.1) (hroom : w.1.1 + 1 ≤ n0 + R.cells ∧ w.1.2.1 + y ≤ s0 + R.slots) (hd : decode row.2.1 pc = .ok (.new i, 3)) (hck : xckN row i x y pl = true)
    (hk : xWt p l e R S m args below meth c Q D cI cZ z b n0 s0 row (mi, pc + 3, ls, .ref w.1.1 :: st, xborn w (x, 0) y)) : xWt p l e R S m args below meth c Q D cI cZ z b n0 s0 row (mi, pc, ls, st, w) := by
  obtain ⟨hx, hb, hr, hml, hown, hts, hnw', hlk, hin, hK, hfr, hlo⟩ := C
  intro H locs la hH hS hL
  have hH : xHR D cI cZ z b S w H := hH
  have hL : xLs z b row.2.2.1 ls la := hL
  unfold xckN at hck
  cases hq : xCl[x]? with
  | none => rw [hq] at hck; cases hck
  | some q =>
    rw [hq] at hck
    simp only [Bool.and_eq_true, decide_eq_true_eq, beq_iff_eq] at hck
    obtain ⟨hy, hlink⟩ := hck
    obtain ⟨C, T, N⟩ := q
    obtain ⟨c1, c2, c3, c4, c5, c6, c7, c8⟩ := xcls x _ hq
    dsimp only at hy hlink c6 c4 c7
    subst hy
    have h1 := hH.1
    have hce : (Sum.inr (x, (List.range N).map (fun k => xfld z (xborn w (x, 0) N) w.1.1 k (xTy x k))) : va_E) = xcell cI cZ z (xborn w (x, 0) N) w.1.1 := by
      rw [xcell_obj (x := x) (by show (xur w.1.2.2.1 w.1.1 (x, 0) w.1.1).1 = x; rw [xur_eq]) c8, c6]
    show W p l e R S m args below meth c H locs (w.1.1 - n0) (w.1.2.1 - s0) Q (F0 m pc la (List.map (xtr z b) st))
    refine va_new (T := T) (N := N) (ci := x) (fs := (List.range N).map (fun k => xfld z (xborn w (x, 0) N) w.1.1 k (xTy x k))) hx hb hts c1 (xTy x) c2 hown (hts _ (xgw_of hlink rfl)) (hts _ c4) (hts _ c5) hK hH.2.2.2.2.1 xws_D hS (fun q hq => by show z < q; omega) hq ?_ (by omega) (by omega) hd (fun q H1 hP1 hD1 hS1 => W_size (fun hsz => ?_))
    · intro j hj
      unfold vp_V
      rw [List.getD_eq_getElem?_getD, xfields_get hj]
      have ht := c7 j hj
      show defaultValue (xTy x j) = xfld z (xborn w (x, 0) N) w.1.1 j (xTy x j)
      unfold xfld
      have e1 : (xborn w (x, 0) N).2.1 w.1.1 j = 0 := congrFun (xur_eq (v := fun _ => _)) j
      have e2 : (xborn w (x, 0) N).2.2 w.1.1 j = 0 := congrFun (xur_eq (v := fun _ => _)) j
      have e3 : (xborn w (x, 0) N).1.2.2.2 w.1.1 j = 0 := congrFun (xur_eq (v := fun _ => _)) j
      simp only [e1, e2, e3]
      revert ht
      cases xTy x j <;> intro ht <;> first | rfl | cases ht
    · have hq' := xborn_at hP1 hD1 h1 (by omega)
      subst hq'
      rw [xws_born h1 hce] at hP1
      have k1 := hk H1 locs la (xborn_HR hH (by omega) hS hS1 (by show x < 12; omega) hP1) hS1 hL
      have k2 : W p l e R S m args below meth c H1 locs (w.1.1 + 1 - n0) (w.1.2.1 + N - s0) Q (F0 m (pc + 3) la (xtr z b (.ref w.1.1) :: List.map (xtr z b) st)) := k1
      rw [xtr_ref (by omega), show w.1.1 + 1 - n0 = w.1.1 - n0 + 1 by omega, show w.1.2.1 + N - s0 = w.1.2.1 - s0 + N by omega] at k2
      exact k2
theorem xnewa_ok (C : xCx p R S m args meth c D cI cZ row) (hn0 : S.heap.size = z + n0) (hn1 : 1 ≤ n0) {t : ArrayType} {ty : FieldType} {cA : ClassId} {tag mi pc : Nat} {i : Int32} {ls st : List Value} {w : xW} (ht : (t = .int ∧ ty = .int ∧ tag = 11 ∧ cA = cI) ∨ (t = .boolean ∧ ty = .boolean ∧ tag = 10 ∧ cA = cZ)) (hi : ¬ i < 0) (hi2 : i.toNatClampNeg ≤ 100000) (hnw : n0 ≤ w.1.1) (hsw : s0 ≤ w.1.2.1) (hroom : w.1.1 + 1 ≤ n0 + R.cells ∧ w.1.2.1 + i.toNatClampNeg ≤ s0 + R.slots) (hd : decode row.2.1 pc = .ok (.newarray t, 2))
    (hk : xWt p l e R S m args below meth c Q D cI cZ z b n0 s0 row (mi, pc + 2, ls, .ref w.1.1 :: st, xborn w (tag, i.toNatClampNeg) i.toNatClampNeg)) : xWt p l e R S m args below meth c Q D cI cZ z b n0 s0 row (mi, pc, ls, .int i :: st, w) := by
  obtain ⟨hx, hb, hr, hml, hown, hts, hnw', hlk, hin, hK, hfr, hlo⟩ := C
  intro H locs la hH hS hL
  have hH : xHR D cI cZ z b S w H := hH
  have hL : xLs z b row.2.2.1 ls la := hL
  have h1 := hH.1
  have hty : newarray.typeOf t = ty := by rcases ht with ⟨rfl, rfl, -⟩ | ⟨rfl, rfl, -⟩ <;> rfl
  have harr : (Cond.arrayClass (newarray.typeOf t)).before args S = true := by
    rw [hty]
    rcases ht with ⟨-, rfl, -⟩ | ⟨-, rfl, -⟩
    · exact hts _ xarrI
    · exact hts _ xarrZ
  have htag : tag < 12 := by rcases ht with ⟨-, -, rfl, -⟩ | ⟨-, -, rfl, -⟩ <;> decide
  have hce : (Sum.inl (cA, i.toNatClampNeg, Sum.inl (fun _ => (0 : Int32))) : va_E) = xcell cI cZ z (xborn w (tag, i.toNatClampNeg) i.toNatClampNeg) w.1.1 := by
    have e0 : (xborn w (tag, i.toNatClampNeg) i.toNatClampNeg).1.2.2.1 w.1.1 = (tag, i.toNatClampNeg) := by show xur _ _ _ _ = _; rw [xur_eq]
    have e1 : (xborn w (tag, i.toNatClampNeg) i.toNatClampNeg).2.1 w.1.1 = fun _ => 0 := by show xur _ _ _ _ = _; rw [xur_eq]
    rcases ht with ⟨-, -, rfl, rfl⟩ | ⟨-, -, rfl, rfl⟩
    · rw [xcell_I (by rw [e0]), e0, e1]
    · rw [xcell_Z (by rw [e0]), e0, e1]
  show W p l e R S m args below meth c H locs (w.1.1 - n0) (w.1.2.1 - s0) Q (F0 m pc la (.int i :: List.map (xtr z b) st))
  refine va_newa (N' := i.toNatClampNeg) (a0 := (i.toNatClampNeg, Sum.inl (fun _ => (0 : Int32)))) hx hb harr hty hK hH.2.2.2.2.1 xws_D hS (fun q hq => by show z < q; omega) (fun cA => by rcases ht with ⟨-, rfl, -⟩ | ⟨-, rfl, -⟩ <;> rfl) hi rfl (by
    have hcb : componentBytes ty ≤ 4 := by rcases ht with ⟨-, rfl, -⟩ | ⟨-, rfl, -⟩ <;> decide
    calc i.toNatClampNeg * componentBytes ty ≤ 100000 * 4 := Nat.mul_le_mul hi2 hcb
      _ ≤ 536870912 := by decide) (by omega) (by omega) hd (fun q cB H1 hK1 hP1 hD1 hS1 => W_size (fun hsz => ?_))
  have hcc : cB = cA := by
    have h3 := (hK1.2 2 (cB, ty) rfl).2
    rcases ht with ⟨-, rfl, -, rfl⟩ | ⟨-, rfl, -, rfl⟩
    · have h4 := (hK.2 0 _ rfl).2
      exact Option.some.inj ((show S.vm.findClass _ = some cB from h3).symm.trans h4)
    · have h4 := (hK.2 1 _ rfl).2
      exact Option.some.inj ((show S.vm.findClass _ = some cB from h3).symm.trans h4)
  subst hcc
  have hq' := xborn_at hP1 hD1 h1 (by omega)
  subst hq'
  rw [xws_born h1 hce] at hP1
  have k1 := hk H1 locs la (xborn_HR hH (by omega) hS hS1 htag hP1) hS1 hL
  have k2 : W p l e R S m args below meth c H1 locs (w.1.1 + 1 - n0) (w.1.2.1 + i.toNatClampNeg - s0) Q (F0 m (pc + 2) la (xtr z b (.ref w.1.1) :: List.map (xtr z b) st)) := k1
  rw [xtr_ref (by omega), show w.1.1 + 1 - n0 = w.1.1 - n0 + 1 by omega, show w.1.2.1 + i.toNatClampNeg - s0 = w.1.2.1 - s0 + i.toNatClampNeg by omega] at k2
  exact k2
end FOUR
