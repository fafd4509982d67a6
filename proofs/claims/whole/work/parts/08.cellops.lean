section THREE
variable {p : Program} {l : Launch} {e : Env} {R : Room} {S : State} {m : MethodId} {args : Array Value} {below : List Frame} {meth : Method} {c : Code} {Q : State → Prop} {D : va_G} {cI cZ : ClassId} {z b n0 s0 : Nat} {row : xMi}
def xckF (row : xMi) (i x y zt pl : Nat) : Bool := match xCl[x]? with
  | none => false
  | some q => decide (y < q.2.2) && (decide (lw_tbl[pl]? = some (.fieldLink row.1.cls i (q.2.1 y).1 (q.2.1 y).2.1 (q.2.1 y).2.2.1)) && (match xTy x y with
    | .int => zt == 0
    | .long => zt == 2
    | .object _ => zt == 1
    | .array _ => zt == 1
    | _ => false))
def xckP (row : xMi) (x y : Nat) : Bool := match xCl[x]? with
  | none => false
  | some q => !(q.2.1 y).2.2.2 || (row.1.name == "<init>" && decide ((q.2.1 y).1 = row.1.cls))
def xckN (row : xMi) (i x y pl : Nat) : Bool := match xCl[x]? with
  | none => false
  | some q => q.2.2 == y && decide (lw_tbl[pl]? = some (.classLink row.1.cls i q.1))
def xck4 (row : xMi) (ins : Instr) (x y zt pl : Nat) : Bool := match ins with
  | .getfield i => xckF row i x y zt pl
  | .putfield i => xckF row i x y zt pl && xckP row x y
  | .new i => xckN row i x y pl
  | _ => true
theorem xfields_get {w : xW} {a x y N : Nat} (h : y < N) : ((List.range N).map (fun k => xfld z w a k (xTy x k)))[y]? = some (xfld z w a y (xTy x y)) := by
  rw [List.getElem?_map, List.getElem?_range h]; rfl
theorem xget_ok (C : xCx p R S m args meth c D cI cZ row) {i x y zt pl mi pc a : Nat} {ls st : List Value} {w : xW} (hd : decode row.2.1 pc = .ok (.getfield i, 3)) (hck : xckF row i x y zt pl = true) (hKa : (w.1.2.2.1 a).1 = x)
    (hk : xWt p l e R S m args below meth c Q D cI cZ z b n0 s0 row (xgs zt mi pc ls st w a y)) : xWt p l e R S m args below meth c Q D cI cZ z b n0 s0 row (mi, pc, ls, .ref a :: st, w) := by
  obtain ⟨hx, hb, hr, hml, hown, hts, hnw, hlk, hin, hK, hfr, hlo⟩ := C
  intro H locs la hH hS hL
  unfold xckF at hck
  cases hq : xCl[x]? with
  | none => rw [hq] at hck; cases hck
  | some q =>
    rw [hq] at hck
    simp only [Bool.and_eq_true, decide_eq_true_eq] at hck
    obtain ⟨hy, hlink, hty⟩ := hck
    obtain ⟨C, T, N⟩ := q
    obtain ⟨c1, c2, c3, c4, c5, c6, c7, c8⟩ := xcls x _ hq
    dsimp only at hy hlink c6
    have ha := hH.2.2.2.1 a (by rw [hKa]; omega)
    have he := xws_get (cI := cI) (cZ := cZ) (z := z) (w := w) ha.1 ha.2
    rw [xcell_obj hKa c8, c6] at he
    show W p l e R S m args below meth c H locs (w.1.1 - n0) (w.1.2.1 - s0) Q (F0 m pc la (xtr z b (.ref a) :: List.map (xtr z b) st))
    rw [xtr_ref (by omega)]
    refine va_get (T := T) (N := N) hx hb hts c1 hown hK hH.2.2.2.2.1 (a - 1) he hq y hy (hts _ (xgw_of hlink rfl)) (fun _ h => h) (xfields_get hy) hd ?_
    cases ht : xTy x y with
    | int =>
      rw [ht] at hty
      have : zt = 0 := by simpa using hty
      subst this
      exact hk H locs la hH hS hL
    | long =>
      rw [ht] at hty
      have : zt = 2 := by simpa using hty
      subst this
      exact hk H locs la hH hS hL
    | object o =>
      rw [ht] at hty
      have : zt = 1 := by simpa using hty
      subst this
      exact hk H locs la hH hS hL
    | array o =>
      rw [ht] at hty
      have : zt = 1 := by simpa using hty
      subst this
      exact hk H locs la hH hS hL
    | _ => rw [ht] at hty; cases hty
/-- putting a value v, which is v2 in the machine, into a field -/
theorem xput_ok (C : xCx p R S m args meth c D cI cZ row) (hz : z < S.heap.size) {i x y pl mi pc a : Nat} {ls st : List Value} {w w' : xW} {v : Value} (hd : decode row.2.1 pc = .ok (.putfield i, 3)) {zt : Nat} (hck : xckF row i x y zt pl = true) (hckP : xckP row x y = true) (hKa : (w.1.2.2.1 a).1 = x)
    (hn : w'.1.1 = w.1.1) (hsl : w'.1.2.1 = w.1.2.1) (hKe : w'.1.2.2.1 = w.1.2.2.1) (ho : ∀ a', a' ≠ a → w'.2.1 a' = w.2.1 a' ∧ w'.2.2 a' = w.2.2 a' ∧ w'.1.2.2.2 a' = w.1.2.2.2 a') (hf : ∀ k, k ≠ y → ∀ t, xfld z w' a k t = xfld z w a k t) (hv : xfld z w' a y (xTy x y) = xtr z b v) (hnar : narrow (xTy x y) (xtr z b v) = xtr z b v) (hfit : fits (xTy x y) (xtr z b v) = true)
    (hk : xWt p l e R S m args below meth c Q D cI cZ z b n0 s0 row (mi, pc + 3, ls, st, w')) : xWt p l e R S m args below meth c Q D cI cZ z b n0 s0 row (mi, pc, ls, v :: .ref a :: st, w) := by
  obtain ⟨hx, hb, hr, hml, hown, hts, hnw, hlk, hin, hK, hfr, hlo⟩ := C
  intro H locs la hH hS hL
  unfold xckF at hck
  unfold xckP at hckP
  cases hq : xCl[x]? with
  | none => rw [hq] at hck; cases hck
  | some q =>
    rw [hq] at hck hckP
    simp only [Bool.and_eq_true, decide_eq_true_eq] at hck
    obtain ⟨hy, hlink, hty⟩ := hck
    obtain ⟨C, T, N⟩ := q
    obtain ⟨c1, c2, c3, c4, c5, c6, c7, c8⟩ := xcls x _ hq
    dsimp only at hy hlink c6 hckP
    have ha := hH.2.2.2.1 a (by rw [hKa]; omega)
    have he := xws_get (cI := cI) (cZ := cZ) (z := z) (w := w) ha.1 ha.2
    rw [xcell_obj hKa c8, c6] at he
    have hset : (xws cI cZ z w).set (a - 1) (z + a, .inr (x, ((List.range N).map (fun k => xfld z w a k (xTy x k))).set y (xtr z b v))) = xws cI cZ z w' := by
      refine xws_set hn ha.1 ha.2 ?_ ?_
      · rw [xcell_obj (w := w') (by rw [hKe]; exact hKa) c8, c6]
        rw [map_range_set (f' := fun k => xfld z w' a k (xTy x k)) hv (fun k hk => hf k hk _)]
      · intro a' h'
        obtain ⟨o1, o2, o3⟩ := ho a' h'
        exact xcell_cong (by rw [hKe]) o1 o2 o3
    have hgo : ∀ (H1 : Heap) (locs1 : List Loc), va_P D xCl ((xws cI cZ z w).set (a - 1) (z + a, .inr (x, ((List.range N).map (fun k => xfld z w a k (xTy x k))).set y (xtr z b v)))) H1 → va_D (xA z) ((xws cI cZ z w).set (a - 1) (z + a, .inr (x, ((List.range N).map (fun k => xfld z w a k (xTy x k))).set y (xtr z b v)))) → va_S (xA z) S.heap H1 locs1 → W p l e R S m args below meth c H1 locs1 (w.1.1 - n0) (w.1.2.1 - s0) Q (F0 m (pc + 3) la (List.map (xtr z b) st)) := by
      intro H1 locs1 hP1 _ hS1
      rw [hset] at hP1
      have k1 := hk H1 locs1 la (xHR_put hH hz hS hS1 hn hKe (by
        by_cases h0 : a = 0
        · omega
        · exact (ho 0 (Ne.symm h0)).1) hP1) hS1 hL
      dsimp only at k1
      rw [hn, hsl] at k1
      exact k1
    show W p l e R S m args below meth c H locs (w.1.1 - n0) (w.1.2.1 - s0) Q (F0 m pc la (xtr z b v :: xtr z b (.ref a) :: List.map (xtr z b) st))
    rw [xtr_ref (by omega)]
    simp only [Bool.or_eq_true, Bool.and_eq_true, Bool.not_eq_true', beq_iff_eq, decide_eq_true_eq] at hckP
    cases hfin : (T y).2.2.2 with
    | false => exact va_put (T := T) (N := N) hx hb hts c1 (xTy x) c2 c3 hown hK hH.2.2.2.2.1 xws_D hS (a - 1) he hq y hy (hts _ (xgw_of hlink rfl)) (fun _ h => h) hfin (c2 y hy) hnar hfit (by simpa using hy) hd hgo
    | true =>
      rcases hckP with h | ⟨h1, h2⟩
      · rw [hfin] at h; cases h
      · exact va_putF (T := T) (N := N) hx hb hts c1 (xTy x) c2 c3 hown hK hH.2.2.2.2.1 xws_D hS (a - 1) he hq y hy (hts _ (xgw_of hlink rfl)) (fun _ h => h) hfin (hin h1) h2 (c2 y hy) hnar hfit (by simpa using hy) hd hgo
/-- changing an array -/
theorem xarr_go {mi pc' a i : Nat} {ls st : List Value} {w : xW} {v : Int32} {H H1 : Heap} {locs locs1 : List Loc} {la : Array Slot} {ce : va_E} (hz : z < S.heap.size) (hH : xHR D cI cZ z b S w H) (hS : va_S (xA z) S.heap H locs) (hL : xLs z b row.2.2.1 ls la) (ha : (w.1.2.2.1 a).1 < 12) (hce : ce = xcell cI cZ z (w.1, xu w.2.1 a i v, w.2.2) a)
    (hP1 : va_P D xCl ((xws cI cZ z w).set (a - 1) (z + a, ce)) H1) (hS1 : va_S (xA z) S.heap H1 locs1) (hk : xWt p l e R S m args below meth c Q D cI cZ z b n0 s0 row (mi, pc', ls, st, (w.1, xu w.2.1 a i v, w.2.2))) : W p l e R S m args below meth c H1 locs1 (w.1.1 - n0) (w.1.2.1 - s0) Q (F0 m pc' la (List.map (xtr z b) st)) := by
  have h1 := hH.2.2.2.1 a ha
  rw [xws_set (w := w) (w' := (w.1, xu w.2.1 a i v, w.2.2)) rfl h1.1 h1.2 hce (fun a' h' => xcell_cong rfl (xu_ne h') rfl rfl)] at hP1
  exact hk H1 locs1 la (xHR_put hH hz hS hS1 rfl rfl (xu_ne (by omega)) hP1) hS1 hL
theorem upd_xu {M : Nat → Nat → Int32} {a i : Nat} {v : Int32} : upd (M a) i v = xu M a i v a := by
  rw [xu_eq]
  funext j
  by_cases h : j = i <;> simp [upd, h]
theorem xin_vp {i : Int32} {n : Nat} : xin i n = true ↔ vp_in i n := by
  unfold xin vp_in
  simp
theorem xOn_t {T : xSt → Prop} {cc : Bool} {s1 : xSt} (h : xOn T (cc, s1, none)) : cc = true ∧ T s1 := by
  cases cc with
  | true => exact ⟨rfl, h.1 rfl⟩
  | false => obtain ⟨s2, h2, -⟩ := h.2 rfl; cases h2
theorem xop4_ok (C : xCx p R S m args meth c D cI cZ row) (hz : z < S.heap.size) {ins : Instr} {len pl mi pc x y zt : Nat} {ls st : List Value} {w : xW} {q : Bool × xSt × Option xSt} (hno : ∀ i, ins ≠ .new i) (hno2 : ∀ t, ins ≠ .newarray t) (hd : decode row.2.1 pc = .ok (ins, len)) (hln : xln ins len) (hck : xck4 row ins x y zt pl = true) (h : xop4 ins x y zt mi pc ls st w = some (.inl q))
    (hk : xOn (xWt p l e R S m args below meth c Q D cI cZ z b n0 s0 row) q) : xWt p l e R S m args below meth c Q D cI cZ z b n0 s0 row (mi, pc, ls, st, w) := by
  have hC := C
  obtain ⟨hx, hb, hr, hml, hown, hts, hnw, hlk, hin, hK, hfr, hlo⟩ := C
  unfold xop4 at h
  split at h
  all_goals (try (cases h; done))
  all_goals (simp only [xln] at hln)
  all_goals (try subst hln)
  all_goals (simp only [xck4] at hck)
  case h_1 i =>
    split at h
    · rename_i a st'
      cases h
      obtain ⟨g1, g2⟩ := xOn_t hk
      exact xget_ok hC hd hck (of_decide_eq_true g1) g2
    · cases h
  case h_2 i =>
    simp only [Bool.and_eq_true] at hck
    have hqx : ∃ q, xCl[x]? = some q := by
      have := hck.1
      unfold xckF at this
      cases hq : xCl[x]? with
      | none => rw [hq] at this; cases this
      | some q => exact ⟨q, rfl⟩
    have hty : (match xTy x y with | .int => zt == 0 | .long => zt == 2 | .object _ => zt == 1 | .array _ => zt == 1 | _ => false) = true := by
      obtain ⟨q, hq⟩ := hqx
      have := hck.1
      unfold xckF at this
      rw [hq] at this
      simp only [Bool.and_eq_true] at this
      exact this.2.2
    split at h
    · rename_i v a st'
      cases h
      obtain ⟨g1, g2⟩ := xOn_t hk
      have e1 : xTy x y = .int := by
        revert hty; cases xTy x y <;> simp
      refine xput_ok (v := .int v) (w' := (w.1, xu w.2.1 a y v, w.2.2)) hC hz hd hck.1 hck.2 (of_decide_eq_true g1) rfl rfl rfl (fun a' h' => ⟨xu_ne h', rfl, rfl⟩) (fun k hk t => ?_) ?_ (by rw [e1]; rfl) (by rw [e1]; rfl) g2
      · unfold xfld; dsimp only; simp only [xu_off hk]
      · rw [e1]; show Value.int (xu w.2.1 a y v a y) = Value.int v; rw [xu_at]
    · rename_i v a st'
      cases h
      obtain ⟨g1, g2⟩ := xOn_t hk
      have e1 : (∃ o, xTy x y = .object o) ∨ ∃ o, xTy x y = .array o := by
        revert hty; cases xTy x y <;> simp
      refine xput_ok (v := .ref v) (w' := ((w.1.1, w.1.2.1, w.1.2.2.1, xu w.1.2.2.2 a y v), w.2.1, w.2.2)) hC hz hd hck.1 hck.2 (of_decide_eq_true g1) rfl rfl rfl (fun a' h' => ⟨rfl, rfl, xu_ne h'⟩) (fun k hk t => ?_) ?_ ?_ ?_ g2
      · unfold xfld; dsimp only; simp only [xu_off hk]
      · rcases e1 with ⟨o, e1⟩ | ⟨o, e1⟩ <;> (rw [e1]; show (if xu w.1.2.2.2 a y v a y = 0 then Value.null else Value.ref (z + xu w.1.2.2.2 a y v a y)) = (if v = 0 then _ else _); rw [xu_at])
      · rcases e1 with ⟨o, e1⟩ | ⟨o, e1⟩ <;> (rw [e1]; show narrow _ (if v = 0 then _ else _) = (if v = 0 then _ else _); split <;> rfl)
      · rcases e1 with ⟨o, e1⟩ | ⟨o, e1⟩ <;> (rw [e1]; show fits _ (if v = 0 then _ else _) = true; split <;> rfl)
    · rename_i v a st'
      cases h
      obtain ⟨g1, g2⟩ := xOn_t hk
      have e1 : xTy x y = .long := by
        revert hty; cases xTy x y <;> simp
      refine xput_ok (v := .long v) (w' := (w.1, w.2.1, xu w.2.2 a y v)) hC hz hd hck.1 hck.2 (of_decide_eq_true g1) rfl rfl rfl (fun a' h' => ⟨rfl, xu_ne h', rfl⟩) (fun k hk t => ?_) ?_ (by rw [e1]; rfl) (by rw [e1]; rfl) g2
      · unfold xfld; dsimp only; simp only [xu_off hk]
      · rw [e1]; show Value.long (xu w.2.2 a y v a y) = Value.long v; rw [xu_at]
    · cases h
  case h_3 =>
    split at h
    · rename_i i a st'
      cases h
      obtain ⟨g1, g2⟩ := xOn_t hk
      simp only [Bool.and_eq_true, decide_eq_true_eq] at g1
      intro H locs la hH hS hL
      have ha := hH.2.2.2.1 a (by rw [g1.1]; decide)
      have he := xws_get (cI := cI) (cZ := cZ) (z := z) (w := w) ha.1 ha.2
      rw [xcell_I g1.1] at he
      show W p l e R S m args below meth c H locs (w.1.1 - n0) (w.1.2.1 - s0) Q (F0 m pc la (.int i :: xtr z b (.ref a) :: List.map (xtr z b) st'))
      rw [xtr_ref (by omega)]
      exact va_iald hx hb hK hH.2.2.2.2.1 (a - 1) 0 he rfl (xin_vp.mp g1.2) hd (g2 H locs la hH hS hL)
    · rename_i i a st'
      cases h
      obtain ⟨g1, g2⟩ := xOn_t hk
      simp only [Bool.and_eq_true, decide_eq_true_eq] at g1
      intro H locs la hH hS hL
      obtain ⟨scr, e1, e2, e3, e4, e5⟩ := hH.2.2.2.2.2 g1.1
      have hv := xin_vp.mp g1.2
      refine W.iald hx hb e1 e2 e3 (by rw [e4]; exact hv) (e5 _ ?_) rfl rfl hd (g2 H locs la hH hS hL)
      unfold vp_in at hv
      show i.toNatClampNeg < (w.1.2.2.1 0).2
      omega
    · cases h
  case h_4 =>
    split at h
    · rename_i v i a st'
      cases h
      obtain ⟨g1, g2⟩ := xOn_t hk
      simp only [Bool.and_eq_true, decide_eq_true_eq] at g1
      intro H locs la hH hS hL
      have ha := hH.2.2.2.1 a (by rw [g1.1]; decide)
      have he := xws_get (cI := cI) (cZ := cZ) (z := z) (w := w) ha.1 ha.2
      rw [xcell_I g1.1] at he
      show W p l e R S m args below meth c H locs (w.1.1 - n0) (w.1.2.1 - s0) Q (F0 m pc la (.int v :: .int i :: xtr z b (.ref a) :: List.map (xtr z b) st'))
      rw [xtr_ref (by omega)]
      refine va_iast hx hb hK hH.2.2.2.2.1 xws_D hS (a - 1) 0 he rfl (xin_vp.mp g1.2) hd (fun H1 locs1 hP1 _ hS1 => xarr_go hz hH hS hL (by rw [g1.1]; decide) ?_ hP1 hS1 g2)
      rw [xcell_I (w := (w.1, xu w.2.1 a i.toNatClampNeg v, w.2.2)) g1.1, upd_xu]
    · cases h
  case h_5 =>
    split at h
    · rename_i i a st'
      cases h
      obtain ⟨g1, g2⟩ := xOn_t hk
      simp only [Bool.and_eq_true, decide_eq_true_eq] at g1
      intro H locs la hH hS hL
      have ha := hH.2.2.2.1 a (by rw [g1.1]; decide)
      have he := xws_get (cI := cI) (cZ := cZ) (z := z) (w := w) ha.1 ha.2
      rw [xcell_Z g1.1] at he
      show W p l e R S m args below meth c H locs (w.1.1 - n0) (w.1.2.1 - s0) Q (F0 m pc la (.int i :: xtr z b (.ref a) :: List.map (xtr z b) st'))
      rw [xtr_ref (by omega)]
      exact va_zald hx hb hK hH.2.2.2.2.1 (a - 1) 1 he rfl (xin_vp.mp g1.2) hd (g2 H locs la hH hS hL)
    · cases h
  case h_6 =>
    split at h
    · rename_i v i a st'
      cases h
      obtain ⟨g1, g2⟩ := xOn_t hk
      simp only [Bool.and_eq_true, decide_eq_true_eq] at g1
      intro H locs la hH hS hL
      have ha := hH.2.2.2.1 a (by rw [g1.1]; decide)
      have he := xws_get (cI := cI) (cZ := cZ) (z := z) (w := w) ha.1 ha.2
      rw [xcell_Z g1.1] at he
      show W p l e R S m args below meth c H locs (w.1.1 - n0) (w.1.2.1 - s0) Q (F0 m pc la (.int v :: .int i :: xtr z b (.ref a) :: List.map (xtr z b) st'))
      rw [xtr_ref (by omega)]
      refine va_zast hx hb hK hH.2.2.2.2.1 xws_D hS (a - 1) 1 he rfl (xin_vp.mp g1.2) hd (fun H1 locs1 hP1 _ hS1 => xarr_go hz hH hS hL (by rw [g1.1]; decide) ?_ hP1 hS1 g2)
      rw [xcell_Z (w := (w.1, xu w.2.1 a i.toNatClampNeg (v &&& 1), w.2.2)) g1.1, upd_xu]
      rfl
    · cases h
  case h_7 =>
    split at h
    · rename_i a st'
      cases h
      obtain ⟨g1, g2⟩ := xOn_t hk
      simp only [decide_eq_true_eq] at g1
      intro H locs la hH hS hL
      have ha := hH.2.2.2.1 a (by rw [g1]; decide)
      have he := xws_get (cI := cI) (cZ := cZ) (z := z) (w := w) ha.1 ha.2
      rw [xcell_I g1] at he
      show W p l e R S m args below meth c H locs (w.1.1 - n0) (w.1.2.1 - s0) Q (F0 m pc la (xtr z b (.ref a) :: List.map (xtr z b) st'))
      rw [xtr_ref (by omega)]
      exact va_alen hx hb hK hH.2.2.2.2.1 (a - 1) 0 he rfl rfl hd (g2 H locs la hH hS hL)
    · rename_i a st'
      cases h
      obtain ⟨g1, g2⟩ := xOn_t hk
      simp only [decide_eq_true_eq] at g1
      intro H locs la hH hS hL
      obtain ⟨scr, e1, e2, e3, e4, e5⟩ := hH.2.2.2.2.2 g1
      exact W.alen (n := Int32.ofNat (w.1.2.2.1 0).2) hx hb e1 e2 (by rw [e4]) rfl rfl hd (g2 H locs la hH hS hL)
    · cases h
  case h_8 i => exact absurd rfl (hno i)
  case h_9 t => exact absurd rfl (hno2 t)
end THREE
