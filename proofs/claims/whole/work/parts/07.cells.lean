theorem map_range_set {α : Type} {N y : Nat} {f f' : Nat → α} {v : α} (hy : f' y = v) (ho : ∀ k, k ≠ y → f' k = f k) : ((List.range N).map f).set y v = (List.range N).map f' := by
  apply List.ext_getElem?
  intro k
  by_cases hk : y = k
  · subst hk
    by_cases hl : y < N
    · rw [List.getElem?_set_self (by simpa using hl), List.getElem?_map, List.getElem?_range hl]
      simp [hy]
    · rw [List.getElem?_eq_none (by simp; omega), List.getElem?_eq_none (by simp; omega)]
  · rw [List.getElem?_set_ne hk, List.getElem?_map, List.getElem?_map]
    by_cases hl : k < N
    · rw [List.getElem?_range hl]
      simp [ho k (Ne.symm hk)]
    · rw [List.getElem?_eq_none (by simp; omega)]
      rfl
def xtok (t : FieldType) : Bool := match t with
  | .int => true | .long => true | .object _ => true | .array _ => true
  | _ => false
theorem xin0 : (u_ws "BaredCurtain$History" TX0 3).all (fun w => decide (w ∈ lw_tbl) && goodWord w) = true := by decide +kernel
theorem xin1 : (u_ws "BaredCurtain$House" TX1 7).all (fun w => decide (w ∈ lw_tbl) && goodWord w) = true := by decide +kernel
theorem xin2 : (u_ws "BaredCurtain$Images" TX2 3).all (fun w => decide (w ∈ lw_tbl) && goodWord w) = true := by decide +kernel
theorem xin3 : (u_ws "BaredCurtain$Notes" TX3 6).all (fun w => decide (w ∈ lw_tbl) && goodWord w) = true := by decide +kernel
theorem xin4 : (u_ws "BaredCurtain$Placing" TX4 5).all (fun w => decide (w ∈ lw_tbl) && goodWord w) = true := by decide +kernel
theorem xin5 : (u_ws "BaredCurtain$Reader" TX5 9).all (fun w => decide (w ∈ lw_tbl) && goodWord w) = true := by decide +kernel
theorem xin6 : (u_ws "BaredCurtain$Scene" TX6 1).all (fun w => decide (w ∈ lw_tbl) && goodWord w) = true := by decide +kernel
theorem xin7 : (u_ws "BaredCurtain$Sewing" TX7 4).all (fun w => decide (w ∈ lw_tbl) && goodWord w) = true := by decide +kernel
theorem xin8 : (u_ws "BaredCurtain" TX8 11).all (fun w => decide (w ∈ lw_tbl) && goodWord w) = true := by decide +kernel
theorem xin9 : (u_ws "BaredCurtainModel" TX9 26).all (fun w => decide (w ∈ lw_tbl) && goodWord w) = true := by decide +kernel
theorem xin_of {ws : List Cond} (h : ws.all (fun w => decide (w ∈ lw_tbl) && goodWord w) = true) : ∀ w ∈ ws, w ∈ xgw := by
  intro w hw
  have h1 := List.all_eq_true.mp h w hw
  simp only [Bool.and_eq_true, decide_eq_true_eq] at h1
  exact List.mem_filter.mpr h1
theorem xin_one {w : Cond} (h : (decide (w ∈ lw_tbl) && goodWord w) = true) : w ∈ xgw := by
  simp only [Bool.and_eq_true, decide_eq_true_eq] at h
  exact List.mem_filter.mpr h
def xClOk (x : Nat) (q : vw_C) : Prop := (∀ w ∈ u_ws q.1 q.2.1 q.2.2, w ∈ xgw) ∧ (∀ k, k < q.2.2 → parseFieldDescriptor (q.2.1 k).2.2.1 = some (xTy x k)) ∧ (∀ a, a < q.2.2 → ∀ b, b < q.2.2 → a ≠ b → (q.2.1 a).2.1 ≠ (q.2.1 b).2.1) ∧ Cond.instantiable q.1 q.2.2 ∈ xgw ∧ Cond.initialized q.1 ∈ xgw ∧ xNf x = q.2.2 ∧ (∀ k, k < q.2.2 → xtok (xTy x k) = true) ∧ x < 10
theorem xcls (x : Nat) (q : vw_C) (h : xCl[x]? = some q) : xClOk x q := by
  match x, h with
  | 0, h => cases h; exact ⟨xin_of xin0, tyX0_ok, nmX0, xin_one (by decide +kernel), xin_one (by decide +kernel), rfl, by decide +kernel, by decide⟩
  | 1, h => cases h; exact ⟨xin_of xin1, tyX1_ok, nmX1, xin_one (by decide +kernel), xin_one (by decide +kernel), rfl, by decide +kernel, by decide⟩
  | 2, h => cases h; exact ⟨xin_of xin2, tyX2_ok, nmX2, xin_one (by decide +kernel), xin_one (by decide +kernel), rfl, by decide +kernel, by decide⟩
  | 3, h => cases h; exact ⟨xin_of xin3, tyX3_ok, nmX3, xin_one (by decide +kernel), xin_one (by decide +kernel), rfl, by decide +kernel, by decide⟩
  | 4, h => cases h; exact ⟨xin_of xin4, tyX4_ok, nmX4, xin_one (by decide +kernel), xin_one (by decide +kernel), rfl, by decide +kernel, by decide⟩
  | 5, h => cases h; exact ⟨xin_of xin5, tyX5_ok, nmX5, xin_one (by decide +kernel), xin_one (by decide +kernel), rfl, by decide +kernel, by decide⟩
  | 6, h => cases h; exact ⟨xin_of xin6, tyX6_ok, nmX6, xin_one (by decide +kernel), xin_one (by decide +kernel), rfl, by decide +kernel, by decide⟩
  | 7, h => cases h; exact ⟨xin_of xin7, tyX7_ok, nmX7, xin_one (by decide +kernel), xin_one (by decide +kernel), rfl, by decide +kernel, by decide⟩
  | 8, h => cases h; exact ⟨xin_of xin8, tyX8_ok, nmX8, xin_one (by decide +kernel), xin_one (by decide +kernel), rfl, by decide +kernel, by decide⟩
  | 9, h => cases h; exact ⟨xin_of xin9, tyX9_ok, nmX9, xin_one (by decide +kernel), xin_one (by decide +kernel), rfl, by decide +kernel, by decide⟩
  | x + 10, h => simp [xCl] at h
theorem xarrI : Cond.arrayClass .int ∈ xgw := xin_one (by decide +kernel)
theorem xarrZ : Cond.arrayClass .boolean ∈ xgw := xin_one (by decide +kernel)
theorem xcell_obj {cI cZ : ClassId} {z : Nat} {w : xW} {a x : Nat} (h : (w.1.2.2.1 a).1 = x) (h10 : x < 10) : xcell cI cZ z w a = .inr (x, (List.range (xNf x)).map (fun k => xfld z w a k (xTy x k))) := by
  unfold xcell
  rw [h, if_neg (by omega), if_neg (by omega)]
theorem xcell_I {cI cZ : ClassId} {z : Nat} {w : xW} {a : Nat} (h : (w.1.2.2.1 a).1 = 11) : xcell cI cZ z w a = .inl (cI, (w.1.2.2.1 a).2, .inl (w.2.1 a)) := by
  unfold xcell
  rw [h, if_neg (by omega), if_pos rfl]
theorem xcell_Z {cI cZ : ClassId} {z : Nat} {w : xW} {a : Nat} (h : (w.1.2.2.1 a).1 = 10) : xcell cI cZ z w a = .inl (cZ, (w.1.2.2.1 a).2, .inl (w.2.1 a)) := by
  unfold xcell
  rw [h, if_pos rfl]
theorem xcell_cong {cI cZ : ClassId} {z : Nat} {w w' : xW} {a : Nat} (hK : w'.1.2.2.1 a = w.1.2.2.1 a) (hM : w'.2.1 a = w.2.1 a) (hJ : w'.2.2 a = w.2.2 a) (hR : w'.1.2.2.2 a = w.1.2.2.2 a) : xcell cI cZ z w' a = xcell cI cZ z w a := by
  unfold xcell xfld
  rw [hK, hM, hJ, hR]
theorem xu_ne {α : Type} {M : Nat → Nat → α} {a a' i : Nat} {v : α} (h : a' ≠ a) : xu M a i v a' = M a' := by
  funext i'
  unfold xu
  rw [if_neg (fun q => h q.1)]
theorem xur_ne {α : Type} {M : Nat → α} {a a' : Nat} {v : α} (h : a' ≠ a) : xur M a v a' = M a' := by
  unfold xur
  rw [if_neg h]
theorem xur_eq {α : Type} {M : Nat → α} {a : Nat} {v : α} : xur M a v a = v := by
  unfold xur
  rw [if_pos rfl]
theorem xu_eq {α : Type} {M : Nat → Nat → α} {a i : Nat} {v : α} : xu M a i v a = fun j => if j = i then v else M a j := by
  funext j
  unfold xu
  by_cases h : j = i <;> simp [h]
theorem xu_at {α : Type} {M : Nat → Nat → α} {a i : Nat} {v : α} : xu M a i v a i = v := by rw [xu_eq]; simp
theorem xu_off {α : Type} {M : Nat → Nat → α} {a i j : Nat} {v : α} (h : j ≠ i) : xu M a i v a j = M a j := by rw [xu_eq]; simp [h]
section SZ
variable {p : Program} {l : Launch} {e : Env} {R : Room} {S : State} {m : MethodId} {args : Array Value} {below : List Frame} {meth : Method} {c : Code} {Q : State → Prop} {D : va_G} {cI cZ : ClassId} {z b n0 s0 : Nat} {row : xMi}
theorem W_size {H : Heap} {locs : List Loc} {cells slots : Nat} {g : JFrame} (k : H.size ≤ S.heap.size + cells → W p l e R S m args below meth c H locs cells slots Q g) : W p l e R S m args below meth c H locs cells slots Q g := fun T hT X => k (by
  have h := X.same.2.2.1
  rw [← hT]
  exact h) T hT X
theorem xHR_keep {w w' : xW} {H H1 : Heap} {locs locs1 : List Loc} (h : xHR D cI cZ z b S w H) (hz : z < S.heap.size) (hS : va_S (xA z) S.heap H locs) (hS1 : va_S (xA z) S.heap H1 locs1) : (w.1.2.2.1 0).1 = 12 → va_X b (w.1.2.2.1 0).2 (w.2.1 0) S H1 := by
  intro h0
  have hb := h.2.1
  refine (h.2.2.2.2.2 h0).kept ?_
  rw [hS1.2.1 b (by omega) (by show ¬ z < b; omega), hS.2.1 b (by omega) (by show ¬ z < b; omega)]
theorem xHR_put {w w' : xW} {H H1 : Heap} {locs locs1 : List Loc} (h : xHR D cI cZ z b S w H) (hz : z < S.heap.size) (hS : va_S (xA z) S.heap H locs) (hS1 : va_S (xA z) S.heap H1 locs1) (hn : w'.1.1 = w.1.1) (hKe : w'.1.2.2.1 = w.1.2.2.1) (h0 : w'.2.1 0 = w.2.1 0) (hP : va_P D xCl (xws cI cZ z w') H1) : xHR D cI cZ z b S w' H1 := by
  refine ⟨by rw [hn]; exact h.1, h.2.1, ?_, ?_, hP, ?_⟩
  · rw [hn, hKe]; exact h.2.2.1
  · rw [hn, hKe]; exact h.2.2.2.1
  · rw [hKe, h0]; exact xHR_keep (w' := w) h hz hS hS1
end SZ
