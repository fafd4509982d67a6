section TWO
variable {p : Program} {l : Launch} {e : Env} {R : Room} {S : State} {m : MethodId} {args : Array Value} {below : List Frame} {meth : Method} {c : Code} {Q : State → Prop} {D : va_G} {cI cZ : ClassId} {z b n0 s0 : Nat} {row : xMi}
def xck3 (row : xMi) (ins : Instr) (pc x u : Nat) (sw : List (Int32 × Nat)) : Bool := match ins with
  | .goto off => decide (0 ≤ (pc : Int) + off)
  | .ifCond _ off => decide (0 ≤ (pc : Int) + off)
  | .if_icmp _ off => decide (0 ≤ (pc : Int) + off)
  | .tableswitch dflt lo hi offs => decide ((pc : Int) + dflt = (u : Int)) && (sw.all (fun q => decide (lo ≤ q.1.toInt) && (decide (q.1.toInt ≤ hi) && decide (offs[(q.1.toInt - lo).toNat]? = some ((q.2 : Int) - (pc : Int))))) && (List.range (hi - lo + 1).toNat).all (fun j => sw.any (fun q => decide (q.1.toInt = lo + (j : Int)))))
  | .lookupswitch dflt ps => decide ((pc : Int) + dflt = (u : Int)) && (decide (ps.toList = sw.map (fun q => (q.1.toInt, (q.2 : Int) - (pc : Int)))) && (ps.toList.zip (ps.toList.drop 1)).all (fun q => decide (q.1.1 < q.2.1)))
  | .ireturn => (x == 0 && decide (row.2.2.2.1 = some .int)) || (x == 1 && decide (row.2.2.2.1 = some .boolean))
  | .return_ => decide (row.2.2.2.1 = none)
  | _ => true
theorem xOn_no {T : xSt → Prop} {cc : Bool} {s1 s2 : xSt} (h : xOn T (cc, s1, some s2)) (hc : cc = false) : T s2 := by
  obtain ⟨s3, h1, h2⟩ := h.2 hc
  cases h1
  exact h2
theorem xtg_eq {pc : Nat} {off : Int} (h : 0 ≤ (pc : Int) + off) : (pc : Int) + off = (xtg pc off : Nat) := by unfold xtg; omega
theorem xop3_ok (C : xCx p R S m args meth c D cI cZ row) {ins : Instr} {len mi pc x u : Nat} {sw : List (Int32 × Nat)} {ls st : List Value} {w : xW} {q : Bool × xSt × Option xSt} (hd : decode row.2.1 pc = .ok (ins, len)) (hln : xln ins len) (hck : xck3 row ins pc x u sw = true) (h : xop3 ins x u sw mi pc ls st w = some (.inl q))
    (hk : xOn (xWt p l e R S m args below meth c Q D cI cZ z b n0 s0 row) q) : xWt p l e R S m args below meth c Q D cI cZ z b n0 s0 row (mi, pc, ls, st, w) := by
  obtain ⟨hx, hb, hr, hml, hown, hts, hnw, hlk, hin, hK, hfr, hlo⟩ := C
  intro H locs la hH hS hL
  unfold xop3 at h
  split at h
  all_goals (try (cases h; done))
  all_goals (simp only [xln] at hln)
  all_goals (try subst hln)
  all_goals (simp only [xck3] at hck)
  case h_1 off =>
    cases h
    exact lv_goto hx hb hd (xtg_eq (of_decide_eq_true hck)) (hk.1 rfl H locs la hH hS hL)
  case h_2 cc off =>
    have ht := xtg_eq (of_decide_eq_true hck)
    split at h
    · rename_i a st'
      cases h
      have k1 : xcond cc a 0 = true → _ := fun q => hk.1 q H locs la hH hS hL
      have k2 : xcond cc a 0 = false → _ := fun q => xOn_no hk q H locs la hH hS hL
      cases cc
      · exact lv_if_eq hx hb hd ht (fun q => k1 (by simp [xcond, q])) (fun q => k2 (by simp [xcond, q]))
      · exact lv_if_ne hx hb hd ht (fun q => k1 (by simp [xcond, q])) (fun q => k2 (by simp [xcond, q]))
      · exact lv_if_lt hx hb hd ht (fun q => k1 (by simp [xcond, q])) (fun q => k2 (decide_eq_false q))
      · exact lv_if_ge hx hb hd ht (fun q => k1 (by simp [xcond, q])) (fun q => k2 (decide_eq_false q))
      · exact lv_if_gt hx hb hd ht (fun q => k1 (by simp [xcond, q])) (fun q => k2 (decide_eq_false q))
      · exact lv_if_le hx hb hd ht (fun q => k1 (by simp [xcond, q])) (fun q => k2 (decide_eq_false q))
    · cases h
  case h_3 cc off =>
    have ht := xtg_eq (of_decide_eq_true hck)
    split at h
    · rename_i a2 a st'
      cases h
      have k1 : xcond cc a a2 = true → _ := fun q => hk.1 q H locs la hH hS hL
      have k2 : xcond cc a a2 = false → _ := fun q => xOn_no hk q H locs la hH hS hL
      cases cc
      · exact lv_icmp_eq hx hb hd ht (fun q => k1 (by simp [xcond, q])) (fun q => k2 (by simp [xcond, q]))
      · exact lv_icmp_ne hx hb hd ht (fun q => k1 (by simp [xcond, q])) (fun q => k2 (by simp [xcond, q]))
      · exact lv_icmp_lt hx hb hd ht (fun q => k1 (by simp [xcond, q])) (fun q => k2 (decide_eq_false q))
      · exact lv_icmp_ge hx hb hd ht (fun q => k1 (by simp [xcond, q])) (fun q => k2 (decide_eq_false q))
      · exact lv_icmp_gt hx hb hd ht (fun q => k1 (by simp [xcond, q])) (fun q => k2 (decide_eq_false q))
      · exact lv_icmp_le hx hb hd ht (fun q => k1 (by simp [xcond, q])) (fun q => k2 (decide_eq_false q))
    · cases h
  case h_4 =>
    split at h <;> cases h
  case h_5 =>
    split at h <;> cases h
  case h_6 =>
    split at h <;> cases h
  case h_7 =>
    split at h <;> cases h
theorem xpick_of {a : Int32} {f : Int32 × Nat → xSt} {d : xSt} : ∀ (sw : List (Int32 × Nat)), (∃ q ∈ sw, a = q.1 ∧ xpick a (sw.map (fun q => (q.1, f q))) d = f q) ∨ ((∀ q ∈ sw, ¬ a = q.1) ∧ xpick a (sw.map (fun q => (q.1, f q))) d = d)
  | [] => Or.inr ⟨fun q hq => (by cases hq), rfl⟩
  | q :: sw => by
    by_cases hq : a = q.1
    · refine Or.inl ⟨q, List.mem_cons_self, hq, ?_⟩
      show (if a = q.1 then f q else _) = _
      rw [if_pos hq]
    · have e1 : xpick a ((q :: sw).map (fun q => (q.1, f q))) d = xpick a (sw.map (fun q => (q.1, f q))) d := by
        show (if a = q.1 then f q else _) = _
        rw [if_neg hq]
      rw [e1]
      rcases xpick_of (a := a) (f := f) (d := d) sw with ⟨q2, h1, h2, h3⟩ | ⟨h1, h2⟩
      · exact Or.inl ⟨q2, List.mem_cons_of_mem _ h1, h2, h3⟩
      · exact Or.inr ⟨fun q3 h3 => by
          rcases List.mem_cons.mp h3 with rfl | h4
          · exact hq
          · exact h1 q3 h4, h2⟩
theorem xlook {a : Int32} {f : Int32 × Nat → xSt} {mi pc u : Nat} {ls st : List Value} {w : xW} {dflt : Int} (hu : (pc : Int) + dflt = (u : Int)) (hf : ∀ q, f q = (mi, q.2, ls, st, w)) : ∀ (sw : List (Int32 × Nat)), ∃ (off : Int) (tgt : Nat), Op.lookupswitch.offset (sw.map (fun q => (q.1.toInt, (q.2 : Int) - (pc : Int)))) dflt a.toInt = off ∧ (pc : Int) + off = (tgt : Int) ∧ xpick a (sw.map (fun q => (q.1, f q))) (mi, u, ls, st, w) = (mi, tgt, ls, st, w)
  | [] => ⟨dflt, u, by simp [Op.lookupswitch.offset], hu, rfl⟩
  | q :: sw => by
    by_cases hq : a = q.1
    · refine ⟨(q.2 : Int) - (pc : Int), q.2, ?_, by omega, ?_⟩
      · rw [List.map_cons, Op.lookupswitch.offset_cons, if_pos (by rw [hq])]
      · show (if a = q.1 then f q else _) = _
        rw [if_pos hq, hf]
    · obtain ⟨off, tgt, h1, h2, h3⟩ := xlook (a := a) hu hf sw
      refine ⟨off, tgt, ?_, h2, ?_⟩
      · rw [List.map_cons, lv_osw hq rfl]; exact h1
      · show (if a = q.1 then f q else _) = _
        rw [if_neg hq]; exact h3
theorem xop3_sw (C : xCx p R S m args meth c D cI cZ row) {ins : Instr} {len mi pc x u : Nat} {sw : List (Int32 × Nat)} {ls st : List Value} {w : xW} {q : Int32 × List (Int32 × xSt) × xSt} (hd : decode row.2.1 pc = .ok (ins, len)) (hck : xck3 row ins pc x u sw = true) (h : xop3 ins x u sw mi pc ls st w = some (.inr (.inr (.inr q))))
    (hk : xWt p l e R S m args below meth c Q D cI cZ z b n0 s0 row (xpick q.1 q.2.1 q.2.2)) : xWt p l e R S m args below meth c Q D cI cZ z b n0 s0 row (mi, pc, ls, st, w) := by
  obtain ⟨hx, hb, hr, hml, hown, hts, hnw, hlk, hin, hK, hfr, hlo⟩ := C
  intro H locs la hH hS hL
  unfold xop3 at h
  split at h
  all_goals (try (cases h; done))
  all_goals (simp only [xck3] at hck)
  case h_2 => split at h <;> cases h
  case h_3 => split at h <;> cases h
  case h_6 => split at h <;> cases h
  case h_7 => split at h <;> cases h
  case h_4 dflt lo hi offs =>
    simp only [Bool.and_eq_true, decide_eq_true_eq, List.all_eq_true, List.any_eq_true] at hck
    obtain ⟨hu, h1, h2⟩ := hck
    split at h
    · rename_i a st'
      cases h
      rcases xpick_of (a := a) (f := fun q => (mi, q.2, ls, st', w)) (d := (mi, u, ls, st', w)) sw with ⟨q, hq, ha, e1⟩ | ⟨hq, e1⟩
      · have k1 := hk H locs la
        simp only at k1
        rw [e1] at k1
        obtain ⟨g1, g2, g3⟩ := h1 q hq
        show W p l e R S m args below meth c H locs (w.1.1 - n0) (w.1.2.1 - s0) Q (F0 m pc la (List.map (xtr z b) (.int a :: st')))
        refine lv_tableIn (off := (q.2 : Int) - (pc : Int)) (tgt := q.2) hx hb hd (by rw [ha]; omega) (by rw [ha]; omega) (by rw [ha]; exact g3) (by omega) (k1 hH hS hL)
      · have k1 := hk H locs la
        simp only at k1
        rw [e1] at k1
        refine lv_tableOut hx hb hd ?_ hu (k1 hH hS hL)
        by_cases c1 : a.toInt < lo
        · exact Or.inl c1
        · by_cases c2 : hi < a.toInt
          · exact Or.inr c2
          · obtain ⟨q, hq1, hq2⟩ := h2 (a.toInt - lo).toNat (List.mem_range.mpr (by omega))
            exact absurd (Int32.toInt_inj.mp (by omega)) (hq q hq1)
    · cases h
  case h_5 dflt ps =>
    simp only [Bool.and_eq_true, decide_eq_true_eq] at hck
    obtain ⟨hu, h1, h2⟩ := hck
    split at h
    · rename_i a st'
      cases h
      obtain ⟨off, tgt, g1, g2, g3⟩ := xlook (a := a) (f := fun q => (mi, q.2, ls, st', w)) (mi := mi) (ls := ls) (st := st') (w := w) hu (fun _ => rfl) sw
      have k1 := hk H locs la
      simp only at k1
      rw [g3] at k1
      exact lv_lookup hx hb hd h2 (by rw [h1]; exact g1) g2 (k1 hH hS hL)
    · cases h
/-- where a method's run comes to its answer -/
def xRt (p : Program) (l : Launch) (e : Env) (R : Room) (S : State) (m : MethodId) (args : Array Value) (below : List Frame) (meth : Method) (c : Code) (Q : State → Prop) (D : va_G) (cI cZ : ClassId) (z b n0 s0 : Nat) (row : xMi) (r : xR) : Prop :=
  ∀ (H : Heap) (locs : List Loc) (pc : Nat) (la : Array Slot), xHR D cI cZ z b S r.2 H → va_S (xA z) S.heap H locs → (match r.1 with
    | some (.int a) => decode row.2.1 pc = .ok (.ireturn, 1) ∧ ∃ ty, row.2.2.2.1 = some ty ∧ narrow ty (.int a) = .int a
    | some _ => False
    | none => decode row.2.1 pc = .ok (.return_, 1) ∧ row.2.2.2.1 = none) → W p l e R S m args below meth c H locs (r.2.1.1 - n0) (r.2.1.2.1 - s0) Q (F0 m pc la (r.1.toList.map (xtr z b)))
theorem xop3_ret (C : xCx p R S m args meth c D cI cZ row) {ins : Instr} {len mi pc x u : Nat} {sw : List (Int32 × Nat)} {ls st : List Value} {w : xW} {r : xR} (hd : decode row.2.1 pc = .ok (ins, len)) (hln : xln ins len) (hck : xck3 row ins pc x u sw = true) (h : xop3 ins x u sw mi pc ls st w = some (.inr (.inl (true, r))))
    (hk : xRt p l e R S m args below meth c Q D cI cZ z b n0 s0 row r) : xWt p l e R S m args below meth c Q D cI cZ z b n0 s0 row (mi, pc, ls, st, w) := by
  intro H locs la hH hS hL
  unfold xop3 at h
  split at h
  all_goals (try (cases h; done))
  all_goals (simp only [xln] at hln)
  all_goals (try subst hln)
  all_goals (simp only [xck3] at hck)
  case h_2 => split at h <;> cases h
  case h_3 => split at h <;> cases h
  case h_4 => split at h <;> cases h
  case h_5 => split at h <;> cases h
  case h_6 =>
    split at h
    · rename_i a
      simp only [Option.some.injEq, Sum.inr.injEq, Sum.inl.injEq, Prod.mk.injEq] at h
      obtain ⟨h1, rfl⟩ := h
      refine hk H locs pc la hH hS ⟨hd, ?_⟩
      simp only [Bool.or_eq_true, Bool.and_eq_true, beq_iff_eq, decide_eq_true_eq] at hck h1
      rcases hck with ⟨-, g⟩ | ⟨g1, g⟩
      · exact ⟨_, g, rfl⟩
      · refine ⟨_, g, ?_⟩
        rcases h1 with h1 | h1
        · omega
        · show Value.int (a &&& 1) = .int a
          rw [h1]
    · cases h
  case h_7 =>
    split at h
    · cases h
      exact hk H locs pc la hH hS ⟨hd, of_decide_eq_true hck⟩
    · cases h
end TWO
