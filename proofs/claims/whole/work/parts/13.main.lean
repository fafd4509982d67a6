theorem xfind_of {t : List xE} {pc : Nat} {e : xE} (h : xfind t pc = some e) : e ∈ t ∧ e.1 = pc := by
  induction t with
  | nil => cases h
  | cons a t ih =>
    unfold xfind at h
    cases hb : Nat.beq a.1 pc with
    | true =>
      rw [hb, cond_true] at h
      cases h
      exact ⟨List.mem_cons_self, Nat.eq_of_beq_eq_true hb⟩
    | false =>
      rw [hb, cond_false] at h
      exact ⟨List.mem_cons_of_mem _ (ih h).1, (ih h).2⟩
/-- a step keeps to its method, and cells only come -/
def xMo (mi : Nat) (w : xW) (s : xSt) : Prop := s.1 = mi ∧ w.1.1 ≤ s.2.2.2.2.1.1 ∧ w.1.2.1 ≤ s.2.2.2.2.1.2.1
def xMq (mi : Nat) (w : xW) (q : Bool × xSt × Option xSt) : Prop := xMo mi w q.2.1 ∧ ∀ s2, q.2.2 = some s2 → xMo mi w s2
theorem xMq_t {mi : Nat} {w : xW} {c : Bool} {s : xSt} (h : xMo mi w s) : xMq mi w (c, s, none) := ⟨h, fun s2 h2 => by cases h2⟩
theorem xMo_r {mi pc : Nat} {w : xW} {ls st : List Value} : xMo mi w (mi, pc, ls, st, w) := ⟨rfl, Nat.le_refl _, Nat.le_refl _⟩
theorem xop1_mo {ins : Instr} {v : Value} {mi pc : Nat} {ls st : List Value} {w : xW} {q : Bool × xSt × Option xSt} (h : xop1 ins v mi pc ls st w = some (.inl q)) : xMq mi w q := by
  unfold xop1 xnext xg at h
  split at h
  all_goals (try (split at h))
  all_goals (first | (cases h; done) | (cases h; exact xMq_t xMo_r))
theorem xop2_mo {ins : Instr} {mi pc : Nat} {ls st : List Value} {w : xW} {q : Bool × xSt × Option xSt} (h : xop2 ins mi pc ls st w = some (.inl q)) : xMq mi w q := by
  unfold xop2 xnext xg at h
  split at h
  all_goals (try (split at h))
  all_goals (first | (cases h; done) | (cases h; exact xMq_t xMo_r))
theorem xop3_mo {ins : Instr} {x u mi pc : Nat} {sw : List (Int32 × Nat)} {ls st : List Value} {w : xW} {q : Bool × xSt × Option xSt} (h : xop3 ins x u sw mi pc ls st w = some (.inl q)) : xMq mi w q := by
  unfold xop3 xnext xbr at h
  split at h
  all_goals (try (split at h))
  all_goals (first | (cases h; done) | (cases h; exact xMq_t xMo_r) | (cases h; exact ⟨xMo_r, fun s2 h2 => by cases h2; exact xMo_r⟩))
theorem xop3_mosw {ins : Instr} {x u mi pc : Nat} {sw : List (Int32 × Nat)} {ls st : List Value} {w : xW} {q : Int32 × List (Int32 × xSt) × xSt} (h : xop3 ins x u sw mi pc ls st w = some (.inr (.inr (.inr q)))) : xMo mi w (xpick q.1 q.2.1 q.2.2) := by
  unfold xop3 xnext xbr at h
  split at h
  all_goals (try (split at h))
  all_goals (first | (cases h; done) | skip)
  all_goals (
    rename_i a st'
    cases h
    rcases xpick_of (a := a) (f := fun q => (mi, q.2, ls, st', w)) (d := (mi, u, ls, st', w)) sw with ⟨q, hq, ha, e1⟩ | ⟨hq, e1⟩
    · dsimp only; rw [e1]; exact xMo_r
    · dsimp only; rw [e1]; exact xMo_r)
theorem xop3_mor {ins : Instr} {x u mi pc : Nat} {sw : List (Int32 × Nat)} {ls st : List Value} {w : xW} {q : Bool × xR} (h : xop3 ins x u sw mi pc ls st w = some (.inr (.inl q))) : q.2.2 = w := by
  unfold xop3 xnext xbr at h
  split at h
  all_goals (try (split at h))
  all_goals (first | (cases h; done) | (cases h; rfl))
theorem xgs_mo {zt mi pc a y : Nat} {ls st : List Value} {w : xW} : xMo mi w (xgs zt mi pc ls st w a y) := by
  unfold xgs
  split <;> exact xMo_r
theorem xop4_mo {ins : Instr} {x y z mi pc : Nat} {ls st : List Value} {w : xW} {q : Bool × xSt × Option xSt} (h : xop4 ins x y z mi pc ls st w = some (.inl q)) : xMq mi w q := by
  unfold xop4 xnext xg at h
  split at h
  all_goals (try (split at h))
  all_goals (first | (cases h; done) | (cases h; exact xMq_t xMo_r) | (cases h; exact xMq_t xgs_mo) | (cases h; exact xMq_t ⟨rfl, Nat.le_refl _, Nat.le_refl _⟩) | (cases h; exact xMq_t ⟨rfl, Nat.le_succ _, Nat.le_add_right _ _⟩))
theorem xop5_mo {ins : Instr} {x y z u mi pc : Nat} {ls st : List Value} {w : xW} {q : Bool × xSt × Option xSt} (h : xop5 ins x y z u mi pc ls st w = some (.inl q)) : xMq mi w q := by
  unfold xop5 xg xcall at h
  split at h
  · split at h <;> cases h
  · cases hx9 : (x == 999) with
    | true =>
      rw [hx9, cond_true] at h
      split at h
      · cases h; exact xMq_t xMo_r
      · cases h
    | false =>
      rw [hx9, cond_false] at h
      split at h <;> cases h
  · cases hx9 : (x == 999) with
    | true =>
      rw [hx9, cond_true] at h
      split at h
      · cases h; exact xMq_t ⟨rfl, Nat.le_refl _, Nat.le_refl _⟩
      · cases h
    | false =>
      rw [hx9, cond_false] at h
      cases hx7 : (x == 997) with
      | true =>
        rw [hx7, cond_true] at h
        split at h
        · cases h; exact xMq_t xMo_r
        · cases h
      | false =>
        rw [hx7, cond_false] at h
        cases hx8 : (x == 998) with
        | true =>
          rw [hx8, cond_true] at h
          split at h
          · cases h; exact xMq_t xMo_r
          · cases h
        | false =>
          rw [hx8, cond_false] at h
          cases h
  · cases h
theorem xop5_moc {ins : Instr} {x y z u mi pc : Nat} {ls st : List Value} {w : xW} {q : Bool × xSt × (Nat × Nat × List Value × List Value)} (h : xop5 ins x y z u mi pc ls st w = some (.inr (.inr (.inl q)))) : q.2.1.2.2.2.2 = w ∧ q.2.2.1 = mi := by
  unfold xop5 xg xcall at h
  split at h
  · split at h
    · cases h; exact ⟨rfl, rfl⟩
    · cases h
  · cases hx9 : (x == 999) with
    | true =>
      rw [hx9, cond_true] at h
      split at h <;> cases h
    | false =>
      rw [hx9, cond_false] at h
      split at h
      · cases h; exact ⟨rfl, rfl⟩
      · cases h
  · cases hx9 : (x == 999) with
    | true =>
      rw [hx9, cond_true] at h
      split at h <;> cases h
    | false =>
      rw [hx9, cond_false] at h
      cases hx7 : (x == 997) with
      | true =>
        rw [hx7, cond_true] at h
        split at h <;> cases h
      | false =>
        rw [hx7, cond_false] at h
        cases hx8 : (x == 998) with
        | true =>
          rw [hx8, cond_true] at h
          split at h <;> cases h
        | false =>
          rw [hx8, cond_false] at h
          cases h; exact ⟨rfl, rfl⟩
  · cases h
theorem xop1_only {ins : Instr} {v : Value} {mi pc : Nat} {ls st : List Value} {w : xW} {a : xAct} (h : xop1 ins v mi pc ls st w = some a) : ∃ q, a = .inl q := by
  unfold xop1 xnext xg at h
  split at h
  all_goals (try (split at h))
  all_goals (first | (cases h; done) | (cases h; exact ⟨_, rfl⟩))
theorem xop2_only {ins : Instr} {mi pc : Nat} {ls st : List Value} {w : xW} {a : xAct} (h : xop2 ins mi pc ls st w = some a) : ∃ q, a = .inl q := by
  unfold xop2 xnext xg at h
  split at h
  all_goals (try (split at h))
  all_goals (first | (cases h; done) | (cases h; exact ⟨_, rfl⟩))
theorem xop4_only {ins : Instr} {x y z mi pc : Nat} {ls st : List Value} {w : xW} {a : xAct} (h : xop4 ins x y z mi pc ls st w = some a) : ∃ q, a = .inl q := by
  unfold xop4 xnext xg at h
  split at h
  all_goals (try (split at h))
  all_goals (first | (cases h; done) | (cases h; exact ⟨_, rfl⟩))
theorem xop3_noc {ins : Instr} {x u mi pc : Nat} {sw : List (Int32 × Nat)} {ls st : List Value} {w : xW} {q : Bool × xSt × (Nat × Nat × List Value × List Value)} (h : xop3 ins x u sw mi pc ls st w = some (.inr (.inr (.inl q)))) : False := by
  unfold xop3 xnext xbr at h
  split at h
  all_goals (try (split at h))
  all_goals (cases h)
theorem xop5_nor {ins : Instr} {x y z u mi pc : Nat} {ls st : List Value} {w : xW} {a : xAct} (h : xop5 ins x y z u mi pc ls st w = some a) : (∃ q, a = .inl q) ∨ ∃ q, a = .inr (.inr (.inl q)) := by
  unfold xop5 xg xcall at h
  split at h
  · split at h
    · cases h; exact Or.inr ⟨_, rfl⟩
    · cases h
  · cases hx9 : (x == 999) with
    | true =>
      rw [hx9, cond_true] at h
      split at h
      · cases h; exact Or.inl ⟨_, rfl⟩
      · cases h
    | false =>
      rw [hx9, cond_false] at h
      split at h
      · cases h; exact Or.inr ⟨_, rfl⟩
      · cases h
  · cases hx9 : (x == 999) with
    | true =>
      rw [hx9, cond_true] at h
      split at h
      · cases h; exact Or.inl ⟨_, rfl⟩
      · cases h
    | false =>
      rw [hx9, cond_false] at h
      cases hx7 : (x == 997) with
      | true =>
        rw [hx7, cond_true] at h
        split at h
        · cases h; exact Or.inl ⟨_, rfl⟩
        · cases h
      | false =>
        rw [hx7, cond_false] at h
        cases hx8 : (x == 998) with
        | true =>
          rw [hx8, cond_true] at h
          split at h
          · cases h; exact Or.inl ⟨_, rfl⟩
          · cases h
        | false =>
          rw [hx8, cond_false] at h
          cases h; exact Or.inr ⟨_, rfl⟩
  · cases h
theorem xexe_mo {e : xE} {mi pc : Nat} {ls st : List Value} {w : xW} {q : Bool × xSt × Option xSt} (h : xexe e mi pc ls st w = some (.inl q)) : xMq mi w q := by
  unfold xexe at h
  split at h
  · exact xop1_mo h
  · exact xop2_mo h
  · exact xop3_mo h
  · exact xop4_mo h
  · exact xop5_mo h
  · cases h
section MAIN
variable {p : Program} {l : Launch} {e : Env} {R : Room} {S : State} {m : MethodId} {args : Array Value} {below : List Frame} {meth : Method} {c : Code} {Q : State → Prop} {D : va_G} {cI cZ : ClassId} {z b n0 s0 : Nat} {row : xMi}
theorem xexe_inl (C : xCx p R S m args meth c D cI cZ row) (hn0 : S.heap.size = z + n0) (hn1 : 1 ≤ n0) {en : xE} {mi pc : Nat} {ls st : List Value} {w : xW} {q : Bool × xSt × Option xSt} (hnw : n0 ≤ w.1.1) (hsw : s0 ≤ w.1.2.1) (hce : w.1.1 ≤ n0 + R.cells ∧ w.1.2.1 ≤ s0 + R.slots) (hce2 : q.1 = true → q.2.1.2.2.2.2.1.1 ≤ n0 + R.cells ∧ q.2.1.2.2.2.2.1.2.1 ≤ s0 + R.slots) (he : xckE row en = true) (hpc : en.1 = pc) (h : xexe en mi pc ls st w = some (.inl q))
    (hk : xOn (xWt p l e R S m args below meth c Q D cI cZ z b n0 s0 row) q) : xWt p l e R S m args below meth c Q D cI cZ z b n0 s0 row (mi, pc, ls, st, w) := by
  unfold xckE at he
  simp only [Bool.and_eq_true, decide_eq_true_eq] at he
  obtain ⟨hd, hln, k1, k3, k4, k5⟩ := he
  rw [hpc] at hd k3
  have hln := xln_of hln
  unfold xexe at h
  split at h
  · exact xop1_ok C hd hln k1 h hk
  · exact xop2_ok C hd hln h hk
  · exact xop3_ok C hd hln k3 h hk
  · by_cases hw1 : ∃ i, en.2.1 = .new i
    · obtain ⟨i, hi⟩ := hw1
      rw [hi] at hd hln k4 h
      simp only [xln] at hln
      rw [hln] at hd
      simp only [xop4, xnext, Option.some.injEq, Sum.inl.injEq] at h
      subst h
      exact xnew_ok C hn0 hn1 hnw hsw (hce2 rfl) hd k4 (hk.1 rfl)
    · by_cases hw2 : ∃ t, en.2.1 = .newarray t
      · obtain ⟨t, ht⟩ := hw2
        rw [ht] at hd hln h
        simp only [xln] at hln
        rw [hln] at hd
        simp only [xop4, xg] at h
        split at h
        · rename_i i st'
          simp only [Option.some.injEq, Sum.inl.injEq] at h
          subst h
          obtain ⟨g1, g2⟩ := xOn_t hk
          have hce2 := hce2 g1
          simp only [Bool.and_eq_true, Bool.or_eq_true, Bool.not_eq_true', decide_eq_false_iff_not, decide_eq_true_eq, beq_iff_eq] at g1
          obtain ⟨⟨i1, i2⟩, i3⟩ := g1
          have ht2 : t = .int ∨ t = .boolean := by
            rcases i3 with i3 | i3
            · exact Or.inl (by cases t <;> first | rfl | cases i3)
            · exact Or.inr (by cases t <;> first | rfl | cases i3)
          rcases ht2 with rfl | rfl
          · exact xnewa_ok (tag := 11) (ty := .int) (cA := cI) C hn0 hn1 (Or.inl ⟨rfl, rfl, rfl, rfl⟩) i1 i2 hnw hsw hce2 hd g2
          · exact xnewa_ok (tag := 10) (ty := .boolean) (cA := cZ) C hn0 hn1 (Or.inr ⟨rfl, rfl, rfl, rfl⟩) i1 i2 hnw hsw hce2 hd g2
        · cases h
      · exact xop4_ok C (by omega) (fun i q => hw1 ⟨i, q⟩) (fun t q => hw2 ⟨t, q⟩) hd hln k4 h hk
  · exact xop5_ok C (by omega) (by omega) hd hln k5 h hk
  · cases h
theorem xexe_call (C : xCx p R S m args meth c D cI cZ row) (hn0 : S.heap.size = z + n0) (hn1 : 1 ≤ n0) {en : xE} {mi pc : Nat} {ls st : List Value} {w : xW} {s1 : xSt} {k : Nat × Nat × List Value × List Value} {r : xR} (hnw : n0 ≤ w.1.1) (hsw : s0 ≤ w.1.2.1) (he : xckE row en = true) (hpc : en.1 = pc) (h : xexe en mi pc ls st w = some (.inr (.inr (.inl (true, s1, k)))))
    (hs : xSnd s1 r) (hroom : r.2.1.1 ≤ n0 + R.cells ∧ r.2.1.2.1 ≤ s0 + R.slots) (hk : xWt p l e R S m args below meth c Q D cI cZ z b n0 s0 row (k.1, k.2.1, k.2.2.1, r.1.toList ++ k.2.2.2, r.2)) : xWt p l e R S m args below meth c Q D cI cZ z b n0 s0 row (mi, pc, ls, st, w) := by
  unfold xckE at he
  simp only [Bool.and_eq_true, decide_eq_true_eq] at he
  obtain ⟨hd, hln, k1, k3, k4, k5⟩ := he
  rw [hpc] at hd k3
  have hln := xln_of hln
  unfold xexe at h
  split at h
  · obtain ⟨q, hq⟩ := xop1_only h; cases hq
  · obtain ⟨q, hq⟩ := xop2_only h; cases hq
  · exact (xop3_noc h).elim
  · obtain ⟨q, hq⟩ := xop4_only h; cases hq
  · exact xop5_call C hn0 hn1 hnw hsw hd hln k5 h hs hroom hk
  · cases h
theorem xexe_ret (C : xCx p R S m args meth c D cI cZ row) {en : xE} {mi pc : Nat} {ls st : List Value} {w : xW} {r : xR} (he : xckE row en = true) (hpc : en.1 = pc) (h : xexe en mi pc ls st w = some (.inr (.inl (true, r))))
    (hk : xRt p l e R S m args below meth c Q D cI cZ z b n0 s0 row r) : xWt p l e R S m args below meth c Q D cI cZ z b n0 s0 row (mi, pc, ls, st, w) := by
  unfold xckE at he
  simp only [Bool.and_eq_true, decide_eq_true_eq] at he
  obtain ⟨hd, hln, k1, k3, k4, k5⟩ := he
  rw [hpc] at hd k3
  have hln := xln_of hln
  unfold xexe at h
  split at h
  · obtain ⟨q, hq⟩ := xop1_only h; cases hq
  · obtain ⟨q, hq⟩ := xop2_only h; cases hq
  · exact xop3_ret C hd hln k3 h hk
  · obtain ⟨q, hq⟩ := xop4_only h; cases hq
  · rcases xop5_nor h with ⟨q, hq⟩ | ⟨q, hq⟩ <;> cases hq
  · cases h
theorem xexe_sw (C : xCx p R S m args meth c D cI cZ row) {en : xE} {mi pc : Nat} {ls st : List Value} {w : xW} {q : Int32 × List (Int32 × xSt) × xSt} (he : xckE row en = true) (hpc : en.1 = pc) (h : xexe en mi pc ls st w = some (.inr (.inr (.inr q))))
    (hk : xWt p l e R S m args below meth c Q D cI cZ z b n0 s0 row (xpick q.1 q.2.1 q.2.2)) : xWt p l e R S m args below meth c Q D cI cZ z b n0 s0 row (mi, pc, ls, st, w) := by
  unfold xckE at he
  simp only [Bool.and_eq_true, decide_eq_true_eq] at he
  obtain ⟨hd, hln, k1, k3, k4, k5⟩ := he
  rw [hpc] at hd k3
  have hln := xln_of hln
  unfold xexe at h
  split at h
  · obtain ⟨q, hq⟩ := xop1_only h; cases hq
  · obtain ⟨q, hq⟩ := xop2_only h; cases hq
  · exact xop3_sw C hd k3 h hk
  · obtain ⟨q, hq⟩ := xop4_only h; cases hq
  · rcases xop5_nor h with ⟨q, hq⟩ | ⟨q, hq⟩ <;> cases hq
  · cases h
end MAIN
theorem xexe_mor {e : xE} {mi pc : Nat} {ls st : List Value} {w : xW} {q : Bool × xR} (h : xexe e mi pc ls st w = some (.inr (.inl q))) : q.2.2 = w := by
  unfold xexe at h
  split at h
  · obtain ⟨q, hq⟩ := xop1_only h; cases hq
  · obtain ⟨q, hq⟩ := xop2_only h; cases hq
  · exact xop3_mor h
  · obtain ⟨q, hq⟩ := xop4_only h; cases hq
  · rcases xop5_nor h with ⟨q, hq⟩ | ⟨q, hq⟩ <;> cases hq
  · cases h
theorem xexe_moc {e : xE} {mi pc : Nat} {ls st : List Value} {w : xW} {q : Bool × xSt × (Nat × Nat × List Value × List Value)} (h : xexe e mi pc ls st w = some (.inr (.inr (.inl q)))) : q.2.1.2.2.2.2 = w ∧ q.2.2.1 = mi := by
  unfold xexe at h
  split at h
  · obtain ⟨q, hq⟩ := xop1_only h; cases hq
  · obtain ⟨q, hq⟩ := xop2_only h; cases hq
  · exact (xop3_noc h).elim
  · obtain ⟨q, hq⟩ := xop4_only h; cases hq
  · exact xop5_moc h
  · cases h
theorem xexe_mosw {e : xE} {mi pc : Nat} {ls st : List Value} {w : xW} {q : Int32 × List (Int32 × xSt) × xSt} (h : xexe e mi pc ls st w = some (.inr (.inr (.inr q)))) : xMo mi w (xpick q.1 q.2.1 q.2.2) := by
  unfold xexe at h
  split at h
  · obtain ⟨q, hq⟩ := xop1_only h; cases hq
  · obtain ⟨q, hq⟩ := xop2_only h; cases hq
  · exact xop3_mosw h
  · obtain ⟨q, hq⟩ := xop4_only h; cases hq
  · rcases xop5_nor h with ⟨q, hq⟩ | ⟨q, hq⟩ <;> cases hq
  · cases h
theorem xWt_kill {p : Program} {l : Launch} {e : Env} {R : Room} {S : State} {m : MethodId} {args : Array Value} {below : List Frame} {meth : Method} {c : Code} {Q : State → Prop} {D : va_G} {cI cZ : ClassId} {z b n0 s0 : Nat} {row : xMi} {mi pc : Nat} {ls st : List Value} {w : xW} (ds : List Nat) (h : xWt p l e R S m args below meth c Q D cI cZ z b n0 s0 row (mi, pc, xkill ds ls, st, w)) : xWt p l e R S m args below meth c Q D cI cZ z b n0 s0 row (mi, pc, ls, st, w) :=
  fun H locs la hH hS hL => h H locs la hH hS (xLs_kill ds hL)
theorem ev_sound (hT : ∀ mi, xckT mi = true) : ∀ s r, ev s = some r → xSnd s r := by
  refine ev_pc xSnd ?_
  intro f ih s r h
  unfold evS at h
  obtain ⟨mi, pc, ls, st, w⟩ := s
  have hstep : xstep (mi, pc, ls, st, w) = (match xfind (xnth xTs mi) pc with | none => none | some e => xexe e mi pc (xkill e.2.2.2.2.2.2.2.2 ls) st w) := rfl
  cases hf : xfind (xnth xTs mi) pc with
  | none =>
    rw [hf] at hstep
    rw [hstep] at h
    cases h
  | some en =>
    rw [hf] at hstep
    dsimp only at hstep
    rw [hstep] at h
    obtain ⟨hmem, hpc⟩ := xfind_of hf
    have hen : ∀ row, xMs[mi]? = some row → xckE row en = true := by
      intro row hrow
      have h1 := hT mi
      unfold xckT at h1
      rw [hrow] at h1
      exact List.all_eq_true.mp h1 en hmem
    cases hact : xexe en mi pc (xkill en.2.2.2.2.2.2.2.2 ls) st w with
    | none => rw [hact] at h; cases h
    | some act =>
      rw [hact] at h
      rcases act with q | q | q | q
      · have hmo := xexe_mo hact
        dsimp only at h
        split at h
        · rename_i hq
          have i1 := ih _ _ h
          refine ⟨Nat.le_trans hmo.1.2.1 i1.1, Nat.le_trans hmo.1.2.2 i1.2.1, fun p l e R S m args below meth c Q D cI cZ z b n0 s0 row hrow C hn0 hn1 hnw hsw hr1 hr2 hret => ?_⟩
          have a1 := i1.1
          have a2 := i1.2.1
          have a3 := hmo.1.2.1
          have a4 := hmo.1.2.2
          dsimp only at hnw hsw
          refine xWt_kill _ (xexe_inl C hn0 hn1 hnw hsw ⟨by omega, by omega⟩ (fun _ => ⟨by omega, by omega⟩) (hen row hrow) hpc hact ⟨fun _ => ?_, fun q2 => by rw [hq] at q2; cases q2⟩)
          exact i1.2.2 p l e R S m args below meth c Q D cI cZ z b n0 s0 row (by rw [hmo.1.1]; exact hrow) C hn0 hn1 (by omega) (by omega) hr1 hr2 hret
        · rename_i hq
          split at h
          · cases h
          · rename_i s2 hs2
            have i1 := ih _ _ h
            have hm2 := hmo.2 s2 hs2
            refine ⟨Nat.le_trans hm2.2.1 i1.1, Nat.le_trans hm2.2.2 i1.2.1, fun p l e R S m args below meth c Q D cI cZ z b n0 s0 row hrow C hn0 hn1 hnw hsw hr1 hr2 hret => ?_⟩
            have a1 := i1.1
            have a2 := i1.2.1
            have a3 := hm2.2.1
            have a4 := hm2.2.2
            dsimp only at hnw hsw
            refine xWt_kill _ (xexe_inl C hn0 hn1 hnw hsw ⟨by omega, by omega⟩ (fun q3 => absurd q3 hq) (hen row hrow) hpc hact ⟨fun q3 => absurd q3 hq, fun _ => ⟨s2, hs2, ?_⟩⟩)
            exact i1.2.2 p l e R S m args below meth c Q D cI cZ z b n0 s0 row (by rw [hm2.1]; exact hrow) C hn0 hn1 (by omega) (by omega) hr1 hr2 hret
      · have hmo := xexe_mor hact
        dsimp only at h
        split at h
        · rename_i hq
          cases h
          refine ⟨by rw [hmo]; exact Nat.le_refl _, by rw [hmo]; exact Nat.le_refl _, fun p l e R S m args below meth c Q D cI cZ z b n0 s0 row hrow C hn0 hn1 hnw hsw hr1 hr2 hret => ?_⟩
          obtain ⟨q1, q2⟩ := q
          cases hq
          exact xWt_kill _ (xexe_ret C (hen row hrow) hpc hact hret)
        · cases h
      · have hmo := xexe_moc hact
        dsimp only at h
        split at h
        · rename_i hq
          cases hf1 : f q.2.1 with
          | none => rw [hf1] at h; cases h
          | some r1 =>
            rw [hf1] at h
            have h : f (q.2.2.1, q.2.2.2.1, q.2.2.2.2.1, r1.1.toList ++ q.2.2.2.2.2, r1.2) = some r := h
            have i1 := ih _ _ hf1
            have i2 := ih _ _ h
            have a1 := i1.1
            have a2 := i1.2.1
            have a3 := i2.1
            have a4 := i2.2.1
            rw [hmo.1] at a1 a2
            dsimp only at a3 a4
            refine ⟨Nat.le_trans a1 a3, Nat.le_trans a2 a4, fun p l e R S m args below meth c Q D cI cZ z b n0 s0 row hrow C hn0 hn1 hnw hsw hr1 hr2 hret => ?_⟩
            dsimp only at hnw hsw
            obtain ⟨q1, q2, q3⟩ := q
            cases hq
            refine xWt_kill _ (xexe_call C hn0 hn1 hnw hsw (hen row hrow) hpc hact i1 ⟨by omega, by omega⟩ ?_)
            exact i2.2.2 p l e R S m args below meth c Q D cI cZ z b n0 s0 row (by show xMs[q3.1]? = some row; rw [hmo.2]; exact hrow) C hn0 hn1 (by dsimp only; omega) (by dsimp only; omega) hr1 hr2 hret
        · cases h
      · have hmo := xexe_mosw hact
        dsimp only at h
        have i1 := ih _ _ h
        refine ⟨Nat.le_trans hmo.2.1 i1.1, Nat.le_trans hmo.2.2 i1.2.1, fun p l e R S m args below meth c Q D cI cZ z b n0 s0 row hrow C hn0 hn1 hnw hsw hr1 hr2 hret => ?_⟩
        have a1 := i1.1
        have a2 := i1.2.1
        have a3 := hmo.2.1
        have a4 := hmo.2.2
        dsimp only at hnw hsw
        refine xWt_kill _ (xexe_sw C (hen row hrow) hpc hact ?_)
        exact i1.2.2 p l e R S m args below meth c Q D cI cZ z b n0 s0 row (by rw [hmo.1]; exact hrow) C hn0 hn1 (by omega) (by omega) hr1 hr2 hret
