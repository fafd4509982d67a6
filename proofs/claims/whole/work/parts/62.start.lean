/-! ===== the start, the law ===== -/
def g0 : Gh := (hoOf row0, scOf row0, 0, fun _ => 0, -1, 0, [], fun _ => none, [], [])
theorem g0_ok : gOk g0 := ⟨hoOf_ok row0_ok, scOf_ok row0_ok, Nat.zero_le _, fun i hi => absurd hi (Nat.not_lt_zero i), Nat.two_pow_pos 31, ⟨Nat.zero_le _, fun S hS => (by cases hS)⟩, fun i S d _ h => (by cases h), ⟨Nat.zero_le _, fun q hq => (by cases hq)⟩, ⟨Nat.zero_le _, fun q hq => (by cases hq)⟩⟩
section START
variable (L : Nat) (xs : Nat → Int32)
set_option maxRecDepth 100000 in
theorem z_2_0 : (cw_131 L xs).2.1 2 0 = nI 0 := rfl
set_option maxRecDepth 100000 in
theorem z_2_1 : (cw_131 L xs).2.1 2 1 = nI 0 := rfl
set_option maxRecDepth 100000 in
theorem z_2_2 : (cw_131 L xs).2.1 2 2 = nI 0 := rfl
set_option maxRecDepth 100000 in
theorem z_3 (k : Nat) (hk : k < 5) : (cw_131 L xs).2.1 3 k = nI 10 := by
  rcases (show k = 0 ∨ k = 1 ∨ k = 2 ∨ k = 3 ∨ k = 4 by omega) with rfl | rfl | rfl | rfl | rfl <;> rfl
set_option maxRecDepth 100000 in
theorem z_4 (k : Nat) (hk : k < 5) : (cw_131 L xs).2.1 4 k = nI 0 := by
  rcases (show k = 0 ∨ k = 1 ∨ k = 2 ∨ k = 3 ∨ k = 4 by omega) with rfl | rfl | rfl | rfl | rfl <;> rfl
set_option maxRecDepth 100000 in
theorem z_5 (k : Nat) (hk : k < 5) : (cw_131 L xs).2.1 5 k = nI 5 := by
  rcases (show k = 0 ∨ k = 1 ∨ k = 2 ∨ k = 3 ∨ k = 4 by omega) with rfl | rfl | rfl | rfl | rfl <;> rfl
set_option maxRecDepth 100000 in
theorem z_6 (k : Nat) (hk : k < 5) : (cw_131 L xs).2.1 6 k = nI 0 := by
  rcases (show k = 0 ∨ k = 1 ∨ k = 2 ∨ k = 3 ∨ k = 4 by omega) with rfl | rfl | rfl | rfl | rfl <;> rfl
set_option maxRecDepth 100000 in
theorem z_8 (k : Nat) : (cw_131 L xs).2.1 8 k = nI 0 := rfl
set_option maxRecDepth 100000 in
theorem z_11_2 : (cw_131 L xs).2.1 11 2 = nI 0 := rfl
set_option maxRecDepth 100000 in
theorem z_1_9 : (cw_131 L xs).2.1 1 9 = -1 := rfl
set_option maxRecDepth 100000 in
theorem z_1_10 : (cw_131 L xs).2.1 1 10 = nI 0 := rfl
set_option maxRecDepth 100000 in
theorem z_20_0 : (cw_131 L xs).2.1 20 0 = nI 0 := rfl
set_option maxRecDepth 100000 in
theorem z_20_2 : (cw_131 L xs).2.1 20 2 = nI 0 := rfl
set_option maxRecDepth 100000 in
theorem z_22_2 : (cw_131 L xs).2.1 22 2 = nI 0 := rfl
set_option maxRecDepth 100000 in
theorem z_25_0 : (cw_131 L xs).2.1 25 0 = nI 0 := rfl
set_option maxRecDepth 100000 in
theorem z_25_1 : (cw_131 L xs).2.1 25 1 = nI 0 := rfl
set_option maxRecDepth 100000 in
theorem z_40_10 : (cw_131 L xs).2.1 40 10 = nI 0 := rfl
set_option maxRecDepth 100000 in
theorem z_40_11 : (cw_131 L xs).2.1 40 11 = -1 := rfl
set_option maxRecDepth 100000 in
theorem z_41 (k : Nat) (hk : k < 41) : (cw_131 L xs).2.1 41 k = nI (row0 k) := blM_in hk
set_option maxRecDepth 100000 in
theorem z_J : (cw_131 L xs).2.2 40 8 = lN 0 := rfl
set_option maxRecDepth 100000 in
theorem start_C {M : Mem} (o : onlyL (cw_131 L xs).2.1 M [40, 43, 47]) : RelC M g0 := by
  have e : ∀ a, a < 40 → M a = (cw_131 L xs).2.1 a := fun a ha => o a (by simp only [List.mem_cons, List.not_mem_nil, or_false]; omega)
  refine ⟨⟨?_, ?_, ?_, fun k hk => ⟨?_, ?_, ?_, ?_⟩⟩, ⟨?_, ?_, fun c hc => ⟨?_, ?_⟩, fun a ha => ⟨?_, ?_, ?_, ?_⟩⟩, ⟨?_, fun i hi => absurd hi (Nat.not_lt_zero i)⟩, ?_, ?_, ⟨?_, 0, by decide, ?_, fun j S h => nil_no h⟩, ⟨?_, fun i S d _ h => (by cases h)⟩, ⟨?_, fun j q h => nil_no h⟩, ⟨?_, fun j q h => nil_no h⟩⟩
  · rw [e 2 (by decide)]; exact z_2_0 L xs
  · rw [e 2 (by decide)]; exact z_2_1 L xs
  · rw [e 2 (by decide)]; exact z_2_2 L xs
  · rw [e 3 (by decide), z_3 L xs k hk]
    rcases (show k = 0 ∨ k = 1 ∨ k = 2 ∨ k = 3 ∨ k = 4 by omega) with rfl | rfl | rfl | rfl | rfl <;> rfl
  · rw [e 4 (by decide), z_4 L xs k hk]
    rcases (show k = 0 ∨ k = 1 ∨ k = 2 ∨ k = 3 ∨ k = 4 by omega) with rfl | rfl | rfl | rfl | rfl <;> rfl
  · rw [e 5 (by decide), z_5 L xs k hk]
    rcases (show k = 0 ∨ k = 1 ∨ k = 2 ∨ k = 3 ∨ k = 4 by omega) with rfl | rfl | rfl | rfl | rfl <;> rfl
  · rw [e 6 (by decide), z_6 L xs k hk]
    rcases (show k = 0 ∨ k = 1 ∨ k = 2 ∨ k = 3 ∨ k = 4 by omega) with rfl | rfl | rfl | rfl | rfl <;> rfl
  · rw [e 8 (by decide), z_8]; rfl
  · rw [e 8 (by decide), z_8]; rfl
  · rw [e 8 (by decide), z_8]; rfl
  · rw [e 8 (by decide), z_8]; rfl
  · rw [e 8 (by decide), z_8]
    rcases (show a = 0 ∨ a = 1 ∨ a = 2 ∨ a = 3 ∨ a = 4 by omega) with rfl | rfl | rfl | rfl | rfl <;> rfl
  · rw [e 8 (by decide), z_8]
    rcases (show a = 0 ∨ a = 1 ∨ a = 2 ∨ a = 3 ∨ a = 4 by omega) with rfl | rfl | rfl | rfl | rfl <;> rfl
  · rw [e 8 (by decide), z_8]
    rcases (show a = 0 ∨ a = 1 ∨ a = 2 ∨ a = 3 ∨ a = 4 by omega) with rfl | rfl | rfl | rfl | rfl <;> rfl
  · rw [e 8 (by decide), z_8]; rfl
  · rw [e 11 (by decide)]; exact z_11_2 L xs
  · rw [e 1 (by decide)]; exact z_1_9 L xs
  · rw [e 1 (by decide)]; exact z_1_10 L xs
  · rw [e 20 (by decide)]; exact z_20_0 L xs
  · rw [e 20 (by decide)]; exact z_20_2 L xs
  · rw [e 22 (by decide)]; exact z_22_2 L xs
  · rw [e 25 (by decide)]; exact z_25_0 L xs
  · rw [e 25 (by decide)]; exact z_25_1 L xs
/-- both constructors, up to the law's loop -/
theorem law_start : ∃ M J, ev (205, 0, [.retAddr 0, .null, .null, .null], [], xW0 L xs) = ev (205, 18, [.retAddr 0, .ref 1, .ref 40, .int (nI 0)], [], (xSH L, M, J)) ∧ RelC M g0 ∧ RelR M J g0 := by
  obtain ⟨M, b1, b2, b3, b4, b5, b6, b7, b8⟩ := c_Rbegins (L := L) (M := (cw_131 L xs).2.1) (J := (cw_131 L xs).2.2) (r := row0) (z_41 L xs)
  have e41 : ∀ k, k < 41 → M 41 k = nI (row0 k) := fun k hk => by rw [b2 41 (by decide)]; exact z_41 L xs k hk
  have hI : ev (131, 0, [.ref 40], [], cw_101 L xs) = some (none, (xSH L, M, (cw_131 L xs).2.2)) := by
    rw [kt_101, cw_eq L xs]
    refine ev_cl (s1 := (137, 0, [.ref 40, .null], [], (xSH L, (cw_131 L xs).2.1, (cw_131 L xs).2.2))) (k := (131, 130, [.ref 40], [])) fc_131_127 rfl rfl b1 ?_
    show ev (131, 130, [.ref 40], [], (xSH L, M, (cw_131 L xs).2.2)) = _
    exact ev_r1 fc_131_130 rfl
  refine ⟨M, (cw_131 L xs).2.2, ?_, start_C L xs b2, ⟨⟨e41 0 (by decide), e41 1 (by decide), e41 2 (by decide), fun k hk => ⟨e41 _ (by omega), e41 _ (by omega), e41 _ (by omega), e41 _ (by omega)⟩⟩, b8, ⟨?_, fun i hi => absurd hi (Nat.not_lt_zero i)⟩, ?_, z_J L xs, ⟨b4, fun j S h => nil_no h⟩, ⟨fun i hi => b7 i hi, fun i S d _ h => (by cases h)⟩, ⟨b5, fun j q h => nil_no h⟩, ⟨b6, fun j q h => nil_no h⟩⟩⟩
  · rw [kt_law]
    refine ev_cl (s1 := (131, 0, [.ref 40], [], cw_101 L xs)) (k := (205, 15, [.retAddr 0, .ref 1, .null, .null], [.ref 40])) fc_205_12 rfl rfl hI ?_
    show ev (205, 15, [.retAddr 0, .ref 1, .null, .null], [.ref 40], (xSH L, M, (cw_131 L xs).2.2)) = _
    rw [b_law_15]
    rfl
  · rw [b3 10 (by decide) (by decide) (by decide)]; exact z_40_10 L xs
  · rw [b3 11 (by decide) (by decide) (by decide)]; exact z_40_11 L xs
end START
theorem law_ev (L : Nat) (hL : L ≤ 256) (xs : Nat → Int32) : ∃ w : xW, ev (m_law, 0, [.retAddr 0, .null, .null, .null], [], xW0 L xs) = some (some (.int 1), w) ∧ w.1.1 ≤ 55 ∧ w.1.2.1 ≤ 4433 := by
  obtain ⟨M, J, h1, h2, h3⟩ := law_start L xs
  obtain ⟨M', J', h4⟩ := law_loop hL L 0 M J g0 (by omega) (by omega) g0_ok h2 h3
  exact ⟨(xSH L, M', J'), h1.trans h4, Nat.le_refl _, Nat.le_refl _⟩
