def xK0 (L : Nat) : Nat → Nat × Nat := fun a => if a = 0 then (12, L) else (99, 0)
def xM0 (xs : Nat → Int32) : Nat → Nat → Int32 := fun a i => if a = 0 then xs i else 0
/-- the world at the law's entry: no cell but the script -/
def xW0 (L : Nat) (xs : Nat → Int32) : xW := ((1, 0, xK0 L, fun _ _ => 0), xM0 xs, fun _ _ => 0)
theorem law_ev (L : Nat) (hL : L ≤ 256) (xs : Nat → Int32) : ∃ w : xW, ev (m_law, 0, [.retAddr 0, .null, .null, .null], [], xW0 L xs) = some (some (.int 1), w) ∧ w.1.1 ≤ 55 ∧ w.1.2.1 ≤ 4433 := by
  sorry
