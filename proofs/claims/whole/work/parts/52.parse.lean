/-! ===== the text: letters, blanks, numbers; what a text comes to ===== -/
def ltr (n : Nat) (f : Nat → Nat) (p : Nat) : Int32 := if p < n then nI (f p) else -1
/-- from p on while P holds, at most k letters -/
def skipW (n : Nat) (f : Nat → Nat) (P : Nat → Bool) : Nat → Nat → Nat
  | 0, p => p
  | k + 1, p => if p < n ∧ P (f p) = true then skipW n f P k (p + 1) else p
theorem skipW_ge {n : Nat} {f : Nat → Nat} {P : Nat → Bool} : ∀ (k p : Nat), p ≤ skipW n f P k p
  | 0, _ => Nat.le_refl _
  | k + 1, p => by
    unfold skipW
    split
    · exact Nat.le_trans (Nat.le_succ p) (skipW_ge k (p + 1))
    · exact Nat.le_refl _
theorem skipW_le {n : Nat} {f : Nat → Nat} {P : Nat → Bool} : ∀ (k p : Nat), p ≤ n → skipW n f P k p ≤ n
  | 0, _, h => h
  | k + 1, p, h => by
    unfold skipW
    split
    · exact skipW_le k (p + 1) (by omega)
    · exact h
theorem skipW_in {n : Nat} {f : Nat → Nat} {P : Nat → Bool} : ∀ (k p i : Nat), p ≤ i → i < skipW n f P k p → P (f i) = true
  | 0, p, i, h1, h2 => by
    have : skipW n f P 0 p = p := rfl
    omega
  | k + 1, p, i, h1, h2 => by
    unfold skipW at h2
    split at h2
    · rename_i hc
      by_cases hi : i = p
      · rw [hi]; exact hc.2
      · exact skipW_in k (p + 1) i (by omega) h2
    · omega
theorem skipW_end {n : Nat} {f : Nat → Nat} {P : Nat → Bool} : ∀ (k p : Nat), n ≤ p + k → p ≤ n → skipW n f P k p = n ∨ P (f (skipW n f P k p)) = false
  | 0, p, h, h2 => by
    have : skipW n f P 0 p = p := rfl
    exact Or.inl (by omega)
  | k + 1, p, h, h2 => by
    unfold skipW
    split
    · exact skipW_end k (p + 1) (by omega) (by omega)
    · rename_i hc
      by_cases hn : p < n
      · refine Or.inr ?_
        cases hP : P (f p)
        · rfl
        · exact absurd ⟨hn, hP⟩ hc
      · exact Or.inl (by omega)
def isB (c : Nat) : Bool := decide (c = 32)
def isD (c : Nat) : Bool := decide (48 ≤ c ∧ c ≤ 57)
def skp (n : Nat) (f : Nat → Nat) (p : Nat) : Nat := skipW n f isB (n - p) p
def dge (n : Nat) (f : Nat → Nat) (p : Nat) : Nat := skipW n f isD (n - p) p
/-- the value of k figures from p on -/
def dval (f : Nat → Nat) (p : Nat) : Nat → Nat
  | 0 => 0
  | k + 1 => 10 * dval f p k + (f (p + k) - 48)
/-- what the class has of them -/
def cval (f : Nat → Nat) (p : Nat) : Nat → Nat
  | 0 => 0
  | k + 1 => min (10 * cval f p k + (f (p + k) - 48)) 1000
theorem skp_ge {n : Nat} {f : Nat → Nat} (p : Nat) : p ≤ skp n f p := skipW_ge _ _
theorem skp_le {n : Nat} {f : Nat → Nat} {p : Nat} (h : p ≤ n) : skp n f p ≤ n := skipW_le _ _ h
theorem skp_in {n : Nat} {f : Nat → Nat} {p i : Nat} (h : p ≤ i) (h2 : i < skp n f p) : f i = 32 := of_decide_eq_true (skipW_in _ _ _ h h2)
theorem skp_end {n : Nat} {f : Nat → Nat} {p : Nat} (h : p ≤ n) : skp n f p = n ∨ f (skp n f p) ≠ 32 := by
  rcases skipW_end (f := f) (P := isB) (n - p) p (by omega) h with h1 | h1
  · exact Or.inl h1
  · exact Or.inr (of_decide_eq_false h1)
theorem dge_ge {n : Nat} {f : Nat → Nat} (p : Nat) : p ≤ dge n f p := skipW_ge _ _
theorem dge_le {n : Nat} {f : Nat → Nat} {p : Nat} (h : p ≤ n) : dge n f p ≤ n := skipW_le _ _ h
theorem dge_in {n : Nat} {f : Nat → Nat} {p i : Nat} (h : p ≤ i) (h2 : i < dge n f p) : isD (f i) = true := skipW_in _ _ _ h h2
theorem dge_end {n : Nat} {f : Nat → Nat} {p : Nat} (h : p ≤ n) : dge n f p = n ∨ isD (f (dge n f p)) = false := skipW_end (n - p) p (by omega) h
theorem dge_gt {n : Nat} {f : Nat → Nat} {p : Nat} (h : p < n) (hd : isD (f p) = true) : p < dge n f p := by
  have h1 := dge_ge (n := n) (f := f) p
  rcases dge_end (f := f) (Nat.le_of_lt h) with h2 | h2
  · omega
  · rcases Nat.lt_or_eq_of_le h1 with h3 | h3
    · exact h3
    · rw [← h3, hd] at h2; cases h2
theorem isD_b {c : Nat} (h : isD c = true) : 48 ≤ c ∧ c ≤ 57 := of_decide_eq_true h
theorem isD_f {c : Nat} (h : isD c = false) : ¬ (48 ≤ c ∧ c ≤ 57) := of_decide_eq_false h
theorem cval_le (f : Nat → Nat) (p : Nat) : ∀ k, cval f p k ≤ 1000
  | 0 => by show 0 ≤ 1000; omega
  | k + 1 => Nat.min_le_right _ _
theorem dval_lt {f : Nat → Nat} {p : Nat} : ∀ k, (∀ i, i < k → isD (f (p + i)) = true) → dval f p k < 10 ^ k
  | 0, _ => by show 0 < 10 ^ 0; decide
  | k + 1, h => by
    have h1 := dval_lt (f := f) (p := p) k (fun i hi => h i (by omega))
    have h2 := isD_b (h k (by omega))
    show 10 * dval f p k + (f (p + k) - 48) < 10 ^ (k + 1)
    rw [Nat.pow_succ]
    omega
theorem cval_dval {f : Nat → Nat} {p : Nat} : ∀ k, k ≤ 3 → (∀ i, i < k → isD (f (p + i)) = true) → cval f p k = dval f p k
  | 0, _, _ => rfl
  | k + 1, hk, h => by
    have h1 := cval_dval (f := f) (p := p) k (by omega) (fun i hi => h i (by omega))
    have h2 := dval_lt (f := f) (p := p) (k + 1) h
    have h3 : (10 : Nat) ^ (k + 1) ≤ 10 ^ 3 := Nat.pow_le_pow_right (by decide) hk
    show min (10 * cval f p k + (f (p + k) - 48)) 1000 = 10 * dval f p k + (f (p + k) - 48)
    have h4 : dval f p (k + 1) = 10 * dval f p k + (f (p + k) - 48) := rfl
    rw [h1, Nat.min_eq_left]
    have : (10 : Nat) ^ 3 = 1000 := by decide
    omega
/-- a fault (its number, its place) or what goes on -/
abbrev Flt (α : Type) : Type := (Nat × Nat) ⊕ α
def sb {α β : Type} (s : Flt α) (k : α → Flt β) : Flt β := match s with
  | .inl e => .inl e
  | .inr a => k a
theorem sb_inl {α β : Type} (e : Nat × Nat) (k : α → Flt β) : sb (.inl e) k = .inl e := rfl
theorem sb_inr {α β : Type} (a : α) (k : α → Flt β) : sb (.inr a) k = k a := rfl
/-- a number: its value, where it ends -/
def numS (n : Nat) (f : Nat → Nat) (lo hi p : Nat) : Flt (Nat × Nat) :=
  if skp n f p < n ∧ isD (f (skp n f p)) = true then
    (if dge n f (skp n f p) - skp n f p ≤ 3 ∧ lo ≤ dval f (skp n f p) (dge n f (skp n f p) - skp n f p) ∧ dval f (skp n f p) (dge n f (skp n f p) - skp n f p) ≤ hi
      then .inr (dval f (skp n f p) (dge n f (skp n f p) - skp n f p), dge n f (skp n f p))
      else .inl (2, skp n f p))
  else .inl (1, skp n f p)
def endS (n : Nat) (f : Nat → Nat) (p : Nat) : Flt Nat := if skp n f p < n ∧ f (skp n f p) = 59 then .inr (skp n f p + 1) else .inl (1, skp n f p)
theorem numS_ne {n : Nat} {f : Nat → Nat} {lo hi p : Nat} {e : Nat × Nat} (h : numS n f lo hi p = .inl e) : e.1 ≠ 0 ∧ e.1 ≤ 4 := by
  unfold numS at h
  split at h
  · split at h
    · cases h
    · cases h; exact ⟨Nat.succ_ne_zero _, Nat.le_of_ble_eq_true rfl⟩
  · cases h; exact ⟨Nat.succ_ne_zero _, Nat.le_of_ble_eq_true rfl⟩
theorem endS_ne {n : Nat} {f : Nat → Nat} {p : Nat} {e : Nat × Nat} (h : endS n f p = .inl e) : e.1 ≠ 0 ∧ e.1 ≤ 4 := by
  unfold endS at h
  split at h
  · cases h
  · cases h; exact ⟨Nat.succ_ne_zero _, Nat.le_of_ble_eq_true rfl⟩
theorem numS_inr {n : Nat} {f : Nat → Nat} {lo hi p : Nat} {q : Nat × Nat} (h : numS n f lo hi p = .inr q) (hp : p ≤ n) : lo ≤ q.1 ∧ q.1 ≤ hi ∧ p < q.2 ∧ q.2 ≤ n := by
  unfold numS at h
  split at h
  · rename_i hc
    have h1 := skp_ge (n := n) (f := f) p
    have h2 := dge_gt hc.1 hc.2
    have h3 := dge_le (f := f) (Nat.le_of_lt hc.1)
    split at h
    · rename_i hv
      cases h
      exact ⟨hv.2.1, hv.2.2, by show p < dge n f (skp n f p); omega, h3⟩
    · cases h
  · cases h
theorem endS_inr {n : Nat} {f : Nat → Nat} {p q : Nat} (h : endS n f p = .inr q) : p < q ∧ q ≤ n := by
  unfold endS at h
  have h1 := skp_ge (n := n) (f := f) p
  split at h
  · rename_i hc
    cases h
    omega
  · cases h
/-- a row of 41: columns, rows, actors, the cloth of all, holes, 5 weights, likings, minutes, heights, columns, cloths on, pieces, cloths told -/
abbrev Rw : Type := Nat → Nat
def row0 : Rw := fun k => if 5 ≤ k ∧ k ≤ 9 then 10 else if 15 ≤ k ∧ k ≤ 19 then 5 else 0
def curtS (n : Nat) (f : Nat → Nat) (p : Nat) (r : Rw) : Flt (Rw × Nat) :=
  sb (numS n f 1 5 (p + 1)) fun a => sb (numS n f 1 4 a.2) fun b => sb (numS n f 0 4 b.2) fun c => sb (endS n f c.2) fun q =>
    .inr (upN (upN (upN r 0 a.1) 1 b.1) 3 c.1, q)
def clothS (n : Nat) (f : Nat → Nat) (p : Nat) (r : Rw) : Flt (Rw × Nat) :=
  sb (numS n f 0 4 (p + 1)) fun a => if (r 40).testBit a.1 = true then .inl (4, skp n f (p + 1)) else
    sb (numS n f 0 99 a.2) fun b => sb (numS n f 0 9 b.2) fun c => sb (numS n f 1 60 c.2) fun d => sb (endS n f d.2) fun q =>
    .inr (upN (upN (upN (upN r 40 (r 40 ||| 2 ^ a.1)) (5 + a.1) b.1) (10 + a.1) c.1) (15 + a.1) d.1, q)
def holeS (n : Nat) (f : Nat → Nat) (p : Nat) (r : Rw) : Flt (Rw × Nat) :=
  sb (numS n f 0 (r 0 * r 1 - 1) (p + 1)) fun a => if (r 4).testBit a.1 = true then .inl (4, skp n f (p + 1)) else
    sb (endS n f a.2) fun q => .inr (upN r 4 (r 4 ||| 2 ^ a.1), q)
def actS (n : Nat) (f : Nat → Nat) (p : Nat) (r : Rw) : Flt (Rw × Nat) :=
  if r 2 = 5 then .inl (3, p) else
    sb (numS n f 0 (r 0 - 1) (p + 1)) fun a => sb (numS n f 1 4 a.2) fun b => sb (numS n f 0 4 b.2) fun c => sb (numS n f 0 9 c.2) fun d => sb (endS n f d.2) fun q =>
    .inr (upN (upN (upN (upN (upN r 2 (r 2 + 1)) (25 + r 2) a.1) (20 + r 2) b.1) (30 + r 2) c.1) (35 + r 2) d.1, q)
def clauS (n : Nat) (f : Nat → Nat) (p : Nat) (r : Rw) : Flt (Rw × Nat) :=
  if f p = 107 then (if r 0 = 0 then curtS n f p r else .inl (3, p))
  else if r 0 = 0 then .inl (1, p)
  else if f p = 97 then actS n f p r
  else if f p = 99 then clothS n f p r
  else if f p = 104 then holeS n f p r
  else .inl (1, p)
def prsS (n : Nat) (f : Nat → Nat) : Nat → Nat → Rw → Flt Rw
  | 0, _, r => .inr r
  | k + 1, p, r => if p < n then sb (clauS n f p r) (fun x => prsS n f k (skp n f x.2) x.1) else .inr r
def rowOk (r : Rw) : Prop := r 0 ≤ 5 ∧ r 1 ≤ 4 ∧ r 2 ≤ 5 ∧ (r 0 = 0 ↔ r 1 = 0) ∧ (r 0 = 0 → r 2 = 0) ∧ r 3 < 5 ∧ r 4 < 2 ^ (r 0 * r 1) ∧ r 40 < 2 ^ 5 ∧ (∀ k, k < 5 → r (5 + k) ≤ 99 ∧ r (10 + k) ≤ 9 ∧ r (15 + k) ≤ 60 ∧ 1 ≤ r (15 + k) ∧ r (20 + k) ≤ 4 ∧ r (25 + k) < 5 ∧ r (30 + k) < 5 ∧ r (35 + k) ≤ 9) ∧ ∀ a, a < r 2 → r (25 + a) < r 0
theorem row0_ok : rowOk row0 := by
  refine ⟨by decide, by decide, by decide, by decide, by decide, by decide, by decide, by decide, ?_, ?_⟩
  · intro k hk
    rcases (show k = 0 ∨ k = 1 ∨ k = 2 ∨ k = 3 ∨ k = 4 by omega) with rfl | rfl | rfl | rfl | rfl <;> decide
  · intro a ha
    have : row0 2 = 0 := by decide
    omega
theorem upN_at {α : Type} {f : Nat → α} {k : Nat} {v : α} : upN f k v k = v := if_pos rfl
theorem upN_ne {α : Type} {f : Nat → α} {k i : Nat} {v : α} (h : i ≠ k) : upN f k v i = f i := if_neg h
theorem sb_some {α β : Type} {s : Flt α} {k : α → Flt β} {b : β} (h : sb s k = .inr b) : ∃ a, s = .inr a ∧ k a = .inr b := by
  cases s with
  | inl e => cases h
  | inr a => exact ⟨a, rfl, h⟩
theorem curt_ok {n : Nat} {f : Nat → Nat} {p : Nat} {r : Rw} {x : Rw × Nat} (h : curtS n f p r = .inr x) (hr : rowOk r) (h0 : r 0 = 0) (hp : p < n) : rowOk x.1 ∧ x.1 0 ≠ 0 ∧ p < x.2 ∧ x.2 ≤ n := by
  obtain ⟨a, h1, h⟩ := sb_some h
  obtain ⟨b, h2, h⟩ := sb_some h
  obtain ⟨c, h3, h⟩ := sb_some h
  obtain ⟨q, h4, h⟩ := sb_some h
  cases h
  have b1 := numS_inr h1 (by omega)
  have b2 := numS_inr h2 (by omega)
  have b3 := numS_inr h3 (by omega)
  have b4 := endS_inr h4
  obtain ⟨o1, o2, o3, o4, o5, o6, o7, o8, o9, o10⟩ := hr
  have z2 : r 2 = 0 := o5 h0
  have z4 : r 4 = 0 := by rw [h0, Nat.zero_mul] at o7; omega
  dsimp only
  refine ⟨⟨?_, ?_, ?_, ?_, ?_, ?_, ?_, ?_, ?_, ?_⟩, ?_, by omega, by omega⟩
  · rw [upN_ne (by decide), upN_ne (by decide), upN_at]; omega
  · rw [upN_ne (by decide), upN_at]; omega
  · rw [upN_ne (by decide), upN_ne (by decide), upN_ne (by decide)]; omega
  · rw [upN_ne (by decide), upN_ne (by decide), upN_at, upN_ne (by decide), upN_at]; omega
  · intro _; rw [upN_ne (by decide), upN_ne (by decide), upN_ne (by decide)]; exact z2
  · rw [upN_at]; omega
  · rw [upN_ne (by decide), upN_ne (by decide), upN_ne (by decide), z4]; exact Nat.two_pow_pos _
  · rw [upN_ne (by decide), upN_ne (by decide), upN_ne (by decide)]; exact o8
  · intro k hk
    simp only [upN_ne (show 5 + k ≠ 3 by omega), upN_ne (show 5 + k ≠ 1 by omega), upN_ne (show 5 + k ≠ 0 by omega), upN_ne (show 10 + k ≠ 3 by omega), upN_ne (show 10 + k ≠ 1 by omega), upN_ne (show 10 + k ≠ 0 by omega), upN_ne (show 15 + k ≠ 3 by omega), upN_ne (show 15 + k ≠ 1 by omega), upN_ne (show 15 + k ≠ 0 by omega), upN_ne (show 20 + k ≠ 3 by omega), upN_ne (show 20 + k ≠ 1 by omega), upN_ne (show 20 + k ≠ 0 by omega), upN_ne (show 25 + k ≠ 3 by omega), upN_ne (show 25 + k ≠ 1 by omega), upN_ne (show 25 + k ≠ 0 by omega), upN_ne (show 30 + k ≠ 3 by omega), upN_ne (show 30 + k ≠ 1 by omega), upN_ne (show 30 + k ≠ 0 by omega), upN_ne (show 35 + k ≠ 3 by omega), upN_ne (show 35 + k ≠ 1 by omega), upN_ne (show 35 + k ≠ 0 by omega)]
    exact o9 k hk
  · intro i hi
    rw [upN_ne (by decide), upN_ne (by decide), upN_ne (by decide), z2] at hi
    omega
  · rw [upN_ne (by decide), upN_ne (by decide), upN_at]; omega
theorem cloth_ok {n : Nat} {f : Nat → Nat} {p : Nat} {r : Rw} {x : Rw × Nat} (h : clothS n f p r = .inr x) (hr : rowOk r) (hp : p < n) : rowOk x.1 ∧ x.1 0 = r 0 ∧ p < x.2 ∧ x.2 ≤ n := by
  obtain ⟨a, h1, h⟩ := sb_some h
  split at h
  · cases h
  obtain ⟨b, h2, h⟩ := sb_some h
  obtain ⟨c, h3, h⟩ := sb_some h
  obtain ⟨d, h4, h⟩ := sb_some h
  obtain ⟨q, h5, h⟩ := sb_some h
  cases h
  have b1 := numS_inr h1 (by omega)
  have b2 := numS_inr h2 (by omega)
  have b3 := numS_inr h3 (by omega)
  have b4 := numS_inr h4 (by omega)
  have b5 := endS_inr h5
  obtain ⟨o1, o2, o3, o4, o5, o6, o7, o8, o9, o10⟩ := hr
  dsimp only
  have e : ∀ i, i < 5 → upN (upN (upN (upN r 40 (r 40 ||| 2 ^ a.1)) (5 + a.1) b.1) (10 + a.1) c.1) (15 + a.1) d.1 i = r i := fun i hi => by
    rw [upN_ne (by omega), upN_ne (by omega), upN_ne (by omega), upN_ne (by omega)]
  have e2 : ∀ i, 20 ≤ i → i < 40 → upN (upN (upN (upN r 40 (r 40 ||| 2 ^ a.1)) (5 + a.1) b.1) (10 + a.1) c.1) (15 + a.1) d.1 i = r i := fun i hi hj => by
    rw [upN_ne (by omega), upN_ne (by omega), upN_ne (by omega), upN_ne (by omega)]
  refine ⟨⟨?_, ?_, ?_, ?_, ?_, ?_, ?_, ?_, ?_, ?_⟩, e 0 (by omega), by omega, by omega⟩
  · rw [e 0 (by omega)]; exact o1
  · rw [e 1 (by omega)]; exact o2
  · rw [e 2 (by omega)]; exact o3
  · rw [e 0 (by omega), e 1 (by omega)]; exact o4
  · rw [e 0 (by omega), e 2 (by omega)]; exact o5
  · rw [e 3 (by omega)]; exact o6
  · rw [e 0 (by omega), e 1 (by omega), e 4 (by omega)]; exact o7
  · rw [upN_ne (by omega), upN_ne (by omega), upN_ne (by omega), upN_at]
    exact or_lt o8 (by omega)
  · intro k hk
    obtain ⟨w1, w2, w3, w4, w5, w6, w7, w8⟩ := o9 k hk
    rw [e2 (20 + k) (by omega) (by omega), e2 (25 + k) (by omega) (by omega), e2 (30 + k) (by omega) (by omega), e2 (35 + k) (by omega) (by omega)]
    by_cases hka : k = a.1
    · subst hka
      rw [upN_ne (show 5 + a.1 ≠ 15 + a.1 by omega), upN_ne (show 5 + a.1 ≠ 10 + a.1 by omega), upN_at, upN_ne (show 10 + a.1 ≠ 15 + a.1 by omega), upN_at, upN_at]
      exact ⟨b2.2.1, b3.2.1, b4.2.1, b4.1, w5, w6, w7, w8⟩
    · rw [upN_ne (show 5 + k ≠ 15 + a.1 by omega), upN_ne (show 5 + k ≠ 10 + a.1 by omega), upN_ne (show 5 + k ≠ 5 + a.1 by omega), upN_ne (show 5 + k ≠ 40 by omega), upN_ne (show 10 + k ≠ 15 + a.1 by omega), upN_ne (show 10 + k ≠ 10 + a.1 by omega), upN_ne (show 10 + k ≠ 5 + a.1 by omega), upN_ne (show 10 + k ≠ 40 by omega), upN_ne (show 15 + k ≠ 15 + a.1 by omega), upN_ne (show 15 + k ≠ 10 + a.1 by omega), upN_ne (show 15 + k ≠ 5 + a.1 by omega), upN_ne (show 15 + k ≠ 40 by omega)]
      exact ⟨w1, w2, w3, w4, w5, w6, w7, w8⟩
  · intro i hi
    rw [e 2 (by omega)] at hi
    rw [e2 (25 + i) (by omega) (by omega), e 0 (by omega)]
    exact o10 i hi
theorem hole_ok {n : Nat} {f : Nat → Nat} {p : Nat} {r : Rw} {x : Rw × Nat} (h : holeS n f p r = .inr x) (hr : rowOk r) (h0 : r 0 ≠ 0) (hp : p < n) : rowOk x.1 ∧ x.1 0 = r 0 ∧ p < x.2 ∧ x.2 ≤ n := by
  obtain ⟨a, h1, h⟩ := sb_some h
  split at h
  · cases h
  obtain ⟨q, h5, h⟩ := sb_some h
  cases h
  have b1 := numS_inr h1 (by omega)
  have b5 := endS_inr h5
  obtain ⟨o1, o2, o3, o4, o5, o6, o7, o8, o9, o10⟩ := hr
  have hw : 0 < r 0 * r 1 := Nat.mul_pos (by omega) (by omega)
  dsimp only
  have e : ∀ i, i ≠ 4 → upN r 4 (r 4 ||| 2 ^ a.1) i = r i := fun i hi => upN_ne hi
  refine ⟨⟨?_, ?_, ?_, ?_, ?_, ?_, ?_, ?_, ?_, ?_⟩, e 0 (by omega), by omega, by omega⟩
  · rw [e 0 (by omega)]; exact o1
  · rw [e 1 (by omega)]; exact o2
  · rw [e 2 (by omega)]; exact o3
  · rw [e 0 (by omega), e 1 (by omega)]; exact o4
  · rw [e 0 (by omega), e 2 (by omega)]; exact o5
  · rw [e 3 (by omega)]; exact o6
  · rw [e 0 (by omega), e 1 (by omega), upN_at]; exact or_lt o7 (by omega)
  · rw [e 40 (by omega)]; exact o8
  · intro k hk
    rw [e _ (by omega), e _ (by omega), e _ (by omega), e _ (by omega), e _ (by omega), e _ (by omega), e _ (by omega)]
    exact o9 k hk
  · intro i hi
    rw [e 2 (by omega)] at hi
    rw [e _ (by omega), e 0 (by omega)]
    exact o10 i hi
theorem act_ok {n : Nat} {f : Nat → Nat} {p : Nat} {r : Rw} {x : Rw × Nat} (h : actS n f p r = .inr x) (hr : rowOk r) (h0 : r 0 ≠ 0) (hp : p < n) : rowOk x.1 ∧ x.1 0 = r 0 ∧ p < x.2 ∧ x.2 ≤ n := by
  unfold actS at h
  split at h
  · cases h
  rename_i hA
  obtain ⟨a, h1, h⟩ := sb_some h
  obtain ⟨b, h2, h⟩ := sb_some h
  obtain ⟨c, h3, h⟩ := sb_some h
  obtain ⟨d, h4, h⟩ := sb_some h
  obtain ⟨q, h5, h⟩ := sb_some h
  cases h
  have b1 := numS_inr h1 (by omega)
  have b2 := numS_inr h2 (by omega)
  have b3 := numS_inr h3 (by omega)
  have b4 := numS_inr h4 (by omega)
  have b5 := endS_inr h5
  obtain ⟨o1, o2, o3, o4, o5, o6, o7, o8, o9, o10⟩ := hr
  dsimp only
  have hA5 : r 2 < 5 := by omega
  generalize hA' : r 2 = A at *
  have e : ∀ i, i < 20 → i ≠ 2 → upN (upN (upN (upN (upN r 2 (A + 1)) (25 + A) a.1) (20 + A) b.1) (30 + A) c.1) (35 + A) d.1 i = r i := fun i hi h2 => by
    rw [upN_ne (by omega), upN_ne (by omega), upN_ne (by omega), upN_ne (by omega), upN_ne (by omega)]
  have e2 : upN (upN (upN (upN (upN r 2 (A + 1)) (25 + A) a.1) (20 + A) b.1) (30 + A) c.1) (35 + A) d.1 2 = A + 1 := by
    rw [upN_ne (by omega), upN_ne (by omega), upN_ne (by omega), upN_ne (by omega), upN_at]
  refine ⟨⟨?_, ?_, ?_, ?_, ?_, ?_, ?_, ?_, ?_, ?_⟩, e 0 (by omega) (by omega), by omega, by omega⟩
  · rw [e 0 (by omega) (by omega)]; exact o1
  · rw [e 1 (by omega) (by omega)]; exact o2
  · rw [e2]; omega
  · rw [e 0 (by omega) (by omega), e 1 (by omega) (by omega)]; exact o4
  · rw [e 0 (by omega) (by omega)]; intro q; exact absurd q h0
  · rw [e 3 (by omega) (by omega)]; exact o6
  · rw [e 0 (by omega) (by omega), e 1 (by omega) (by omega), e 4 (by omega) (by omega)]; exact o7
  · rw [upN_ne (by omega), upN_ne (by omega), upN_ne (by omega), upN_ne (by omega), upN_ne (by omega)]; exact o8
  · intro k hk
    obtain ⟨w1, w2, w3, w4, w5, w6, w7, w8⟩ := o9 k hk
    rw [e (5 + k) (by omega) (by omega), e (10 + k) (by omega) (by omega), e (15 + k) (by omega) (by omega)]
    refine ⟨w1, w2, w3, w4, ?_, ?_, ?_, ?_⟩
    · rw [upN_ne (by omega), upN_ne (by omega)]
      unfold upN
      split
      · omega
      · rw [if_neg (by omega), if_neg (by omega)]; exact w5
    · rw [upN_ne (by omega), upN_ne (by omega), upN_ne (by omega)]
      unfold upN
      split
      · omega
      · rw [if_neg (by omega)]; exact w6
    · rw [upN_ne (by omega)]
      unfold upN
      split
      · omega
      · rw [if_neg (by omega), if_neg (by omega), if_neg (by omega)]; exact w7
    · unfold upN
      split
      · omega
      · rw [if_neg (by omega), if_neg (by omega), if_neg (by omega), if_neg (by omega)]; exact w8
  · intro i hi
    rw [e2] at hi
    rw [e 0 (by omega) (by omega), upN_ne (by omega), upN_ne (by omega), upN_ne (by omega)]
    unfold upN
    split
    · omega
    · rw [if_neg (by omega)]; exact o10 i (by omega)
theorem clau_ok {n : Nat} {f : Nat → Nat} {p : Nat} {r : Rw} {x : Rw × Nat} (h : clauS n f p r = .inr x) (hr : rowOk r) (hp : p < n) : rowOk x.1 ∧ x.1 0 ≠ 0 ∧ p < x.2 ∧ x.2 ≤ n := by
  unfold clauS at h
  split at h
  · split at h
    · rename_i h0; exact curt_ok h hr h0 hp
    · cases h
  · split at h
    · cases h
    · rename_i h0
      split at h
      · have := act_ok h hr h0 hp; exact ⟨this.1, by rw [this.2.1]; exact h0, this.2.2⟩
      · split at h
        · have := cloth_ok h hr hp; exact ⟨this.1, by rw [this.2.1]; exact h0, this.2.2⟩
        · split at h
          · have := hole_ok h hr h0 hp; exact ⟨this.1, by rw [this.2.1]; exact h0, this.2.2⟩
          · cases h
theorem clau_ne {n : Nat} {f : Nat → Nat} {p : Nat} {r : Rw} {e : Nat × Nat} (h : clauS n f p r = .inl e) : e.1 ≠ 0 ∧ e.1 ≤ 4 := by
  have hsb : ∀ {α β : Type} {s : Flt α} {k : α → Flt β} {e : Nat × Nat}, sb s k = .inl e → (s = .inl e ∨ ∃ a, s = .inr a ∧ k a = .inl e) := by
    intro α β s k e h
    cases s with
    | inl e =>
      rw [sb_inl] at h
      cases h
      exact Or.inl rfl
    | inr a => exact Or.inr ⟨a, rfl, h⟩
  have lit : ∀ {k q : Nat}, k ≠ 0 → k ≤ 4 → (Sum.inl (k, q) : Flt (Rw × Nat)) = .inl e → e.1 ≠ 0 ∧ e.1 ≤ 4 := by
    intro k q h1 h2 h; cases h; exact ⟨h1, h2⟩
  unfold clauS at h
  split at h
  · split at h
    · unfold curtS at h
      rcases hsb h with h | ⟨a, -, h⟩
      · exact numS_ne h
      rcases hsb h with h | ⟨a, -, h⟩
      · exact numS_ne h
      rcases hsb h with h | ⟨a, -, h⟩
      · exact numS_ne h
      rcases hsb h with h | ⟨a, -, h⟩
      · exact endS_ne h
      cases h
    · exact lit (by decide) (by decide) h
  · split at h
    · exact lit (by decide) (by decide) h
    · split at h
      · unfold actS at h
        split at h
        · exact lit (by decide) (by decide) h
        rcases hsb h with h | ⟨a, -, h⟩
        · exact numS_ne h
        rcases hsb h with h | ⟨a, -, h⟩
        · exact numS_ne h
        rcases hsb h with h | ⟨a, -, h⟩
        · exact numS_ne h
        rcases hsb h with h | ⟨a, -, h⟩
        · exact numS_ne h
        rcases hsb h with h | ⟨a, -, h⟩
        · exact endS_ne h
        cases h
      · split at h
        · unfold clothS at h
          rcases hsb h with h | ⟨a, -, h⟩
          · exact numS_ne h
          split at h
          · exact lit (by decide) (by decide) h
          rcases hsb h with h | ⟨a, -, h⟩
          · exact numS_ne h
          rcases hsb h with h | ⟨a, -, h⟩
          · exact numS_ne h
          rcases hsb h with h | ⟨a, -, h⟩
          · exact numS_ne h
          rcases hsb h with h | ⟨a, -, h⟩
          · exact endS_ne h
          cases h
        · split at h
          · unfold holeS at h
            rcases hsb h with h | ⟨a, -, h⟩
            · exact numS_ne h
            split at h
            · exact lit (by decide) (by decide) h
            rcases hsb h with h | ⟨a, -, h⟩
            · exact endS_ne h
            cases h
          · exact lit (by decide) (by decide) h
