/-! ===== nights in a row: what stays, what grows ===== -/
def eqv (T T' : Sc) : Prop := sH T = sH T' ∧ sK T = sK T' ∧ sX T = sX T' ∧ sO T = sO T' ∧ sP T = sP T'
theorem eqv_rf (T : Sc) : eqv T T := ⟨rfl, rfl, rfl, rfl, rfl⟩
theorem eqv_tr {T T' T'' : Sc} (h : eqv T T') (h2 : eqv T' T'') : eqv T T'' := ⟨h.1.trans h2.1, h.2.1.trans h2.2.1, h.2.2.1.trans h2.2.2.1, h.2.2.2.1.trans h2.2.2.2.1, h.2.2.2.2.trans h2.2.2.2.2⟩
section NTS
variable {H : Ho} {T T' : Sc}
theorem eqv_shown (h : eqv T T') : shownS H T = shownS H T' := by
  obtain ⟨a, b, c, d, e, q, r, n⟩ := T
  obtain ⟨a', b', c', d', e', q', r', n'⟩ := T'
  obtain ⟨h1, h2, h3, h4, h5⟩ := h
  change a = a' at h1
  change b = b' at h2
  change c = c' at h3
  change d = d' at h4
  change e = e' at h5
  subst h1 h2 h3 h4 h5
  rfl
theorem eqv_mend {a : Nat} (h : eqv T T') : eqv (mendT H a T) (mendT H a T') := by
  unfold mendT
  rw [h.2.2.2.2, h.1, h.2.2.1]
  by_cases hp : sP T' a = 0
  · rw [if_pos hp, if_pos hp]
    exact h
  · rw [if_neg hp, if_neg hp]
    cases lowest H (sH T') (sX T' a) with
    | none => exact h
    | some c =>
      refine ⟨?_, ?_, h.2.2.1, h.2.2.2.1, ?_⟩
      · show clr (sH T) c = clr (sH T') c
        rw [h.1]
      · show upN (sK T) c (sO T a) = upN (sK T') c (sO T' a)
        rw [h.2.1, h.2.2.2.1]
      · show upN (sP T) a (sP T a - 1) = upN (sP T') a (sP T' a - 1)
        rw [h.2.2.2.2]
theorem eqv_mend1 {s a : Nat} (h : eqv T T') : eqv (mend1 H s a T) (mend1 H s a T') := by
  unfold mend1
  split
  · exact eqv_mend h
  · exact h
theorem eqv_it {s : Nat} (h : eqv T T') : ∀ k, eqv (it (mend1 H s) k 0 T) (it (mend1 H s) k 0 T')
  | 0 => h
  | k + 1 => by
    rw [it_succ, it_succ]
    exact eqv_mend1 (eqv_it h k)
theorem eqv_night (h : eqv T T') : eqv (nightT H T) (nightT H T') := by
  unfold nightT
  rw [eqv_shown h]
  exact eqv_it h (hA H)
/-- holes only close; where none closed, nothing but bared and nights changed -/
def closes (T T' : Sc) : Prop := (∀ i, (sH T').testBit i = true → (sH T).testBit i = true) ∧ (eqv T' T ∨ ∃ c, (sH T).testBit c = true ∧ (sH T').testBit c = false)
theorem closes_rf (T : Sc) : closes T T := ⟨fun _ h => h, Or.inl (eqv_rf T)⟩
theorem closes_tr {T T' T'' : Sc} (h : closes T T') (h2 : closes T' T'') : closes T T'' := by
  refine ⟨fun i hi => h.1 i (h2.1 i hi), ?_⟩
  rcases h.2 with e | ⟨c, c1, c2⟩
  · rcases h2.2 with e2 | ⟨c, c1, c2⟩
    · exact Or.inl (eqv_tr e2 e)
    · exact Or.inr ⟨c, h.1 c c1, c2⟩
  · refine Or.inr ⟨c, c1, ?_⟩
    cases hb : (sH T'').testBit c with
    | false => rfl
    | true => rw [h2.1 c hb] at c2; cases c2
theorem closes_mend1 (s a : Nat) (T : Sc) : closes T (mend1 H s a T) := by
  unfold mend1
  split
  · unfold mendT
    split
    · exact ⟨fun _ h => h, Or.inl ⟨rfl, rfl, rfl, rfl, rfl⟩⟩
    · cases hl : lowest H (sH T) (sX T a) with
      | none => exact closes_rf T
      | some c =>
        obtain ⟨g, hg, -, hb, -⟩ := lowest_some hl
        refine ⟨fun i hi => ?_, Or.inr ⟨c, hb, ?_⟩⟩
        · have hi' : (clr (sH T) c).testBit i = true := hi
          rw [clr_bit] at hi'
          simp at hi'
          exact hi'.1
        · show (clr (sH T) c).testBit c = false
          rw [clr_bit]; simp
  · exact closes_rf T
theorem closes_it (s : Nat) (T : Sc) : ∀ k, closes T (it (mend1 H s) k 0 T)
  | 0 => closes_rf T
  | k + 1 => by
    rw [it_succ]
    exact closes_tr (closes_it s T k) (closes_mend1 s _ _)
theorem night_same (h : sH (nightT H T) = sH T) : eqv (nightT H T) T := by
  have hc := closes_it (H := H) (shownS H T) T (hA H)
  rcases hc.2 with e | ⟨c, c1, c2⟩
  · exact e
  · have h' : sH (it (mend1 H (shownS H T)) (hA H) 0 T) = sH T := h
    rw [h', c1] at c2
    cases c2
theorem shown_none (h : sH T = 0) : shownS H T = 0 := by
  have : ∀ i, (shownS H T).testBit i = false := by
    intro i
    unfold shownS
    rw [itor_bit (fun a => shown1 H (sH T) (leans H T) (sX T a) (hht H a))]
    have : shown1 H (sH T) (leans H T) (sX T i) (hht H i) = false := by
      unfold shown1
      rw [anyB_no]
      intro g _
      unfold shC
      rw [h, Nat.zero_testBit]
      rfl
    rw [this, Bool.and_false]
  apply Nat.eq_of_testBit_eq
  intro i
  rw [this i, Nat.zero_testBit]
theorem it_none (T : Sc) : ∀ k, it (mend1 H 0) k 0 T = T
  | 0 => rfl
  | k + 1 => by
    rw [it_succ, it_none T k]
    unfold mend1
    rw [Nat.zero_testBit]
    rfl
theorem night_whole (h : sH T = 0) : sH (nightT H T) = 0 ∧ sB (nightT H T) = sB T := by
  unfold nightT
  rw [shown_none h, it_none]
  exact ⟨h, rfl⟩
theorem mend1_bare (s a : Nat) (T : Sc) (i : Nat) : (i ≠ a → sB (mend1 H s a T) i = sB T i) ∧ ∃ d, d ≤ 1 ∧ sB (mend1 H s a T) i = sB T i + nI d := by
  have z : ∀ x : Int32, x = x + nI 0 := fun x => by rw [show nI 0 = 0 from rfl, Int32.add_zero]
  unfold mend1
  split
  · unfold mendT
    split
    · refine ⟨fun hi => ?_, ?_⟩
      · show upN (sB T) a (sB T a + 1) i = sB T i
        unfold upN
        rw [if_neg hi]
      · by_cases hi : i = a
        · refine ⟨1, Nat.le_refl 1, ?_⟩
          show upN (sB T) a (sB T a + 1) i = _
          unfold upN
          rw [if_pos hi, hi]; rfl
        · refine ⟨0, Nat.zero_le 1, ?_⟩
          show upN (sB T) a (sB T a + 1) i = _
          unfold upN
          rw [if_neg hi]; exact z _
    · cases lowest H (sH T) (sX T a) with
      | none => exact ⟨fun _ => rfl, 0, Nat.zero_le 1, z _⟩
      | some c => exact ⟨fun _ => rfl, 0, Nat.zero_le 1, z _⟩
  · exact ⟨fun _ => rfl, 0, Nat.zero_le 1, z _⟩
theorem it_bare (s : Nat) (T : Sc) (i : Nat) : ∀ k, (k ≤ i → sB (it (mend1 H s) k 0 T) i = sB T i) ∧ ∃ d, d ≤ 1 ∧ sB (it (mend1 H s) k 0 T) i = sB T i + nI d
  | 0 => ⟨fun _ => rfl, 0, Nat.zero_le 1, by rw [show nI 0 = 0 from rfl, Int32.add_zero]; rfl⟩
  | k + 1 => by
    obtain ⟨h1, d, hd, h2⟩ := it_bare s T i k
    rw [it_succ, Nat.zero_add]
    obtain ⟨m1, e, he, m2⟩ := mend1_bare (H := H) s k (it (mend1 H s) k 0 T) i
    refine ⟨fun hk => by rw [m1 (by omega), h1 (by omega)], ?_⟩
    by_cases hi : i = k
    · rw [h1 (by omega)] at m2
      exact ⟨e, he, m2⟩
    · rw [m1 hi]
      exact ⟨d, hd, h2⟩
theorem night_bare (T : Sc) (i : Nat) : ∃ d, d ≤ 1 ∧ sB (nightT H T) i = sB T i + nI d := (it_bare (shownS H T) T i (hA H)).2
def nts (H : Ho) : Nat → Sc → Sc
  | 0, T => T
  | m + 1, T => nightT H (nts H m T)
theorem nts_ok (ho : hoOk H) (hT : scOk H T) : ∀ m, scOk H (nts H m T)
  | 0 => hT
  | m + 1 => nightT_ok ho (nts_ok ho hT m)
theorem nts_whole {k : Nat} (h : sH (nts H k T) = 0) : ∀ d, sH (nts H (k + d) T) = 0 ∧ sB (nts H (k + d) T) = sB (nts H k T)
  | 0 => ⟨h, rfl⟩
  | d + 1 => by
    obtain ⟨h1, h2⟩ := nts_whole h d
    obtain ⟨h3, h4⟩ := night_whole (H := H) h1
    exact ⟨h3, h4.trans h2⟩
theorem nts_stuck {k : Nat} (h : sH (nts H (k + 1) T) = sH (nts H k T)) : ∀ d, eqv (nts H (k + d + 1) T) (nts H (k + d) T) ∧ sH (nts H (k + d) T) = sH (nts H k T)
  | 0 => ⟨night_same h, rfl⟩
  | d + 1 => by
    obtain ⟨h1, h2⟩ := nts_stuck h d
    exact ⟨eqv_night h1, h1.1.trans h2⟩
theorem nts_bare (k i : Nat) (T : Sc) : ∀ m, ∃ d, d ≤ m ∧ sB (nts H (k + m) T) i = sB (nts H k T) i + nI d
  | 0 => ⟨0, Nat.le_refl 0, by rw [show nI 0 = 0 from rfl, Int32.add_zero]; rfl⟩
  | m + 1 => by
    obtain ⟨d, hd, h1⟩ := nts_bare k i T m
    obtain ⟨e, he, h2⟩ := night_bare (H := H) (nts H (k + m) T) i
    refine ⟨d + e, by omega, ?_⟩
    show sB (nightT H (nts H (k + m) T)) i = _
    rw [h2, h1, Int32.add_assoc, nI_add]
/-! what a column lacks -/
def hcol (H : Ho) (s x : Nat) : Nat := sel (hG H) (fun _ => 1) (fun g => s.testBit (g * hW H + x))
def pcol (H : Ho) (P f : Nat → Nat) (x : Nat) : Nat := sel (hA H) P (fun a => decide (f a = x))
theorem sel_clr {m : Nat → Nat} {p p' : Nat → Bool} {g : Nat} : ∀ {n : Nat}, g < n → p g = true → p' g = false → (∀ i, i ≠ g → p' i = p i) → sel n m p' + m g = sel n m p
  | 0, h, _, _, _ => by omega
  | n + 1, h, h1, h2, h3 => by
    rw [sel_s, sel_s]
    by_cases hg : g = n
    · subst hg
      rw [h1, h2, if_pos rfl, if_neg (by decide), sel_congr (q := p) (fun i hi => h3 i (by omega))]
    · have ih := sel_clr (m := m) (n := n) (by omega) h1 h2 h3
      rw [h3 n (fun q => hg q.symm)]
      split <;> omega
theorem sel_dec {m : Nat → Nat} {p : Nat → Bool} {a : Nat} (hm : 1 ≤ m a) : ∀ {n : Nat}, (a < n → p a = true → sel n (upN m a (m a - 1)) p + 1 = sel n m p) ∧ (¬ (a < n ∧ p a = true) → sel n (upN m a (m a - 1)) p = sel n m p)
  | 0 => ⟨fun h => by omega, fun _ => rfl⟩
  | n + 1 => by
    obtain ⟨i1, i2⟩ := sel_dec (p := p) hm (n := n)
    rw [sel_s, sel_s]
    have hu : upN m a (m a - 1) n = if n = a then m a - 1 else m n := rfl
    rw [hu]
    by_cases hn : n = a
    · subst hn
      have i2' := i2 (by omega)
      rw [i2', if_pos rfl]
      refine ⟨fun _ hp => ?_, fun hp => ?_⟩
      · rw [hp, if_pos rfl, if_pos rfl]; omega
      · have : p n = false := by
          cases hb : p n with
          | false => rfl
          | true => exact absurd ⟨by omega, hb⟩ hp
        rw [this, if_neg (by decide), if_neg (by decide)]
    · rw [if_neg hn]
      refine ⟨fun ha hp => ?_, fun hp => ?_⟩
      · have := i1 (by omega) hp
        split <;> omega
      · rw [i2 (fun q => hp ⟨by omega, q.2⟩)]
theorem lack_mend1 {s a x : Nat} (hT : scOk H T) (ha : a < hA H) (hx : x < hW H) (h : pcol H (sP T) (sX T) x < hcol H (sH T) x) : pcol H (sP (mend1 H s a T)) (sX (mend1 H s a T)) x < hcol H (sH (mend1 H s a T)) x := by
  unfold mend1
  split
  · unfold mendT
    split
    · exact h
    · rename_i hp
      cases hl : lowest H (sH T) (sX T a) with
      | none => exact h
      | some c =>
        obtain ⟨g, hg, hc, hb, -⟩ := lowest_some hl
        show pcol H (upN (sP T) a (sP T a - 1)) (sX T) x < hcol H (clr (sH T) c) x
        have hd := sel_dec (m := sP T) (p := fun i => decide (sX T i = x)) (a := a) (by omega) (n := hA H)
        have hxa := hT.2.2.2 a ha
        by_cases hy : sX T a = x
        · have h1 := hd.1 ha (by simp [hy])
          have h2 := sel_clr (m := fun _ => 1) (p := fun g => (sH T).testBit (g * hW H + x)) (p' := fun g => (clr (sH T) c).testBit (g * hW H + x)) (g := g) hg (by rw [← hy, ← hc]; exact hb) (by rw [clr_bit, ← hy, ← hc]; simp) (fun i hi => by
            rw [clr_bit]
            have : ¬ i * hW H + x = c := fun q => by
              rw [hc, hy] at q
              have q2 : i * hW H = g * hW H := by omega
              exact hi (Nat.eq_of_mul_eq_mul_right (by omega) q2)
            simp [this])
          unfold pcol hcol at *
          omega
        · have h1 := hd.2 (fun q => hy (of_decide_eq_true q.2))
          have h2 : hcol H (clr (sH T) c) x = hcol H (sH T) x := sel_congr (fun i hi => by
            rw [clr_bit]
            have : ¬ i * hW H + x = c := fun q => by
              have e1 : (i * hW H + x) % hW H = x := by rw [Nat.mul_comm, Nat.mul_add_mod, Nat.mod_eq_of_lt hx]
              have e2 : c % hW H = sX T a := by rw [hc, Nat.mul_comm, Nat.mul_add_mod, Nat.mod_eq_of_lt hxa]
              rw [q, e2] at e1
              exact hy e1
            simp [this])
          rw [h2]
          unfold pcol at *
          rw [h1]
          exact h
  · exact h
theorem lack_it {s x : Nat} (ho : hoOk H) (hx : x < hW H) : ∀ (k : Nat) (T : Sc), k ≤ hA H → scOk H T → pcol H (sP T) (sX T) x < hcol H (sH T) x → pcol H (sP (it (mend1 H s) k 0 T)) (sX (it (mend1 H s) k 0 T)) x < hcol H (sH (it (mend1 H s) k 0 T)) x
  | 0, _, _, _, h => h
  | k + 1, T, hk, hT, h => by
    rw [it_succ, Nat.zero_add]
    exact lack_mend1 (mendIt_ok ho k T (by omega) hT) (by omega) hx (lack_it ho hx k T (by omega) hT h)
theorem lack_nts {x : Nat} (ho : hoOk H) (hT : scOk H T) (hx : x < hW H) (h : pcol H (sP T) (sX T) x < hcol H (sH T) x) : ∀ m, pcol H (sP (nts H m T)) (sX (nts H m T)) x < hcol H (sH (nts H m T)) x
  | 0 => h
  | m + 1 => lack_it ho hx (hA H) (nts H m T) (Nat.le_refl _) (nts_ok ho hT m) (lack_nts ho hT hx h m)
theorem lack_not {x : Nat} (ho : hoOk H) (hT : scOk H T) (hx : x < hW H) (h : pcol H (sP T) (sX T) x < hcol H (sH T) x) (m : Nat) : ¬ sH (nts H m T) = 0 := by
  intro q
  have h1 := lack_nts ho hT hx h m
  have h2 : hcol H (sH (nts H m T)) x = 0 := sel_none (fun i _ => by rw [q, Nat.zero_testBit])
  omega
end NTS
