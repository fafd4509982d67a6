/-! ===== sewing: sets of holes against ways to share them out ===== -/
def sel (n : Nat) (m : Nat → Nat) (p : Nat → Bool) : Nat := it (fun i s => if p i then s + m i else s) n 0 0
theorem sel_s (n : Nat) (m : Nat → Nat) (p : Nat → Bool) : sel (n + 1) m p = if p n then sel n m p + m n else sel n m p := by
  unfold sel
  rw [it_succ, Nat.zero_add]
theorem sel_congr {m : Nat → Nat} {p q : Nat → Bool} : ∀ {n : Nat}, (∀ i, i < n → p i = q i) → sel n m p = sel n m q
  | 0, _ => rfl
  | n + 1, h => by rw [sel_s, sel_s, sel_congr (fun i hi => h i (by omega)), h n (by omega)]
theorem sel_none {m : Nat → Nat} {p : Nat → Bool} : ∀ {n : Nat}, (∀ i, i < n → p i = false) → sel n m p = 0
  | 0, _ => rfl
  | n + 1, h => by rw [sel_s, sel_none (fun i hi => h i (by omega)), h n (by omega)]; rfl
theorem sel_le {m : Nat → Nat} {p : Nat → Bool} : ∀ {n : Nat}, (∀ i, i < n → m i ≤ 60) → sel n m p ≤ 60 * n
  | 0, _ => Nat.le_refl 0
  | n + 1, h => by
    rw [sel_s]
    have := sel_le (p := p) (n := n) (fun i hi => h i (by omega))
    have := h n (by omega)
    split <;> omega
def one (n : Nat) (m : Nat → Nat) (s : Nat) : Nat := sel n m (fun i => s.testBit i)
def ld (n : Nat) (m : Nat → Nat) (f : Nat → Nat) (j s : Nat) : Nat := sel n m (fun i => s.testBit i && decide (f i = j))
def vmax (n : Nat) (m : Nat → Nat) (f : Nat → Nat) (s : Nat) : Nat → Nat
  | 0 => 0
  | t + 1 => max (vmax n m f s t) (ld n m f t s)
theorem vmax_congr {n : Nat} {m f f' : Nat → Nat} {s s' : Nat} : ∀ {t : Nat}, (∀ j, j < t → ld n m f j s = ld n m f' j s') → vmax n m f s t = vmax n m f' s' t
  | 0, _ => rfl
  | t + 1, h => by rw [vmax, vmax, vmax_congr (fun j hj => h j (by omega)), h t (by omega)]
theorem vmax_le {n : Nat} {m f : Nat → Nat} {s : Nat} (hm : ∀ i, i < n → m i ≤ 60) : ∀ t, vmax n m f s t ≤ 60 * n
  | 0 => Nat.zero_le _
  | t + 1 => by
    rw [vmax]
    have h1 := vmax_le (f := f) (s := s) hm t
    have h2 : ld n m f t s ≤ 60 * n := sel_le hm
    omega
def LowC (n : Nat) (m : Nat → Nat) (A : Nat → Nat) (t : Nat) : Prop := ∀ s, s < 2 ^ n → ∀ f : Nat → Nat, (∀ i, i < n → s.testBit i = true → f i < t) → A s ≤ vmax n m f s t
def AttC (n : Nat) (m : Nat → Nat) (A : Nat → Nat) (t : Nat) : Prop := ∀ s, s < 2 ^ n → ∃ f : Nat → Nat, (∀ i, f i < t) ∧ A s = vmax n m f s t
def isNext (n : Nat) (m : Nat → Nat) (A A' : Nat → Nat) : Prop := ∀ s, s < 2 ^ n → A' s ≤ A s ∧ (∀ p, 0 < p → p &&& s = p → A' s ≤ max (one n m p) (A (s ^^^ p))) ∧ (A' s = A s ∨ ∃ p, 0 < p ∧ p &&& s = p ∧ A' s = max (one n m p) (A (s ^^^ p)))
theorem low_1 {n : Nat} {m A : Nat → Nat} (hA : ∀ s, s < 2 ^ n → A s = one n m s) : LowC n m A 1 := by
  intro s hs f hf
  rw [hA s hs, vmax, vmax, Nat.zero_max]
  refine Nat.le_of_eq (sel_congr (fun i hi => ?_))
  cases hb : s.testBit i
  · rfl
  · have := hf i hi hb
    have e : f i = 0 := by omega
    simp [e]
theorem att_1 {n : Nat} {m A : Nat → Nat} (hA : ∀ s, s < 2 ^ n → A s = one n m s) : AttC n m A 1 := by
  intro s hs
  refine ⟨fun _ => 0, fun i => Nat.one_pos, ?_⟩
  rw [hA s hs, vmax, vmax, Nat.zero_max]
  refine sel_congr (fun i hi => ?_)
  simp
theorem sub_of_bits {p s : Nat} (h : ∀ i, p.testBit i = true → s.testBit i = true) : p &&& s = p := by
  apply Nat.eq_of_testBit_eq
  intro i
  rw [Nat.testBit_and]
  cases hp : p.testBit i
  · rfl
  · rw [h i hp]; rfl
theorem bits_of_sub {p s i : Nat} (h : p &&& s = p) (hp : p.testBit i = true) : s.testBit i = true := by
  rw [← h, Nat.testBit_and] at hp
  cases hs : s.testBit i
  · rw [hs, Bool.and_false] at hp; cases hp
  · rfl
theorem sub_lt {p s n : Nat} (h : p &&& s = p) (hs : s < 2 ^ n) : p < 2 ^ n := by
  have : p &&& s ≤ s := Nat.and_le_right
  omega
theorem next_low {n t : Nat} {m A A' : Nat → Nat} (hN : isNext n m A A') (hA : LowC n m A t) : LowC n m A' (t + 1) := by
  intro s hs f hf
  have hpb := fun i => itor_bit (fun i => s.testBit i && decide (f i = t)) i n
  have hpl := itor_lt (fun i => s.testBit i && decide (f i = t)) n
  generalize it (fun c z => if (fun i => s.testBit i && decide (f i = t)) c then z ||| 2 ^ c else z) n 0 0 = p at *
  obtain ⟨h1, h2, -⟩ := hN s hs
  rw [vmax]
  rcases Nat.eq_zero_or_pos p with h0 | h0
  · have hft : ∀ i, i < n → s.testBit i = true → f i < t := by
      intro i hi hb
      have := hf i hi hb
      have hz := hpb i
      rw [h0, Nat.zero_testBit, decide_eq_true hi, hb, Bool.true_and, Bool.true_and] at hz
      have : ¬ f i = t := of_decide_eq_false hz.symm
      omega
    have := hA s hs f hft
    omega
  · have hsub : p &&& s = p := sub_of_bits (fun i hi => by
      rw [hpb i] at hi
      simp at hi
      exact hi.2.1)
    have hle := h2 p h0 hsub
    have e1 : one n m p = ld n m f t s := sel_congr (fun i hi => by rw [hpb i, decide_eq_true hi, Bool.true_and])
    have hx : s ^^^ p < 2 ^ n := Nat.xor_lt_two_pow hs hpl
    have hle2 := hA (s ^^^ p) hx f (fun i hi hb => by
      rw [Nat.testBit_xor, hpb i, decide_eq_true hi, Bool.true_and] at hb
      cases hsb : s.testBit i
      · rw [hsb] at hb; simp at hb
      · have := hf i hi hsb
        rw [hsb] at hb
        have hne : ¬ f i = t := by simpa using hb
        omega)
    have e2 : vmax n m f (s ^^^ p) t = vmax n m f s t := vmax_congr (fun j hj => sel_congr (fun i hi => by
      rw [Nat.testBit_xor, hpb i, decide_eq_true hi, Bool.true_and]
      by_cases hfj : f i = j
      · have : ¬ f i = t := by omega
        have hjt : ¬ j = t := by omega
        simp [hfj, hjt]
      · simp [hfj]))
    rw [e1] at hle
    rw [e2] at hle2
    omega
theorem next_att {n t : Nat} {m A A' : Nat → Nat} (hN : isNext n m A A') (hA : AttC n m A t) : AttC n m A' (t + 1) := by
  intro s hs
  obtain ⟨-, -, h3⟩ := hN s hs
  rcases h3 with h3 | ⟨p, hp0, hps, h3⟩
  · obtain ⟨f, hf, he⟩ := hA s hs
    refine ⟨f, fun i => Nat.lt_succ_of_lt (hf i), ?_⟩
    have e1 : ld n m f t s = 0 := sel_none (fun i hi => by
      have := hf i
      have : ¬ f i = t := by omega
      simp [this])
    rw [vmax, e1, h3, he]
    omega
  · have hx : s ^^^ p < 2 ^ n := Nat.xor_lt_two_pow hs (sub_lt hps hs)
    obtain ⟨f, hf, he⟩ := hA (s ^^^ p) hx
    refine ⟨fun i => if p.testBit i then t else f i, fun i => ?_, ?_⟩
    · show (if p.testBit i then t else f i) < t + 1
      have := hf i
      split <;> omega
    · have e1 : ld n m (fun i => if p.testBit i then t else f i) t s = one n m p := sel_congr (fun i hi => by
        have := hf i
        have hne : ¬ f i = t := by omega
        cases hpb : p.testBit i
        · simp [hne, hpb]
        · rw [bits_of_sub hps hpb]; simp [hpb])
      have e2 : vmax n m (fun i => if p.testBit i then t else f i) s t = vmax n m f (s ^^^ p) t := vmax_congr (fun j hj => sel_congr (fun i hi => by
        rw [Nat.testBit_xor]
        have hjt : ¬ t = j := by omega
        cases hpb : p.testBit i
        · simp [hpb]
        · rw [bits_of_sub hps hpb]; simp [hjt, hpb]))
      rw [vmax, e1, e2, h3, he]
      omega
/-- digits -/
def dg (k code h : Nat) : Nat := code / k ^ h % k
theorem dg_lt {k code h : Nat} (hk : 0 < k) : dg k code h < k := Nat.mod_lt _ hk
theorem dg_all {k : Nat} (hk : 0 < k) (f : Nat → Nat) (hf : ∀ i, f i < k) : ∀ n, ∃ code, code < k ^ n ∧ ∀ h, h < n → dg k code h = f h
  | 0 => ⟨0, by simp, fun h hh => by omega⟩
  | n + 1 => by
    obtain ⟨c, hc, hd⟩ := dg_all hk f hf n
    refine ⟨c + k ^ n * f n, ?_, fun h hh => ?_⟩
    · have h1 : k ^ n * (f n + 1) ≤ k ^ n * k := Nat.mul_le_mul_left _ (hf n)
      rw [Nat.mul_add, Nat.mul_one] at h1
      rw [Nat.pow_succ]
      omega
    · have hkh : 0 < k ^ h := Nat.pow_pos hk
      rcases Nat.lt_or_ge h n with q | q
      · have e : k ^ n = k ^ h * (k * k ^ (n - h - 1)) := by
          rw [← Nat.pow_succ', ← Nat.pow_add]
          congr 1
          omega
        unfold dg
        rw [e, Nat.mul_assoc, Nat.add_mul_div_left _ _ hkh, Nat.mul_assoc, Nat.add_mul_mod_self_left]
        exact hd h q
      · have e : h = n := by omega
        subst e
        unfold dg
        rw [Nat.add_mul_div_left _ _ hkh, Nat.div_eq_of_lt hc, Nat.zero_add, Nat.mod_eq_of_lt (hf h)]
def itmin (v : Nat → Nat) (N b : Nat) : Nat := it (fun c z => min z (v c)) N 0 b
theorem itmin_s (v : Nat → Nat) (N b : Nat) : itmin v (N + 1) b = min (itmin v N b) (v N) := by
  unfold itmin
  rw [it_succ, Nat.zero_add]
theorem itmin_le (v : Nat → Nat) (b : Nat) : ∀ N c, c < N → itmin v N b ≤ v c
  | 0, c, h => by omega
  | N + 1, c, h => by
    rw [itmin_s]
    rcases Nat.lt_or_ge c N with q | q
    · have := itmin_le v b N c q
      omega
    · have : c = N := by omega
      subst this
      omega
theorem itmin_att (v : Nat → Nat) (b : Nat) : ∀ N, itmin v N b = b ∨ ∃ c, c < N ∧ itmin v N b = v c
  | 0 => Or.inl rfl
  | N + 1 => by
    rw [itmin_s]
    rcases itmin_att v b N with h | ⟨c, hc, h⟩
    · rcases Nat.le_total (itmin v N b) (v N) with q | q
      · left; rw [Nat.min_eq_left q]; exact h
      · right; exact ⟨N, by omega, by rw [Nat.min_eq_right q]⟩
    · rcases Nat.le_total (itmin v N b) (v N) with q | q
      · right; exact ⟨c, by omega, by rw [Nat.min_eq_left q]; exact h⟩
      · right; exact ⟨N, by omega, by rw [Nat.min_eq_right q]⟩
def sewV (n : Nat) (m : Nat → Nat) (k : Nat) : Nat := itmin (fun code => vmax n m (dg k code) (2 ^ n - 1) k) (k ^ n) 1000000
theorem sew_eq {n k : Nat} {m A : Nat → Nat} (hk : 0 < k) (hn : n ≤ 8) (hm : ∀ i, i < n → m i ≤ 60) (h1 : LowC n m A k) (h2 : AttC n m A k) : A (2 ^ n - 1) = sewV n m k := by
  have hfull : 2 ^ n - 1 < 2 ^ n := by have : 0 < 2 ^ n := Nat.pow_pos (by decide); omega
  apply Nat.le_antisymm
  · rcases itmin_att (fun code => vmax n m (dg k code) (2 ^ n - 1) k) 1000000 (k ^ n) with h | ⟨c, hc, h⟩
    · have := h1 _ hfull (fun _ => 0) (fun i _ _ => hk)
      have h3 := vmax_le (f := fun _ => 0) (s := 2 ^ n - 1) hm k
      unfold sewV
      rw [h]
      omega
    · unfold sewV
      rw [h]
      exact h1 _ hfull _ (fun i _ _ => dg_lt hk)
  · obtain ⟨f, hf, he⟩ := h2 _ hfull
    obtain ⟨c, hc, hd⟩ := dg_all hk f hf n
    have h3 := itmin_le (fun code => vmax n m (dg k code) (2 ^ n - 1) k) 1000000 (k ^ n) c hc
    have e : vmax n m (dg k c) (2 ^ n - 1) k = vmax n m f (2 ^ n - 1) k := vmax_congr (fun j hj => sel_congr (fun i hi => by rw [hd i hi]))
    rw [he, ← e]
    exact h3
theorem sub_step : ∀ (n set part p : Nat), part < 2 ^ n → part &&& set = part → p &&& set = p → p < part → p ≤ (part - 1) &&& set
  | 0, set, part, p, h, _, _, hlt => by omega
  | n + 1, set, part, p, h, hs, hp, hlt => by
    have hpw : 2 ^ (n + 1) = 2 * 2 ^ n := by rw [Nat.pow_succ, Nat.mul_comm]
    have hs2 : part / 2 &&& set / 2 = part / 2 := by rw [← Nat.and_div_two, hs]
    have hp2 : p / 2 &&& set / 2 = p / 2 := by rw [← Nat.and_div_two, hp]
    have key : ((part - 1) &&& set) / 2 = (part - 1) / 2 &&& set / 2 := Nat.and_div_two
    rcases Nat.mod_two_eq_zero_or_one part with hb | hb
    · have e1 : (part - 1) / 2 = part / 2 - 1 := by omega
      have ih := sub_step n (set / 2) (part / 2) (p / 2) (by omega) hs2 hp2 (by omega)
      rw [e1] at key
      rcases Nat.mod_two_eq_zero_or_one p with hq | hq
      · omega
      · have h1 : set % 2 = 1 := by
          have : (p &&& set) % 2 = 1 := by rw [hp]; exact hq
          rw [Nat.and_mod_two_eq_one] at this
          exact this.2
        have h2 : ((part - 1) &&& set) % 2 = 1 := by
          rw [Nat.and_mod_two_eq_one]
          exact ⟨by omega, h1⟩
        omega
    · have e1 : (part - 1) / 2 = part / 2 := by omega
      rw [e1, hs2] at key
      omega
