/-! ===== bits ===== -/
theorem nI_bv (n : Nat) : (nI n).toBitVec = BitVec.ofNat 32 n := rfl
theorem nI_or (a b : Nat) : nI a ||| nI b = nI (a ||| b) := by
  apply Int32.toBitVec_inj.mp
  rw [Int32.toBitVec_or, nI_bv, nI_bv, nI_bv, BitVec.ofNat_or]
theorem nI_and (a b : Nat) : nI a &&& nI b = nI (a &&& b) := by
  apply Int32.toBitVec_inj.mp
  rw [Int32.toBitVec_and, nI_bv, nI_bv, nI_bv, BitVec.ofNat_and]
theorem nI_and31 {j : Nat} (h : j < 32) : nI j &&& 31 = nI j := by
  rw [show (31 : Int32) = nI 31 from rfl, nI_and, show (31 : Nat) = 2 ^ 5 - 1 from rfl, Nat.and_two_pow_sub_one_eq_mod, Nat.mod_eq_of_lt h]
theorem nI_smod {j : Nat} (h : j < 32) : ((nI j).toBitVec.smod 32).toNat = j := by
  revert j
  decide
theorem nI_shr {s j : Nat} (hs : s < 2 ^ 31) (hj : j < 32) : nI s >>> (nI j &&& 31) = nI (s / 2 ^ j) := by
  rw [nI_and31 hj]
  exact pk_shrN hs _ j (nI_smod hj)
theorem nI_shl1 {j : Nat} (hj : j < 31) : (1 : Int32) <<< (nI j &&& 31) = nI (2 ^ j) := by
  rw [nI_and31 (by omega), show (1 : Int32) = nI 1 from rfl]
  have := pk_shlN (n := 1) (nI j) j (nI_smod (by omega)) (by
    have : 2 ^ j < 2 ^ 32 := Nat.pow_lt_pow_right (by decide) (by omega)
    omega)
  rw [this, Nat.one_mul]
theorem nI_bit {s j : Nat} (hs : s < 2 ^ 31) (hj : j < 32) : (nI s >>> (nI j &&& 31)) &&& 1 = nI (s.testBit j).toNat := by
  rw [nI_shr hs hj, show (1 : Int32) = nI 1 from rfl, nI_and, Nat.and_one_is_mod]
  congr 1
  rw [Nat.testBit_eq_decide_div_mod_eq]
  have : s / 2 ^ j % 2 < 2 := Nat.mod_lt _ (by decide)
  by_cases h : s / 2 ^ j % 2 = 1
  · simp [h]
  · have h0 : s / 2 ^ j % 2 = 0 := by omega
    simp [h0]
theorem nI_b1 (b : Bool) : (nI b.toNat = 1) ↔ b = true := by cases b <;> decide
theorem nI_b0 (b : Bool) : (nI b.toNat = 0) ↔ b = false := by cases b <;> decide
/-- a set without one bit -/
def clr (s j : Nat) : Nat := if s.testBit j then s ^^^ 2 ^ j else s
theorem clr_bit (s j i : Nat) : (clr s j).testBit i = (s.testBit i && !decide (i = j)) := by
  unfold clr
  split
  · rename_i h
    rw [Nat.testBit_xor, Nat.testBit_two_pow]
    by_cases hk : j = i
    · subst hk; simp [h]
    · have hk' : ¬ i = j := fun q => hk q.symm
      simp [hk, hk']
  · rename_i h
    by_cases hk : i = j
    · subst hk; simp at h; simp [h]
    · simp [hk]
theorem clr_lt {s j n : Nat} (h : s < 2 ^ n) : clr s j < 2 ^ n := by
  apply Nat.lt_pow_two_of_testBit
  intro i hi
  rw [clr_bit, Nat.testBit_lt_two_pow (Nat.lt_of_lt_of_le h (Nat.pow_le_pow_right (by decide) hi))]
  rfl
theorem nI_clr {s j : Nat} (hs : s < 2 ^ 31) (hj : j < 31) : nI s &&& (nI (2 ^ j) ^^^ (-1)) = nI (clr s j) := by
  apply Int32.toBitVec_inj.mp
  apply BitVec.eq_of_getLsbD_eq
  intro i hi
  rw [Int32.toBitVec_and, Int32.toBitVec_xor, nI_bv, nI_bv, nI_bv]
  have hm : (-1 : Int32).toBitVec = BitVec.allOnes 32 := by decide
  rw [hm, BitVec.getLsbD_and, BitVec.getLsbD_xor, BitVec.getLsbD_ofNat, BitVec.getLsbD_ofNat, BitVec.getLsbD_ofNat, BitVec.getLsbD_allOnes, clr_bit, Nat.testBit_two_pow]
  by_cases hk : j = i
  · subst hk; simp [hi]
  · have hk' : ¬ i = j := fun q => hk q.symm
    simp [hk, hk', hi]
theorem or_bit (s j i : Nat) : (s ||| 2 ^ j).testBit i = (s.testBit i || decide (i = j)) := by
  rw [Nat.testBit_or, Nat.testBit_two_pow]
  by_cases hk : j = i
  · subst hk; simp
  · have hk' : ¬ i = j := fun q => hk q.symm
    simp [hk, hk']
theorem or_lt {s j n : Nat} (hs : s < 2 ^ n) (hj : j < n) : s ||| 2 ^ j < 2 ^ n := Nat.or_lt_two_pow hs (Nat.pow_lt_pow_right (by decide) hj)
