/-! ===== the shape behind the constructors ===== -/
def xKf (L : Nat) : Nat → Nat × Nat := fun a => match a with
  | 0 => (12, L)
  | 1 => (8, 0)
  | 2 => (1, 0)
  | 3 => (11, 5)
  | 4 => (11, 5)
  | 5 => (11, 5)
  | 6 => (11, 5)
  | 7 => (6, 0)
  | 8 => (11, 62)
  | 9 => (6, 0)
  | 10 => (11, 62)
  | 11 => (5, 0)
  | 12 => (1, 0)
  | 13 => (11, 5)
  | 14 => (11, 5)
  | 15 => (11, 5)
  | 16 => (11, 5)
  | 17 => (6, 0)
  | 18 => (11, 62)
  | 19 => (11, 240)
  | 20 => (0, 0)
  | 21 => (11, 1240)
  | 22 => (2, 0)
  | 23 => (11, 124)
  | 24 => (11, 2)
  | 25 => (3, 0)
  | 26 => (11, 6)
  | 27 => (11, 6)
  | 28 => (11, 15)
  | 29 => (11, 15)
  | 30 => (4, 0)
  | 31 => (11, 5)
  | 32 => (11, 5)
  | 33 => (11, 5)
  | 34 => (6, 0)
  | 35 => (11, 62)
  | 36 => (7, 0)
  | 37 => (11, 8)
  | 38 => (11, 256)
  | 39 => (11, 256)
  | 40 => (9, 0)
  | 41 => (11, 41)
  | 42 => (11, 41)
  | 43 => (11, 62)
  | 44 => (11, 62)
  | 45 => (11, 1240)
  | 46 => (11, 126)
  | 47 => (10, 2)
  | 48 => (11, 240)
  | 49 => (11, 12)
  | 50 => (11, 30)
  | 51 => (11, 5)
  | 52 => (11, 5)
  | 53 => (11, 8)
  | 54 => (11, 3)
  | _ => (99, 0)
def xRf : Nat → Nat → Nat := fun a k => match a with
  | 1 => (match k with
    | 0 => 2
    | 1 => 7
    | 2 => 9
    | 3 => 11
    | 4 => 20
    | 5 => 22
    | 6 => 25
    | 7 => 30
    | 8 => 36
    | _ => 0)
  | 2 => (match k with
    | 3 => 3
    | 4 => 4
    | 5 => 5
    | 6 => 6
    | _ => 0)
  | 7 => (match k with
    | 0 => 8
    | _ => 0)
  | 9 => (match k with
    | 0 => 10
    | _ => 0)
  | 11 => (match k with
    | 0 => 12
    | 1 => 17
    | 4 => 19
    | _ => 0)
  | 12 => (match k with
    | 3 => 13
    | 4 => 14
    | 5 => 15
    | 6 => 16
    | _ => 0)
  | 17 => (match k with
    | 0 => 18
    | _ => 0)
  | 20 => (match k with
    | 1 => 21
    | _ => 0)
  | 22 => (match k with
    | 0 => 23
    | 1 => 24
    | _ => 0)
  | 25 => (match k with
    | 2 => 26
    | 3 => 27
    | 4 => 28
    | 5 => 29
    | _ => 0)
  | 30 => (match k with
    | 1 => 31
    | 2 => 32
    | 3 => 33
    | 4 => 34
    | _ => 0)
  | 34 => (match k with
    | 0 => 35
    | _ => 0)
  | 36 => (match k with
    | 0 => 37
    | 1 => 38
    | 2 => 39
    | _ => 0)
  | 40 => (match k with
    | 0 => 41
    | 1 => 42
    | 2 => 43
    | 3 => 44
    | 4 => 45
    | 6 => 46
    | 7 => 47
    | 9 => 48
    | 12 => 49
    | 14 => 50
    | 22 => 51
    | 23 => 52
    | 24 => 53
    | 25 => 54
    | _ => 0)
  | _ => 0
def xSH (L : Nat) : xSh := (55, 4433, xKf L, xRf)
theorem kf_0 (L : Nat) : (xSH L).2.2.1 0 = (12, L) := rfl
theorem kf_1 (L : Nat) : (xSH L).2.2.1 1 = (8, 0) := rfl
theorem kf_2 (L : Nat) : (xSH L).2.2.1 2 = (1, 0) := rfl
theorem kf_3 (L : Nat) : (xSH L).2.2.1 3 = (11, 5) := rfl
theorem kf_4 (L : Nat) : (xSH L).2.2.1 4 = (11, 5) := rfl
theorem kf_5 (L : Nat) : (xSH L).2.2.1 5 = (11, 5) := rfl
theorem kf_6 (L : Nat) : (xSH L).2.2.1 6 = (11, 5) := rfl
theorem kf_7 (L : Nat) : (xSH L).2.2.1 7 = (6, 0) := rfl
theorem kf_8 (L : Nat) : (xSH L).2.2.1 8 = (11, 62) := rfl
theorem kf_9 (L : Nat) : (xSH L).2.2.1 9 = (6, 0) := rfl
theorem kf_10 (L : Nat) : (xSH L).2.2.1 10 = (11, 62) := rfl
theorem kf_11 (L : Nat) : (xSH L).2.2.1 11 = (5, 0) := rfl
theorem kf_12 (L : Nat) : (xSH L).2.2.1 12 = (1, 0) := rfl
theorem kf_13 (L : Nat) : (xSH L).2.2.1 13 = (11, 5) := rfl
theorem kf_14 (L : Nat) : (xSH L).2.2.1 14 = (11, 5) := rfl
theorem kf_15 (L : Nat) : (xSH L).2.2.1 15 = (11, 5) := rfl
theorem kf_16 (L : Nat) : (xSH L).2.2.1 16 = (11, 5) := rfl
theorem kf_17 (L : Nat) : (xSH L).2.2.1 17 = (6, 0) := rfl
theorem kf_18 (L : Nat) : (xSH L).2.2.1 18 = (11, 62) := rfl
theorem kf_19 (L : Nat) : (xSH L).2.2.1 19 = (11, 240) := rfl
theorem kf_20 (L : Nat) : (xSH L).2.2.1 20 = (0, 0) := rfl
theorem kf_21 (L : Nat) : (xSH L).2.2.1 21 = (11, 1240) := rfl
theorem kf_22 (L : Nat) : (xSH L).2.2.1 22 = (2, 0) := rfl
theorem kf_23 (L : Nat) : (xSH L).2.2.1 23 = (11, 124) := rfl
theorem kf_24 (L : Nat) : (xSH L).2.2.1 24 = (11, 2) := rfl
theorem kf_25 (L : Nat) : (xSH L).2.2.1 25 = (3, 0) := rfl
theorem kf_26 (L : Nat) : (xSH L).2.2.1 26 = (11, 6) := rfl
theorem kf_27 (L : Nat) : (xSH L).2.2.1 27 = (11, 6) := rfl
theorem kf_28 (L : Nat) : (xSH L).2.2.1 28 = (11, 15) := rfl
theorem kf_29 (L : Nat) : (xSH L).2.2.1 29 = (11, 15) := rfl
theorem kf_30 (L : Nat) : (xSH L).2.2.1 30 = (4, 0) := rfl
theorem kf_31 (L : Nat) : (xSH L).2.2.1 31 = (11, 5) := rfl
theorem kf_32 (L : Nat) : (xSH L).2.2.1 32 = (11, 5) := rfl
theorem kf_33 (L : Nat) : (xSH L).2.2.1 33 = (11, 5) := rfl
theorem kf_34 (L : Nat) : (xSH L).2.2.1 34 = (6, 0) := rfl
theorem kf_35 (L : Nat) : (xSH L).2.2.1 35 = (11, 62) := rfl
theorem kf_36 (L : Nat) : (xSH L).2.2.1 36 = (7, 0) := rfl
theorem kf_37 (L : Nat) : (xSH L).2.2.1 37 = (11, 8) := rfl
theorem kf_38 (L : Nat) : (xSH L).2.2.1 38 = (11, 256) := rfl
theorem kf_39 (L : Nat) : (xSH L).2.2.1 39 = (11, 256) := rfl
theorem kf_40 (L : Nat) : (xSH L).2.2.1 40 = (9, 0) := rfl
theorem kf_41 (L : Nat) : (xSH L).2.2.1 41 = (11, 41) := rfl
theorem kf_42 (L : Nat) : (xSH L).2.2.1 42 = (11, 41) := rfl
theorem kf_43 (L : Nat) : (xSH L).2.2.1 43 = (11, 62) := rfl
theorem kf_44 (L : Nat) : (xSH L).2.2.1 44 = (11, 62) := rfl
theorem kf_45 (L : Nat) : (xSH L).2.2.1 45 = (11, 1240) := rfl
theorem kf_46 (L : Nat) : (xSH L).2.2.1 46 = (11, 126) := rfl
theorem kf_47 (L : Nat) : (xSH L).2.2.1 47 = (10, 2) := rfl
theorem kf_48 (L : Nat) : (xSH L).2.2.1 48 = (11, 240) := rfl
theorem kf_49 (L : Nat) : (xSH L).2.2.1 49 = (11, 12) := rfl
theorem kf_50 (L : Nat) : (xSH L).2.2.1 50 = (11, 30) := rfl
theorem kf_51 (L : Nat) : (xSH L).2.2.1 51 = (11, 5) := rfl
theorem kf_52 (L : Nat) : (xSH L).2.2.1 52 = (11, 5) := rfl
theorem kf_53 (L : Nat) : (xSH L).2.2.1 53 = (11, 8) := rfl
theorem kf_54 (L : Nat) : (xSH L).2.2.1 54 = (11, 3) := rfl
theorem rf_1_0 (L : Nat) : (xSH L).2.2.2 1 0 = 2 := rfl
theorem rf_1_1 (L : Nat) : (xSH L).2.2.2 1 1 = 7 := rfl
theorem rf_1_2 (L : Nat) : (xSH L).2.2.2 1 2 = 9 := rfl
theorem rf_1_3 (L : Nat) : (xSH L).2.2.2 1 3 = 11 := rfl
theorem rf_1_4 (L : Nat) : (xSH L).2.2.2 1 4 = 20 := rfl
theorem rf_1_5 (L : Nat) : (xSH L).2.2.2 1 5 = 22 := rfl
theorem rf_1_6 (L : Nat) : (xSH L).2.2.2 1 6 = 25 := rfl
theorem rf_1_7 (L : Nat) : (xSH L).2.2.2 1 7 = 30 := rfl
theorem rf_1_8 (L : Nat) : (xSH L).2.2.2 1 8 = 36 := rfl
theorem rf_2_3 (L : Nat) : (xSH L).2.2.2 2 3 = 3 := rfl
theorem rf_2_4 (L : Nat) : (xSH L).2.2.2 2 4 = 4 := rfl
theorem rf_2_5 (L : Nat) : (xSH L).2.2.2 2 5 = 5 := rfl
theorem rf_2_6 (L : Nat) : (xSH L).2.2.2 2 6 = 6 := rfl
theorem rf_7_0 (L : Nat) : (xSH L).2.2.2 7 0 = 8 := rfl
theorem rf_9_0 (L : Nat) : (xSH L).2.2.2 9 0 = 10 := rfl
theorem rf_11_0 (L : Nat) : (xSH L).2.2.2 11 0 = 12 := rfl
theorem rf_11_1 (L : Nat) : (xSH L).2.2.2 11 1 = 17 := rfl
theorem rf_11_4 (L : Nat) : (xSH L).2.2.2 11 4 = 19 := rfl
theorem rf_12_3 (L : Nat) : (xSH L).2.2.2 12 3 = 13 := rfl
theorem rf_12_4 (L : Nat) : (xSH L).2.2.2 12 4 = 14 := rfl
theorem rf_12_5 (L : Nat) : (xSH L).2.2.2 12 5 = 15 := rfl
theorem rf_12_6 (L : Nat) : (xSH L).2.2.2 12 6 = 16 := rfl
theorem rf_17_0 (L : Nat) : (xSH L).2.2.2 17 0 = 18 := rfl
theorem rf_20_1 (L : Nat) : (xSH L).2.2.2 20 1 = 21 := rfl
theorem rf_22_0 (L : Nat) : (xSH L).2.2.2 22 0 = 23 := rfl
theorem rf_22_1 (L : Nat) : (xSH L).2.2.2 22 1 = 24 := rfl
theorem rf_25_2 (L : Nat) : (xSH L).2.2.2 25 2 = 26 := rfl
theorem rf_25_3 (L : Nat) : (xSH L).2.2.2 25 3 = 27 := rfl
theorem rf_25_4 (L : Nat) : (xSH L).2.2.2 25 4 = 28 := rfl
theorem rf_25_5 (L : Nat) : (xSH L).2.2.2 25 5 = 29 := rfl
theorem rf_30_1 (L : Nat) : (xSH L).2.2.2 30 1 = 31 := rfl
theorem rf_30_2 (L : Nat) : (xSH L).2.2.2 30 2 = 32 := rfl
theorem rf_30_3 (L : Nat) : (xSH L).2.2.2 30 3 = 33 := rfl
theorem rf_30_4 (L : Nat) : (xSH L).2.2.2 30 4 = 34 := rfl
theorem rf_34_0 (L : Nat) : (xSH L).2.2.2 34 0 = 35 := rfl
theorem rf_36_0 (L : Nat) : (xSH L).2.2.2 36 0 = 37 := rfl
theorem rf_36_1 (L : Nat) : (xSH L).2.2.2 36 1 = 38 := rfl
theorem rf_36_2 (L : Nat) : (xSH L).2.2.2 36 2 = 39 := rfl
theorem rf_40_0 (L : Nat) : (xSH L).2.2.2 40 0 = 41 := rfl
theorem rf_40_1 (L : Nat) : (xSH L).2.2.2 40 1 = 42 := rfl
theorem rf_40_2 (L : Nat) : (xSH L).2.2.2 40 2 = 43 := rfl
theorem rf_40_3 (L : Nat) : (xSH L).2.2.2 40 3 = 44 := rfl
theorem rf_40_4 (L : Nat) : (xSH L).2.2.2 40 4 = 45 := rfl
theorem rf_40_6 (L : Nat) : (xSH L).2.2.2 40 6 = 46 := rfl
theorem rf_40_7 (L : Nat) : (xSH L).2.2.2 40 7 = 47 := rfl
theorem rf_40_9 (L : Nat) : (xSH L).2.2.2 40 9 = 48 := rfl
theorem rf_40_12 (L : Nat) : (xSH L).2.2.2 40 12 = 49 := rfl
theorem rf_40_14 (L : Nat) : (xSH L).2.2.2 40 14 = 50 := rfl
theorem rf_40_22 (L : Nat) : (xSH L).2.2.2 40 22 = 51 := rfl
theorem rf_40_23 (L : Nat) : (xSH L).2.2.2 40 23 = 52 := rfl
theorem rf_40_24 (L : Nat) : (xSH L).2.2.2 40 24 = 53 := rfl
theorem rf_40_25 (L : Nat) : (xSH L).2.2.2 40 25 = 54 := rfl
theorem li_0 : (0 : Int32) = nI 0 := rfl
theorem li_1 : (1 : Int32) = nI 1 := rfl
theorem li_2 : (2 : Int32) = nI 2 := rfl
theorem li_3 : (3 : Int32) = nI 3 := rfl
theorem li_4 : (4 : Int32) = nI 4 := rfl
theorem li_5 : (5 : Int32) = nI 5 := rfl
theorem li_6 : (6 : Int32) = nI 6 := rfl
theorem li_8 : (8 : Int32) = nI 8 := rfl
theorem li_9 : (9 : Int32) = nI 9 := rfl
theorem li_10 : (10 : Int32) = nI 10 := rfl
theorem li_12 : (12 : Int32) = nI 12 := rfl
theorem li_15 : (15 : Int32) = nI 15 := rfl
theorem li_16 : (16 : Int32) = nI 16 := rfl
theorem li_19 : (19 : Int32) = nI 19 := rfl
theorem li_20 : (20 : Int32) = nI 20 := rfl
theorem li_21 : (21 : Int32) = nI 21 := rfl
theorem li_22 : (22 : Int32) = nI 22 := rfl
theorem li_25 : (25 : Int32) = nI 25 := rfl
theorem li_30 : (30 : Int32) = nI 30 := rfl
theorem li_31 : (31 : Int32) = nI 31 := rfl
theorem li_32 : (32 : Int32) = nI 32 := rfl
theorem li_35 : (35 : Int32) = nI 35 := rfl
theorem li_40 : (40 : Int32) = nI 40 := rfl
theorem li_41 : (41 : Int32) = nI 41 := rfl
theorem li_42 : (42 : Int32) = nI 42 := rfl
theorem li_46 : (46 : Int32) = nI 46 := rfl
theorem li_47 : (47 : Int32) = nI 47 := rfl
theorem li_48 : (48 : Int32) = nI 48 := rfl
theorem li_50 : (50 : Int32) = nI 50 := rfl
theorem li_51 : (51 : Int32) = nI 51 := rfl
theorem li_52 : (52 : Int32) = nI 52 := rfl
theorem li_56 : (56 : Int32) = nI 56 := rfl
theorem li_57 : (57 : Int32) = nI 57 := rfl
theorem li_59 : (59 : Int32) = nI 59 := rfl
theorem li_60 : (60 : Int32) = nI 60 := rfl
theorem li_61 : (61 : Int32) = nI 61 := rfl
theorem li_62 : (62 : Int32) = nI 62 := rfl
theorem li_63 : (63 : Int32) = nI 63 := rfl
theorem li_99 : (99 : Int32) = nI 99 := rfl
theorem li_100 : (100 : Int32) = nI 100 := rfl
theorem li_107 : (107 : Int32) = nI 107 := rfl
theorem li_124 : (124 : Int32) = nI 124 := rfl
theorem li_126 : (126 : Int32) = nI 126 := rfl
theorem li_240 : (240 : Int32) = nI 240 := rfl
theorem li_255 : (255 : Int32) = nI 255 := rfl
theorem li_256 : (256 : Int32) = nI 256 := rfl
theorem li_1000 : (1000 : Int32) = nI 1000 := rfl
theorem li_1178 : (1178 : Int32) = nI 1178 := rfl
theorem li_1240 : (1240 : Int32) = nI 1240 := rfl
theorem li_9000 : (9000 : Int32) = nI 9000 := rfl
theorem li_65536 : (65536 : Int32) = nI 65536 := rfl
theorem li_1000000 : (1000000 : Int32) = nI 1000000 := rfl
theorem li_252645135 : (252645135 : Int32) = nI 252645135 := rfl
theorem li_858993459 : (858993459 : Int32) = nI 858993459 := rfl
theorem li_1431655765 : (1431655765 : Int32) = nI 1431655765 := rfl
/-! ===== numbers ===== -/
theorem xin_nI {k n : Nat} (h : k < 2 ^ 31) : xin (nI k) n = decide (k < n) := by
  have h1 : xin (nI k) n = true ↔ k < n := by
    rw [xin_vp, vp_in_iff, nI_toInt h]
    omega
  by_cases hk : k < n
  · rw [h1.mpr hk]; simp [hk]
  · have : ¬ xin (nI k) n = true := fun q => hk (h1.mp q)
    simp [hk, this]
theorem dlt {a b : Nat} (ha : a < 2 ^ 31) (hb : b < 2 ^ 31) : decide (nI a < nI b) = decide (a < b) := by simp only [nI_ltI ha hb]
theorem dle {a b : Nat} (ha : a < 2 ^ 31) (hb : b < 2 ^ 31) : decide (nI a ≤ nI b) = decide (a ≤ b) := by simp only [nI_leI ha hb]
theorem deq {a b : Nat} (ha : a < 2 ^ 31) (hb : b < 2 ^ 31) : decide (nI a = nI b) = decide (a = b) := by simp only [nI_eq ha hb]
/-- a loop: from i to n -/
def it {σ : Type} (f : Nat → σ → σ) : Nat → Nat → σ → σ
  | 0, _, s => s
  | k + 1, i, s => it f k (i + 1) (f i s)
theorem it_succ {σ : Type} (f : Nat → σ → σ) : ∀ (k i : Nat) (s : σ), it f (k + 1) i s = f (i + k) (it f k i s)
  | 0, i, s => rfl
  | k + 1, i, s => by
    show it f (k + 1) (i + 1) (f i s) = f (i + (k + 1)) (it f k (i + 1) (f i s))
    rw [it_succ f k (i + 1) (f i s), show i + 1 + k = i + (k + 1) by omega]
theorem loop_it {σ : Type} {E : Nat → σ → Option xR} {F : σ → Option xR} (f : Nat → σ → σ) (inv : Nat → σ → Prop) {n : Nat} (hx : ∀ s, inv n s → E n s = F s) (hs : ∀ i s, i < n → inv i s → E i s = E (i + 1) (f i s) ∧ inv (i + 1) (f i s)) : ∀ (k i : Nat) (s : σ), i + k = n → inv i s → E i s = F (it f k i s) ∧ inv n (it f k i s)
  | 0, i, s, hi, h => by
    have : i = n := by omega
    subst this
    exact ⟨hx s h, h⟩
  | k + 1, i, s, hi, h => by
    obtain ⟨h1, h2⟩ := hs i s (by omega) h
    rw [h1]
    exact loop_it f inv hx hs k (i + 1) (f i s) (by omega) h2

