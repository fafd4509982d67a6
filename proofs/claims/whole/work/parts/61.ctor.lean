/-! ===== the constructors, step by step ===== -/
def xK0 (L : Nat) : Nat → Nat × Nat := fun a => if a = 0 then (12, L) else (99, 0)
def xM0 (xs : Nat → Int32) : Nat → Nat → Int32 := fun a i => if a = 0 then xs i else 0
/-- the world at the law's entry: no cell but the script -/
def xW0 (L : Nat) (xs : Nat → Int32) : xW := ((1, 0, xK0 L, fun _ _ => 0), xM0 xs, fun _ _ => 0)
theorem ev_g1 {mi pc : Nat} {ls st : List Value} {w : xW} {en : xE} {s1 : xSt} {cc : Bool} {A : Option xR} (hf : xfind (xnth xTs mi) pc = some en) (h : xexe en mi pc (xkill en.2.2.2.2.2.2.2.2 ls) st w = some (.inl (cc, s1, none))) (hc : cc = true) (k : ev s1 = A) : ev (mi, pc, ls, st, w) = A := by
  rw [ev_gd hf h k, hc]; rfl
theorem ev_cl {mi pc : Nat} {ls st : List Value} {w : xW} {en : xE} {s1 : xSt} {cc : Bool} {A : Option xR} {k : Nat × Nat × List Value × List Value} {r : xR} (hf : xfind (xnth xTs mi) pc = some en) (h : xexe en mi pc (xkill en.2.2.2.2.2.2.2.2 ls) st w = some (.inr (.inr (.inl (cc, s1, k))))) (hc : cc = true) (hr : ev s1 = some r) (kk : ev (k.1, k.2.1, k.2.2.1, r.1.toList ++ k.2.2.2, r.2) = A) : ev (mi, pc, ls, st, w) = A := by
  rw [ev_ca hf h, hc, hr]; exact kk
def hcM (M : Mem) (h : Nat) : Mem := xu (xu (xu (xu (xu (xu (xu (xu (xu (xu (xu (xu (xu (xu (xu (xu (xu (xu (xu (xu (xu (xu (xu (M) h 0 (nI 0)) h 1 (nI 0)) h 2 (nI 0)) (h + 1) 0 (nI 10)) (h + 2) 0 (nI 0)) (h + 3) 0 (nI 5)) (h + 1) 1 (nI 10)) (h + 2) 1 (nI 0)) (h + 3) 1 (nI 5)) (h + 1) 2 (nI 10)) (h + 2) 2 (nI 0)) (h + 3) 2 (nI 5)) (h + 1) 3 (nI 10)) (h + 2) 3 (nI 0)) (h + 3) 3 (nI 5)) (h + 1) 4 (nI 10)) (h + 2) 4 (nI 0)) (h + 3) 4 (nI 5)) (h + 4) 0 (nI 0)) (h + 4) 1 (nI 0)) (h + 4) 2 (nI 0)) (h + 4) 3 (nI 0)) (h + 4) 4 (nI 0)
theorem hcM_ne {M : Mem} {h a : Nat} (ha : a < h ∨ h + 4 < a) : hcM M h a = M a := by
  unfold hcM
  simp (disch := omega) only [xu_ne]
theorem c_houseClearE {sh : xSh} {h : Nat} {M : Mem} {J : Nat → Nat → Int64} (hH : isHouse sh h (h + 1) (h + 2) (h + 3) (h + 4)) : ev (5, 0, [.ref h, .null], [], (sh, M, J)) = some (none, (sh, hcM M h, J)) := by
  have h1 := hH.1
  have tc := fun {M : Mem} {J : Nat → Nat → Int64} {k : Nat} {x y z : Int32} (hk : k < 5) => c_tellCloth (M := M) (J := J) (k := k) (x := x) (y := y) (z := z) hH hk
  have th := fun {M : Mem} {J : Nat → Nat → Int64} {k : Nat} {x : Int32} (hk : k < 5) => c_tellHeight (M := M) (J := J) (k := k) (x := x) hH hk
  unfold hcM
  simp (disch := omega) only [b_House_clear_0, h1, b_House_clear_17, tc, b_House_clear_31, b_House_clear_39, th, b_House_clear_50, li_0, li_1, li_2, li_3, li_4, li_5, li_6, li_7, li_8, li_9, li_10, li_11, li_12, li_13, li_14, li_15, li_16, li_17, li_18, li_19, li_20, li_21, li_22, li_23, li_24, li_25, li_26, li_27, li_28, li_29, li_30, li_31, li_32, li_33, li_34, li_35, li_36, li_37, li_38, li_39, li_40, li_41, li_42, li_43, li_44, li_45, li_46, li_47, li_48, li_49, li_50, li_51, li_52, li_53, li_54, li_55, li_56, li_57, li_58, li_59, li_60, li_61, li_62, li_63, li_99, li_100, li_107, li_124, li_126, li_240, li_255, li_256, li_1000, li_1178, li_1240, li_9000, li_65536, li_1000000, nI_add, pk_mul, nI_ltI, nI_leI, nI_eq, xin_nI, nI_clamp, decide_true, decide_false, Bool.and_true, Bool.true_and, Bool.and_false, Bool.false_and, Bool.not_true, Bool.not_false, cond_true, cond_false, Option.bind_some, Option.toList_some, Option.toList_none, List.cons_append, List.nil_append, List.append_nil, Nat.not_lt_zero, Nat.zero_le, Nat.le_refl, Nat.lt_irrefl, Nat.reduceLT, Nat.reduceLeDiff, Nat.reduceEqDiff, Nat.reduceAdd, Nat.reduceMul, Bool.toNat_true, Bool.toNat_false, Nat.add_zero, Nat.zero_add, Nat.succ_ne_zero, Nat.one_ne_zero, decide_eq_true, decide_eq_false, bb1, bb0, bbT, eq_self, reduceIte, and_self, and_true, true_and]
set_option maxRecDepth 100000 in
theorem fc_205_0 : xfind (xnth xTs 205) 0 = some (0, .new 7, 3, (8, 11, 0, 0), .null, [], 68, 0, []) := rfl
set_option maxRecDepth 100000 in
theorem fc_205_3 : xfind (xnth xTs 205) 3 = some (3, .dup, 1, (0, 0, 0, 0), .null, [], 0, 0, []) := rfl
set_option maxRecDepth 100000 in
theorem fc_205_4 : xfind (xnth xTs 205) 4 = some (4, .invokespecial 9, 3, (89, 0, 8, 1), .null, [], 70, 0, []) := rfl
theorem fc_89_0 : xfind (xnth xTs 89) 0 = some (0, .aload_n 0, 1, (0, 0, 0, 0), .null, [], 0, 0, []) := rfl
theorem fc_89_1 : xfind (xnth xTs 89) 1 = some (1, .invokespecial 1, 3, (999, 0, 0, 0), .null, [], 73, 0, []) := rfl
theorem fc_89_4 : xfind (xnth xTs 89) 4 = some (4, .aload_n 0, 1, (0, 0, 0, 0), .null, [], 0, 0, []) := rfl
theorem fc_89_5 : xfind (xnth xTs 89) 5 = some (5, .new 7, 3, (1, 7, 0, 0), .null, [], 76, 0, []) := rfl
theorem fc_89_8 : xfind (xnth xTs 89) 8 = some (8, .dup, 1, (0, 0, 0, 0), .null, [], 0, 0, []) := rfl
theorem fc_89_9 : xfind (xnth xTs 89) 9 = some (9, .invokespecial 9, 3, (4, 0, 1, 1), .null, [], 78, 0, []) := rfl
theorem fc_4_0 : xfind (xnth xTs 4) 0 = some (0, .aload_n 0, 1, (0, 0, 0, 0), .null, [], 0, 0, []) := rfl
theorem fc_4_1 : xfind (xnth xTs 4) 1 = some (1, .invokespecial 3, 3, (999, 0, 0, 0), .null, [], 81, 0, []) := rfl
theorem fc_4_4 : xfind (xnth xTs 4) 4 = some (4, .aload_n 0, 1, (0, 0, 0, 0), .null, [], 0, 0, []) := rfl
theorem fc_4_5 : xfind (xnth xTs 4) 5 = some (5, .iconst 0, 1, (0, 0, 0, 0), (.int 0), [], 0, 0, []) := rfl
theorem fc_4_6 : xfind (xnth xTs 4) 6 = some (6, .putfield 9, 3, (1, 0, 0, 0), .null, [], 97, 0, []) := rfl
theorem fc_4_9 : xfind (xnth xTs 4) 9 = some (9, .aload_n 0, 1, (0, 0, 0, 0), .null, [], 0, 0, []) := rfl
theorem fc_4_10 : xfind (xnth xTs 4) 10 = some (10, .iconst 0, 1, (0, 0, 0, 0), (.int 0), [], 0, 0, []) := rfl
theorem fc_4_11 : xfind (xnth xTs 4) 11 = some (11, .putfield 15, 3, (1, 1, 0, 0), .null, [], 102, 0, []) := rfl
theorem fc_4_14 : xfind (xnth xTs 4) 14 = some (14, .aload_n 0, 1, (0, 0, 0, 0), .null, [], 0, 0, []) := rfl
theorem fc_4_15 : xfind (xnth xTs 4) 15 = some (15, .iconst 0, 1, (0, 0, 0, 0), (.int 0), [], 0, 0, []) := rfl
theorem fc_4_16 : xfind (xnth xTs 4) 16 = some (16, .putfield 18, 3, (1, 2, 0, 0), .null, [], 107, 0, []) := rfl
theorem fc_4_19 : xfind (xnth xTs 4) 19 = some (19, .aload_n 0, 1, (0, 0, 0, 0), .null, [], 0, 0, []) := rfl
theorem fc_4_20 : xfind (xnth xTs 4) 20 = some (20, .iconst 5, 1, (0, 0, 0, 0), (.int 5), [], 0, 0, []) := rfl
theorem fc_4_21 : xfind (xnth xTs 4) 21 = some (21, .newarray .int, 2, (0, 0, 0, 0), .null, [], 0, 0, []) := rfl
theorem fc_4_23 : xfind (xnth xTs 4) 23 = some (23, .putfield 21, 3, (1, 3, 1, 0), .null, [], 112, 0, []) := rfl
theorem fc_4_26 : xfind (xnth xTs 4) 26 = some (26, .aload_n 0, 1, (0, 0, 0, 0), .null, [], 0, 0, []) := rfl
theorem fc_4_27 : xfind (xnth xTs 4) 27 = some (27, .iconst 5, 1, (0, 0, 0, 0), (.int 5), [], 0, 0, []) := rfl
theorem fc_4_28 : xfind (xnth xTs 4) 28 = some (28, .newarray .int, 2, (0, 0, 0, 0), .null, [], 0, 0, []) := rfl
theorem fc_4_30 : xfind (xnth xTs 4) 30 = some (30, .putfield 25, 3, (1, 4, 1, 0), .null, [], 113, 0, []) := rfl
theorem fc_4_33 : xfind (xnth xTs 4) 33 = some (33, .aload_n 0, 1, (0, 0, 0, 0), .null, [], 0, 0, []) := rfl
theorem fc_4_34 : xfind (xnth xTs 4) 34 = some (34, .iconst 5, 1, (0, 0, 0, 0), (.int 5), [], 0, 0, []) := rfl
theorem fc_4_35 : xfind (xnth xTs 4) 35 = some (35, .newarray .int, 2, (0, 0, 0, 0), .null, [], 0, 0, []) := rfl
theorem fc_4_37 : xfind (xnth xTs 4) 37 = some (37, .putfield 28, 3, (1, 5, 1, 0), .null, [], 114, 0, []) := rfl
theorem fc_4_40 : xfind (xnth xTs 4) 40 = some (40, .aload_n 0, 1, (0, 0, 0, 0), .null, [], 0, 0, []) := rfl
theorem fc_4_41 : xfind (xnth xTs 4) 41 = some (41, .iconst 5, 1, (0, 0, 0, 0), (.int 5), [], 0, 0, []) := rfl
theorem fc_4_42 : xfind (xnth xTs 4) 42 = some (42, .newarray .int, 2, (0, 0, 0, 0), .null, [], 0, 0, []) := rfl
theorem fc_4_44 : xfind (xnth xTs 4) 44 = some (44, .putfield 31, 3, (1, 6, 1, 0), .null, [], 115, 0, []) := rfl
theorem fc_4_47 : xfind (xnth xTs 4) 47 = some (47, .aload_n 0, 1, (0, 0, 0, 0), .null, [], 0, 0, []) := rfl
theorem fc_4_48 : xfind (xnth xTs 4) 48 = some (48, .invokevirtual 34, 3, (5, 0, 1, 2), .null, [], 82, 0, []) := rfl
theorem fc_4_51 : xfind (xnth xTs 4) 51 = some (51, .return_, 1, (0, 0, 0, 0), .null, [], 0, 0, []) := rfl
theorem fc_89_12 : xfind (xnth xTs 89) 12 = some (12, .putfield 10, 3, (8, 0, 1, 0), .null, [], 291, 0, []) := rfl
theorem fc_89_15 : xfind (xnth xTs 89) 15 = some (15, .aload_n 0, 1, (0, 0, 0, 0), .null, [], 0, 0, []) := rfl
theorem fc_89_16 : xfind (xnth xTs 89) 16 = some (16, .new 16, 3, (6, 1, 0, 0), .null, [], 132, 0, []) := rfl
theorem fc_89_19 : xfind (xnth xTs 89) 19 = some (19, .dup, 1, (0, 0, 0, 0), .null, [], 0, 0, []) := rfl
theorem fc_89_20 : xfind (xnth xTs 89) 20 = some (20, .invokespecial 18, 3, (56, 0, 6, 1), .null, [], 134, 0, []) := rfl
theorem fc_56_0 : xfind (xnth xTs 56) 0 = some (0, .aload_n 0, 1, (0, 0, 0, 0), .null, [], 0, 0, []) := rfl
theorem fc_56_1 : xfind (xnth xTs 56) 1 = some (1, .invokespecial 5, 3, (999, 0, 0, 0), .null, [], 137, 0, []) := rfl
theorem fc_56_4 : xfind (xnth xTs 56) 4 = some (4, .aload_n 0, 1, (0, 0, 0, 0), .null, [], 0, 0, []) := rfl
theorem fc_56_5 : xfind (xnth xTs 56) 5 = some (5, .bipush 62, 2, (0, 0, 0, 0), (.int 62), [], 0, 0, []) := rfl
theorem fc_56_7 : xfind (xnth xTs 56) 7 = some (7, .newarray .int, 2, (0, 0, 0, 0), .null, [], 0, 0, []) := rfl
theorem fc_56_9 : xfind (xnth xTs 56) 9 = some (9, .putfield 11, 3, (6, 0, 1, 0), .null, [], 138, 0, []) := rfl
theorem fc_56_12 : xfind (xnth xTs 56) 12 = some (12, .return_, 1, (0, 0, 0, 0), .null, [], 0, 0, []) := rfl
theorem fc_89_23 : xfind (xnth xTs 89) 23 = some (23, .putfield 19, 3, (8, 1, 1, 0), .null, [], 292, 0, []) := rfl
theorem fc_89_26 : xfind (xnth xTs 89) 26 = some (26, .aload_n 0, 1, (0, 0, 0, 0), .null, [], 0, 0, []) := rfl
theorem fc_89_27 : xfind (xnth xTs 89) 27 = some (27, .new 16, 3, (6, 1, 0, 0), .null, [], 132, 0, []) := rfl
theorem fc_89_30 : xfind (xnth xTs 89) 30 = some (30, .dup, 1, (0, 0, 0, 0), .null, [], 0, 0, []) := rfl
theorem fc_89_31 : xfind (xnth xTs 89) 31 = some (31, .invokespecial 18, 3, (56, 0, 6, 1), .null, [], 134, 0, []) := rfl
theorem fc_89_34 : xfind (xnth xTs 89) 34 = some (34, .putfield 23, 3, (8, 2, 1, 0), .null, [], 293, 0, []) := rfl
theorem fc_89_37 : xfind (xnth xTs 89) 37 = some (37, .aload_n 0, 1, (0, 0, 0, 0), .null, [], 0, 0, []) := rfl
theorem fc_89_38 : xfind (xnth xTs 89) 38 = some (38, .new 26, 3, (5, 9, 0, 0), .null, [], 144, 0, []) := rfl
theorem fc_89_41 : xfind (xnth xTs 89) 41 = some (41, .dup, 1, (0, 0, 0, 0), .null, [], 0, 0, []) := rfl
theorem fc_89_42 : xfind (xnth xTs 89) 42 = some (42, .invokespecial 28, 3, (41, 0, 5, 1), .null, [], 146, 0, []) := rfl
theorem fc_41_0 : xfind (xnth xTs 41) 0 = some (0, .aload_n 0, 1, (0, 0, 0, 0), .null, [], 0, 0, []) := rfl
theorem fc_41_1 : xfind (xnth xTs 41) 1 = some (1, .invokespecial 3, 3, (999, 0, 0, 0), .null, [], 149, 0, []) := rfl
theorem fc_41_4 : xfind (xnth xTs 41) 4 = some (4, .aload_n 0, 1, (0, 0, 0, 0), .null, [], 0, 0, []) := rfl
theorem fc_41_5 : xfind (xnth xTs 41) 5 = some (5, .new 9, 3, (1, 7, 0, 0), .null, [], 150, 0, []) := rfl
theorem fc_41_8 : xfind (xnth xTs 41) 8 = some (8, .dup, 1, (0, 0, 0, 0), .null, [], 0, 0, []) := rfl
theorem fc_41_9 : xfind (xnth xTs 41) 9 = some (9, .invokespecial 11, 3, (4, 0, 1, 1), .null, [], 151, 0, []) := rfl
theorem fc_41_12 : xfind (xnth xTs 41) 12 = some (12, .putfield 12, 3, (5, 0, 1, 0), .null, [], 154, 0, []) := rfl
theorem fc_41_15 : xfind (xnth xTs 41) 15 = some (15, .aload_n 0, 1, (0, 0, 0, 0), .null, [], 0, 0, []) := rfl
theorem fc_41_16 : xfind (xnth xTs 41) 16 = some (16, .new 18, 3, (6, 1, 0, 0), .null, [], 152, 0, []) := rfl
theorem fc_41_19 : xfind (xnth xTs 41) 19 = some (19, .dup, 1, (0, 0, 0, 0), .null, [], 0, 0, []) := rfl
theorem fc_41_20 : xfind (xnth xTs 41) 20 = some (20, .invokespecial 20, 3, (56, 0, 6, 1), .null, [], 153, 0, []) := rfl
theorem fc_41_23 : xfind (xnth xTs 41) 23 = some (23, .putfield 21, 3, (5, 1, 1, 0), .null, [], 156, 0, []) := rfl
theorem fc_41_26 : xfind (xnth xTs 41) 26 = some (26, .aload_n 0, 1, (0, 0, 0, 0), .null, [], 0, 0, []) := rfl
theorem fc_41_27 : xfind (xnth xTs 41) 27 = some (27, .iconst 0, 1, (0, 0, 0, 0), (.int 0), [], 0, 0, []) := rfl
theorem fc_41_28 : xfind (xnth xTs 41) 28 = some (28, .putfield 25, 3, (5, 2, 0, 0), .null, [], 158, 0, []) := rfl
theorem fc_41_31 : xfind (xnth xTs 41) 31 = some (31, .aload_n 0, 1, (0, 0, 0, 0), .null, [], 0, 0, []) := rfl
theorem fc_41_32 : xfind (xnth xTs 41) 32 = some (32, .iconst (-1), 1, (0, 0, 0, 0), (.int (-1)), [], 0, 0, []) := rfl
theorem fc_41_33 : xfind (xnth xTs 41) 33 = some (33, .putfield 29, 3, (5, 3, 0, 0), .null, [], 160, 0, []) := rfl
theorem fc_41_36 : xfind (xnth xTs 41) 36 = some (36, .aload_n 0, 1, (0, 0, 0, 0), .null, [], 0, 0, []) := rfl
theorem fc_41_37 : xfind (xnth xTs 41) 37 = some (37, .sipush 240, 3, (0, 0, 0, 0), (.int 240), [], 0, 0, []) := rfl
theorem fc_41_40 : xfind (xnth xTs 41) 40 = some (40, .newarray .int, 2, (0, 0, 0, 0), .null, [], 0, 0, []) := rfl
theorem fc_41_42 : xfind (xnth xTs 41) 42 = some (42, .putfield 32, 3, (5, 4, 1, 0), .null, [], 162, 0, []) := rfl
theorem fc_41_45 : xfind (xnth xTs 41) 45 = some (45, .aload_n 0, 1, (0, 0, 0, 0), .null, [], 0, 0, []) := rfl
theorem fc_41_46 : xfind (xnth xTs 41) 46 = some (46, .iconst 0, 1, (0, 0, 0, 0), (.int 0), [], 0, 0, []) := rfl
theorem fc_41_47 : xfind (xnth xTs 41) 47 = some (47, .putfield 36, 3, (5, 5, 0, 0), .null, [], 163, 0, []) := rfl
theorem fc_41_50 : xfind (xnth xTs 41) 50 = some (50, .aload_n 0, 1, (0, 0, 0, 0), .null, [], 0, 0, []) := rfl
theorem fc_41_51 : xfind (xnth xTs 41) 51 = some (51, .iconst 0, 1, (0, 0, 0, 0), (.int 0), [], 0, 0, []) := rfl
theorem fc_41_52 : xfind (xnth xTs 41) 52 = some (52, .putfield 39, 3, (5, 6, 0, 0), .null, [], 164, 0, []) := rfl
theorem fc_41_55 : xfind (xnth xTs 41) 55 = some (55, .aload_n 0, 1, (0, 0, 0, 0), .null, [], 0, 0, []) := rfl
theorem fc_41_56 : xfind (xnth xTs 41) 56 = some (56, .iconst 0, 1, (0, 0, 0, 0), (.int 0), [], 0, 0, []) := rfl
theorem fc_41_57 : xfind (xnth xTs 41) 57 = some (57, .putfield 42, 3, (5, 7, 0, 0), .null, [], 165, 0, []) := rfl
theorem fc_41_60 : xfind (xnth xTs 41) 60 = some (60, .aload_n 0, 1, (0, 0, 0, 0), .null, [], 0, 0, []) := rfl
theorem fc_41_61 : xfind (xnth xTs 41) 61 = some (61, .iconst 0, 1, (0, 0, 0, 0), (.int 0), [], 0, 0, []) := rfl
theorem fc_41_62 : xfind (xnth xTs 41) 62 = some (62, .putfield 45, 3, (5, 8, 0, 0), .null, [], 166, 0, []) := rfl
theorem fc_41_65 : xfind (xnth xTs 41) 65 = some (65, .return_, 1, (0, 0, 0, 0), .null, [], 0, 0, []) := rfl
theorem fc_89_45 : xfind (xnth xTs 89) 45 = some (45, .putfield 29, 3, (8, 3, 1, 0), .null, [], 294, 0, []) := rfl
theorem fc_89_48 : xfind (xnth xTs 89) 48 = some (48, .aload_n 0, 1, (0, 0, 0, 0), .null, [], 0, 0, []) := rfl
theorem fc_89_49 : xfind (xnth xTs 89) 49 = some (49, .new 33, 3, (0, 3, 0, 0), .null, [], 186, 0, []) := rfl
theorem fc_89_52 : xfind (xnth xTs 89) 52 = some (52, .dup, 1, (0, 0, 0, 0), .null, [], 0, 0, []) := rfl
theorem fc_89_53 : xfind (xnth xTs 89) 53 = some (53, .invokespecial 35, 3, (0, 0, 0, 1), .null, [], 188, 0, []) := rfl
theorem fc_0_0 : xfind (xnth xTs 0) 0 = some (0, .aload_n 0, 1, (0, 0, 0, 0), .null, [], 0, 0, []) := rfl
theorem fc_0_1 : xfind (xnth xTs 0) 1 = some (1, .invokespecial 3, 3, (999, 0, 0, 0), .null, [], 191, 0, []) := rfl
theorem fc_0_4 : xfind (xnth xTs 0) 4 = some (4, .aload_n 0, 1, (0, 0, 0, 0), .null, [], 0, 0, []) := rfl
theorem fc_0_5 : xfind (xnth xTs 0) 5 = some (5, .iconst 0, 1, (0, 0, 0, 0), (.int 0), [], 0, 0, []) := rfl
theorem fc_0_6 : xfind (xnth xTs 0) 6 = some (6, .putfield 9, 3, (0, 0, 0, 0), .null, [], 192, 0, []) := rfl
theorem fc_0_9 : xfind (xnth xTs 0) 9 = some (9, .aload_n 0, 1, (0, 0, 0, 0), .null, [], 0, 0, []) := rfl
theorem fc_0_10 : xfind (xnth xTs 0) 10 = some (10, .sipush 1240, 3, (0, 0, 0, 0), (.int 1240), [], 0, 0, []) := rfl
theorem fc_0_13 : xfind (xnth xTs 0) 13 = some (13, .newarray .int, 2, (0, 0, 0, 0), .null, [], 0, 0, []) := rfl
theorem fc_0_15 : xfind (xnth xTs 0) 15 = some (15, .putfield 17, 3, (0, 1, 1, 0), .null, [], 194, 0, []) := rfl
theorem fc_0_18 : xfind (xnth xTs 0) 18 = some (18, .aload_n 0, 1, (0, 0, 0, 0), .null, [], 0, 0, []) := rfl
theorem fc_0_19 : xfind (xnth xTs 0) 19 = some (19, .iconst 0, 1, (0, 0, 0, 0), (.int 0), [], 0, 0, []) := rfl
theorem fc_0_20 : xfind (xnth xTs 0) 20 = some (20, .putfield 21, 3, (0, 2, 0, 0), .null, [], 195, 0, []) := rfl
theorem fc_0_23 : xfind (xnth xTs 0) 23 = some (23, .return_, 1, (0, 0, 0, 0), .null, [], 0, 0, []) := rfl
theorem fc_89_56 : xfind (xnth xTs 89) 56 = some (56, .putfield 36, 3, (8, 4, 1, 0), .null, [], 295, 0, []) := rfl
theorem fc_89_59 : xfind (xnth xTs 89) 59 = some (59, .aload_n 0, 1, (0, 0, 0, 0), .null, [], 0, 0, []) := rfl
theorem fc_89_60 : xfind (xnth xTs 89) 60 = some (60, .new 40, 3, (2, 3, 0, 0), .null, [], 203, 0, []) := rfl
theorem fc_89_63 : xfind (xnth xTs 89) 63 = some (63, .dup, 1, (0, 0, 0, 0), .null, [], 0, 0, []) := rfl
theorem fc_89_64 : xfind (xnth xTs 89) 64 = some (64, .invokespecial 42, 3, (23, 0, 2, 1), .null, [], 205, 0, []) := rfl
theorem fc_23_0 : xfind (xnth xTs 23) 0 = some (0, .aload_n 0, 1, (0, 0, 0, 0), .null, [], 0, 0, []) := rfl
theorem fc_23_1 : xfind (xnth xTs 23) 1 = some (1, .invokespecial 3, 3, (999, 0, 0, 0), .null, [], 208, 0, []) := rfl
theorem fc_23_4 : xfind (xnth xTs 23) 4 = some (4, .aload_n 0, 1, (0, 0, 0, 0), .null, [], 0, 0, []) := rfl
theorem fc_23_5 : xfind (xnth xTs 23) 5 = some (5, .bipush 124, 2, (0, 0, 0, 0), (.int 124), [], 0, 0, []) := rfl
theorem fc_23_7 : xfind (xnth xTs 23) 7 = some (7, .newarray .int, 2, (0, 0, 0, 0), .null, [], 0, 0, []) := rfl
theorem fc_23_9 : xfind (xnth xTs 23) 9 = some (9, .putfield 11, 3, (2, 0, 1, 0), .null, [], 209, 0, []) := rfl
theorem fc_23_12 : xfind (xnth xTs 23) 12 = some (12, .aload_n 0, 1, (0, 0, 0, 0), .null, [], 0, 0, []) := rfl
theorem fc_23_13 : xfind (xnth xTs 23) 13 = some (13, .iconst 2, 1, (0, 0, 0, 0), (.int 2), [], 0, 0, []) := rfl
theorem fc_23_14 : xfind (xnth xTs 23) 14 = some (14, .newarray .int, 2, (0, 0, 0, 0), .null, [], 0, 0, []) := rfl
theorem fc_23_16 : xfind (xnth xTs 23) 16 = some (16, .putfield 17, 3, (2, 1, 1, 0), .null, [], 210, 0, []) := rfl
theorem fc_23_19 : xfind (xnth xTs 23) 19 = some (19, .aload_n 0, 1, (0, 0, 0, 0), .null, [], 0, 0, []) := rfl
theorem fc_23_20 : xfind (xnth xTs 23) 20 = some (20, .iconst 0, 1, (0, 0, 0, 0), (.int 0), [], 0, 0, []) := rfl
theorem fc_23_21 : xfind (xnth xTs 23) 21 = some (21, .putfield 20, 3, (2, 2, 0, 0), .null, [], 211, 0, []) := rfl
theorem fc_23_24 : xfind (xnth xTs 23) 24 = some (24, .return_, 1, (0, 0, 0, 0), .null, [], 0, 0, []) := rfl
theorem fc_89_67 : xfind (xnth xTs 89) 67 = some (67, .putfield 43, 3, (8, 5, 1, 0), .null, [], 296, 0, []) := rfl
theorem fc_89_70 : xfind (xnth xTs 89) 70 = some (70, .aload_n 0, 1, (0, 0, 0, 0), .null, [], 0, 0, []) := rfl
theorem fc_89_71 : xfind (xnth xTs 89) 71 = some (71, .new 47, 3, (3, 6, 0, 0), .null, [], 219, 0, []) := rfl
theorem fc_89_74 : xfind (xnth xTs 89) 74 = some (74, .dup, 1, (0, 0, 0, 0), .null, [], 0, 0, []) := rfl
theorem fc_89_75 : xfind (xnth xTs 89) 75 = some (75, .invokespecial 49, 3, (29, 0, 3, 1), .null, [], 221, 0, []) := rfl
theorem fc_29_0 : xfind (xnth xTs 29) 0 = some (0, .aload_n 0, 1, (0, 0, 0, 0), .null, [], 0, 0, []) := rfl
theorem fc_29_1 : xfind (xnth xTs 29) 1 = some (1, .invokespecial 3, 3, (999, 0, 0, 0), .null, [], 224, 0, []) := rfl
theorem fc_29_4 : xfind (xnth xTs 29) 4 = some (4, .aload_n 0, 1, (0, 0, 0, 0), .null, [], 0, 0, []) := rfl
theorem fc_29_5 : xfind (xnth xTs 29) 5 = some (5, .iconst 0, 1, (0, 0, 0, 0), (.int 0), [], 0, 0, []) := rfl
theorem fc_29_6 : xfind (xnth xTs 29) 6 = some (6, .putfield 9, 3, (3, 0, 0, 0), .null, [], 225, 0, []) := rfl
theorem fc_29_9 : xfind (xnth xTs 29) 9 = some (9, .aload_n 0, 1, (0, 0, 0, 0), .null, [], 0, 0, []) := rfl
theorem fc_29_10 : xfind (xnth xTs 29) 10 = some (10, .iconst 0, 1, (0, 0, 0, 0), (.int 0), [], 0, 0, []) := rfl
theorem fc_29_11 : xfind (xnth xTs 29) 11 = some (11, .putfield 15, 3, (3, 1, 0, 0), .null, [], 227, 0, []) := rfl
theorem fc_29_14 : xfind (xnth xTs 29) 14 = some (14, .aload_n 0, 1, (0, 0, 0, 0), .null, [], 0, 0, []) := rfl
theorem fc_29_15 : xfind (xnth xTs 29) 15 = some (15, .bipush 6, 2, (0, 0, 0, 0), (.int 6), [], 0, 0, []) := rfl
theorem fc_29_17 : xfind (xnth xTs 29) 17 = some (17, .newarray .int, 2, (0, 0, 0, 0), .null, [], 0, 0, []) := rfl
theorem fc_29_19 : xfind (xnth xTs 29) 19 = some (19, .putfield 18, 3, (3, 2, 1, 0), .null, [], 229, 0, []) := rfl
theorem fc_29_22 : xfind (xnth xTs 29) 22 = some (22, .aload_n 0, 1, (0, 0, 0, 0), .null, [], 0, 0, []) := rfl
theorem fc_29_23 : xfind (xnth xTs 29) 23 = some (23, .bipush 6, 2, (0, 0, 0, 0), (.int 6), [], 0, 0, []) := rfl
theorem fc_29_25 : xfind (xnth xTs 29) 25 = some (25, .newarray .int, 2, (0, 0, 0, 0), .null, [], 0, 0, []) := rfl
theorem fc_29_27 : xfind (xnth xTs 29) 27 = some (27, .putfield 22, 3, (3, 3, 1, 0), .null, [], 230, 0, []) := rfl
theorem fc_29_30 : xfind (xnth xTs 29) 30 = some (30, .aload_n 0, 1, (0, 0, 0, 0), .null, [], 0, 0, []) := rfl
theorem fc_29_31 : xfind (xnth xTs 29) 31 = some (31, .bipush 15, 2, (0, 0, 0, 0), (.int 15), [], 0, 0, []) := rfl
theorem fc_29_33 : xfind (xnth xTs 29) 33 = some (33, .newarray .int, 2, (0, 0, 0, 0), .null, [], 0, 0, []) := rfl
theorem fc_29_35 : xfind (xnth xTs 29) 35 = some (35, .putfield 25, 3, (3, 4, 1, 0), .null, [], 231, 0, []) := rfl
theorem fc_29_38 : xfind (xnth xTs 29) 38 = some (38, .aload_n 0, 1, (0, 0, 0, 0), .null, [], 0, 0, []) := rfl
theorem fc_29_39 : xfind (xnth xTs 29) 39 = some (39, .bipush 15, 2, (0, 0, 0, 0), (.int 15), [], 0, 0, []) := rfl
theorem fc_29_41 : xfind (xnth xTs 29) 41 = some (41, .newarray .int, 2, (0, 0, 0, 0), .null, [], 0, 0, []) := rfl
theorem fc_29_43 : xfind (xnth xTs 29) 43 = some (43, .putfield 28, 3, (3, 5, 1, 0), .null, [], 232, 0, []) := rfl
theorem fc_29_46 : xfind (xnth xTs 29) 46 = some (46, .return_, 1, (0, 0, 0, 0), .null, [], 0, 0, []) := rfl
theorem fc_89_78 : xfind (xnth xTs 89) 78 = some (78, .putfield 50, 3, (8, 6, 1, 0), .null, [], 297, 0, []) := rfl
theorem fc_89_81 : xfind (xnth xTs 89) 81 = some (81, .aload_n 0, 1, (0, 0, 0, 0), .null, [], 0, 0, []) := rfl
theorem fc_89_82 : xfind (xnth xTs 89) 82 = some (82, .new 54, 3, (4, 5, 0, 0), .null, [], 246, 0, []) := rfl
theorem fc_89_85 : xfind (xnth xTs 89) 85 = some (85, .dup, 1, (0, 0, 0, 0), .null, [], 0, 0, []) := rfl
theorem fc_89_86 : xfind (xnth xTs 89) 86 = some (86, .invokespecial 56, 3, (35, 0, 4, 1), .null, [], 248, 0, []) := rfl
theorem fc_35_0 : xfind (xnth xTs 35) 0 = some (0, .aload_n 0, 1, (0, 0, 0, 0), .null, [], 0, 0, []) := rfl
theorem fc_35_1 : xfind (xnth xTs 35) 1 = some (1, .invokespecial 3, 3, (999, 0, 0, 0), .null, [], 251, 0, []) := rfl
theorem fc_35_4 : xfind (xnth xTs 35) 4 = some (4, .aload_n 0, 1, (0, 0, 0, 0), .null, [], 0, 0, []) := rfl
theorem fc_35_5 : xfind (xnth xTs 35) 5 = some (5, .iconst (-1), 1, (0, 0, 0, 0), (.int (-1)), [], 0, 0, []) := rfl
theorem fc_35_6 : xfind (xnth xTs 35) 6 = some (6, .putfield 9, 3, (4, 0, 0, 0), .null, [], 254, 0, []) := rfl
theorem fc_35_9 : xfind (xnth xTs 35) 9 = some (9, .aload_n 0, 1, (0, 0, 0, 0), .null, [], 0, 0, []) := rfl
theorem fc_35_10 : xfind (xnth xTs 35) 10 = some (10, .iconst 5, 1, (0, 0, 0, 0), (.int 5), [], 0, 0, []) := rfl
theorem fc_35_11 : xfind (xnth xTs 35) 11 = some (11, .newarray .int, 2, (0, 0, 0, 0), .null, [], 0, 0, []) := rfl
theorem fc_35_13 : xfind (xnth xTs 35) 13 = some (13, .putfield 15, 3, (4, 1, 1, 0), .null, [], 256, 0, []) := rfl
theorem fc_35_16 : xfind (xnth xTs 35) 16 = some (16, .aload_n 0, 1, (0, 0, 0, 0), .null, [], 0, 0, []) := rfl
theorem fc_35_17 : xfind (xnth xTs 35) 17 = some (17, .iconst 5, 1, (0, 0, 0, 0), (.int 5), [], 0, 0, []) := rfl
theorem fc_35_18 : xfind (xnth xTs 35) 18 = some (18, .newarray .int, 2, (0, 0, 0, 0), .null, [], 0, 0, []) := rfl
theorem fc_35_20 : xfind (xnth xTs 35) 20 = some (20, .putfield 19, 3, (4, 2, 1, 0), .null, [], 258, 0, []) := rfl
theorem fc_35_23 : xfind (xnth xTs 35) 23 = some (23, .aload_n 0, 1, (0, 0, 0, 0), .null, [], 0, 0, []) := rfl
theorem fc_35_24 : xfind (xnth xTs 35) 24 = some (24, .iconst 5, 1, (0, 0, 0, 0), (.int 5), [], 0, 0, []) := rfl
theorem fc_35_25 : xfind (xnth xTs 35) 25 = some (25, .newarray .int, 2, (0, 0, 0, 0), .null, [], 0, 0, []) := rfl
theorem fc_35_27 : xfind (xnth xTs 35) 27 = some (27, .putfield 22, 3, (4, 3, 1, 0), .null, [], 259, 0, []) := rfl
theorem fc_35_30 : xfind (xnth xTs 35) 30 = some (30, .aload_n 0, 1, (0, 0, 0, 0), .null, [], 0, 0, []) := rfl
theorem fc_35_31 : xfind (xnth xTs 35) 31 = some (31, .new 25, 3, (6, 1, 0, 0), .null, [], 252, 0, []) := rfl
theorem fc_35_34 : xfind (xnth xTs 35) 34 = some (34, .dup, 1, (0, 0, 0, 0), .null, [], 0, 0, []) := rfl
theorem fc_35_35 : xfind (xnth xTs 35) 35 = some (35, .invokespecial 27, 3, (56, 0, 6, 1), .null, [], 253, 0, []) := rfl
theorem fc_35_38 : xfind (xnth xTs 35) 38 = some (38, .putfield 28, 3, (4, 4, 1, 0), .null, [], 260, 0, []) := rfl
theorem fc_35_41 : xfind (xnth xTs 35) 41 = some (41, .return_, 1, (0, 0, 0, 0), .null, [], 0, 0, []) := rfl
theorem fc_89_89 : xfind (xnth xTs 89) 89 = some (89, .putfield 57, 3, (8, 7, 1, 0), .null, [], 298, 0, []) := rfl
theorem fc_89_92 : xfind (xnth xTs 89) 92 = some (92, .aload_n 0, 1, (0, 0, 0, 0), .null, [], 0, 0, []) := rfl
theorem fc_89_93 : xfind (xnth xTs 89) 93 = some (93, .new 61, 3, (7, 4, 0, 0), .null, [], 272, 0, []) := rfl
theorem fc_89_96 : xfind (xnth xTs 89) 96 = some (96, .dup, 1, (0, 0, 0, 0), .null, [], 0, 0, []) := rfl
theorem fc_89_97 : xfind (xnth xTs 89) 97 = some (97, .invokespecial 63, 3, (84, 0, 7, 1), .null, [], 274, 0, []) := rfl
theorem fc_84_0 : xfind (xnth xTs 84) 0 = some (0, .aload_n 0, 1, (0, 0, 0, 0), .null, [], 0, 0, []) := rfl
theorem fc_84_1 : xfind (xnth xTs 84) 1 = some (1, .invokespecial 3, 3, (999, 0, 0, 0), .null, [], 277, 0, []) := rfl
theorem fc_84_4 : xfind (xnth xTs 84) 4 = some (4, .aload_n 0, 1, (0, 0, 0, 0), .null, [], 0, 0, []) := rfl
theorem fc_84_5 : xfind (xnth xTs 84) 5 = some (5, .bipush 8, 2, (0, 0, 0, 0), (.int 8), [], 0, 0, []) := rfl
theorem fc_84_7 : xfind (xnth xTs 84) 7 = some (7, .newarray .int, 2, (0, 0, 0, 0), .null, [], 0, 0, []) := rfl
theorem fc_84_9 : xfind (xnth xTs 84) 9 = some (9, .putfield 9, 3, (7, 0, 1, 0), .null, [], 278, 0, []) := rfl
theorem fc_84_12 : xfind (xnth xTs 84) 12 = some (12, .aload_n 0, 1, (0, 0, 0, 0), .null, [], 0, 0, []) := rfl
theorem fc_84_13 : xfind (xnth xTs 84) 13 = some (13, .sipush 256, 3, (0, 0, 0, 0), (.int 256), [], 0, 0, []) := rfl
theorem fc_84_16 : xfind (xnth xTs 84) 16 = some (16, .newarray .int, 2, (0, 0, 0, 0), .null, [], 0, 0, []) := rfl
theorem fc_84_18 : xfind (xnth xTs 84) 18 = some (18, .putfield 15, 3, (7, 1, 1, 0), .null, [], 279, 0, []) := rfl
theorem fc_84_21 : xfind (xnth xTs 84) 21 = some (21, .aload_n 0, 1, (0, 0, 0, 0), .null, [], 0, 0, []) := rfl
theorem fc_84_22 : xfind (xnth xTs 84) 22 = some (22, .sipush 256, 3, (0, 0, 0, 0), (.int 256), [], 0, 0, []) := rfl
theorem fc_84_25 : xfind (xnth xTs 84) 25 = some (25, .newarray .int, 2, (0, 0, 0, 0), .null, [], 0, 0, []) := rfl
theorem fc_84_27 : xfind (xnth xTs 84) 27 = some (27, .putfield 18, 3, (7, 2, 1, 0), .null, [], 280, 0, []) := rfl
theorem fc_84_30 : xfind (xnth xTs 84) 30 = some (30, .aload_n 0, 1, (0, 0, 0, 0), .null, [], 0, 0, []) := rfl
theorem fc_84_31 : xfind (xnth xTs 84) 31 = some (31, .iconst 0, 1, (0, 0, 0, 0), (.int 0), [], 0, 0, []) := rfl
theorem fc_84_32 : xfind (xnth xTs 84) 32 = some (32, .putfield 21, 3, (7, 3, 0, 0), .null, [], 281, 0, []) := rfl
theorem fc_84_35 : xfind (xnth xTs 84) 35 = some (35, .return_, 1, (0, 0, 0, 0), .null, [], 0, 0, []) := rfl
theorem fc_89_100 : xfind (xnth xTs 89) 100 = some (100, .putfield 64, 3, (8, 8, 1, 0), .null, [], 299, 0, []) := rfl
theorem fc_89_103 : xfind (xnth xTs 89) 103 = some (103, .aload_n 0, 1, (0, 0, 0, 0), .null, [], 0, 0, []) := rfl
theorem fc_89_104 : xfind (xnth xTs 89) 104 = some (104, .iconst (-1), 1, (0, 0, 0, 0), (.int (-1)), [], 0, 0, []) := rfl
theorem fc_89_105 : xfind (xnth xTs 89) 105 = some (105, .putfield 68, 3, (8, 9, 0, 0), .null, [], 300, 0, []) := rfl
theorem fc_89_108 : xfind (xnth xTs 89) 108 = some (108, .aload_n 0, 1, (0, 0, 0, 0), .null, [], 0, 0, []) := rfl
theorem fc_89_109 : xfind (xnth xTs 89) 109 = some (109, .iconst 0, 1, (0, 0, 0, 0), (.int 0), [], 0, 0, []) := rfl
theorem fc_89_110 : xfind (xnth xTs 89) 110 = some (110, .putfield 72, 3, (8, 10, 0, 0), .null, [], 301, 0, []) := rfl
theorem fc_89_113 : xfind (xnth xTs 89) 113 = some (113, .return_, 1, (0, 0, 0, 0), .null, [], 0, 0, []) := rfl
set_option maxRecDepth 100000 in
theorem fc_205_7 : xfind (xnth xTs 205) 7 = some (7, .astore_n 1, 1, (0, 0, 0, 0), .null, [], 0, 0, []) := rfl
set_option maxRecDepth 100000 in
theorem fc_205_8 : xfind (xnth xTs 205) 8 = some (8, .new 10, 3, (9, 26, 0, 0), .null, [], 886, 0, []) := rfl
set_option maxRecDepth 100000 in
theorem fc_205_11 : xfind (xnth xTs 205) 11 = some (11, .dup, 1, (0, 0, 0, 0), .null, [], 0, 0, []) := rfl
theorem fc_131_0 : xfind (xnth xTs 131) 0 = some (0, .aload_n 0, 1, (0, 0, 0, 0), .null, [], 0, 0, []) := rfl
theorem fc_131_1 : xfind (xnth xTs 131) 1 = some (1, .invokespecial 1, 3, (999, 0, 0, 0), .null, [], 891, 0, []) := rfl
theorem fc_131_4 : xfind (xnth xTs 131) 4 = some (4, .aload_n 0, 1, (0, 0, 0, 0), .null, [], 0, 0, []) := rfl
theorem fc_131_5 : xfind (xnth xTs 131) 5 = some (5, .bipush 41, 2, (0, 0, 0, 0), (.int 41), [], 0, 0, []) := rfl
theorem fc_131_7 : xfind (xnth xTs 131) 7 = some (7, .newarray .int, 2, (0, 0, 0, 0), .null, [], 0, 0, []) := rfl
theorem fc_131_9 : xfind (xnth xTs 131) 9 = some (9, .putfield 7, 3, (9, 0, 1, 0), .null, [], 909, 0, []) := rfl
theorem fc_131_12 : xfind (xnth xTs 131) 12 = some (12, .aload_n 0, 1, (0, 0, 0, 0), .null, [], 0, 0, []) := rfl
theorem fc_131_13 : xfind (xnth xTs 131) 13 = some (13, .bipush 41, 2, (0, 0, 0, 0), (.int 41), [], 0, 0, []) := rfl
theorem fc_131_15 : xfind (xnth xTs 131) 15 = some (15, .newarray .int, 2, (0, 0, 0, 0), .null, [], 0, 0, []) := rfl
theorem fc_131_17 : xfind (xnth xTs 131) 17 = some (17, .putfield 13, 3, (9, 1, 1, 0), .null, [], 910, 0, []) := rfl
theorem fc_131_20 : xfind (xnth xTs 131) 20 = some (20, .aload_n 0, 1, (0, 0, 0, 0), .null, [], 0, 0, []) := rfl
theorem fc_131_21 : xfind (xnth xTs 131) 21 = some (21, .bipush 62, 2, (0, 0, 0, 0), (.int 62), [], 0, 0, []) := rfl
theorem fc_131_23 : xfind (xnth xTs 131) 23 = some (23, .newarray .int, 2, (0, 0, 0, 0), .null, [], 0, 0, []) := rfl
theorem fc_131_25 : xfind (xnth xTs 131) 25 = some (25, .putfield 16, 3, (9, 2, 1, 0), .null, [], 911, 0, []) := rfl
theorem fc_131_28 : xfind (xnth xTs 131) 28 = some (28, .aload_n 0, 1, (0, 0, 0, 0), .null, [], 0, 0, []) := rfl
theorem fc_131_29 : xfind (xnth xTs 131) 29 = some (29, .bipush 62, 2, (0, 0, 0, 0), (.int 62), [], 0, 0, []) := rfl
theorem fc_131_31 : xfind (xnth xTs 131) 31 = some (31, .newarray .int, 2, (0, 0, 0, 0), .null, [], 0, 0, []) := rfl
theorem fc_131_33 : xfind (xnth xTs 131) 33 = some (33, .putfield 19, 3, (9, 3, 1, 0), .null, [], 912, 0, []) := rfl
theorem fc_131_36 : xfind (xnth xTs 131) 36 = some (36, .aload_n 0, 1, (0, 0, 0, 0), .null, [], 0, 0, []) := rfl
theorem fc_131_37 : xfind (xnth xTs 131) 37 = some (37, .sipush 1240, 3, (0, 0, 0, 0), (.int 1240), [], 0, 0, []) := rfl
theorem fc_131_40 : xfind (xnth xTs 131) 40 = some (40, .newarray .int, 2, (0, 0, 0, 0), .null, [], 0, 0, []) := rfl
theorem fc_131_42 : xfind (xnth xTs 131) 42 = some (42, .putfield 22, 3, (9, 4, 1, 0), .null, [], 913, 0, []) := rfl
theorem fc_131_45 : xfind (xnth xTs 131) 45 = some (45, .aload_n 0, 1, (0, 0, 0, 0), .null, [], 0, 0, []) := rfl
theorem fc_131_46 : xfind (xnth xTs 131) 46 = some (46, .bipush 126, 2, (0, 0, 0, 0), (.int 126), [], 0, 0, []) := rfl
theorem fc_131_48 : xfind (xnth xTs 131) 48 = some (48, .newarray .int, 2, (0, 0, 0, 0), .null, [], 0, 0, []) := rfl
theorem fc_131_50 : xfind (xnth xTs 131) 50 = some (50, .putfield 25, 3, (9, 6, 1, 0), .null, [], 915, 0, []) := rfl
theorem fc_131_53 : xfind (xnth xTs 131) 53 = some (53, .aload_n 0, 1, (0, 0, 0, 0), .null, [], 0, 0, []) := rfl
theorem fc_131_54 : xfind (xnth xTs 131) 54 = some (54, .iconst 2, 1, (0, 0, 0, 0), (.int 2), [], 0, 0, []) := rfl
theorem fc_131_55 : xfind (xnth xTs 131) 55 = some (55, .newarray .boolean, 2, (0, 0, 0, 0), .null, [], 0, 0, []) := rfl
theorem fc_131_57 : xfind (xnth xTs 131) 57 = some (57, .putfield 28, 3, (9, 7, 1, 0), .null, [], 916, 0, []) := rfl
theorem fc_131_60 : xfind (xnth xTs 131) 60 = some (60, .aload_n 0, 1, (0, 0, 0, 0), .null, [], 0, 0, []) := rfl
theorem fc_131_61 : xfind (xnth xTs 131) 61 = some (61, .sipush 240, 3, (0, 0, 0, 0), (.int 240), [], 0, 0, []) := rfl
theorem fc_131_64 : xfind (xnth xTs 131) 64 = some (64, .newarray .int, 2, (0, 0, 0, 0), .null, [], 0, 0, []) := rfl
theorem fc_131_66 : xfind (xnth xTs 131) 66 = some (66, .putfield 32, 3, (9, 9, 1, 0), .null, [], 918, 0, []) := rfl
theorem fc_131_69 : xfind (xnth xTs 131) 69 = some (69, .aload_n 0, 1, (0, 0, 0, 0), .null, [], 0, 0, []) := rfl
theorem fc_131_70 : xfind (xnth xTs 131) 70 = some (70, .iconst (-1), 1, (0, 0, 0, 0), (.int (-1)), [], 0, 0, []) := rfl
theorem fc_131_71 : xfind (xnth xTs 131) 71 = some (71, .putfield 35, 3, (9, 11, 0, 0), .null, [], 920, 0, []) := rfl
theorem fc_131_74 : xfind (xnth xTs 131) 74 = some (74, .aload_n 0, 1, (0, 0, 0, 0), .null, [], 0, 0, []) := rfl
theorem fc_131_75 : xfind (xnth xTs 131) 75 = some (75, .bipush 12, 2, (0, 0, 0, 0), (.int 12), [], 0, 0, []) := rfl
theorem fc_131_77 : xfind (xnth xTs 131) 77 = some (77, .newarray .int, 2, (0, 0, 0, 0), .null, [], 0, 0, []) := rfl
theorem fc_131_79 : xfind (xnth xTs 131) 79 = some (79, .putfield 39, 3, (9, 12, 1, 0), .null, [], 921, 0, []) := rfl
theorem fc_131_82 : xfind (xnth xTs 131) 82 = some (82, .aload_n 0, 1, (0, 0, 0, 0), .null, [], 0, 0, []) := rfl
theorem fc_131_83 : xfind (xnth xTs 131) 83 = some (83, .bipush 30, 2, (0, 0, 0, 0), (.int 30), [], 0, 0, []) := rfl
theorem fc_131_85 : xfind (xnth xTs 131) 85 = some (85, .newarray .int, 2, (0, 0, 0, 0), .null, [], 0, 0, []) := rfl
theorem fc_131_87 : xfind (xnth xTs 131) 87 = some (87, .putfield 42, 3, (9, 14, 1, 0), .null, [], 923, 0, []) := rfl
theorem fc_131_90 : xfind (xnth xTs 131) 90 = some (90, .aload_n 0, 1, (0, 0, 0, 0), .null, [], 0, 0, []) := rfl
theorem fc_131_91 : xfind (xnth xTs 131) 91 = some (91, .iconst 5, 1, (0, 0, 0, 0), (.int 5), [], 0, 0, []) := rfl
theorem fc_131_92 : xfind (xnth xTs 131) 92 = some (92, .newarray .int, 2, (0, 0, 0, 0), .null, [], 0, 0, []) := rfl
theorem fc_131_94 : xfind (xnth xTs 131) 94 = some (94, .putfield 45, 3, (9, 22, 1, 0), .null, [], 931, 0, []) := rfl
theorem fc_131_97 : xfind (xnth xTs 131) 97 = some (97, .aload_n 0, 1, (0, 0, 0, 0), .null, [], 0, 0, []) := rfl
theorem fc_131_98 : xfind (xnth xTs 131) 98 = some (98, .iconst 5, 1, (0, 0, 0, 0), (.int 5), [], 0, 0, []) := rfl
theorem fc_131_99 : xfind (xnth xTs 131) 99 = some (99, .newarray .int, 2, (0, 0, 0, 0), .null, [], 0, 0, []) := rfl
theorem fc_131_101 : xfind (xnth xTs 131) 101 = some (101, .putfield 48, 3, (9, 23, 1, 0), .null, [], 932, 0, []) := rfl
theorem fc_131_104 : xfind (xnth xTs 131) 104 = some (104, .aload_n 0, 1, (0, 0, 0, 0), .null, [], 0, 0, []) := rfl
theorem fc_131_105 : xfind (xnth xTs 131) 105 = some (105, .bipush 8, 2, (0, 0, 0, 0), (.int 8), [], 0, 0, []) := rfl
theorem fc_131_107 : xfind (xnth xTs 131) 107 = some (107, .newarray .int, 2, (0, 0, 0, 0), .null, [], 0, 0, []) := rfl
theorem fc_131_109 : xfind (xnth xTs 131) 109 = some (109, .putfield 51, 3, (9, 24, 1, 0), .null, [], 933, 0, []) := rfl
theorem fc_131_112 : xfind (xnth xTs 131) 112 = some (112, .aload_n 0, 1, (0, 0, 0, 0), .null, [], 0, 0, []) := rfl
theorem fc_131_113 : xfind (xnth xTs 131) 113 = some (113, .iconst 3, 1, (0, 0, 0, 0), (.int 3), [], 0, 0, []) := rfl
theorem fc_131_114 : xfind (xnth xTs 131) 114 = some (114, .newarray .int, 2, (0, 0, 0, 0), .null, [], 0, 0, []) := rfl
theorem fc_131_116 : xfind (xnth xTs 131) 116 = some (116, .putfield 54, 3, (9, 25, 1, 0), .null, [], 934, 0, []) := rfl
theorem fc_131_119 : xfind (xnth xTs 131) 119 = some (119, .aload_n 0, 1, (0, 0, 0, 0), .null, [], 0, 0, []) := rfl
theorem fc_131_120 : xfind (xnth xTs 131) 120 = some (120, .getfield 7, 3, (9, 0, 1, 0), .null, [], 909, 0, []) := rfl
theorem fc_131_123 : xfind (xnth xTs 131) 123 = some (123, .invokestatic 57, 3, (135, 1, 9, 2), .null, [], 892, 0, []) := rfl
theorem fc_131_126 : xfind (xnth xTs 131) 126 = some (126, .aload_n 0, 1, (0, 0, 0, 0), .null, [], 0, 0, []) := rfl
theorem fc_131_127 : xfind (xnth xTs 131) 127 = some (127, .invokevirtual 61, 3, (137, 0, 9, 2), .null, [], 902, 0, []) := rfl
theorem fc_131_130 : xfind (xnth xTs 131) 130 = some (130, .return_, 1, (0, 0, 0, 0), .null, [], 0, 0, []) := rfl
set_option maxRecDepth 100000 in
theorem fc_205_12 : xfind (xnth xTs 205) 12 = some (12, .invokespecial 12, 3, (131, 0, 9, 1), .null, [], 888, 0, []) := rfl
def cw_1 (L : Nat) (xs : Nat → Int32) : xW := ((2, 11, xur (xW0 L xs).1.2.2.1 1 (8, 0), xur (xW0 L xs).1.2.2.2 1 (fun _ => 0)), xur (xW0 L xs).2.1 1 (fun _ => 0), xur (xW0 L xs).2.2 1 (fun _ => 0))
def cw_2 (L : Nat) (xs : Nat → Int32) : xW := ((3, 18, xur (cw_1 L xs).1.2.2.1 2 (1, 0), xur (cw_1 L xs).1.2.2.2 2 (fun _ => 0)), xur (cw_1 L xs).2.1 2 (fun _ => 0), xur (cw_1 L xs).2.2 2 (fun _ => 0))
def cw_3 (L : Nat) (xs : Nat → Int32) : xW := ((cw_2 L xs).1, xu (cw_2 L xs).2.1 2 0 0, (cw_2 L xs).2.2)
def cw_4 (L : Nat) (xs : Nat → Int32) : xW := ((cw_3 L xs).1, xu (cw_3 L xs).2.1 2 1 0, (cw_3 L xs).2.2)
def cw_5 (L : Nat) (xs : Nat → Int32) : xW := ((cw_4 L xs).1, xu (cw_4 L xs).2.1 2 2 0, (cw_4 L xs).2.2)
def cw_6 (L : Nat) (xs : Nat → Int32) : xW := ((4, 23, xur (cw_5 L xs).1.2.2.1 3 (11, 5), xur (cw_5 L xs).1.2.2.2 3 (fun _ => 0)), xur (cw_5 L xs).2.1 3 (fun _ => 0), xur (cw_5 L xs).2.2 3 (fun _ => 0))
def cw_7 (L : Nat) (xs : Nat → Int32) : xW := ((4, 23, (cw_6 L xs).1.2.2.1, xu (cw_6 L xs).1.2.2.2 2 3 3), (cw_6 L xs).2.1, (cw_6 L xs).2.2)
def cw_8 (L : Nat) (xs : Nat → Int32) : xW := ((5, 28, xur (cw_7 L xs).1.2.2.1 4 (11, 5), xur (cw_7 L xs).1.2.2.2 4 (fun _ => 0)), xur (cw_7 L xs).2.1 4 (fun _ => 0), xur (cw_7 L xs).2.2 4 (fun _ => 0))
def cw_9 (L : Nat) (xs : Nat → Int32) : xW := ((5, 28, (cw_8 L xs).1.2.2.1, xu (cw_8 L xs).1.2.2.2 2 4 4), (cw_8 L xs).2.1, (cw_8 L xs).2.2)
def cw_10 (L : Nat) (xs : Nat → Int32) : xW := ((6, 33, xur (cw_9 L xs).1.2.2.1 5 (11, 5), xur (cw_9 L xs).1.2.2.2 5 (fun _ => 0)), xur (cw_9 L xs).2.1 5 (fun _ => 0), xur (cw_9 L xs).2.2 5 (fun _ => 0))
def cw_11 (L : Nat) (xs : Nat → Int32) : xW := ((6, 33, (cw_10 L xs).1.2.2.1, xu (cw_10 L xs).1.2.2.2 2 5 5), (cw_10 L xs).2.1, (cw_10 L xs).2.2)
def cw_12 (L : Nat) (xs : Nat → Int32) : xW := ((7, 38, xur (cw_11 L xs).1.2.2.1 6 (11, 5), xur (cw_11 L xs).1.2.2.2 6 (fun _ => 0)), xur (cw_11 L xs).2.1 6 (fun _ => 0), xur (cw_11 L xs).2.2 6 (fun _ => 0))
def cw_13 (L : Nat) (xs : Nat → Int32) : xW := ((7, 38, (cw_12 L xs).1.2.2.1, xu (cw_12 L xs).1.2.2.2 2 6 6), (cw_12 L xs).2.1, (cw_12 L xs).2.2)
def cw_14 (L : Nat) (xs : Nat → Int32) : xW := ((cw_13 L xs).1, hcM (cw_13 L xs).2.1 2, (cw_13 L xs).2.2)
def cw_15 (L : Nat) (xs : Nat → Int32) : xW := ((7, 38, (cw_14 L xs).1.2.2.1, xu (cw_14 L xs).1.2.2.2 1 0 2), (cw_14 L xs).2.1, (cw_14 L xs).2.2)
def cw_16 (L : Nat) (xs : Nat → Int32) : xW := ((8, 39, xur (cw_15 L xs).1.2.2.1 7 (6, 0), xur (cw_15 L xs).1.2.2.2 7 (fun _ => 0)), xur (cw_15 L xs).2.1 7 (fun _ => 0), xur (cw_15 L xs).2.2 7 (fun _ => 0))
def cw_17 (L : Nat) (xs : Nat → Int32) : xW := ((9, 101, xur (cw_16 L xs).1.2.2.1 8 (11, 62), xur (cw_16 L xs).1.2.2.2 8 (fun _ => 0)), xur (cw_16 L xs).2.1 8 (fun _ => 0), xur (cw_16 L xs).2.2 8 (fun _ => 0))
def cw_18 (L : Nat) (xs : Nat → Int32) : xW := ((9, 101, (cw_17 L xs).1.2.2.1, xu (cw_17 L xs).1.2.2.2 7 0 8), (cw_17 L xs).2.1, (cw_17 L xs).2.2)
def cw_19 (L : Nat) (xs : Nat → Int32) : xW := ((9, 101, (cw_18 L xs).1.2.2.1, xu (cw_18 L xs).1.2.2.2 1 1 7), (cw_18 L xs).2.1, (cw_18 L xs).2.2)
def cw_20 (L : Nat) (xs : Nat → Int32) : xW := ((10, 102, xur (cw_19 L xs).1.2.2.1 9 (6, 0), xur (cw_19 L xs).1.2.2.2 9 (fun _ => 0)), xur (cw_19 L xs).2.1 9 (fun _ => 0), xur (cw_19 L xs).2.2 9 (fun _ => 0))
def cw_21 (L : Nat) (xs : Nat → Int32) : xW := ((11, 164, xur (cw_20 L xs).1.2.2.1 10 (11, 62), xur (cw_20 L xs).1.2.2.2 10 (fun _ => 0)), xur (cw_20 L xs).2.1 10 (fun _ => 0), xur (cw_20 L xs).2.2 10 (fun _ => 0))
def cw_22 (L : Nat) (xs : Nat → Int32) : xW := ((11, 164, (cw_21 L xs).1.2.2.1, xu (cw_21 L xs).1.2.2.2 9 0 10), (cw_21 L xs).2.1, (cw_21 L xs).2.2)
def cw_23 (L : Nat) (xs : Nat → Int32) : xW := ((11, 164, (cw_22 L xs).1.2.2.1, xu (cw_22 L xs).1.2.2.2 1 2 9), (cw_22 L xs).2.1, (cw_22 L xs).2.2)
def cw_24 (L : Nat) (xs : Nat → Int32) : xW := ((12, 173, xur (cw_23 L xs).1.2.2.1 11 (5, 0), xur (cw_23 L xs).1.2.2.2 11 (fun _ => 0)), xur (cw_23 L xs).2.1 11 (fun _ => 0), xur (cw_23 L xs).2.2 11 (fun _ => 0))
def cw_25 (L : Nat) (xs : Nat → Int32) : xW := ((13, 180, xur (cw_24 L xs).1.2.2.1 12 (1, 0), xur (cw_24 L xs).1.2.2.2 12 (fun _ => 0)), xur (cw_24 L xs).2.1 12 (fun _ => 0), xur (cw_24 L xs).2.2 12 (fun _ => 0))
def cw_26 (L : Nat) (xs : Nat → Int32) : xW := ((cw_25 L xs).1, xu (cw_25 L xs).2.1 12 0 0, (cw_25 L xs).2.2)
def cw_27 (L : Nat) (xs : Nat → Int32) : xW := ((cw_26 L xs).1, xu (cw_26 L xs).2.1 12 1 0, (cw_26 L xs).2.2)
def cw_28 (L : Nat) (xs : Nat → Int32) : xW := ((cw_27 L xs).1, xu (cw_27 L xs).2.1 12 2 0, (cw_27 L xs).2.2)
def cw_29 (L : Nat) (xs : Nat → Int32) : xW := ((14, 185, xur (cw_28 L xs).1.2.2.1 13 (11, 5), xur (cw_28 L xs).1.2.2.2 13 (fun _ => 0)), xur (cw_28 L xs).2.1 13 (fun _ => 0), xur (cw_28 L xs).2.2 13 (fun _ => 0))
def cw_30 (L : Nat) (xs : Nat → Int32) : xW := ((14, 185, (cw_29 L xs).1.2.2.1, xu (cw_29 L xs).1.2.2.2 12 3 13), (cw_29 L xs).2.1, (cw_29 L xs).2.2)
def cw_31 (L : Nat) (xs : Nat → Int32) : xW := ((15, 190, xur (cw_30 L xs).1.2.2.1 14 (11, 5), xur (cw_30 L xs).1.2.2.2 14 (fun _ => 0)), xur (cw_30 L xs).2.1 14 (fun _ => 0), xur (cw_30 L xs).2.2 14 (fun _ => 0))
def cw_32 (L : Nat) (xs : Nat → Int32) : xW := ((15, 190, (cw_31 L xs).1.2.2.1, xu (cw_31 L xs).1.2.2.2 12 4 14), (cw_31 L xs).2.1, (cw_31 L xs).2.2)
def cw_33 (L : Nat) (xs : Nat → Int32) : xW := ((16, 195, xur (cw_32 L xs).1.2.2.1 15 (11, 5), xur (cw_32 L xs).1.2.2.2 15 (fun _ => 0)), xur (cw_32 L xs).2.1 15 (fun _ => 0), xur (cw_32 L xs).2.2 15 (fun _ => 0))
def cw_34 (L : Nat) (xs : Nat → Int32) : xW := ((16, 195, (cw_33 L xs).1.2.2.1, xu (cw_33 L xs).1.2.2.2 12 5 15), (cw_33 L xs).2.1, (cw_33 L xs).2.2)
def cw_35 (L : Nat) (xs : Nat → Int32) : xW := ((17, 200, xur (cw_34 L xs).1.2.2.1 16 (11, 5), xur (cw_34 L xs).1.2.2.2 16 (fun _ => 0)), xur (cw_34 L xs).2.1 16 (fun _ => 0), xur (cw_34 L xs).2.2 16 (fun _ => 0))
def cw_36 (L : Nat) (xs : Nat → Int32) : xW := ((17, 200, (cw_35 L xs).1.2.2.1, xu (cw_35 L xs).1.2.2.2 12 6 16), (cw_35 L xs).2.1, (cw_35 L xs).2.2)
def cw_37 (L : Nat) (xs : Nat → Int32) : xW := ((cw_36 L xs).1, hcM (cw_36 L xs).2.1 12, (cw_36 L xs).2.2)
def cw_38 (L : Nat) (xs : Nat → Int32) : xW := ((17, 200, (cw_37 L xs).1.2.2.1, xu (cw_37 L xs).1.2.2.2 11 0 12), (cw_37 L xs).2.1, (cw_37 L xs).2.2)
def cw_39 (L : Nat) (xs : Nat → Int32) : xW := ((18, 201, xur (cw_38 L xs).1.2.2.1 17 (6, 0), xur (cw_38 L xs).1.2.2.2 17 (fun _ => 0)), xur (cw_38 L xs).2.1 17 (fun _ => 0), xur (cw_38 L xs).2.2 17 (fun _ => 0))
def cw_40 (L : Nat) (xs : Nat → Int32) : xW := ((19, 263, xur (cw_39 L xs).1.2.2.1 18 (11, 62), xur (cw_39 L xs).1.2.2.2 18 (fun _ => 0)), xur (cw_39 L xs).2.1 18 (fun _ => 0), xur (cw_39 L xs).2.2 18 (fun _ => 0))
def cw_41 (L : Nat) (xs : Nat → Int32) : xW := ((19, 263, (cw_40 L xs).1.2.2.1, xu (cw_40 L xs).1.2.2.2 17 0 18), (cw_40 L xs).2.1, (cw_40 L xs).2.2)
def cw_42 (L : Nat) (xs : Nat → Int32) : xW := ((19, 263, (cw_41 L xs).1.2.2.1, xu (cw_41 L xs).1.2.2.2 11 1 17), (cw_41 L xs).2.1, (cw_41 L xs).2.2)
def cw_43 (L : Nat) (xs : Nat → Int32) : xW := ((cw_42 L xs).1, xu (cw_42 L xs).2.1 11 2 0, (cw_42 L xs).2.2)
def cw_44 (L : Nat) (xs : Nat → Int32) : xW := ((cw_43 L xs).1, xu (cw_43 L xs).2.1 11 3 (-1), (cw_43 L xs).2.2)
def cw_45 (L : Nat) (xs : Nat → Int32) : xW := ((20, 503, xur (cw_44 L xs).1.2.2.1 19 (11, 240), xur (cw_44 L xs).1.2.2.2 19 (fun _ => 0)), xur (cw_44 L xs).2.1 19 (fun _ => 0), xur (cw_44 L xs).2.2 19 (fun _ => 0))
def cw_46 (L : Nat) (xs : Nat → Int32) : xW := ((20, 503, (cw_45 L xs).1.2.2.1, xu (cw_45 L xs).1.2.2.2 11 4 19), (cw_45 L xs).2.1, (cw_45 L xs).2.2)
def cw_47 (L : Nat) (xs : Nat → Int32) : xW := ((cw_46 L xs).1, xu (cw_46 L xs).2.1 11 5 0, (cw_46 L xs).2.2)
def cw_48 (L : Nat) (xs : Nat → Int32) : xW := ((cw_47 L xs).1, xu (cw_47 L xs).2.1 11 6 0, (cw_47 L xs).2.2)
def cw_49 (L : Nat) (xs : Nat → Int32) : xW := ((cw_48 L xs).1, xu (cw_48 L xs).2.1 11 7 0, (cw_48 L xs).2.2)
def cw_50 (L : Nat) (xs : Nat → Int32) : xW := ((cw_49 L xs).1, xu (cw_49 L xs).2.1 11 8 0, (cw_49 L xs).2.2)
def cw_51 (L : Nat) (xs : Nat → Int32) : xW := ((20, 503, (cw_50 L xs).1.2.2.1, xu (cw_50 L xs).1.2.2.2 1 3 11), (cw_50 L xs).2.1, (cw_50 L xs).2.2)
def cw_52 (L : Nat) (xs : Nat → Int32) : xW := ((21, 506, xur (cw_51 L xs).1.2.2.1 20 (0, 0), xur (cw_51 L xs).1.2.2.2 20 (fun _ => 0)), xur (cw_51 L xs).2.1 20 (fun _ => 0), xur (cw_51 L xs).2.2 20 (fun _ => 0))
def cw_53 (L : Nat) (xs : Nat → Int32) : xW := ((cw_52 L xs).1, xu (cw_52 L xs).2.1 20 0 0, (cw_52 L xs).2.2)
def cw_54 (L : Nat) (xs : Nat → Int32) : xW := ((22, 1746, xur (cw_53 L xs).1.2.2.1 21 (11, 1240), xur (cw_53 L xs).1.2.2.2 21 (fun _ => 0)), xur (cw_53 L xs).2.1 21 (fun _ => 0), xur (cw_53 L xs).2.2 21 (fun _ => 0))
def cw_55 (L : Nat) (xs : Nat → Int32) : xW := ((22, 1746, (cw_54 L xs).1.2.2.1, xu (cw_54 L xs).1.2.2.2 20 1 21), (cw_54 L xs).2.1, (cw_54 L xs).2.2)
def cw_56 (L : Nat) (xs : Nat → Int32) : xW := ((cw_55 L xs).1, xu (cw_55 L xs).2.1 20 2 0, (cw_55 L xs).2.2)
def cw_57 (L : Nat) (xs : Nat → Int32) : xW := ((22, 1746, (cw_56 L xs).1.2.2.1, xu (cw_56 L xs).1.2.2.2 1 4 20), (cw_56 L xs).2.1, (cw_56 L xs).2.2)
def cw_58 (L : Nat) (xs : Nat → Int32) : xW := ((23, 1749, xur (cw_57 L xs).1.2.2.1 22 (2, 0), xur (cw_57 L xs).1.2.2.2 22 (fun _ => 0)), xur (cw_57 L xs).2.1 22 (fun _ => 0), xur (cw_57 L xs).2.2 22 (fun _ => 0))
def cw_59 (L : Nat) (xs : Nat → Int32) : xW := ((24, 1873, xur (cw_58 L xs).1.2.2.1 23 (11, 124), xur (cw_58 L xs).1.2.2.2 23 (fun _ => 0)), xur (cw_58 L xs).2.1 23 (fun _ => 0), xur (cw_58 L xs).2.2 23 (fun _ => 0))
def cw_60 (L : Nat) (xs : Nat → Int32) : xW := ((24, 1873, (cw_59 L xs).1.2.2.1, xu (cw_59 L xs).1.2.2.2 22 0 23), (cw_59 L xs).2.1, (cw_59 L xs).2.2)
def cw_61 (L : Nat) (xs : Nat → Int32) : xW := ((25, 1875, xur (cw_60 L xs).1.2.2.1 24 (11, 2), xur (cw_60 L xs).1.2.2.2 24 (fun _ => 0)), xur (cw_60 L xs).2.1 24 (fun _ => 0), xur (cw_60 L xs).2.2 24 (fun _ => 0))
def cw_62 (L : Nat) (xs : Nat → Int32) : xW := ((25, 1875, (cw_61 L xs).1.2.2.1, xu (cw_61 L xs).1.2.2.2 22 1 24), (cw_61 L xs).2.1, (cw_61 L xs).2.2)
def cw_63 (L : Nat) (xs : Nat → Int32) : xW := ((cw_62 L xs).1, xu (cw_62 L xs).2.1 22 2 0, (cw_62 L xs).2.2)
def cw_64 (L : Nat) (xs : Nat → Int32) : xW := ((25, 1875, (cw_63 L xs).1.2.2.1, xu (cw_63 L xs).1.2.2.2 1 5 22), (cw_63 L xs).2.1, (cw_63 L xs).2.2)
def cw_65 (L : Nat) (xs : Nat → Int32) : xW := ((26, 1881, xur (cw_64 L xs).1.2.2.1 25 (3, 0), xur (cw_64 L xs).1.2.2.2 25 (fun _ => 0)), xur (cw_64 L xs).2.1 25 (fun _ => 0), xur (cw_64 L xs).2.2 25 (fun _ => 0))
def cw_66 (L : Nat) (xs : Nat → Int32) : xW := ((cw_65 L xs).1, xu (cw_65 L xs).2.1 25 0 0, (cw_65 L xs).2.2)
def cw_67 (L : Nat) (xs : Nat → Int32) : xW := ((cw_66 L xs).1, xu (cw_66 L xs).2.1 25 1 0, (cw_66 L xs).2.2)
def cw_68 (L : Nat) (xs : Nat → Int32) : xW := ((27, 1887, xur (cw_67 L xs).1.2.2.1 26 (11, 6), xur (cw_67 L xs).1.2.2.2 26 (fun _ => 0)), xur (cw_67 L xs).2.1 26 (fun _ => 0), xur (cw_67 L xs).2.2 26 (fun _ => 0))
def cw_69 (L : Nat) (xs : Nat → Int32) : xW := ((27, 1887, (cw_68 L xs).1.2.2.1, xu (cw_68 L xs).1.2.2.2 25 2 26), (cw_68 L xs).2.1, (cw_68 L xs).2.2)
def cw_70 (L : Nat) (xs : Nat → Int32) : xW := ((28, 1893, xur (cw_69 L xs).1.2.2.1 27 (11, 6), xur (cw_69 L xs).1.2.2.2 27 (fun _ => 0)), xur (cw_69 L xs).2.1 27 (fun _ => 0), xur (cw_69 L xs).2.2 27 (fun _ => 0))
def cw_71 (L : Nat) (xs : Nat → Int32) : xW := ((28, 1893, (cw_70 L xs).1.2.2.1, xu (cw_70 L xs).1.2.2.2 25 3 27), (cw_70 L xs).2.1, (cw_70 L xs).2.2)
def cw_72 (L : Nat) (xs : Nat → Int32) : xW := ((29, 1908, xur (cw_71 L xs).1.2.2.1 28 (11, 15), xur (cw_71 L xs).1.2.2.2 28 (fun _ => 0)), xur (cw_71 L xs).2.1 28 (fun _ => 0), xur (cw_71 L xs).2.2 28 (fun _ => 0))
def cw_73 (L : Nat) (xs : Nat → Int32) : xW := ((29, 1908, (cw_72 L xs).1.2.2.1, xu (cw_72 L xs).1.2.2.2 25 4 28), (cw_72 L xs).2.1, (cw_72 L xs).2.2)
def cw_74 (L : Nat) (xs : Nat → Int32) : xW := ((30, 1923, xur (cw_73 L xs).1.2.2.1 29 (11, 15), xur (cw_73 L xs).1.2.2.2 29 (fun _ => 0)), xur (cw_73 L xs).2.1 29 (fun _ => 0), xur (cw_73 L xs).2.2 29 (fun _ => 0))
def cw_75 (L : Nat) (xs : Nat → Int32) : xW := ((30, 1923, (cw_74 L xs).1.2.2.1, xu (cw_74 L xs).1.2.2.2 25 5 29), (cw_74 L xs).2.1, (cw_74 L xs).2.2)
def cw_76 (L : Nat) (xs : Nat → Int32) : xW := ((30, 1923, (cw_75 L xs).1.2.2.1, xu (cw_75 L xs).1.2.2.2 1 6 25), (cw_75 L xs).2.1, (cw_75 L xs).2.2)
def cw_77 (L : Nat) (xs : Nat → Int32) : xW := ((31, 1928, xur (cw_76 L xs).1.2.2.1 30 (4, 0), xur (cw_76 L xs).1.2.2.2 30 (fun _ => 0)), xur (cw_76 L xs).2.1 30 (fun _ => 0), xur (cw_76 L xs).2.2 30 (fun _ => 0))
def cw_78 (L : Nat) (xs : Nat → Int32) : xW := ((cw_77 L xs).1, xu (cw_77 L xs).2.1 30 0 (-1), (cw_77 L xs).2.2)
def cw_79 (L : Nat) (xs : Nat → Int32) : xW := ((32, 1933, xur (cw_78 L xs).1.2.2.1 31 (11, 5), xur (cw_78 L xs).1.2.2.2 31 (fun _ => 0)), xur (cw_78 L xs).2.1 31 (fun _ => 0), xur (cw_78 L xs).2.2 31 (fun _ => 0))
def cw_80 (L : Nat) (xs : Nat → Int32) : xW := ((32, 1933, (cw_79 L xs).1.2.2.1, xu (cw_79 L xs).1.2.2.2 30 1 31), (cw_79 L xs).2.1, (cw_79 L xs).2.2)
def cw_81 (L : Nat) (xs : Nat → Int32) : xW := ((33, 1938, xur (cw_80 L xs).1.2.2.1 32 (11, 5), xur (cw_80 L xs).1.2.2.2 32 (fun _ => 0)), xur (cw_80 L xs).2.1 32 (fun _ => 0), xur (cw_80 L xs).2.2 32 (fun _ => 0))
def cw_82 (L : Nat) (xs : Nat → Int32) : xW := ((33, 1938, (cw_81 L xs).1.2.2.1, xu (cw_81 L xs).1.2.2.2 30 2 32), (cw_81 L xs).2.1, (cw_81 L xs).2.2)
def cw_83 (L : Nat) (xs : Nat → Int32) : xW := ((34, 1943, xur (cw_82 L xs).1.2.2.1 33 (11, 5), xur (cw_82 L xs).1.2.2.2 33 (fun _ => 0)), xur (cw_82 L xs).2.1 33 (fun _ => 0), xur (cw_82 L xs).2.2 33 (fun _ => 0))
def cw_84 (L : Nat) (xs : Nat → Int32) : xW := ((34, 1943, (cw_83 L xs).1.2.2.1, xu (cw_83 L xs).1.2.2.2 30 3 33), (cw_83 L xs).2.1, (cw_83 L xs).2.2)
def cw_85 (L : Nat) (xs : Nat → Int32) : xW := ((35, 1944, xur (cw_84 L xs).1.2.2.1 34 (6, 0), xur (cw_84 L xs).1.2.2.2 34 (fun _ => 0)), xur (cw_84 L xs).2.1 34 (fun _ => 0), xur (cw_84 L xs).2.2 34 (fun _ => 0))
def cw_86 (L : Nat) (xs : Nat → Int32) : xW := ((36, 2006, xur (cw_85 L xs).1.2.2.1 35 (11, 62), xur (cw_85 L xs).1.2.2.2 35 (fun _ => 0)), xur (cw_85 L xs).2.1 35 (fun _ => 0), xur (cw_85 L xs).2.2 35 (fun _ => 0))
def cw_87 (L : Nat) (xs : Nat → Int32) : xW := ((36, 2006, (cw_86 L xs).1.2.2.1, xu (cw_86 L xs).1.2.2.2 34 0 35), (cw_86 L xs).2.1, (cw_86 L xs).2.2)
def cw_88 (L : Nat) (xs : Nat → Int32) : xW := ((36, 2006, (cw_87 L xs).1.2.2.1, xu (cw_87 L xs).1.2.2.2 30 4 34), (cw_87 L xs).2.1, (cw_87 L xs).2.2)
def cw_89 (L : Nat) (xs : Nat → Int32) : xW := ((36, 2006, (cw_88 L xs).1.2.2.1, xu (cw_88 L xs).1.2.2.2 1 7 30), (cw_88 L xs).2.1, (cw_88 L xs).2.2)
def cw_90 (L : Nat) (xs : Nat → Int32) : xW := ((37, 2010, xur (cw_89 L xs).1.2.2.1 36 (7, 0), xur (cw_89 L xs).1.2.2.2 36 (fun _ => 0)), xur (cw_89 L xs).2.1 36 (fun _ => 0), xur (cw_89 L xs).2.2 36 (fun _ => 0))
def cw_91 (L : Nat) (xs : Nat → Int32) : xW := ((38, 2018, xur (cw_90 L xs).1.2.2.1 37 (11, 8), xur (cw_90 L xs).1.2.2.2 37 (fun _ => 0)), xur (cw_90 L xs).2.1 37 (fun _ => 0), xur (cw_90 L xs).2.2 37 (fun _ => 0))
def cw_92 (L : Nat) (xs : Nat → Int32) : xW := ((38, 2018, (cw_91 L xs).1.2.2.1, xu (cw_91 L xs).1.2.2.2 36 0 37), (cw_91 L xs).2.1, (cw_91 L xs).2.2)
def cw_93 (L : Nat) (xs : Nat → Int32) : xW := ((39, 2274, xur (cw_92 L xs).1.2.2.1 38 (11, 256), xur (cw_92 L xs).1.2.2.2 38 (fun _ => 0)), xur (cw_92 L xs).2.1 38 (fun _ => 0), xur (cw_92 L xs).2.2 38 (fun _ => 0))
def cw_94 (L : Nat) (xs : Nat → Int32) : xW := ((39, 2274, (cw_93 L xs).1.2.2.1, xu (cw_93 L xs).1.2.2.2 36 1 38), (cw_93 L xs).2.1, (cw_93 L xs).2.2)
def cw_95 (L : Nat) (xs : Nat → Int32) : xW := ((40, 2530, xur (cw_94 L xs).1.2.2.1 39 (11, 256), xur (cw_94 L xs).1.2.2.2 39 (fun _ => 0)), xur (cw_94 L xs).2.1 39 (fun _ => 0), xur (cw_94 L xs).2.2 39 (fun _ => 0))
def cw_96 (L : Nat) (xs : Nat → Int32) : xW := ((40, 2530, (cw_95 L xs).1.2.2.1, xu (cw_95 L xs).1.2.2.2 36 2 39), (cw_95 L xs).2.1, (cw_95 L xs).2.2)
def cw_97 (L : Nat) (xs : Nat → Int32) : xW := ((cw_96 L xs).1, xu (cw_96 L xs).2.1 36 3 0, (cw_96 L xs).2.2)
def cw_98 (L : Nat) (xs : Nat → Int32) : xW := ((40, 2530, (cw_97 L xs).1.2.2.1, xu (cw_97 L xs).1.2.2.2 1 8 36), (cw_97 L xs).2.1, (cw_97 L xs).2.2)
def cw_99 (L : Nat) (xs : Nat → Int32) : xW := ((cw_98 L xs).1, xu (cw_98 L xs).2.1 1 9 (-1), (cw_98 L xs).2.2)
def cw_100 (L : Nat) (xs : Nat → Int32) : xW := ((cw_99 L xs).1, xu (cw_99 L xs).2.1 1 10 0, (cw_99 L xs).2.2)
def cw_101 (L : Nat) (xs : Nat → Int32) : xW := ((41, 2556, xur (cw_100 L xs).1.2.2.1 40 (9, 0), xur (cw_100 L xs).1.2.2.2 40 (fun _ => 0)), xur (cw_100 L xs).2.1 40 (fun _ => 0), xur (cw_100 L xs).2.2 40 (fun _ => 0))
def cw_102 (L : Nat) (xs : Nat → Int32) : xW := ((42, 2597, xur (cw_101 L xs).1.2.2.1 41 (11, 41), xur (cw_101 L xs).1.2.2.2 41 (fun _ => 0)), xur (cw_101 L xs).2.1 41 (fun _ => 0), xur (cw_101 L xs).2.2 41 (fun _ => 0))
def cw_103 (L : Nat) (xs : Nat → Int32) : xW := ((42, 2597, (cw_102 L xs).1.2.2.1, xu (cw_102 L xs).1.2.2.2 40 0 41), (cw_102 L xs).2.1, (cw_102 L xs).2.2)
def cw_104 (L : Nat) (xs : Nat → Int32) : xW := ((43, 2638, xur (cw_103 L xs).1.2.2.1 42 (11, 41), xur (cw_103 L xs).1.2.2.2 42 (fun _ => 0)), xur (cw_103 L xs).2.1 42 (fun _ => 0), xur (cw_103 L xs).2.2 42 (fun _ => 0))
def cw_105 (L : Nat) (xs : Nat → Int32) : xW := ((43, 2638, (cw_104 L xs).1.2.2.1, xu (cw_104 L xs).1.2.2.2 40 1 42), (cw_104 L xs).2.1, (cw_104 L xs).2.2)
def cw_106 (L : Nat) (xs : Nat → Int32) : xW := ((44, 2700, xur (cw_105 L xs).1.2.2.1 43 (11, 62), xur (cw_105 L xs).1.2.2.2 43 (fun _ => 0)), xur (cw_105 L xs).2.1 43 (fun _ => 0), xur (cw_105 L xs).2.2 43 (fun _ => 0))
def cw_107 (L : Nat) (xs : Nat → Int32) : xW := ((44, 2700, (cw_106 L xs).1.2.2.1, xu (cw_106 L xs).1.2.2.2 40 2 43), (cw_106 L xs).2.1, (cw_106 L xs).2.2)
def cw_108 (L : Nat) (xs : Nat → Int32) : xW := ((45, 2762, xur (cw_107 L xs).1.2.2.1 44 (11, 62), xur (cw_107 L xs).1.2.2.2 44 (fun _ => 0)), xur (cw_107 L xs).2.1 44 (fun _ => 0), xur (cw_107 L xs).2.2 44 (fun _ => 0))
def cw_109 (L : Nat) (xs : Nat → Int32) : xW := ((45, 2762, (cw_108 L xs).1.2.2.1, xu (cw_108 L xs).1.2.2.2 40 3 44), (cw_108 L xs).2.1, (cw_108 L xs).2.2)
def cw_110 (L : Nat) (xs : Nat → Int32) : xW := ((46, 4002, xur (cw_109 L xs).1.2.2.1 45 (11, 1240), xur (cw_109 L xs).1.2.2.2 45 (fun _ => 0)), xur (cw_109 L xs).2.1 45 (fun _ => 0), xur (cw_109 L xs).2.2 45 (fun _ => 0))
def cw_111 (L : Nat) (xs : Nat → Int32) : xW := ((46, 4002, (cw_110 L xs).1.2.2.1, xu (cw_110 L xs).1.2.2.2 40 4 45), (cw_110 L xs).2.1, (cw_110 L xs).2.2)
def cw_112 (L : Nat) (xs : Nat → Int32) : xW := ((47, 4128, xur (cw_111 L xs).1.2.2.1 46 (11, 126), xur (cw_111 L xs).1.2.2.2 46 (fun _ => 0)), xur (cw_111 L xs).2.1 46 (fun _ => 0), xur (cw_111 L xs).2.2 46 (fun _ => 0))
def cw_113 (L : Nat) (xs : Nat → Int32) : xW := ((47, 4128, (cw_112 L xs).1.2.2.1, xu (cw_112 L xs).1.2.2.2 40 6 46), (cw_112 L xs).2.1, (cw_112 L xs).2.2)
def cw_114 (L : Nat) (xs : Nat → Int32) : xW := ((48, 4130, xur (cw_113 L xs).1.2.2.1 47 (10, 2), xur (cw_113 L xs).1.2.2.2 47 (fun _ => 0)), xur (cw_113 L xs).2.1 47 (fun _ => 0), xur (cw_113 L xs).2.2 47 (fun _ => 0))
def cw_115 (L : Nat) (xs : Nat → Int32) : xW := ((48, 4130, (cw_114 L xs).1.2.2.1, xu (cw_114 L xs).1.2.2.2 40 7 47), (cw_114 L xs).2.1, (cw_114 L xs).2.2)
def cw_116 (L : Nat) (xs : Nat → Int32) : xW := ((49, 4370, xur (cw_115 L xs).1.2.2.1 48 (11, 240), xur (cw_115 L xs).1.2.2.2 48 (fun _ => 0)), xur (cw_115 L xs).2.1 48 (fun _ => 0), xur (cw_115 L xs).2.2 48 (fun _ => 0))
def cw_117 (L : Nat) (xs : Nat → Int32) : xW := ((49, 4370, (cw_116 L xs).1.2.2.1, xu (cw_116 L xs).1.2.2.2 40 9 48), (cw_116 L xs).2.1, (cw_116 L xs).2.2)
def cw_118 (L : Nat) (xs : Nat → Int32) : xW := ((cw_117 L xs).1, xu (cw_117 L xs).2.1 40 11 (-1), (cw_117 L xs).2.2)
def cw_119 (L : Nat) (xs : Nat → Int32) : xW := ((50, 4382, xur (cw_118 L xs).1.2.2.1 49 (11, 12), xur (cw_118 L xs).1.2.2.2 49 (fun _ => 0)), xur (cw_118 L xs).2.1 49 (fun _ => 0), xur (cw_118 L xs).2.2 49 (fun _ => 0))
def cw_120 (L : Nat) (xs : Nat → Int32) : xW := ((50, 4382, (cw_119 L xs).1.2.2.1, xu (cw_119 L xs).1.2.2.2 40 12 49), (cw_119 L xs).2.1, (cw_119 L xs).2.2)
def cw_121 (L : Nat) (xs : Nat → Int32) : xW := ((51, 4412, xur (cw_120 L xs).1.2.2.1 50 (11, 30), xur (cw_120 L xs).1.2.2.2 50 (fun _ => 0)), xur (cw_120 L xs).2.1 50 (fun _ => 0), xur (cw_120 L xs).2.2 50 (fun _ => 0))
def cw_122 (L : Nat) (xs : Nat → Int32) : xW := ((51, 4412, (cw_121 L xs).1.2.2.1, xu (cw_121 L xs).1.2.2.2 40 14 50), (cw_121 L xs).2.1, (cw_121 L xs).2.2)
def cw_123 (L : Nat) (xs : Nat → Int32) : xW := ((52, 4417, xur (cw_122 L xs).1.2.2.1 51 (11, 5), xur (cw_122 L xs).1.2.2.2 51 (fun _ => 0)), xur (cw_122 L xs).2.1 51 (fun _ => 0), xur (cw_122 L xs).2.2 51 (fun _ => 0))
def cw_124 (L : Nat) (xs : Nat → Int32) : xW := ((52, 4417, (cw_123 L xs).1.2.2.1, xu (cw_123 L xs).1.2.2.2 40 22 51), (cw_123 L xs).2.1, (cw_123 L xs).2.2)
def cw_125 (L : Nat) (xs : Nat → Int32) : xW := ((53, 4422, xur (cw_124 L xs).1.2.2.1 52 (11, 5), xur (cw_124 L xs).1.2.2.2 52 (fun _ => 0)), xur (cw_124 L xs).2.1 52 (fun _ => 0), xur (cw_124 L xs).2.2 52 (fun _ => 0))
def cw_126 (L : Nat) (xs : Nat → Int32) : xW := ((53, 4422, (cw_125 L xs).1.2.2.1, xu (cw_125 L xs).1.2.2.2 40 23 52), (cw_125 L xs).2.1, (cw_125 L xs).2.2)
def cw_127 (L : Nat) (xs : Nat → Int32) : xW := ((54, 4430, xur (cw_126 L xs).1.2.2.1 53 (11, 8), xur (cw_126 L xs).1.2.2.2 53 (fun _ => 0)), xur (cw_126 L xs).2.1 53 (fun _ => 0), xur (cw_126 L xs).2.2 53 (fun _ => 0))
def cw_128 (L : Nat) (xs : Nat → Int32) : xW := ((54, 4430, (cw_127 L xs).1.2.2.1, xu (cw_127 L xs).1.2.2.2 40 24 53), (cw_127 L xs).2.1, (cw_127 L xs).2.2)
def cw_129 (L : Nat) (xs : Nat → Int32) : xW := ((55, 4433, xur (cw_128 L xs).1.2.2.1 54 (11, 3), xur (cw_128 L xs).1.2.2.2 54 (fun _ => 0)), xur (cw_128 L xs).2.1 54 (fun _ => 0), xur (cw_128 L xs).2.2 54 (fun _ => 0))
def cw_130 (L : Nat) (xs : Nat → Int32) : xW := ((55, 4433, (cw_129 L xs).1.2.2.1, xu (cw_129 L xs).1.2.2.2 40 25 54), (cw_129 L xs).2.1, (cw_129 L xs).2.2)
def cw_131 (L : Nat) (xs : Nat → Int32) : xW := ((cw_130 L xs).1, blM (cw_130 L xs).2.1 41 41, (cw_130 L xs).2.2)
theorem kt_2 (L : Nat) (xs : Nat → Int32) : ev (4, 0, [.ref 2], [], cw_2 L xs) = some (none, cw_14 L xs) := by
  refine ev_nx (s1 := (4, 1, [.ref 2], [.ref 2], cw_2 L xs)) fc_4_0 rfl ?_
  refine ev_nx (s1 := (4, 4, [.ref 2], [], cw_2 L xs)) fc_4_1 rfl ?_
  refine ev_nx (s1 := (4, 5, [.ref 2], [.ref 2], cw_2 L xs)) fc_4_4 rfl ?_
  refine ev_nx (s1 := (4, 6, [.ref 2], [.int 0, .ref 2], cw_2 L xs)) fc_4_5 rfl ?_
  refine ev_g1 (s1 := (4, 9, [.ref 2], [], cw_3 L xs)) fc_4_6 rfl rfl ?_
  refine ev_nx (s1 := (4, 10, [.ref 2], [.ref 2], cw_3 L xs)) fc_4_9 rfl ?_
  refine ev_nx (s1 := (4, 11, [.ref 2], [.int 0, .ref 2], cw_3 L xs)) fc_4_10 rfl ?_
  refine ev_g1 (s1 := (4, 14, [.ref 2], [], cw_4 L xs)) fc_4_11 rfl rfl ?_
  refine ev_nx (s1 := (4, 15, [.ref 2], [.ref 2], cw_4 L xs)) fc_4_14 rfl ?_
  refine ev_nx (s1 := (4, 16, [.ref 2], [.int 0, .ref 2], cw_4 L xs)) fc_4_15 rfl ?_
  refine ev_g1 (s1 := (4, 19, [.ref 2], [], cw_5 L xs)) fc_4_16 rfl rfl ?_
  refine ev_nx (s1 := (4, 20, [.ref 2], [.ref 2], cw_5 L xs)) fc_4_19 rfl ?_
  refine ev_nx (s1 := (4, 21, [.ref 2], [.int 5, .ref 2], cw_5 L xs)) fc_4_20 rfl ?_
  refine ev_g1 (s1 := (4, 23, [.ref 2], [.ref 3, .ref 2], cw_6 L xs)) fc_4_21 rfl (by decide) ?_
  refine ev_g1 (s1 := (4, 26, [.ref 2], [], cw_7 L xs)) fc_4_23 rfl rfl ?_
  refine ev_nx (s1 := (4, 27, [.ref 2], [.ref 2], cw_7 L xs)) fc_4_26 rfl ?_
  refine ev_nx (s1 := (4, 28, [.ref 2], [.int 5, .ref 2], cw_7 L xs)) fc_4_27 rfl ?_
  refine ev_g1 (s1 := (4, 30, [.ref 2], [.ref 4, .ref 2], cw_8 L xs)) fc_4_28 rfl (by decide) ?_
  refine ev_g1 (s1 := (4, 33, [.ref 2], [], cw_9 L xs)) fc_4_30 rfl rfl ?_
  refine ev_nx (s1 := (4, 34, [.ref 2], [.ref 2], cw_9 L xs)) fc_4_33 rfl ?_
  refine ev_nx (s1 := (4, 35, [.ref 2], [.int 5, .ref 2], cw_9 L xs)) fc_4_34 rfl ?_
  refine ev_g1 (s1 := (4, 37, [.ref 2], [.ref 5, .ref 2], cw_10 L xs)) fc_4_35 rfl (by decide) ?_
  refine ev_g1 (s1 := (4, 40, [.ref 2], [], cw_11 L xs)) fc_4_37 rfl rfl ?_
  refine ev_nx (s1 := (4, 41, [.ref 2], [.ref 2], cw_11 L xs)) fc_4_40 rfl ?_
  refine ev_nx (s1 := (4, 42, [.ref 2], [.int 5, .ref 2], cw_11 L xs)) fc_4_41 rfl ?_
  refine ev_g1 (s1 := (4, 44, [.ref 2], [.ref 6, .ref 2], cw_12 L xs)) fc_4_42 rfl (by decide) ?_
  refine ev_g1 (s1 := (4, 47, [.ref 2], [], cw_13 L xs)) fc_4_44 rfl rfl ?_
  refine ev_nx (s1 := (4, 48, [.ref 2], [.ref 2], cw_13 L xs)) fc_4_47 rfl ?_
  refine ev_cl (s1 := (5, 0, [.ref 2, .null], [], cw_13 L xs)) (k := (4, 51, [.ref 2], [])) fc_4_48 rfl rfl (c_houseClearE (sh := (cw_13 L xs).1) (h := 2) (M := (cw_13 L xs).2.1) (J := (cw_13 L xs).2.2) ⟨rfl, rfl, rfl, rfl, rfl, rfl, rfl, rfl, rfl⟩) ?_
  show ev (4, 51, [.ref 2], [], cw_14 L xs) = _
  exact ev_r1 fc_4_51 rfl
theorem kt_16 (L : Nat) (xs : Nat → Int32) : ev (56, 0, [.ref 7], [], cw_16 L xs) = some (none, cw_18 L xs) := by
  refine ev_nx (s1 := (56, 1, [.ref 7], [.ref 7], cw_16 L xs)) fc_56_0 rfl ?_
  refine ev_nx (s1 := (56, 4, [.ref 7], [], cw_16 L xs)) fc_56_1 rfl ?_
  refine ev_nx (s1 := (56, 5, [.ref 7], [.ref 7], cw_16 L xs)) fc_56_4 rfl ?_
  refine ev_nx (s1 := (56, 7, [.ref 7], [.int 62, .ref 7], cw_16 L xs)) fc_56_5 rfl ?_
  refine ev_g1 (s1 := (56, 9, [.ref 7], [.ref 8, .ref 7], cw_17 L xs)) fc_56_7 rfl (by decide) ?_
  refine ev_g1 (s1 := (56, 12, [.ref 7], [], cw_18 L xs)) fc_56_9 rfl rfl ?_
  exact ev_r1 fc_56_12 rfl
theorem kt_20 (L : Nat) (xs : Nat → Int32) : ev (56, 0, [.ref 9], [], cw_20 L xs) = some (none, cw_22 L xs) := by
  refine ev_nx (s1 := (56, 1, [.ref 9], [.ref 9], cw_20 L xs)) fc_56_0 rfl ?_
  refine ev_nx (s1 := (56, 4, [.ref 9], [], cw_20 L xs)) fc_56_1 rfl ?_
  refine ev_nx (s1 := (56, 5, [.ref 9], [.ref 9], cw_20 L xs)) fc_56_4 rfl ?_
  refine ev_nx (s1 := (56, 7, [.ref 9], [.int 62, .ref 9], cw_20 L xs)) fc_56_5 rfl ?_
  refine ev_g1 (s1 := (56, 9, [.ref 9], [.ref 10, .ref 9], cw_21 L xs)) fc_56_7 rfl (by decide) ?_
  refine ev_g1 (s1 := (56, 12, [.ref 9], [], cw_22 L xs)) fc_56_9 rfl rfl ?_
  exact ev_r1 fc_56_12 rfl
theorem kt_25 (L : Nat) (xs : Nat → Int32) : ev (4, 0, [.ref 12], [], cw_25 L xs) = some (none, cw_37 L xs) := by
  refine ev_nx (s1 := (4, 1, [.ref 12], [.ref 12], cw_25 L xs)) fc_4_0 rfl ?_
  refine ev_nx (s1 := (4, 4, [.ref 12], [], cw_25 L xs)) fc_4_1 rfl ?_
  refine ev_nx (s1 := (4, 5, [.ref 12], [.ref 12], cw_25 L xs)) fc_4_4 rfl ?_
  refine ev_nx (s1 := (4, 6, [.ref 12], [.int 0, .ref 12], cw_25 L xs)) fc_4_5 rfl ?_
  refine ev_g1 (s1 := (4, 9, [.ref 12], [], cw_26 L xs)) fc_4_6 rfl rfl ?_
  refine ev_nx (s1 := (4, 10, [.ref 12], [.ref 12], cw_26 L xs)) fc_4_9 rfl ?_
  refine ev_nx (s1 := (4, 11, [.ref 12], [.int 0, .ref 12], cw_26 L xs)) fc_4_10 rfl ?_
  refine ev_g1 (s1 := (4, 14, [.ref 12], [], cw_27 L xs)) fc_4_11 rfl rfl ?_
  refine ev_nx (s1 := (4, 15, [.ref 12], [.ref 12], cw_27 L xs)) fc_4_14 rfl ?_
  refine ev_nx (s1 := (4, 16, [.ref 12], [.int 0, .ref 12], cw_27 L xs)) fc_4_15 rfl ?_
  refine ev_g1 (s1 := (4, 19, [.ref 12], [], cw_28 L xs)) fc_4_16 rfl rfl ?_
  refine ev_nx (s1 := (4, 20, [.ref 12], [.ref 12], cw_28 L xs)) fc_4_19 rfl ?_
  refine ev_nx (s1 := (4, 21, [.ref 12], [.int 5, .ref 12], cw_28 L xs)) fc_4_20 rfl ?_
  refine ev_g1 (s1 := (4, 23, [.ref 12], [.ref 13, .ref 12], cw_29 L xs)) fc_4_21 rfl (by decide) ?_
  refine ev_g1 (s1 := (4, 26, [.ref 12], [], cw_30 L xs)) fc_4_23 rfl rfl ?_
  refine ev_nx (s1 := (4, 27, [.ref 12], [.ref 12], cw_30 L xs)) fc_4_26 rfl ?_
  refine ev_nx (s1 := (4, 28, [.ref 12], [.int 5, .ref 12], cw_30 L xs)) fc_4_27 rfl ?_
  refine ev_g1 (s1 := (4, 30, [.ref 12], [.ref 14, .ref 12], cw_31 L xs)) fc_4_28 rfl (by decide) ?_
  refine ev_g1 (s1 := (4, 33, [.ref 12], [], cw_32 L xs)) fc_4_30 rfl rfl ?_
  refine ev_nx (s1 := (4, 34, [.ref 12], [.ref 12], cw_32 L xs)) fc_4_33 rfl ?_
  refine ev_nx (s1 := (4, 35, [.ref 12], [.int 5, .ref 12], cw_32 L xs)) fc_4_34 rfl ?_
  refine ev_g1 (s1 := (4, 37, [.ref 12], [.ref 15, .ref 12], cw_33 L xs)) fc_4_35 rfl (by decide) ?_
  refine ev_g1 (s1 := (4, 40, [.ref 12], [], cw_34 L xs)) fc_4_37 rfl rfl ?_
  refine ev_nx (s1 := (4, 41, [.ref 12], [.ref 12], cw_34 L xs)) fc_4_40 rfl ?_
  refine ev_nx (s1 := (4, 42, [.ref 12], [.int 5, .ref 12], cw_34 L xs)) fc_4_41 rfl ?_
  refine ev_g1 (s1 := (4, 44, [.ref 12], [.ref 16, .ref 12], cw_35 L xs)) fc_4_42 rfl (by decide) ?_
  refine ev_g1 (s1 := (4, 47, [.ref 12], [], cw_36 L xs)) fc_4_44 rfl rfl ?_
  refine ev_nx (s1 := (4, 48, [.ref 12], [.ref 12], cw_36 L xs)) fc_4_47 rfl ?_
  refine ev_cl (s1 := (5, 0, [.ref 12, .null], [], cw_36 L xs)) (k := (4, 51, [.ref 12], [])) fc_4_48 rfl rfl (c_houseClearE (sh := (cw_36 L xs).1) (h := 12) (M := (cw_36 L xs).2.1) (J := (cw_36 L xs).2.2) ⟨rfl, rfl, rfl, rfl, rfl, rfl, rfl, rfl, rfl⟩) ?_
  show ev (4, 51, [.ref 12], [], cw_37 L xs) = _
  exact ev_r1 fc_4_51 rfl
theorem kt_39 (L : Nat) (xs : Nat → Int32) : ev (56, 0, [.ref 17], [], cw_39 L xs) = some (none, cw_41 L xs) := by
  refine ev_nx (s1 := (56, 1, [.ref 17], [.ref 17], cw_39 L xs)) fc_56_0 rfl ?_
  refine ev_nx (s1 := (56, 4, [.ref 17], [], cw_39 L xs)) fc_56_1 rfl ?_
  refine ev_nx (s1 := (56, 5, [.ref 17], [.ref 17], cw_39 L xs)) fc_56_4 rfl ?_
  refine ev_nx (s1 := (56, 7, [.ref 17], [.int 62, .ref 17], cw_39 L xs)) fc_56_5 rfl ?_
  refine ev_g1 (s1 := (56, 9, [.ref 17], [.ref 18, .ref 17], cw_40 L xs)) fc_56_7 rfl (by decide) ?_
  refine ev_g1 (s1 := (56, 12, [.ref 17], [], cw_41 L xs)) fc_56_9 rfl rfl ?_
  exact ev_r1 fc_56_12 rfl
theorem kt_24 (L : Nat) (xs : Nat → Int32) : ev (41, 0, [.ref 11], [], cw_24 L xs) = some (none, cw_50 L xs) := by
  refine ev_nx (s1 := (41, 1, [.ref 11], [.ref 11], cw_24 L xs)) fc_41_0 rfl ?_
  refine ev_nx (s1 := (41, 4, [.ref 11], [], cw_24 L xs)) fc_41_1 rfl ?_
  refine ev_nx (s1 := (41, 5, [.ref 11], [.ref 11], cw_24 L xs)) fc_41_4 rfl ?_
  refine ev_nx (s1 := (41, 8, [.ref 11], [.ref 12, .ref 11], cw_25 L xs)) fc_41_5 rfl ?_
  refine ev_nx (s1 := (41, 9, [.ref 11], [.ref 12, .ref 12, .ref 11], cw_25 L xs)) fc_41_8 rfl ?_
  refine ev_cl (s1 := (4, 0, [.ref 12], [], cw_25 L xs)) (k := (41, 12, [.ref 11], [.ref 12, .ref 11])) fc_41_9 rfl rfl (kt_25 L xs) ?_
  show ev (41, 12, [.ref 11], [.ref 12, .ref 11], cw_37 L xs) = _
  refine ev_g1 (s1 := (41, 15, [.ref 11], [], cw_38 L xs)) fc_41_12 rfl rfl ?_
  refine ev_nx (s1 := (41, 16, [.ref 11], [.ref 11], cw_38 L xs)) fc_41_15 rfl ?_
  refine ev_nx (s1 := (41, 19, [.ref 11], [.ref 17, .ref 11], cw_39 L xs)) fc_41_16 rfl ?_
  refine ev_nx (s1 := (41, 20, [.ref 11], [.ref 17, .ref 17, .ref 11], cw_39 L xs)) fc_41_19 rfl ?_
  refine ev_cl (s1 := (56, 0, [.ref 17], [], cw_39 L xs)) (k := (41, 23, [.ref 11], [.ref 17, .ref 11])) fc_41_20 rfl rfl (kt_39 L xs) ?_
  show ev (41, 23, [.ref 11], [.ref 17, .ref 11], cw_41 L xs) = _
  refine ev_g1 (s1 := (41, 26, [.ref 11], [], cw_42 L xs)) fc_41_23 rfl rfl ?_
  refine ev_nx (s1 := (41, 27, [.ref 11], [.ref 11], cw_42 L xs)) fc_41_26 rfl ?_
  refine ev_nx (s1 := (41, 28, [.ref 11], [.int 0, .ref 11], cw_42 L xs)) fc_41_27 rfl ?_
  refine ev_g1 (s1 := (41, 31, [.ref 11], [], cw_43 L xs)) fc_41_28 rfl rfl ?_
  refine ev_nx (s1 := (41, 32, [.ref 11], [.ref 11], cw_43 L xs)) fc_41_31 rfl ?_
  refine ev_nx (s1 := (41, 33, [.ref 11], [.int (-1), .ref 11], cw_43 L xs)) fc_41_32 rfl ?_
  refine ev_g1 (s1 := (41, 36, [.ref 11], [], cw_44 L xs)) fc_41_33 rfl rfl ?_
  refine ev_nx (s1 := (41, 37, [.ref 11], [.ref 11], cw_44 L xs)) fc_41_36 rfl ?_
  refine ev_nx (s1 := (41, 40, [.ref 11], [.int 240, .ref 11], cw_44 L xs)) fc_41_37 rfl ?_
  refine ev_g1 (s1 := (41, 42, [.ref 11], [.ref 19, .ref 11], cw_45 L xs)) fc_41_40 rfl (by decide) ?_
  refine ev_g1 (s1 := (41, 45, [.ref 11], [], cw_46 L xs)) fc_41_42 rfl rfl ?_
  refine ev_nx (s1 := (41, 46, [.ref 11], [.ref 11], cw_46 L xs)) fc_41_45 rfl ?_
  refine ev_nx (s1 := (41, 47, [.ref 11], [.int 0, .ref 11], cw_46 L xs)) fc_41_46 rfl ?_
  refine ev_g1 (s1 := (41, 50, [.ref 11], [], cw_47 L xs)) fc_41_47 rfl rfl ?_
  refine ev_nx (s1 := (41, 51, [.ref 11], [.ref 11], cw_47 L xs)) fc_41_50 rfl ?_
  refine ev_nx (s1 := (41, 52, [.ref 11], [.int 0, .ref 11], cw_47 L xs)) fc_41_51 rfl ?_
  refine ev_g1 (s1 := (41, 55, [.ref 11], [], cw_48 L xs)) fc_41_52 rfl rfl ?_
  refine ev_nx (s1 := (41, 56, [.ref 11], [.ref 11], cw_48 L xs)) fc_41_55 rfl ?_
  refine ev_nx (s1 := (41, 57, [.ref 11], [.int 0, .ref 11], cw_48 L xs)) fc_41_56 rfl ?_
  refine ev_g1 (s1 := (41, 60, [.ref 11], [], cw_49 L xs)) fc_41_57 rfl rfl ?_
  refine ev_nx (s1 := (41, 61, [.ref 11], [.ref 11], cw_49 L xs)) fc_41_60 rfl ?_
  refine ev_nx (s1 := (41, 62, [.ref 11], [.int 0, .ref 11], cw_49 L xs)) fc_41_61 rfl ?_
  refine ev_g1 (s1 := (41, 65, [.ref 11], [], cw_50 L xs)) fc_41_62 rfl rfl ?_
  exact ev_r1 fc_41_65 rfl
theorem kt_52 (L : Nat) (xs : Nat → Int32) : ev (0, 0, [.ref 20], [], cw_52 L xs) = some (none, cw_56 L xs) := by
  refine ev_nx (s1 := (0, 1, [.ref 20], [.ref 20], cw_52 L xs)) fc_0_0 rfl ?_
  refine ev_nx (s1 := (0, 4, [.ref 20], [], cw_52 L xs)) fc_0_1 rfl ?_
  refine ev_nx (s1 := (0, 5, [.ref 20], [.ref 20], cw_52 L xs)) fc_0_4 rfl ?_
  refine ev_nx (s1 := (0, 6, [.ref 20], [.int 0, .ref 20], cw_52 L xs)) fc_0_5 rfl ?_
  refine ev_g1 (s1 := (0, 9, [.ref 20], [], cw_53 L xs)) fc_0_6 rfl rfl ?_
  refine ev_nx (s1 := (0, 10, [.ref 20], [.ref 20], cw_53 L xs)) fc_0_9 rfl ?_
  refine ev_nx (s1 := (0, 13, [.ref 20], [.int 1240, .ref 20], cw_53 L xs)) fc_0_10 rfl ?_
  refine ev_g1 (s1 := (0, 15, [.ref 20], [.ref 21, .ref 20], cw_54 L xs)) fc_0_13 rfl (by decide) ?_
  refine ev_g1 (s1 := (0, 18, [.ref 20], [], cw_55 L xs)) fc_0_15 rfl rfl ?_
  refine ev_nx (s1 := (0, 19, [.ref 20], [.ref 20], cw_55 L xs)) fc_0_18 rfl ?_
  refine ev_nx (s1 := (0, 20, [.ref 20], [.int 0, .ref 20], cw_55 L xs)) fc_0_19 rfl ?_
  refine ev_g1 (s1 := (0, 23, [.ref 20], [], cw_56 L xs)) fc_0_20 rfl rfl ?_
  exact ev_r1 fc_0_23 rfl
theorem kt_58 (L : Nat) (xs : Nat → Int32) : ev (23, 0, [.ref 22], [], cw_58 L xs) = some (none, cw_63 L xs) := by
  refine ev_nx (s1 := (23, 1, [.ref 22], [.ref 22], cw_58 L xs)) fc_23_0 rfl ?_
  refine ev_nx (s1 := (23, 4, [.ref 22], [], cw_58 L xs)) fc_23_1 rfl ?_
  refine ev_nx (s1 := (23, 5, [.ref 22], [.ref 22], cw_58 L xs)) fc_23_4 rfl ?_
  refine ev_nx (s1 := (23, 7, [.ref 22], [.int 124, .ref 22], cw_58 L xs)) fc_23_5 rfl ?_
  refine ev_g1 (s1 := (23, 9, [.ref 22], [.ref 23, .ref 22], cw_59 L xs)) fc_23_7 rfl (by decide) ?_
  refine ev_g1 (s1 := (23, 12, [.ref 22], [], cw_60 L xs)) fc_23_9 rfl rfl ?_
  refine ev_nx (s1 := (23, 13, [.ref 22], [.ref 22], cw_60 L xs)) fc_23_12 rfl ?_
  refine ev_nx (s1 := (23, 14, [.ref 22], [.int 2, .ref 22], cw_60 L xs)) fc_23_13 rfl ?_
  refine ev_g1 (s1 := (23, 16, [.ref 22], [.ref 24, .ref 22], cw_61 L xs)) fc_23_14 rfl (by decide) ?_
  refine ev_g1 (s1 := (23, 19, [.ref 22], [], cw_62 L xs)) fc_23_16 rfl rfl ?_
  refine ev_nx (s1 := (23, 20, [.ref 22], [.ref 22], cw_62 L xs)) fc_23_19 rfl ?_
  refine ev_nx (s1 := (23, 21, [.ref 22], [.int 0, .ref 22], cw_62 L xs)) fc_23_20 rfl ?_
  refine ev_g1 (s1 := (23, 24, [.ref 22], [], cw_63 L xs)) fc_23_21 rfl rfl ?_
  exact ev_r1 fc_23_24 rfl
theorem kt_65 (L : Nat) (xs : Nat → Int32) : ev (29, 0, [.ref 25], [], cw_65 L xs) = some (none, cw_75 L xs) := by
  refine ev_nx (s1 := (29, 1, [.ref 25], [.ref 25], cw_65 L xs)) fc_29_0 rfl ?_
  refine ev_nx (s1 := (29, 4, [.ref 25], [], cw_65 L xs)) fc_29_1 rfl ?_
  refine ev_nx (s1 := (29, 5, [.ref 25], [.ref 25], cw_65 L xs)) fc_29_4 rfl ?_
  refine ev_nx (s1 := (29, 6, [.ref 25], [.int 0, .ref 25], cw_65 L xs)) fc_29_5 rfl ?_
  refine ev_g1 (s1 := (29, 9, [.ref 25], [], cw_66 L xs)) fc_29_6 rfl rfl ?_
  refine ev_nx (s1 := (29, 10, [.ref 25], [.ref 25], cw_66 L xs)) fc_29_9 rfl ?_
  refine ev_nx (s1 := (29, 11, [.ref 25], [.int 0, .ref 25], cw_66 L xs)) fc_29_10 rfl ?_
  refine ev_g1 (s1 := (29, 14, [.ref 25], [], cw_67 L xs)) fc_29_11 rfl rfl ?_
  refine ev_nx (s1 := (29, 15, [.ref 25], [.ref 25], cw_67 L xs)) fc_29_14 rfl ?_
  refine ev_nx (s1 := (29, 17, [.ref 25], [.int 6, .ref 25], cw_67 L xs)) fc_29_15 rfl ?_
  refine ev_g1 (s1 := (29, 19, [.ref 25], [.ref 26, .ref 25], cw_68 L xs)) fc_29_17 rfl (by decide) ?_
  refine ev_g1 (s1 := (29, 22, [.ref 25], [], cw_69 L xs)) fc_29_19 rfl rfl ?_
  refine ev_nx (s1 := (29, 23, [.ref 25], [.ref 25], cw_69 L xs)) fc_29_22 rfl ?_
  refine ev_nx (s1 := (29, 25, [.ref 25], [.int 6, .ref 25], cw_69 L xs)) fc_29_23 rfl ?_
  refine ev_g1 (s1 := (29, 27, [.ref 25], [.ref 27, .ref 25], cw_70 L xs)) fc_29_25 rfl (by decide) ?_
  refine ev_g1 (s1 := (29, 30, [.ref 25], [], cw_71 L xs)) fc_29_27 rfl rfl ?_
  refine ev_nx (s1 := (29, 31, [.ref 25], [.ref 25], cw_71 L xs)) fc_29_30 rfl ?_
  refine ev_nx (s1 := (29, 33, [.ref 25], [.int 15, .ref 25], cw_71 L xs)) fc_29_31 rfl ?_
  refine ev_g1 (s1 := (29, 35, [.ref 25], [.ref 28, .ref 25], cw_72 L xs)) fc_29_33 rfl (by decide) ?_
  refine ev_g1 (s1 := (29, 38, [.ref 25], [], cw_73 L xs)) fc_29_35 rfl rfl ?_
  refine ev_nx (s1 := (29, 39, [.ref 25], [.ref 25], cw_73 L xs)) fc_29_38 rfl ?_
  refine ev_nx (s1 := (29, 41, [.ref 25], [.int 15, .ref 25], cw_73 L xs)) fc_29_39 rfl ?_
  refine ev_g1 (s1 := (29, 43, [.ref 25], [.ref 29, .ref 25], cw_74 L xs)) fc_29_41 rfl (by decide) ?_
  refine ev_g1 (s1 := (29, 46, [.ref 25], [], cw_75 L xs)) fc_29_43 rfl rfl ?_
  exact ev_r1 fc_29_46 rfl
theorem kt_85 (L : Nat) (xs : Nat → Int32) : ev (56, 0, [.ref 34], [], cw_85 L xs) = some (none, cw_87 L xs) := by
  refine ev_nx (s1 := (56, 1, [.ref 34], [.ref 34], cw_85 L xs)) fc_56_0 rfl ?_
  refine ev_nx (s1 := (56, 4, [.ref 34], [], cw_85 L xs)) fc_56_1 rfl ?_
  refine ev_nx (s1 := (56, 5, [.ref 34], [.ref 34], cw_85 L xs)) fc_56_4 rfl ?_
  refine ev_nx (s1 := (56, 7, [.ref 34], [.int 62, .ref 34], cw_85 L xs)) fc_56_5 rfl ?_
  refine ev_g1 (s1 := (56, 9, [.ref 34], [.ref 35, .ref 34], cw_86 L xs)) fc_56_7 rfl (by decide) ?_
  refine ev_g1 (s1 := (56, 12, [.ref 34], [], cw_87 L xs)) fc_56_9 rfl rfl ?_
  exact ev_r1 fc_56_12 rfl
theorem kt_77 (L : Nat) (xs : Nat → Int32) : ev (35, 0, [.ref 30], [], cw_77 L xs) = some (none, cw_88 L xs) := by
  refine ev_nx (s1 := (35, 1, [.ref 30], [.ref 30], cw_77 L xs)) fc_35_0 rfl ?_
  refine ev_nx (s1 := (35, 4, [.ref 30], [], cw_77 L xs)) fc_35_1 rfl ?_
  refine ev_nx (s1 := (35, 5, [.ref 30], [.ref 30], cw_77 L xs)) fc_35_4 rfl ?_
  refine ev_nx (s1 := (35, 6, [.ref 30], [.int (-1), .ref 30], cw_77 L xs)) fc_35_5 rfl ?_
  refine ev_g1 (s1 := (35, 9, [.ref 30], [], cw_78 L xs)) fc_35_6 rfl rfl ?_
  refine ev_nx (s1 := (35, 10, [.ref 30], [.ref 30], cw_78 L xs)) fc_35_9 rfl ?_
  refine ev_nx (s1 := (35, 11, [.ref 30], [.int 5, .ref 30], cw_78 L xs)) fc_35_10 rfl ?_
  refine ev_g1 (s1 := (35, 13, [.ref 30], [.ref 31, .ref 30], cw_79 L xs)) fc_35_11 rfl (by decide) ?_
  refine ev_g1 (s1 := (35, 16, [.ref 30], [], cw_80 L xs)) fc_35_13 rfl rfl ?_
  refine ev_nx (s1 := (35, 17, [.ref 30], [.ref 30], cw_80 L xs)) fc_35_16 rfl ?_
  refine ev_nx (s1 := (35, 18, [.ref 30], [.int 5, .ref 30], cw_80 L xs)) fc_35_17 rfl ?_
  refine ev_g1 (s1 := (35, 20, [.ref 30], [.ref 32, .ref 30], cw_81 L xs)) fc_35_18 rfl (by decide) ?_
  refine ev_g1 (s1 := (35, 23, [.ref 30], [], cw_82 L xs)) fc_35_20 rfl rfl ?_
  refine ev_nx (s1 := (35, 24, [.ref 30], [.ref 30], cw_82 L xs)) fc_35_23 rfl ?_
  refine ev_nx (s1 := (35, 25, [.ref 30], [.int 5, .ref 30], cw_82 L xs)) fc_35_24 rfl ?_
  refine ev_g1 (s1 := (35, 27, [.ref 30], [.ref 33, .ref 30], cw_83 L xs)) fc_35_25 rfl (by decide) ?_
  refine ev_g1 (s1 := (35, 30, [.ref 30], [], cw_84 L xs)) fc_35_27 rfl rfl ?_
  refine ev_nx (s1 := (35, 31, [.ref 30], [.ref 30], cw_84 L xs)) fc_35_30 rfl ?_
  refine ev_nx (s1 := (35, 34, [.ref 30], [.ref 34, .ref 30], cw_85 L xs)) fc_35_31 rfl ?_
  refine ev_nx (s1 := (35, 35, [.ref 30], [.ref 34, .ref 34, .ref 30], cw_85 L xs)) fc_35_34 rfl ?_
  refine ev_cl (s1 := (56, 0, [.ref 34], [], cw_85 L xs)) (k := (35, 38, [.ref 30], [.ref 34, .ref 30])) fc_35_35 rfl rfl (kt_85 L xs) ?_
  show ev (35, 38, [.ref 30], [.ref 34, .ref 30], cw_87 L xs) = _
  refine ev_g1 (s1 := (35, 41, [.ref 30], [], cw_88 L xs)) fc_35_38 rfl rfl ?_
  exact ev_r1 fc_35_41 rfl
theorem kt_90 (L : Nat) (xs : Nat → Int32) : ev (84, 0, [.ref 36], [], cw_90 L xs) = some (none, cw_97 L xs) := by
  refine ev_nx (s1 := (84, 1, [.ref 36], [.ref 36], cw_90 L xs)) fc_84_0 rfl ?_
  refine ev_nx (s1 := (84, 4, [.ref 36], [], cw_90 L xs)) fc_84_1 rfl ?_
  refine ev_nx (s1 := (84, 5, [.ref 36], [.ref 36], cw_90 L xs)) fc_84_4 rfl ?_
  refine ev_nx (s1 := (84, 7, [.ref 36], [.int 8, .ref 36], cw_90 L xs)) fc_84_5 rfl ?_
  refine ev_g1 (s1 := (84, 9, [.ref 36], [.ref 37, .ref 36], cw_91 L xs)) fc_84_7 rfl (by decide) ?_
  refine ev_g1 (s1 := (84, 12, [.ref 36], [], cw_92 L xs)) fc_84_9 rfl rfl ?_
  refine ev_nx (s1 := (84, 13, [.ref 36], [.ref 36], cw_92 L xs)) fc_84_12 rfl ?_
  refine ev_nx (s1 := (84, 16, [.ref 36], [.int 256, .ref 36], cw_92 L xs)) fc_84_13 rfl ?_
  refine ev_g1 (s1 := (84, 18, [.ref 36], [.ref 38, .ref 36], cw_93 L xs)) fc_84_16 rfl (by decide) ?_
  refine ev_g1 (s1 := (84, 21, [.ref 36], [], cw_94 L xs)) fc_84_18 rfl rfl ?_
  refine ev_nx (s1 := (84, 22, [.ref 36], [.ref 36], cw_94 L xs)) fc_84_21 rfl ?_
  refine ev_nx (s1 := (84, 25, [.ref 36], [.int 256, .ref 36], cw_94 L xs)) fc_84_22 rfl ?_
  refine ev_g1 (s1 := (84, 27, [.ref 36], [.ref 39, .ref 36], cw_95 L xs)) fc_84_25 rfl (by decide) ?_
  refine ev_g1 (s1 := (84, 30, [.ref 36], [], cw_96 L xs)) fc_84_27 rfl rfl ?_
  refine ev_nx (s1 := (84, 31, [.ref 36], [.ref 36], cw_96 L xs)) fc_84_30 rfl ?_
  refine ev_nx (s1 := (84, 32, [.ref 36], [.int 0, .ref 36], cw_96 L xs)) fc_84_31 rfl ?_
  refine ev_g1 (s1 := (84, 35, [.ref 36], [], cw_97 L xs)) fc_84_32 rfl rfl ?_
  exact ev_r1 fc_84_35 rfl
theorem kt_1 (L : Nat) (xs : Nat → Int32) : ev (89, 0, [.ref 1], [], cw_1 L xs) = some (none, cw_100 L xs) := by
  refine ev_nx (s1 := (89, 1, [.ref 1], [.ref 1], cw_1 L xs)) fc_89_0 rfl ?_
  refine ev_nx (s1 := (89, 4, [.ref 1], [], cw_1 L xs)) fc_89_1 rfl ?_
  refine ev_nx (s1 := (89, 5, [.ref 1], [.ref 1], cw_1 L xs)) fc_89_4 rfl ?_
  refine ev_nx (s1 := (89, 8, [.ref 1], [.ref 2, .ref 1], cw_2 L xs)) fc_89_5 rfl ?_
  refine ev_nx (s1 := (89, 9, [.ref 1], [.ref 2, .ref 2, .ref 1], cw_2 L xs)) fc_89_8 rfl ?_
  refine ev_cl (s1 := (4, 0, [.ref 2], [], cw_2 L xs)) (k := (89, 12, [.ref 1], [.ref 2, .ref 1])) fc_89_9 rfl rfl (kt_2 L xs) ?_
  show ev (89, 12, [.ref 1], [.ref 2, .ref 1], cw_14 L xs) = _
  refine ev_g1 (s1 := (89, 15, [.ref 1], [], cw_15 L xs)) fc_89_12 rfl rfl ?_
  refine ev_nx (s1 := (89, 16, [.ref 1], [.ref 1], cw_15 L xs)) fc_89_15 rfl ?_
  refine ev_nx (s1 := (89, 19, [.ref 1], [.ref 7, .ref 1], cw_16 L xs)) fc_89_16 rfl ?_
  refine ev_nx (s1 := (89, 20, [.ref 1], [.ref 7, .ref 7, .ref 1], cw_16 L xs)) fc_89_19 rfl ?_
  refine ev_cl (s1 := (56, 0, [.ref 7], [], cw_16 L xs)) (k := (89, 23, [.ref 1], [.ref 7, .ref 1])) fc_89_20 rfl rfl (kt_16 L xs) ?_
  show ev (89, 23, [.ref 1], [.ref 7, .ref 1], cw_18 L xs) = _
  refine ev_g1 (s1 := (89, 26, [.ref 1], [], cw_19 L xs)) fc_89_23 rfl rfl ?_
  refine ev_nx (s1 := (89, 27, [.ref 1], [.ref 1], cw_19 L xs)) fc_89_26 rfl ?_
  refine ev_nx (s1 := (89, 30, [.ref 1], [.ref 9, .ref 1], cw_20 L xs)) fc_89_27 rfl ?_
  refine ev_nx (s1 := (89, 31, [.ref 1], [.ref 9, .ref 9, .ref 1], cw_20 L xs)) fc_89_30 rfl ?_
  refine ev_cl (s1 := (56, 0, [.ref 9], [], cw_20 L xs)) (k := (89, 34, [.ref 1], [.ref 9, .ref 1])) fc_89_31 rfl rfl (kt_20 L xs) ?_
  show ev (89, 34, [.ref 1], [.ref 9, .ref 1], cw_22 L xs) = _
  refine ev_g1 (s1 := (89, 37, [.ref 1], [], cw_23 L xs)) fc_89_34 rfl rfl ?_
  refine ev_nx (s1 := (89, 38, [.ref 1], [.ref 1], cw_23 L xs)) fc_89_37 rfl ?_
  refine ev_nx (s1 := (89, 41, [.ref 1], [.ref 11, .ref 1], cw_24 L xs)) fc_89_38 rfl ?_
  refine ev_nx (s1 := (89, 42, [.ref 1], [.ref 11, .ref 11, .ref 1], cw_24 L xs)) fc_89_41 rfl ?_
  refine ev_cl (s1 := (41, 0, [.ref 11], [], cw_24 L xs)) (k := (89, 45, [.ref 1], [.ref 11, .ref 1])) fc_89_42 rfl rfl (kt_24 L xs) ?_
  show ev (89, 45, [.ref 1], [.ref 11, .ref 1], cw_50 L xs) = _
  refine ev_g1 (s1 := (89, 48, [.ref 1], [], cw_51 L xs)) fc_89_45 rfl rfl ?_
  refine ev_nx (s1 := (89, 49, [.ref 1], [.ref 1], cw_51 L xs)) fc_89_48 rfl ?_
  refine ev_nx (s1 := (89, 52, [.ref 1], [.ref 20, .ref 1], cw_52 L xs)) fc_89_49 rfl ?_
  refine ev_nx (s1 := (89, 53, [.ref 1], [.ref 20, .ref 20, .ref 1], cw_52 L xs)) fc_89_52 rfl ?_
  refine ev_cl (s1 := (0, 0, [.ref 20], [], cw_52 L xs)) (k := (89, 56, [.ref 1], [.ref 20, .ref 1])) fc_89_53 rfl rfl (kt_52 L xs) ?_
  show ev (89, 56, [.ref 1], [.ref 20, .ref 1], cw_56 L xs) = _
  refine ev_g1 (s1 := (89, 59, [.ref 1], [], cw_57 L xs)) fc_89_56 rfl rfl ?_
  refine ev_nx (s1 := (89, 60, [.ref 1], [.ref 1], cw_57 L xs)) fc_89_59 rfl ?_
  refine ev_nx (s1 := (89, 63, [.ref 1], [.ref 22, .ref 1], cw_58 L xs)) fc_89_60 rfl ?_
  refine ev_nx (s1 := (89, 64, [.ref 1], [.ref 22, .ref 22, .ref 1], cw_58 L xs)) fc_89_63 rfl ?_
  refine ev_cl (s1 := (23, 0, [.ref 22], [], cw_58 L xs)) (k := (89, 67, [.ref 1], [.ref 22, .ref 1])) fc_89_64 rfl rfl (kt_58 L xs) ?_
  show ev (89, 67, [.ref 1], [.ref 22, .ref 1], cw_63 L xs) = _
  refine ev_g1 (s1 := (89, 70, [.ref 1], [], cw_64 L xs)) fc_89_67 rfl rfl ?_
  refine ev_nx (s1 := (89, 71, [.ref 1], [.ref 1], cw_64 L xs)) fc_89_70 rfl ?_
  refine ev_nx (s1 := (89, 74, [.ref 1], [.ref 25, .ref 1], cw_65 L xs)) fc_89_71 rfl ?_
  refine ev_nx (s1 := (89, 75, [.ref 1], [.ref 25, .ref 25, .ref 1], cw_65 L xs)) fc_89_74 rfl ?_
  refine ev_cl (s1 := (29, 0, [.ref 25], [], cw_65 L xs)) (k := (89, 78, [.ref 1], [.ref 25, .ref 1])) fc_89_75 rfl rfl (kt_65 L xs) ?_
  show ev (89, 78, [.ref 1], [.ref 25, .ref 1], cw_75 L xs) = _
  refine ev_g1 (s1 := (89, 81, [.ref 1], [], cw_76 L xs)) fc_89_78 rfl rfl ?_
  refine ev_nx (s1 := (89, 82, [.ref 1], [.ref 1], cw_76 L xs)) fc_89_81 rfl ?_
  refine ev_nx (s1 := (89, 85, [.ref 1], [.ref 30, .ref 1], cw_77 L xs)) fc_89_82 rfl ?_
  refine ev_nx (s1 := (89, 86, [.ref 1], [.ref 30, .ref 30, .ref 1], cw_77 L xs)) fc_89_85 rfl ?_
  refine ev_cl (s1 := (35, 0, [.ref 30], [], cw_77 L xs)) (k := (89, 89, [.ref 1], [.ref 30, .ref 1])) fc_89_86 rfl rfl (kt_77 L xs) ?_
  show ev (89, 89, [.ref 1], [.ref 30, .ref 1], cw_88 L xs) = _
  refine ev_g1 (s1 := (89, 92, [.ref 1], [], cw_89 L xs)) fc_89_89 rfl rfl ?_
  refine ev_nx (s1 := (89, 93, [.ref 1], [.ref 1], cw_89 L xs)) fc_89_92 rfl ?_
  refine ev_nx (s1 := (89, 96, [.ref 1], [.ref 36, .ref 1], cw_90 L xs)) fc_89_93 rfl ?_
  refine ev_nx (s1 := (89, 97, [.ref 1], [.ref 36, .ref 36, .ref 1], cw_90 L xs)) fc_89_96 rfl ?_
  refine ev_cl (s1 := (84, 0, [.ref 36], [], cw_90 L xs)) (k := (89, 100, [.ref 1], [.ref 36, .ref 1])) fc_89_97 rfl rfl (kt_90 L xs) ?_
  show ev (89, 100, [.ref 1], [.ref 36, .ref 1], cw_97 L xs) = _
  refine ev_g1 (s1 := (89, 103, [.ref 1], [], cw_98 L xs)) fc_89_100 rfl rfl ?_
  refine ev_nx (s1 := (89, 104, [.ref 1], [.ref 1], cw_98 L xs)) fc_89_103 rfl ?_
  refine ev_nx (s1 := (89, 105, [.ref 1], [.int (-1), .ref 1], cw_98 L xs)) fc_89_104 rfl ?_
  refine ev_g1 (s1 := (89, 108, [.ref 1], [], cw_99 L xs)) fc_89_105 rfl rfl ?_
  refine ev_nx (s1 := (89, 109, [.ref 1], [.ref 1], cw_99 L xs)) fc_89_108 rfl ?_
  refine ev_nx (s1 := (89, 110, [.ref 1], [.int 0, .ref 1], cw_99 L xs)) fc_89_109 rfl ?_
  refine ev_g1 (s1 := (89, 113, [.ref 1], [], cw_100 L xs)) fc_89_110 rfl rfl ?_
  exact ev_r1 fc_89_113 rfl
theorem kt_law (L : Nat) (xs : Nat → Int32) : ev (205, 0, [.retAddr 0, .null, .null, .null], [], xW0 L xs) = ev (205, 12, [.retAddr 0, .ref 1, .null, .null], [.ref 40, .ref 40], cw_101 L xs) := by
  refine ev_nx (s1 := (205, 3, [.retAddr 0, .null, .null, .null], [.ref 1], cw_1 L xs)) fc_205_0 rfl ?_
  refine ev_nx (s1 := (205, 4, [.retAddr 0, .null, .null, .null], [.ref 1, .ref 1], cw_1 L xs)) fc_205_3 rfl ?_
  refine ev_cl (s1 := (89, 0, [.ref 1], [], cw_1 L xs)) (k := (205, 7, [.retAddr 0, .null, .null, .null], [.ref 1])) fc_205_4 rfl rfl (kt_1 L xs) ?_
  show ev (205, 7, [.retAddr 0, .null, .null, .null], [.ref 1], cw_100 L xs) = _
  refine ev_nx (s1 := (205, 8, [.retAddr 0, .ref 1, .null, .null], [], cw_100 L xs)) fc_205_7 rfl ?_
  refine ev_nx (s1 := (205, 11, [.retAddr 0, .ref 1, .null, .null], [.ref 40], cw_101 L xs)) fc_205_8 rfl ?_
  refine ev_nx (s1 := (205, 12, [.retAddr 0, .ref 1, .null, .null], [.ref 40, .ref 40], cw_101 L xs)) fc_205_11 rfl ?_
  exact rfl
theorem kt_101 (L : Nat) (xs : Nat → Int32) : ev (131, 0, [.ref 40], [], cw_101 L xs) = ev (131, 127, [.ref 40], [.ref 40], cw_131 L xs) := by
  refine ev_nx (s1 := (131, 1, [.ref 40], [.ref 40], cw_101 L xs)) fc_131_0 rfl ?_
  refine ev_nx (s1 := (131, 4, [.ref 40], [], cw_101 L xs)) fc_131_1 rfl ?_
  refine ev_nx (s1 := (131, 5, [.ref 40], [.ref 40], cw_101 L xs)) fc_131_4 rfl ?_
  refine ev_nx (s1 := (131, 7, [.ref 40], [.int 41, .ref 40], cw_101 L xs)) fc_131_5 rfl ?_
  refine ev_g1 (s1 := (131, 9, [.ref 40], [.ref 41, .ref 40], cw_102 L xs)) fc_131_7 rfl (by decide) ?_
  refine ev_g1 (s1 := (131, 12, [.ref 40], [], cw_103 L xs)) fc_131_9 rfl rfl ?_
  refine ev_nx (s1 := (131, 13, [.ref 40], [.ref 40], cw_103 L xs)) fc_131_12 rfl ?_
  refine ev_nx (s1 := (131, 15, [.ref 40], [.int 41, .ref 40], cw_103 L xs)) fc_131_13 rfl ?_
  refine ev_g1 (s1 := (131, 17, [.ref 40], [.ref 42, .ref 40], cw_104 L xs)) fc_131_15 rfl (by decide) ?_
  refine ev_g1 (s1 := (131, 20, [.ref 40], [], cw_105 L xs)) fc_131_17 rfl rfl ?_
  refine ev_nx (s1 := (131, 21, [.ref 40], [.ref 40], cw_105 L xs)) fc_131_20 rfl ?_
  refine ev_nx (s1 := (131, 23, [.ref 40], [.int 62, .ref 40], cw_105 L xs)) fc_131_21 rfl ?_
  refine ev_g1 (s1 := (131, 25, [.ref 40], [.ref 43, .ref 40], cw_106 L xs)) fc_131_23 rfl (by decide) ?_
  refine ev_g1 (s1 := (131, 28, [.ref 40], [], cw_107 L xs)) fc_131_25 rfl rfl ?_
  refine ev_nx (s1 := (131, 29, [.ref 40], [.ref 40], cw_107 L xs)) fc_131_28 rfl ?_
  refine ev_nx (s1 := (131, 31, [.ref 40], [.int 62, .ref 40], cw_107 L xs)) fc_131_29 rfl ?_
  refine ev_g1 (s1 := (131, 33, [.ref 40], [.ref 44, .ref 40], cw_108 L xs)) fc_131_31 rfl (by decide) ?_
  refine ev_g1 (s1 := (131, 36, [.ref 40], [], cw_109 L xs)) fc_131_33 rfl rfl ?_
  refine ev_nx (s1 := (131, 37, [.ref 40], [.ref 40], cw_109 L xs)) fc_131_36 rfl ?_
  refine ev_nx (s1 := (131, 40, [.ref 40], [.int 1240, .ref 40], cw_109 L xs)) fc_131_37 rfl ?_
  refine ev_g1 (s1 := (131, 42, [.ref 40], [.ref 45, .ref 40], cw_110 L xs)) fc_131_40 rfl (by decide) ?_
  refine ev_g1 (s1 := (131, 45, [.ref 40], [], cw_111 L xs)) fc_131_42 rfl rfl ?_
  refine ev_nx (s1 := (131, 46, [.ref 40], [.ref 40], cw_111 L xs)) fc_131_45 rfl ?_
  refine ev_nx (s1 := (131, 48, [.ref 40], [.int 126, .ref 40], cw_111 L xs)) fc_131_46 rfl ?_
  refine ev_g1 (s1 := (131, 50, [.ref 40], [.ref 46, .ref 40], cw_112 L xs)) fc_131_48 rfl (by decide) ?_
  refine ev_g1 (s1 := (131, 53, [.ref 40], [], cw_113 L xs)) fc_131_50 rfl rfl ?_
  refine ev_nx (s1 := (131, 54, [.ref 40], [.ref 40], cw_113 L xs)) fc_131_53 rfl ?_
  refine ev_nx (s1 := (131, 55, [.ref 40], [.int 2, .ref 40], cw_113 L xs)) fc_131_54 rfl ?_
  refine ev_g1 (s1 := (131, 57, [.ref 40], [.ref 47, .ref 40], cw_114 L xs)) fc_131_55 rfl (by decide) ?_
  refine ev_g1 (s1 := (131, 60, [.ref 40], [], cw_115 L xs)) fc_131_57 rfl rfl ?_
  refine ev_nx (s1 := (131, 61, [.ref 40], [.ref 40], cw_115 L xs)) fc_131_60 rfl ?_
  refine ev_nx (s1 := (131, 64, [.ref 40], [.int 240, .ref 40], cw_115 L xs)) fc_131_61 rfl ?_
  refine ev_g1 (s1 := (131, 66, [.ref 40], [.ref 48, .ref 40], cw_116 L xs)) fc_131_64 rfl (by decide) ?_
  refine ev_g1 (s1 := (131, 69, [.ref 40], [], cw_117 L xs)) fc_131_66 rfl rfl ?_
  refine ev_nx (s1 := (131, 70, [.ref 40], [.ref 40], cw_117 L xs)) fc_131_69 rfl ?_
  refine ev_nx (s1 := (131, 71, [.ref 40], [.int (-1), .ref 40], cw_117 L xs)) fc_131_70 rfl ?_
  refine ev_g1 (s1 := (131, 74, [.ref 40], [], cw_118 L xs)) fc_131_71 rfl rfl ?_
  refine ev_nx (s1 := (131, 75, [.ref 40], [.ref 40], cw_118 L xs)) fc_131_74 rfl ?_
  refine ev_nx (s1 := (131, 77, [.ref 40], [.int 12, .ref 40], cw_118 L xs)) fc_131_75 rfl ?_
  refine ev_g1 (s1 := (131, 79, [.ref 40], [.ref 49, .ref 40], cw_119 L xs)) fc_131_77 rfl (by decide) ?_
  refine ev_g1 (s1 := (131, 82, [.ref 40], [], cw_120 L xs)) fc_131_79 rfl rfl ?_
  refine ev_nx (s1 := (131, 83, [.ref 40], [.ref 40], cw_120 L xs)) fc_131_82 rfl ?_
  refine ev_nx (s1 := (131, 85, [.ref 40], [.int 30, .ref 40], cw_120 L xs)) fc_131_83 rfl ?_
  refine ev_g1 (s1 := (131, 87, [.ref 40], [.ref 50, .ref 40], cw_121 L xs)) fc_131_85 rfl (by decide) ?_
  refine ev_g1 (s1 := (131, 90, [.ref 40], [], cw_122 L xs)) fc_131_87 rfl rfl ?_
  refine ev_nx (s1 := (131, 91, [.ref 40], [.ref 40], cw_122 L xs)) fc_131_90 rfl ?_
  refine ev_nx (s1 := (131, 92, [.ref 40], [.int 5, .ref 40], cw_122 L xs)) fc_131_91 rfl ?_
  refine ev_g1 (s1 := (131, 94, [.ref 40], [.ref 51, .ref 40], cw_123 L xs)) fc_131_92 rfl (by decide) ?_
  refine ev_g1 (s1 := (131, 97, [.ref 40], [], cw_124 L xs)) fc_131_94 rfl rfl ?_
  refine ev_nx (s1 := (131, 98, [.ref 40], [.ref 40], cw_124 L xs)) fc_131_97 rfl ?_
  refine ev_nx (s1 := (131, 99, [.ref 40], [.int 5, .ref 40], cw_124 L xs)) fc_131_98 rfl ?_
  refine ev_g1 (s1 := (131, 101, [.ref 40], [.ref 52, .ref 40], cw_125 L xs)) fc_131_99 rfl (by decide) ?_
  refine ev_g1 (s1 := (131, 104, [.ref 40], [], cw_126 L xs)) fc_131_101 rfl rfl ?_
  refine ev_nx (s1 := (131, 105, [.ref 40], [.ref 40], cw_126 L xs)) fc_131_104 rfl ?_
  refine ev_nx (s1 := (131, 107, [.ref 40], [.int 8, .ref 40], cw_126 L xs)) fc_131_105 rfl ?_
  refine ev_g1 (s1 := (131, 109, [.ref 40], [.ref 53, .ref 40], cw_127 L xs)) fc_131_107 rfl (by decide) ?_
  refine ev_g1 (s1 := (131, 112, [.ref 40], [], cw_128 L xs)) fc_131_109 rfl rfl ?_
  refine ev_nx (s1 := (131, 113, [.ref 40], [.ref 40], cw_128 L xs)) fc_131_112 rfl ?_
  refine ev_nx (s1 := (131, 114, [.ref 40], [.int 3, .ref 40], cw_128 L xs)) fc_131_113 rfl ?_
  refine ev_g1 (s1 := (131, 116, [.ref 40], [.ref 54, .ref 40], cw_129 L xs)) fc_131_114 rfl (by decide) ?_
  refine ev_g1 (s1 := (131, 119, [.ref 40], [], cw_130 L xs)) fc_131_116 rfl rfl ?_
  refine ev_nx (s1 := (131, 120, [.ref 40], [.ref 40], cw_130 L xs)) fc_131_119 rfl ?_
  refine ev_g1 (s1 := (131, 123, [.ref 40], [.ref 41], cw_130 L xs)) fc_131_120 rfl rfl ?_
  refine ev_cl (s1 := (135, 0, [.ref 41, .null], [], cw_130 L xs)) (k := (131, 126, [.ref 40], [])) fc_131_123 rfl rfl (c_Rblank (sh := (cw_130 L xs).1) (b := 41) (M := (cw_130 L xs).2.1) (J := (cw_130 L xs).2.2) rfl) ?_
  show ev (131, 126, [.ref 40], [], cw_131 L xs) = _
  refine ev_nx (s1 := (131, 127, [.ref 40], [.ref 40], cw_131 L xs)) fc_131_126 rfl ?_
  exact rfl
def xP (w : xW) : Prop := (∀ a, 55 ≤ a → w.1.2.2.1 a = (99, 0)) ∧ ∀ a k, (55 ≤ a ∨ 40 ≤ k) → w.1.2.2.2 a k = 0
theorem xP_new {w : xW} {c s n : Nat} {x : Nat × Nat} {M : Mem} {J : Nat → Nat → Int64} (hn : n < 55) (h : xP w) : xP ((c, s, xur w.1.2.2.1 n x, xur w.1.2.2.2 n (fun _ => 0)), M, J) := by
  refine ⟨fun a ha => ?_, fun a k hk => ?_⟩
  · show xur w.1.2.2.1 n x a = _
    rw [xur_ne (by omega)]; exact h.1 a ha
  · show xur w.1.2.2.2 n (fun _ => 0) a k = 0
    by_cases e : a = n
    · subst e; rw [xur_eq]
    · rw [xur_ne e]; exact h.2 a k hk
theorem xP_ref {w : xW} {c s b i v : Nat} {M : Mem} {J : Nat → Nat → Int64} (hb : b < 55) (hi : i < 40) (h : xP w) : xP ((c, s, w.1.2.2.1, xu w.1.2.2.2 b i v), M, J) := by
  refine ⟨h.1, fun a k hk => ?_⟩
  show xu w.1.2.2.2 b i v a k = 0
  by_cases e : a = b
  · subst e; rw [xu_off (by omega)]; exact h.2 a k hk
  · rw [xu_ne e]; exact h.2 a k hk
theorem xP_0 (L : Nat) (xs : Nat → Int32) : xP (xW0 L xs) := ⟨fun a ha => by show xK0 L a = _; unfold xK0; rw [if_neg (by omega)], fun _ _ _ => rfl⟩
theorem cwP_1 (L : Nat) (xs : Nat → Int32) : xP (cw_1 L xs) := xP_new (by decide) (xP_0 L xs)
theorem cwP_2 (L : Nat) (xs : Nat → Int32) : xP (cw_2 L xs) := xP_new (by decide) (cwP_1 L xs)
theorem cwP_3 (L : Nat) (xs : Nat → Int32) : xP (cw_3 L xs) := (cwP_2 L xs)
theorem cwP_4 (L : Nat) (xs : Nat → Int32) : xP (cw_4 L xs) := (cwP_3 L xs)
theorem cwP_5 (L : Nat) (xs : Nat → Int32) : xP (cw_5 L xs) := (cwP_4 L xs)
theorem cwP_6 (L : Nat) (xs : Nat → Int32) : xP (cw_6 L xs) := xP_new (by decide) (cwP_5 L xs)
theorem cwP_7 (L : Nat) (xs : Nat → Int32) : xP (cw_7 L xs) := xP_ref (by decide) (by decide) (cwP_6 L xs)
theorem cwP_8 (L : Nat) (xs : Nat → Int32) : xP (cw_8 L xs) := xP_new (by decide) (cwP_7 L xs)
theorem cwP_9 (L : Nat) (xs : Nat → Int32) : xP (cw_9 L xs) := xP_ref (by decide) (by decide) (cwP_8 L xs)
theorem cwP_10 (L : Nat) (xs : Nat → Int32) : xP (cw_10 L xs) := xP_new (by decide) (cwP_9 L xs)
theorem cwP_11 (L : Nat) (xs : Nat → Int32) : xP (cw_11 L xs) := xP_ref (by decide) (by decide) (cwP_10 L xs)
theorem cwP_12 (L : Nat) (xs : Nat → Int32) : xP (cw_12 L xs) := xP_new (by decide) (cwP_11 L xs)
theorem cwP_13 (L : Nat) (xs : Nat → Int32) : xP (cw_13 L xs) := xP_ref (by decide) (by decide) (cwP_12 L xs)
theorem cwP_14 (L : Nat) (xs : Nat → Int32) : xP (cw_14 L xs) := (cwP_13 L xs)
theorem cwP_15 (L : Nat) (xs : Nat → Int32) : xP (cw_15 L xs) := xP_ref (by decide) (by decide) (cwP_14 L xs)
theorem cwP_16 (L : Nat) (xs : Nat → Int32) : xP (cw_16 L xs) := xP_new (by decide) (cwP_15 L xs)
theorem cwP_17 (L : Nat) (xs : Nat → Int32) : xP (cw_17 L xs) := xP_new (by decide) (cwP_16 L xs)
theorem cwP_18 (L : Nat) (xs : Nat → Int32) : xP (cw_18 L xs) := xP_ref (by decide) (by decide) (cwP_17 L xs)
theorem cwP_19 (L : Nat) (xs : Nat → Int32) : xP (cw_19 L xs) := xP_ref (by decide) (by decide) (cwP_18 L xs)
theorem cwP_20 (L : Nat) (xs : Nat → Int32) : xP (cw_20 L xs) := xP_new (by decide) (cwP_19 L xs)
theorem cwP_21 (L : Nat) (xs : Nat → Int32) : xP (cw_21 L xs) := xP_new (by decide) (cwP_20 L xs)
theorem cwP_22 (L : Nat) (xs : Nat → Int32) : xP (cw_22 L xs) := xP_ref (by decide) (by decide) (cwP_21 L xs)
theorem cwP_23 (L : Nat) (xs : Nat → Int32) : xP (cw_23 L xs) := xP_ref (by decide) (by decide) (cwP_22 L xs)
theorem cwP_24 (L : Nat) (xs : Nat → Int32) : xP (cw_24 L xs) := xP_new (by decide) (cwP_23 L xs)
theorem cwP_25 (L : Nat) (xs : Nat → Int32) : xP (cw_25 L xs) := xP_new (by decide) (cwP_24 L xs)
theorem cwP_26 (L : Nat) (xs : Nat → Int32) : xP (cw_26 L xs) := (cwP_25 L xs)
theorem cwP_27 (L : Nat) (xs : Nat → Int32) : xP (cw_27 L xs) := (cwP_26 L xs)
theorem cwP_28 (L : Nat) (xs : Nat → Int32) : xP (cw_28 L xs) := (cwP_27 L xs)
theorem cwP_29 (L : Nat) (xs : Nat → Int32) : xP (cw_29 L xs) := xP_new (by decide) (cwP_28 L xs)
theorem cwP_30 (L : Nat) (xs : Nat → Int32) : xP (cw_30 L xs) := xP_ref (by decide) (by decide) (cwP_29 L xs)
theorem cwP_31 (L : Nat) (xs : Nat → Int32) : xP (cw_31 L xs) := xP_new (by decide) (cwP_30 L xs)
theorem cwP_32 (L : Nat) (xs : Nat → Int32) : xP (cw_32 L xs) := xP_ref (by decide) (by decide) (cwP_31 L xs)
theorem cwP_33 (L : Nat) (xs : Nat → Int32) : xP (cw_33 L xs) := xP_new (by decide) (cwP_32 L xs)
theorem cwP_34 (L : Nat) (xs : Nat → Int32) : xP (cw_34 L xs) := xP_ref (by decide) (by decide) (cwP_33 L xs)
theorem cwP_35 (L : Nat) (xs : Nat → Int32) : xP (cw_35 L xs) := xP_new (by decide) (cwP_34 L xs)
theorem cwP_36 (L : Nat) (xs : Nat → Int32) : xP (cw_36 L xs) := xP_ref (by decide) (by decide) (cwP_35 L xs)
theorem cwP_37 (L : Nat) (xs : Nat → Int32) : xP (cw_37 L xs) := (cwP_36 L xs)
theorem cwP_38 (L : Nat) (xs : Nat → Int32) : xP (cw_38 L xs) := xP_ref (by decide) (by decide) (cwP_37 L xs)
theorem cwP_39 (L : Nat) (xs : Nat → Int32) : xP (cw_39 L xs) := xP_new (by decide) (cwP_38 L xs)
theorem cwP_40 (L : Nat) (xs : Nat → Int32) : xP (cw_40 L xs) := xP_new (by decide) (cwP_39 L xs)
theorem cwP_41 (L : Nat) (xs : Nat → Int32) : xP (cw_41 L xs) := xP_ref (by decide) (by decide) (cwP_40 L xs)
theorem cwP_42 (L : Nat) (xs : Nat → Int32) : xP (cw_42 L xs) := xP_ref (by decide) (by decide) (cwP_41 L xs)
theorem cwP_43 (L : Nat) (xs : Nat → Int32) : xP (cw_43 L xs) := (cwP_42 L xs)
theorem cwP_44 (L : Nat) (xs : Nat → Int32) : xP (cw_44 L xs) := (cwP_43 L xs)
theorem cwP_45 (L : Nat) (xs : Nat → Int32) : xP (cw_45 L xs) := xP_new (by decide) (cwP_44 L xs)
theorem cwP_46 (L : Nat) (xs : Nat → Int32) : xP (cw_46 L xs) := xP_ref (by decide) (by decide) (cwP_45 L xs)
theorem cwP_47 (L : Nat) (xs : Nat → Int32) : xP (cw_47 L xs) := (cwP_46 L xs)
theorem cwP_48 (L : Nat) (xs : Nat → Int32) : xP (cw_48 L xs) := (cwP_47 L xs)
theorem cwP_49 (L : Nat) (xs : Nat → Int32) : xP (cw_49 L xs) := (cwP_48 L xs)
theorem cwP_50 (L : Nat) (xs : Nat → Int32) : xP (cw_50 L xs) := (cwP_49 L xs)
theorem cwP_51 (L : Nat) (xs : Nat → Int32) : xP (cw_51 L xs) := xP_ref (by decide) (by decide) (cwP_50 L xs)
theorem cwP_52 (L : Nat) (xs : Nat → Int32) : xP (cw_52 L xs) := xP_new (by decide) (cwP_51 L xs)
theorem cwP_53 (L : Nat) (xs : Nat → Int32) : xP (cw_53 L xs) := (cwP_52 L xs)
theorem cwP_54 (L : Nat) (xs : Nat → Int32) : xP (cw_54 L xs) := xP_new (by decide) (cwP_53 L xs)
theorem cwP_55 (L : Nat) (xs : Nat → Int32) : xP (cw_55 L xs) := xP_ref (by decide) (by decide) (cwP_54 L xs)
theorem cwP_56 (L : Nat) (xs : Nat → Int32) : xP (cw_56 L xs) := (cwP_55 L xs)
theorem cwP_57 (L : Nat) (xs : Nat → Int32) : xP (cw_57 L xs) := xP_ref (by decide) (by decide) (cwP_56 L xs)
theorem cwP_58 (L : Nat) (xs : Nat → Int32) : xP (cw_58 L xs) := xP_new (by decide) (cwP_57 L xs)
theorem cwP_59 (L : Nat) (xs : Nat → Int32) : xP (cw_59 L xs) := xP_new (by decide) (cwP_58 L xs)
theorem cwP_60 (L : Nat) (xs : Nat → Int32) : xP (cw_60 L xs) := xP_ref (by decide) (by decide) (cwP_59 L xs)
theorem cwP_61 (L : Nat) (xs : Nat → Int32) : xP (cw_61 L xs) := xP_new (by decide) (cwP_60 L xs)
theorem cwP_62 (L : Nat) (xs : Nat → Int32) : xP (cw_62 L xs) := xP_ref (by decide) (by decide) (cwP_61 L xs)
theorem cwP_63 (L : Nat) (xs : Nat → Int32) : xP (cw_63 L xs) := (cwP_62 L xs)
theorem cwP_64 (L : Nat) (xs : Nat → Int32) : xP (cw_64 L xs) := xP_ref (by decide) (by decide) (cwP_63 L xs)
theorem cwP_65 (L : Nat) (xs : Nat → Int32) : xP (cw_65 L xs) := xP_new (by decide) (cwP_64 L xs)
theorem cwP_66 (L : Nat) (xs : Nat → Int32) : xP (cw_66 L xs) := (cwP_65 L xs)
theorem cwP_67 (L : Nat) (xs : Nat → Int32) : xP (cw_67 L xs) := (cwP_66 L xs)
theorem cwP_68 (L : Nat) (xs : Nat → Int32) : xP (cw_68 L xs) := xP_new (by decide) (cwP_67 L xs)
theorem cwP_69 (L : Nat) (xs : Nat → Int32) : xP (cw_69 L xs) := xP_ref (by decide) (by decide) (cwP_68 L xs)
theorem cwP_70 (L : Nat) (xs : Nat → Int32) : xP (cw_70 L xs) := xP_new (by decide) (cwP_69 L xs)
theorem cwP_71 (L : Nat) (xs : Nat → Int32) : xP (cw_71 L xs) := xP_ref (by decide) (by decide) (cwP_70 L xs)
theorem cwP_72 (L : Nat) (xs : Nat → Int32) : xP (cw_72 L xs) := xP_new (by decide) (cwP_71 L xs)
theorem cwP_73 (L : Nat) (xs : Nat → Int32) : xP (cw_73 L xs) := xP_ref (by decide) (by decide) (cwP_72 L xs)
theorem cwP_74 (L : Nat) (xs : Nat → Int32) : xP (cw_74 L xs) := xP_new (by decide) (cwP_73 L xs)
theorem cwP_75 (L : Nat) (xs : Nat → Int32) : xP (cw_75 L xs) := xP_ref (by decide) (by decide) (cwP_74 L xs)
theorem cwP_76 (L : Nat) (xs : Nat → Int32) : xP (cw_76 L xs) := xP_ref (by decide) (by decide) (cwP_75 L xs)
theorem cwP_77 (L : Nat) (xs : Nat → Int32) : xP (cw_77 L xs) := xP_new (by decide) (cwP_76 L xs)
theorem cwP_78 (L : Nat) (xs : Nat → Int32) : xP (cw_78 L xs) := (cwP_77 L xs)
theorem cwP_79 (L : Nat) (xs : Nat → Int32) : xP (cw_79 L xs) := xP_new (by decide) (cwP_78 L xs)
theorem cwP_80 (L : Nat) (xs : Nat → Int32) : xP (cw_80 L xs) := xP_ref (by decide) (by decide) (cwP_79 L xs)
theorem cwP_81 (L : Nat) (xs : Nat → Int32) : xP (cw_81 L xs) := xP_new (by decide) (cwP_80 L xs)
theorem cwP_82 (L : Nat) (xs : Nat → Int32) : xP (cw_82 L xs) := xP_ref (by decide) (by decide) (cwP_81 L xs)
theorem cwP_83 (L : Nat) (xs : Nat → Int32) : xP (cw_83 L xs) := xP_new (by decide) (cwP_82 L xs)
theorem cwP_84 (L : Nat) (xs : Nat → Int32) : xP (cw_84 L xs) := xP_ref (by decide) (by decide) (cwP_83 L xs)
theorem cwP_85 (L : Nat) (xs : Nat → Int32) : xP (cw_85 L xs) := xP_new (by decide) (cwP_84 L xs)
theorem cwP_86 (L : Nat) (xs : Nat → Int32) : xP (cw_86 L xs) := xP_new (by decide) (cwP_85 L xs)
theorem cwP_87 (L : Nat) (xs : Nat → Int32) : xP (cw_87 L xs) := xP_ref (by decide) (by decide) (cwP_86 L xs)
theorem cwP_88 (L : Nat) (xs : Nat → Int32) : xP (cw_88 L xs) := xP_ref (by decide) (by decide) (cwP_87 L xs)
theorem cwP_89 (L : Nat) (xs : Nat → Int32) : xP (cw_89 L xs) := xP_ref (by decide) (by decide) (cwP_88 L xs)
theorem cwP_90 (L : Nat) (xs : Nat → Int32) : xP (cw_90 L xs) := xP_new (by decide) (cwP_89 L xs)
theorem cwP_91 (L : Nat) (xs : Nat → Int32) : xP (cw_91 L xs) := xP_new (by decide) (cwP_90 L xs)
theorem cwP_92 (L : Nat) (xs : Nat → Int32) : xP (cw_92 L xs) := xP_ref (by decide) (by decide) (cwP_91 L xs)
theorem cwP_93 (L : Nat) (xs : Nat → Int32) : xP (cw_93 L xs) := xP_new (by decide) (cwP_92 L xs)
theorem cwP_94 (L : Nat) (xs : Nat → Int32) : xP (cw_94 L xs) := xP_ref (by decide) (by decide) (cwP_93 L xs)
theorem cwP_95 (L : Nat) (xs : Nat → Int32) : xP (cw_95 L xs) := xP_new (by decide) (cwP_94 L xs)
theorem cwP_96 (L : Nat) (xs : Nat → Int32) : xP (cw_96 L xs) := xP_ref (by decide) (by decide) (cwP_95 L xs)
theorem cwP_97 (L : Nat) (xs : Nat → Int32) : xP (cw_97 L xs) := (cwP_96 L xs)
theorem cwP_98 (L : Nat) (xs : Nat → Int32) : xP (cw_98 L xs) := xP_ref (by decide) (by decide) (cwP_97 L xs)
theorem cwP_99 (L : Nat) (xs : Nat → Int32) : xP (cw_99 L xs) := (cwP_98 L xs)
theorem cwP_100 (L : Nat) (xs : Nat → Int32) : xP (cw_100 L xs) := (cwP_99 L xs)
theorem cwP_101 (L : Nat) (xs : Nat → Int32) : xP (cw_101 L xs) := xP_new (by decide) (cwP_100 L xs)
theorem cwP_102 (L : Nat) (xs : Nat → Int32) : xP (cw_102 L xs) := xP_new (by decide) (cwP_101 L xs)
theorem cwP_103 (L : Nat) (xs : Nat → Int32) : xP (cw_103 L xs) := xP_ref (by decide) (by decide) (cwP_102 L xs)
theorem cwP_104 (L : Nat) (xs : Nat → Int32) : xP (cw_104 L xs) := xP_new (by decide) (cwP_103 L xs)
theorem cwP_105 (L : Nat) (xs : Nat → Int32) : xP (cw_105 L xs) := xP_ref (by decide) (by decide) (cwP_104 L xs)
theorem cwP_106 (L : Nat) (xs : Nat → Int32) : xP (cw_106 L xs) := xP_new (by decide) (cwP_105 L xs)
theorem cwP_107 (L : Nat) (xs : Nat → Int32) : xP (cw_107 L xs) := xP_ref (by decide) (by decide) (cwP_106 L xs)
theorem cwP_108 (L : Nat) (xs : Nat → Int32) : xP (cw_108 L xs) := xP_new (by decide) (cwP_107 L xs)
theorem cwP_109 (L : Nat) (xs : Nat → Int32) : xP (cw_109 L xs) := xP_ref (by decide) (by decide) (cwP_108 L xs)
theorem cwP_110 (L : Nat) (xs : Nat → Int32) : xP (cw_110 L xs) := xP_new (by decide) (cwP_109 L xs)
theorem cwP_111 (L : Nat) (xs : Nat → Int32) : xP (cw_111 L xs) := xP_ref (by decide) (by decide) (cwP_110 L xs)
theorem cwP_112 (L : Nat) (xs : Nat → Int32) : xP (cw_112 L xs) := xP_new (by decide) (cwP_111 L xs)
theorem cwP_113 (L : Nat) (xs : Nat → Int32) : xP (cw_113 L xs) := xP_ref (by decide) (by decide) (cwP_112 L xs)
theorem cwP_114 (L : Nat) (xs : Nat → Int32) : xP (cw_114 L xs) := xP_new (by decide) (cwP_113 L xs)
theorem cwP_115 (L : Nat) (xs : Nat → Int32) : xP (cw_115 L xs) := xP_ref (by decide) (by decide) (cwP_114 L xs)
theorem cwP_116 (L : Nat) (xs : Nat → Int32) : xP (cw_116 L xs) := xP_new (by decide) (cwP_115 L xs)
theorem cwP_117 (L : Nat) (xs : Nat → Int32) : xP (cw_117 L xs) := xP_ref (by decide) (by decide) (cwP_116 L xs)
theorem cwP_118 (L : Nat) (xs : Nat → Int32) : xP (cw_118 L xs) := (cwP_117 L xs)
theorem cwP_119 (L : Nat) (xs : Nat → Int32) : xP (cw_119 L xs) := xP_new (by decide) (cwP_118 L xs)
theorem cwP_120 (L : Nat) (xs : Nat → Int32) : xP (cw_120 L xs) := xP_ref (by decide) (by decide) (cwP_119 L xs)
theorem cwP_121 (L : Nat) (xs : Nat → Int32) : xP (cw_121 L xs) := xP_new (by decide) (cwP_120 L xs)
theorem cwP_122 (L : Nat) (xs : Nat → Int32) : xP (cw_122 L xs) := xP_ref (by decide) (by decide) (cwP_121 L xs)
theorem cwP_123 (L : Nat) (xs : Nat → Int32) : xP (cw_123 L xs) := xP_new (by decide) (cwP_122 L xs)
theorem cwP_124 (L : Nat) (xs : Nat → Int32) : xP (cw_124 L xs) := xP_ref (by decide) (by decide) (cwP_123 L xs)
theorem cwP_125 (L : Nat) (xs : Nat → Int32) : xP (cw_125 L xs) := xP_new (by decide) (cwP_124 L xs)
theorem cwP_126 (L : Nat) (xs : Nat → Int32) : xP (cw_126 L xs) := xP_ref (by decide) (by decide) (cwP_125 L xs)
theorem cwP_127 (L : Nat) (xs : Nat → Int32) : xP (cw_127 L xs) := xP_new (by decide) (cwP_126 L xs)
theorem cwP_128 (L : Nat) (xs : Nat → Int32) : xP (cw_128 L xs) := xP_ref (by decide) (by decide) (cwP_127 L xs)
theorem cwP_129 (L : Nat) (xs : Nat → Int32) : xP (cw_129 L xs) := xP_new (by decide) (cwP_128 L xs)
theorem cwP_130 (L : Nat) (xs : Nat → Int32) : xP (cw_130 L xs) := xP_ref (by decide) (by decide) (cwP_129 L xs)
theorem cwP_131 (L : Nat) (xs : Nat → Int32) : xP (cw_131 L xs) := (cwP_130 L xs)
theorem cwK (L : Nat) (xs : Nat → Int32) (a : Nat) : (cw_131 L xs).1.2.2.1 a = xKf L a := by
  match a with
  | 0 => rfl
  | 1 => rfl
  | 2 => rfl
  | 3 => rfl
  | 4 => rfl
  | 5 => rfl
  | 6 => rfl
  | 7 => rfl
  | 8 => rfl
  | 9 => rfl
  | 10 => rfl
  | 11 => rfl
  | 12 => rfl
  | 13 => rfl
  | 14 => rfl
  | 15 => rfl
  | 16 => rfl
  | 17 => rfl
  | 18 => rfl
  | 19 => rfl
  | 20 => rfl
  | 21 => rfl
  | 22 => rfl
  | 23 => rfl
  | 24 => rfl
  | 25 => rfl
  | 26 => rfl
  | 27 => rfl
  | 28 => rfl
  | 29 => rfl
  | 30 => rfl
  | 31 => rfl
  | 32 => rfl
  | 33 => rfl
  | 34 => rfl
  | 35 => rfl
  | 36 => rfl
  | 37 => rfl
  | 38 => rfl
  | 39 => rfl
  | 40 => rfl
  | 41 => rfl
  | 42 => rfl
  | 43 => rfl
  | 44 => rfl
  | 45 => rfl
  | 46 => rfl
  | 47 => rfl
  | 48 => rfl
  | 49 => rfl
  | 50 => rfl
  | 51 => rfl
  | 52 => rfl
  | 53 => rfl
  | 54 => rfl
  | a + 55 => exact (cwP_131 L xs).1 (a + 55) (by omega)
theorem xRf_hi (a k : Nat) : xRf a (k + 40) = 0 := by
  match a with
  | 0 => rfl
  | 1 => rfl
  | 2 => rfl
  | 3 => rfl
  | 4 => rfl
  | 5 => rfl
  | 6 => rfl
  | 7 => rfl
  | 8 => rfl
  | 9 => rfl
  | 10 => rfl
  | 11 => rfl
  | 12 => rfl
  | 13 => rfl
  | 14 => rfl
  | 15 => rfl
  | 16 => rfl
  | 17 => rfl
  | 18 => rfl
  | 19 => rfl
  | 20 => rfl
  | 21 => rfl
  | 22 => rfl
  | 23 => rfl
  | 24 => rfl
  | 25 => rfl
  | 26 => rfl
  | 27 => rfl
  | 28 => rfl
  | 29 => rfl
  | 30 => rfl
  | 31 => rfl
  | 32 => rfl
  | 33 => rfl
  | 34 => rfl
  | 35 => rfl
  | 36 => rfl
  | 37 => rfl
  | 38 => rfl
  | 39 => rfl
  | 40 => rfl
  | 41 => rfl
  | 42 => rfl
  | 43 => rfl
  | 44 => rfl
  | 45 => rfl
  | 46 => rfl
  | 47 => rfl
  | 48 => rfl
  | 49 => rfl
  | 50 => rfl
  | 51 => rfl
  | 52 => rfl
  | 53 => rfl
  | 54 => rfl
  | a + 55 => rfl
theorem xRf_ha (a k : Nat) : xRf (a + 55) k = 0 := rfl
theorem cwR0 : ∀ a, a < 55 → ∀ k, k < 40 → (cw_131 0 (fun _ => 0)).1.2.2.2 a k = xRf a k := by decide +kernel
theorem cwI_1 (L : Nat) (xs : Nat → Int32) : (cw_1 L xs).1.2.2.2 = (cw_1 0 (fun _ => 0)).1.2.2.2 := rfl
theorem cwI_2 (L : Nat) (xs : Nat → Int32) : (cw_2 L xs).1.2.2.2 = (cw_2 0 (fun _ => 0)).1.2.2.2 := congrArg (fun R : Nat → Nat → Nat => xur R 2 (fun _ => 0)) (cwI_1 L xs)
theorem cwI_3 (L : Nat) (xs : Nat → Int32) : (cw_3 L xs).1.2.2.2 = (cw_3 0 (fun _ => 0)).1.2.2.2 := (cwI_2 L xs)
theorem cwI_4 (L : Nat) (xs : Nat → Int32) : (cw_4 L xs).1.2.2.2 = (cw_4 0 (fun _ => 0)).1.2.2.2 := (cwI_3 L xs)
theorem cwI_5 (L : Nat) (xs : Nat → Int32) : (cw_5 L xs).1.2.2.2 = (cw_5 0 (fun _ => 0)).1.2.2.2 := (cwI_4 L xs)
theorem cwI_6 (L : Nat) (xs : Nat → Int32) : (cw_6 L xs).1.2.2.2 = (cw_6 0 (fun _ => 0)).1.2.2.2 := congrArg (fun R : Nat → Nat → Nat => xur R 3 (fun _ => 0)) (cwI_5 L xs)
theorem cwI_7 (L : Nat) (xs : Nat → Int32) : (cw_7 L xs).1.2.2.2 = (cw_7 0 (fun _ => 0)).1.2.2.2 := congrArg (fun R : Nat → Nat → Nat => xu R 2 3 3) (cwI_6 L xs)
theorem cwI_8 (L : Nat) (xs : Nat → Int32) : (cw_8 L xs).1.2.2.2 = (cw_8 0 (fun _ => 0)).1.2.2.2 := congrArg (fun R : Nat → Nat → Nat => xur R 4 (fun _ => 0)) (cwI_7 L xs)
theorem cwI_9 (L : Nat) (xs : Nat → Int32) : (cw_9 L xs).1.2.2.2 = (cw_9 0 (fun _ => 0)).1.2.2.2 := congrArg (fun R : Nat → Nat → Nat => xu R 2 4 4) (cwI_8 L xs)
theorem cwI_10 (L : Nat) (xs : Nat → Int32) : (cw_10 L xs).1.2.2.2 = (cw_10 0 (fun _ => 0)).1.2.2.2 := congrArg (fun R : Nat → Nat → Nat => xur R 5 (fun _ => 0)) (cwI_9 L xs)
theorem cwI_11 (L : Nat) (xs : Nat → Int32) : (cw_11 L xs).1.2.2.2 = (cw_11 0 (fun _ => 0)).1.2.2.2 := congrArg (fun R : Nat → Nat → Nat => xu R 2 5 5) (cwI_10 L xs)
theorem cwI_12 (L : Nat) (xs : Nat → Int32) : (cw_12 L xs).1.2.2.2 = (cw_12 0 (fun _ => 0)).1.2.2.2 := congrArg (fun R : Nat → Nat → Nat => xur R 6 (fun _ => 0)) (cwI_11 L xs)
theorem cwI_13 (L : Nat) (xs : Nat → Int32) : (cw_13 L xs).1.2.2.2 = (cw_13 0 (fun _ => 0)).1.2.2.2 := congrArg (fun R : Nat → Nat → Nat => xu R 2 6 6) (cwI_12 L xs)
theorem cwI_14 (L : Nat) (xs : Nat → Int32) : (cw_14 L xs).1.2.2.2 = (cw_14 0 (fun _ => 0)).1.2.2.2 := (cwI_13 L xs)
theorem cwI_15 (L : Nat) (xs : Nat → Int32) : (cw_15 L xs).1.2.2.2 = (cw_15 0 (fun _ => 0)).1.2.2.2 := congrArg (fun R : Nat → Nat → Nat => xu R 1 0 2) (cwI_14 L xs)
theorem cwI_16 (L : Nat) (xs : Nat → Int32) : (cw_16 L xs).1.2.2.2 = (cw_16 0 (fun _ => 0)).1.2.2.2 := congrArg (fun R : Nat → Nat → Nat => xur R 7 (fun _ => 0)) (cwI_15 L xs)
theorem cwI_17 (L : Nat) (xs : Nat → Int32) : (cw_17 L xs).1.2.2.2 = (cw_17 0 (fun _ => 0)).1.2.2.2 := congrArg (fun R : Nat → Nat → Nat => xur R 8 (fun _ => 0)) (cwI_16 L xs)
theorem cwI_18 (L : Nat) (xs : Nat → Int32) : (cw_18 L xs).1.2.2.2 = (cw_18 0 (fun _ => 0)).1.2.2.2 := congrArg (fun R : Nat → Nat → Nat => xu R 7 0 8) (cwI_17 L xs)
theorem cwI_19 (L : Nat) (xs : Nat → Int32) : (cw_19 L xs).1.2.2.2 = (cw_19 0 (fun _ => 0)).1.2.2.2 := congrArg (fun R : Nat → Nat → Nat => xu R 1 1 7) (cwI_18 L xs)
theorem cwI_20 (L : Nat) (xs : Nat → Int32) : (cw_20 L xs).1.2.2.2 = (cw_20 0 (fun _ => 0)).1.2.2.2 := congrArg (fun R : Nat → Nat → Nat => xur R 9 (fun _ => 0)) (cwI_19 L xs)
theorem cwI_21 (L : Nat) (xs : Nat → Int32) : (cw_21 L xs).1.2.2.2 = (cw_21 0 (fun _ => 0)).1.2.2.2 := congrArg (fun R : Nat → Nat → Nat => xur R 10 (fun _ => 0)) (cwI_20 L xs)
theorem cwI_22 (L : Nat) (xs : Nat → Int32) : (cw_22 L xs).1.2.2.2 = (cw_22 0 (fun _ => 0)).1.2.2.2 := congrArg (fun R : Nat → Nat → Nat => xu R 9 0 10) (cwI_21 L xs)
theorem cwI_23 (L : Nat) (xs : Nat → Int32) : (cw_23 L xs).1.2.2.2 = (cw_23 0 (fun _ => 0)).1.2.2.2 := congrArg (fun R : Nat → Nat → Nat => xu R 1 2 9) (cwI_22 L xs)
theorem cwI_24 (L : Nat) (xs : Nat → Int32) : (cw_24 L xs).1.2.2.2 = (cw_24 0 (fun _ => 0)).1.2.2.2 := congrArg (fun R : Nat → Nat → Nat => xur R 11 (fun _ => 0)) (cwI_23 L xs)
theorem cwI_25 (L : Nat) (xs : Nat → Int32) : (cw_25 L xs).1.2.2.2 = (cw_25 0 (fun _ => 0)).1.2.2.2 := congrArg (fun R : Nat → Nat → Nat => xur R 12 (fun _ => 0)) (cwI_24 L xs)
theorem cwI_26 (L : Nat) (xs : Nat → Int32) : (cw_26 L xs).1.2.2.2 = (cw_26 0 (fun _ => 0)).1.2.2.2 := (cwI_25 L xs)
theorem cwI_27 (L : Nat) (xs : Nat → Int32) : (cw_27 L xs).1.2.2.2 = (cw_27 0 (fun _ => 0)).1.2.2.2 := (cwI_26 L xs)
theorem cwI_28 (L : Nat) (xs : Nat → Int32) : (cw_28 L xs).1.2.2.2 = (cw_28 0 (fun _ => 0)).1.2.2.2 := (cwI_27 L xs)
theorem cwI_29 (L : Nat) (xs : Nat → Int32) : (cw_29 L xs).1.2.2.2 = (cw_29 0 (fun _ => 0)).1.2.2.2 := congrArg (fun R : Nat → Nat → Nat => xur R 13 (fun _ => 0)) (cwI_28 L xs)
theorem cwI_30 (L : Nat) (xs : Nat → Int32) : (cw_30 L xs).1.2.2.2 = (cw_30 0 (fun _ => 0)).1.2.2.2 := congrArg (fun R : Nat → Nat → Nat => xu R 12 3 13) (cwI_29 L xs)
theorem cwI_31 (L : Nat) (xs : Nat → Int32) : (cw_31 L xs).1.2.2.2 = (cw_31 0 (fun _ => 0)).1.2.2.2 := congrArg (fun R : Nat → Nat → Nat => xur R 14 (fun _ => 0)) (cwI_30 L xs)
theorem cwI_32 (L : Nat) (xs : Nat → Int32) : (cw_32 L xs).1.2.2.2 = (cw_32 0 (fun _ => 0)).1.2.2.2 := congrArg (fun R : Nat → Nat → Nat => xu R 12 4 14) (cwI_31 L xs)
theorem cwI_33 (L : Nat) (xs : Nat → Int32) : (cw_33 L xs).1.2.2.2 = (cw_33 0 (fun _ => 0)).1.2.2.2 := congrArg (fun R : Nat → Nat → Nat => xur R 15 (fun _ => 0)) (cwI_32 L xs)
theorem cwI_34 (L : Nat) (xs : Nat → Int32) : (cw_34 L xs).1.2.2.2 = (cw_34 0 (fun _ => 0)).1.2.2.2 := congrArg (fun R : Nat → Nat → Nat => xu R 12 5 15) (cwI_33 L xs)
theorem cwI_35 (L : Nat) (xs : Nat → Int32) : (cw_35 L xs).1.2.2.2 = (cw_35 0 (fun _ => 0)).1.2.2.2 := congrArg (fun R : Nat → Nat → Nat => xur R 16 (fun _ => 0)) (cwI_34 L xs)
theorem cwI_36 (L : Nat) (xs : Nat → Int32) : (cw_36 L xs).1.2.2.2 = (cw_36 0 (fun _ => 0)).1.2.2.2 := congrArg (fun R : Nat → Nat → Nat => xu R 12 6 16) (cwI_35 L xs)
theorem cwI_37 (L : Nat) (xs : Nat → Int32) : (cw_37 L xs).1.2.2.2 = (cw_37 0 (fun _ => 0)).1.2.2.2 := (cwI_36 L xs)
theorem cwI_38 (L : Nat) (xs : Nat → Int32) : (cw_38 L xs).1.2.2.2 = (cw_38 0 (fun _ => 0)).1.2.2.2 := congrArg (fun R : Nat → Nat → Nat => xu R 11 0 12) (cwI_37 L xs)
theorem cwI_39 (L : Nat) (xs : Nat → Int32) : (cw_39 L xs).1.2.2.2 = (cw_39 0 (fun _ => 0)).1.2.2.2 := congrArg (fun R : Nat → Nat → Nat => xur R 17 (fun _ => 0)) (cwI_38 L xs)
theorem cwI_40 (L : Nat) (xs : Nat → Int32) : (cw_40 L xs).1.2.2.2 = (cw_40 0 (fun _ => 0)).1.2.2.2 := congrArg (fun R : Nat → Nat → Nat => xur R 18 (fun _ => 0)) (cwI_39 L xs)
theorem cwI_41 (L : Nat) (xs : Nat → Int32) : (cw_41 L xs).1.2.2.2 = (cw_41 0 (fun _ => 0)).1.2.2.2 := congrArg (fun R : Nat → Nat → Nat => xu R 17 0 18) (cwI_40 L xs)
theorem cwI_42 (L : Nat) (xs : Nat → Int32) : (cw_42 L xs).1.2.2.2 = (cw_42 0 (fun _ => 0)).1.2.2.2 := congrArg (fun R : Nat → Nat → Nat => xu R 11 1 17) (cwI_41 L xs)
theorem cwI_43 (L : Nat) (xs : Nat → Int32) : (cw_43 L xs).1.2.2.2 = (cw_43 0 (fun _ => 0)).1.2.2.2 := (cwI_42 L xs)
theorem cwI_44 (L : Nat) (xs : Nat → Int32) : (cw_44 L xs).1.2.2.2 = (cw_44 0 (fun _ => 0)).1.2.2.2 := (cwI_43 L xs)
theorem cwI_45 (L : Nat) (xs : Nat → Int32) : (cw_45 L xs).1.2.2.2 = (cw_45 0 (fun _ => 0)).1.2.2.2 := congrArg (fun R : Nat → Nat → Nat => xur R 19 (fun _ => 0)) (cwI_44 L xs)
theorem cwI_46 (L : Nat) (xs : Nat → Int32) : (cw_46 L xs).1.2.2.2 = (cw_46 0 (fun _ => 0)).1.2.2.2 := congrArg (fun R : Nat → Nat → Nat => xu R 11 4 19) (cwI_45 L xs)
theorem cwI_47 (L : Nat) (xs : Nat → Int32) : (cw_47 L xs).1.2.2.2 = (cw_47 0 (fun _ => 0)).1.2.2.2 := (cwI_46 L xs)
theorem cwI_48 (L : Nat) (xs : Nat → Int32) : (cw_48 L xs).1.2.2.2 = (cw_48 0 (fun _ => 0)).1.2.2.2 := (cwI_47 L xs)
theorem cwI_49 (L : Nat) (xs : Nat → Int32) : (cw_49 L xs).1.2.2.2 = (cw_49 0 (fun _ => 0)).1.2.2.2 := (cwI_48 L xs)
theorem cwI_50 (L : Nat) (xs : Nat → Int32) : (cw_50 L xs).1.2.2.2 = (cw_50 0 (fun _ => 0)).1.2.2.2 := (cwI_49 L xs)
theorem cwI_51 (L : Nat) (xs : Nat → Int32) : (cw_51 L xs).1.2.2.2 = (cw_51 0 (fun _ => 0)).1.2.2.2 := congrArg (fun R : Nat → Nat → Nat => xu R 1 3 11) (cwI_50 L xs)
theorem cwI_52 (L : Nat) (xs : Nat → Int32) : (cw_52 L xs).1.2.2.2 = (cw_52 0 (fun _ => 0)).1.2.2.2 := congrArg (fun R : Nat → Nat → Nat => xur R 20 (fun _ => 0)) (cwI_51 L xs)
theorem cwI_53 (L : Nat) (xs : Nat → Int32) : (cw_53 L xs).1.2.2.2 = (cw_53 0 (fun _ => 0)).1.2.2.2 := (cwI_52 L xs)
theorem cwI_54 (L : Nat) (xs : Nat → Int32) : (cw_54 L xs).1.2.2.2 = (cw_54 0 (fun _ => 0)).1.2.2.2 := congrArg (fun R : Nat → Nat → Nat => xur R 21 (fun _ => 0)) (cwI_53 L xs)
theorem cwI_55 (L : Nat) (xs : Nat → Int32) : (cw_55 L xs).1.2.2.2 = (cw_55 0 (fun _ => 0)).1.2.2.2 := congrArg (fun R : Nat → Nat → Nat => xu R 20 1 21) (cwI_54 L xs)
theorem cwI_56 (L : Nat) (xs : Nat → Int32) : (cw_56 L xs).1.2.2.2 = (cw_56 0 (fun _ => 0)).1.2.2.2 := (cwI_55 L xs)
theorem cwI_57 (L : Nat) (xs : Nat → Int32) : (cw_57 L xs).1.2.2.2 = (cw_57 0 (fun _ => 0)).1.2.2.2 := congrArg (fun R : Nat → Nat → Nat => xu R 1 4 20) (cwI_56 L xs)
theorem cwI_58 (L : Nat) (xs : Nat → Int32) : (cw_58 L xs).1.2.2.2 = (cw_58 0 (fun _ => 0)).1.2.2.2 := congrArg (fun R : Nat → Nat → Nat => xur R 22 (fun _ => 0)) (cwI_57 L xs)
theorem cwI_59 (L : Nat) (xs : Nat → Int32) : (cw_59 L xs).1.2.2.2 = (cw_59 0 (fun _ => 0)).1.2.2.2 := congrArg (fun R : Nat → Nat → Nat => xur R 23 (fun _ => 0)) (cwI_58 L xs)
theorem cwI_60 (L : Nat) (xs : Nat → Int32) : (cw_60 L xs).1.2.2.2 = (cw_60 0 (fun _ => 0)).1.2.2.2 := congrArg (fun R : Nat → Nat → Nat => xu R 22 0 23) (cwI_59 L xs)
theorem cwI_61 (L : Nat) (xs : Nat → Int32) : (cw_61 L xs).1.2.2.2 = (cw_61 0 (fun _ => 0)).1.2.2.2 := congrArg (fun R : Nat → Nat → Nat => xur R 24 (fun _ => 0)) (cwI_60 L xs)
theorem cwI_62 (L : Nat) (xs : Nat → Int32) : (cw_62 L xs).1.2.2.2 = (cw_62 0 (fun _ => 0)).1.2.2.2 := congrArg (fun R : Nat → Nat → Nat => xu R 22 1 24) (cwI_61 L xs)
theorem cwI_63 (L : Nat) (xs : Nat → Int32) : (cw_63 L xs).1.2.2.2 = (cw_63 0 (fun _ => 0)).1.2.2.2 := (cwI_62 L xs)
theorem cwI_64 (L : Nat) (xs : Nat → Int32) : (cw_64 L xs).1.2.2.2 = (cw_64 0 (fun _ => 0)).1.2.2.2 := congrArg (fun R : Nat → Nat → Nat => xu R 1 5 22) (cwI_63 L xs)
theorem cwI_65 (L : Nat) (xs : Nat → Int32) : (cw_65 L xs).1.2.2.2 = (cw_65 0 (fun _ => 0)).1.2.2.2 := congrArg (fun R : Nat → Nat → Nat => xur R 25 (fun _ => 0)) (cwI_64 L xs)
theorem cwI_66 (L : Nat) (xs : Nat → Int32) : (cw_66 L xs).1.2.2.2 = (cw_66 0 (fun _ => 0)).1.2.2.2 := (cwI_65 L xs)
theorem cwI_67 (L : Nat) (xs : Nat → Int32) : (cw_67 L xs).1.2.2.2 = (cw_67 0 (fun _ => 0)).1.2.2.2 := (cwI_66 L xs)
theorem cwI_68 (L : Nat) (xs : Nat → Int32) : (cw_68 L xs).1.2.2.2 = (cw_68 0 (fun _ => 0)).1.2.2.2 := congrArg (fun R : Nat → Nat → Nat => xur R 26 (fun _ => 0)) (cwI_67 L xs)
theorem cwI_69 (L : Nat) (xs : Nat → Int32) : (cw_69 L xs).1.2.2.2 = (cw_69 0 (fun _ => 0)).1.2.2.2 := congrArg (fun R : Nat → Nat → Nat => xu R 25 2 26) (cwI_68 L xs)
theorem cwI_70 (L : Nat) (xs : Nat → Int32) : (cw_70 L xs).1.2.2.2 = (cw_70 0 (fun _ => 0)).1.2.2.2 := congrArg (fun R : Nat → Nat → Nat => xur R 27 (fun _ => 0)) (cwI_69 L xs)
theorem cwI_71 (L : Nat) (xs : Nat → Int32) : (cw_71 L xs).1.2.2.2 = (cw_71 0 (fun _ => 0)).1.2.2.2 := congrArg (fun R : Nat → Nat → Nat => xu R 25 3 27) (cwI_70 L xs)
theorem cwI_72 (L : Nat) (xs : Nat → Int32) : (cw_72 L xs).1.2.2.2 = (cw_72 0 (fun _ => 0)).1.2.2.2 := congrArg (fun R : Nat → Nat → Nat => xur R 28 (fun _ => 0)) (cwI_71 L xs)
theorem cwI_73 (L : Nat) (xs : Nat → Int32) : (cw_73 L xs).1.2.2.2 = (cw_73 0 (fun _ => 0)).1.2.2.2 := congrArg (fun R : Nat → Nat → Nat => xu R 25 4 28) (cwI_72 L xs)
theorem cwI_74 (L : Nat) (xs : Nat → Int32) : (cw_74 L xs).1.2.2.2 = (cw_74 0 (fun _ => 0)).1.2.2.2 := congrArg (fun R : Nat → Nat → Nat => xur R 29 (fun _ => 0)) (cwI_73 L xs)
theorem cwI_75 (L : Nat) (xs : Nat → Int32) : (cw_75 L xs).1.2.2.2 = (cw_75 0 (fun _ => 0)).1.2.2.2 := congrArg (fun R : Nat → Nat → Nat => xu R 25 5 29) (cwI_74 L xs)
theorem cwI_76 (L : Nat) (xs : Nat → Int32) : (cw_76 L xs).1.2.2.2 = (cw_76 0 (fun _ => 0)).1.2.2.2 := congrArg (fun R : Nat → Nat → Nat => xu R 1 6 25) (cwI_75 L xs)
theorem cwI_77 (L : Nat) (xs : Nat → Int32) : (cw_77 L xs).1.2.2.2 = (cw_77 0 (fun _ => 0)).1.2.2.2 := congrArg (fun R : Nat → Nat → Nat => xur R 30 (fun _ => 0)) (cwI_76 L xs)
theorem cwI_78 (L : Nat) (xs : Nat → Int32) : (cw_78 L xs).1.2.2.2 = (cw_78 0 (fun _ => 0)).1.2.2.2 := (cwI_77 L xs)
theorem cwI_79 (L : Nat) (xs : Nat → Int32) : (cw_79 L xs).1.2.2.2 = (cw_79 0 (fun _ => 0)).1.2.2.2 := congrArg (fun R : Nat → Nat → Nat => xur R 31 (fun _ => 0)) (cwI_78 L xs)
theorem cwI_80 (L : Nat) (xs : Nat → Int32) : (cw_80 L xs).1.2.2.2 = (cw_80 0 (fun _ => 0)).1.2.2.2 := congrArg (fun R : Nat → Nat → Nat => xu R 30 1 31) (cwI_79 L xs)
theorem cwI_81 (L : Nat) (xs : Nat → Int32) : (cw_81 L xs).1.2.2.2 = (cw_81 0 (fun _ => 0)).1.2.2.2 := congrArg (fun R : Nat → Nat → Nat => xur R 32 (fun _ => 0)) (cwI_80 L xs)
theorem cwI_82 (L : Nat) (xs : Nat → Int32) : (cw_82 L xs).1.2.2.2 = (cw_82 0 (fun _ => 0)).1.2.2.2 := congrArg (fun R : Nat → Nat → Nat => xu R 30 2 32) (cwI_81 L xs)
theorem cwI_83 (L : Nat) (xs : Nat → Int32) : (cw_83 L xs).1.2.2.2 = (cw_83 0 (fun _ => 0)).1.2.2.2 := congrArg (fun R : Nat → Nat → Nat => xur R 33 (fun _ => 0)) (cwI_82 L xs)
theorem cwI_84 (L : Nat) (xs : Nat → Int32) : (cw_84 L xs).1.2.2.2 = (cw_84 0 (fun _ => 0)).1.2.2.2 := congrArg (fun R : Nat → Nat → Nat => xu R 30 3 33) (cwI_83 L xs)
theorem cwI_85 (L : Nat) (xs : Nat → Int32) : (cw_85 L xs).1.2.2.2 = (cw_85 0 (fun _ => 0)).1.2.2.2 := congrArg (fun R : Nat → Nat → Nat => xur R 34 (fun _ => 0)) (cwI_84 L xs)
theorem cwI_86 (L : Nat) (xs : Nat → Int32) : (cw_86 L xs).1.2.2.2 = (cw_86 0 (fun _ => 0)).1.2.2.2 := congrArg (fun R : Nat → Nat → Nat => xur R 35 (fun _ => 0)) (cwI_85 L xs)
theorem cwI_87 (L : Nat) (xs : Nat → Int32) : (cw_87 L xs).1.2.2.2 = (cw_87 0 (fun _ => 0)).1.2.2.2 := congrArg (fun R : Nat → Nat → Nat => xu R 34 0 35) (cwI_86 L xs)
theorem cwI_88 (L : Nat) (xs : Nat → Int32) : (cw_88 L xs).1.2.2.2 = (cw_88 0 (fun _ => 0)).1.2.2.2 := congrArg (fun R : Nat → Nat → Nat => xu R 30 4 34) (cwI_87 L xs)
theorem cwI_89 (L : Nat) (xs : Nat → Int32) : (cw_89 L xs).1.2.2.2 = (cw_89 0 (fun _ => 0)).1.2.2.2 := congrArg (fun R : Nat → Nat → Nat => xu R 1 7 30) (cwI_88 L xs)
theorem cwI_90 (L : Nat) (xs : Nat → Int32) : (cw_90 L xs).1.2.2.2 = (cw_90 0 (fun _ => 0)).1.2.2.2 := congrArg (fun R : Nat → Nat → Nat => xur R 36 (fun _ => 0)) (cwI_89 L xs)
theorem cwI_91 (L : Nat) (xs : Nat → Int32) : (cw_91 L xs).1.2.2.2 = (cw_91 0 (fun _ => 0)).1.2.2.2 := congrArg (fun R : Nat → Nat → Nat => xur R 37 (fun _ => 0)) (cwI_90 L xs)
theorem cwI_92 (L : Nat) (xs : Nat → Int32) : (cw_92 L xs).1.2.2.2 = (cw_92 0 (fun _ => 0)).1.2.2.2 := congrArg (fun R : Nat → Nat → Nat => xu R 36 0 37) (cwI_91 L xs)
theorem cwI_93 (L : Nat) (xs : Nat → Int32) : (cw_93 L xs).1.2.2.2 = (cw_93 0 (fun _ => 0)).1.2.2.2 := congrArg (fun R : Nat → Nat → Nat => xur R 38 (fun _ => 0)) (cwI_92 L xs)
theorem cwI_94 (L : Nat) (xs : Nat → Int32) : (cw_94 L xs).1.2.2.2 = (cw_94 0 (fun _ => 0)).1.2.2.2 := congrArg (fun R : Nat → Nat → Nat => xu R 36 1 38) (cwI_93 L xs)
theorem cwI_95 (L : Nat) (xs : Nat → Int32) : (cw_95 L xs).1.2.2.2 = (cw_95 0 (fun _ => 0)).1.2.2.2 := congrArg (fun R : Nat → Nat → Nat => xur R 39 (fun _ => 0)) (cwI_94 L xs)
theorem cwI_96 (L : Nat) (xs : Nat → Int32) : (cw_96 L xs).1.2.2.2 = (cw_96 0 (fun _ => 0)).1.2.2.2 := congrArg (fun R : Nat → Nat → Nat => xu R 36 2 39) (cwI_95 L xs)
theorem cwI_97 (L : Nat) (xs : Nat → Int32) : (cw_97 L xs).1.2.2.2 = (cw_97 0 (fun _ => 0)).1.2.2.2 := (cwI_96 L xs)
theorem cwI_98 (L : Nat) (xs : Nat → Int32) : (cw_98 L xs).1.2.2.2 = (cw_98 0 (fun _ => 0)).1.2.2.2 := congrArg (fun R : Nat → Nat → Nat => xu R 1 8 36) (cwI_97 L xs)
theorem cwI_99 (L : Nat) (xs : Nat → Int32) : (cw_99 L xs).1.2.2.2 = (cw_99 0 (fun _ => 0)).1.2.2.2 := (cwI_98 L xs)
theorem cwI_100 (L : Nat) (xs : Nat → Int32) : (cw_100 L xs).1.2.2.2 = (cw_100 0 (fun _ => 0)).1.2.2.2 := (cwI_99 L xs)
theorem cwI_101 (L : Nat) (xs : Nat → Int32) : (cw_101 L xs).1.2.2.2 = (cw_101 0 (fun _ => 0)).1.2.2.2 := congrArg (fun R : Nat → Nat → Nat => xur R 40 (fun _ => 0)) (cwI_100 L xs)
theorem cwI_102 (L : Nat) (xs : Nat → Int32) : (cw_102 L xs).1.2.2.2 = (cw_102 0 (fun _ => 0)).1.2.2.2 := congrArg (fun R : Nat → Nat → Nat => xur R 41 (fun _ => 0)) (cwI_101 L xs)
theorem cwI_103 (L : Nat) (xs : Nat → Int32) : (cw_103 L xs).1.2.2.2 = (cw_103 0 (fun _ => 0)).1.2.2.2 := congrArg (fun R : Nat → Nat → Nat => xu R 40 0 41) (cwI_102 L xs)
theorem cwI_104 (L : Nat) (xs : Nat → Int32) : (cw_104 L xs).1.2.2.2 = (cw_104 0 (fun _ => 0)).1.2.2.2 := congrArg (fun R : Nat → Nat → Nat => xur R 42 (fun _ => 0)) (cwI_103 L xs)
theorem cwI_105 (L : Nat) (xs : Nat → Int32) : (cw_105 L xs).1.2.2.2 = (cw_105 0 (fun _ => 0)).1.2.2.2 := congrArg (fun R : Nat → Nat → Nat => xu R 40 1 42) (cwI_104 L xs)
theorem cwI_106 (L : Nat) (xs : Nat → Int32) : (cw_106 L xs).1.2.2.2 = (cw_106 0 (fun _ => 0)).1.2.2.2 := congrArg (fun R : Nat → Nat → Nat => xur R 43 (fun _ => 0)) (cwI_105 L xs)
theorem cwI_107 (L : Nat) (xs : Nat → Int32) : (cw_107 L xs).1.2.2.2 = (cw_107 0 (fun _ => 0)).1.2.2.2 := congrArg (fun R : Nat → Nat → Nat => xu R 40 2 43) (cwI_106 L xs)
theorem cwI_108 (L : Nat) (xs : Nat → Int32) : (cw_108 L xs).1.2.2.2 = (cw_108 0 (fun _ => 0)).1.2.2.2 := congrArg (fun R : Nat → Nat → Nat => xur R 44 (fun _ => 0)) (cwI_107 L xs)
theorem cwI_109 (L : Nat) (xs : Nat → Int32) : (cw_109 L xs).1.2.2.2 = (cw_109 0 (fun _ => 0)).1.2.2.2 := congrArg (fun R : Nat → Nat → Nat => xu R 40 3 44) (cwI_108 L xs)
theorem cwI_110 (L : Nat) (xs : Nat → Int32) : (cw_110 L xs).1.2.2.2 = (cw_110 0 (fun _ => 0)).1.2.2.2 := congrArg (fun R : Nat → Nat → Nat => xur R 45 (fun _ => 0)) (cwI_109 L xs)
theorem cwI_111 (L : Nat) (xs : Nat → Int32) : (cw_111 L xs).1.2.2.2 = (cw_111 0 (fun _ => 0)).1.2.2.2 := congrArg (fun R : Nat → Nat → Nat => xu R 40 4 45) (cwI_110 L xs)
theorem cwI_112 (L : Nat) (xs : Nat → Int32) : (cw_112 L xs).1.2.2.2 = (cw_112 0 (fun _ => 0)).1.2.2.2 := congrArg (fun R : Nat → Nat → Nat => xur R 46 (fun _ => 0)) (cwI_111 L xs)
theorem cwI_113 (L : Nat) (xs : Nat → Int32) : (cw_113 L xs).1.2.2.2 = (cw_113 0 (fun _ => 0)).1.2.2.2 := congrArg (fun R : Nat → Nat → Nat => xu R 40 6 46) (cwI_112 L xs)
theorem cwI_114 (L : Nat) (xs : Nat → Int32) : (cw_114 L xs).1.2.2.2 = (cw_114 0 (fun _ => 0)).1.2.2.2 := congrArg (fun R : Nat → Nat → Nat => xur R 47 (fun _ => 0)) (cwI_113 L xs)
theorem cwI_115 (L : Nat) (xs : Nat → Int32) : (cw_115 L xs).1.2.2.2 = (cw_115 0 (fun _ => 0)).1.2.2.2 := congrArg (fun R : Nat → Nat → Nat => xu R 40 7 47) (cwI_114 L xs)
theorem cwI_116 (L : Nat) (xs : Nat → Int32) : (cw_116 L xs).1.2.2.2 = (cw_116 0 (fun _ => 0)).1.2.2.2 := congrArg (fun R : Nat → Nat → Nat => xur R 48 (fun _ => 0)) (cwI_115 L xs)
theorem cwI_117 (L : Nat) (xs : Nat → Int32) : (cw_117 L xs).1.2.2.2 = (cw_117 0 (fun _ => 0)).1.2.2.2 := congrArg (fun R : Nat → Nat → Nat => xu R 40 9 48) (cwI_116 L xs)
theorem cwI_118 (L : Nat) (xs : Nat → Int32) : (cw_118 L xs).1.2.2.2 = (cw_118 0 (fun _ => 0)).1.2.2.2 := (cwI_117 L xs)
theorem cwI_119 (L : Nat) (xs : Nat → Int32) : (cw_119 L xs).1.2.2.2 = (cw_119 0 (fun _ => 0)).1.2.2.2 := congrArg (fun R : Nat → Nat → Nat => xur R 49 (fun _ => 0)) (cwI_118 L xs)
theorem cwI_120 (L : Nat) (xs : Nat → Int32) : (cw_120 L xs).1.2.2.2 = (cw_120 0 (fun _ => 0)).1.2.2.2 := congrArg (fun R : Nat → Nat → Nat => xu R 40 12 49) (cwI_119 L xs)
theorem cwI_121 (L : Nat) (xs : Nat → Int32) : (cw_121 L xs).1.2.2.2 = (cw_121 0 (fun _ => 0)).1.2.2.2 := congrArg (fun R : Nat → Nat → Nat => xur R 50 (fun _ => 0)) (cwI_120 L xs)
theorem cwI_122 (L : Nat) (xs : Nat → Int32) : (cw_122 L xs).1.2.2.2 = (cw_122 0 (fun _ => 0)).1.2.2.2 := congrArg (fun R : Nat → Nat → Nat => xu R 40 14 50) (cwI_121 L xs)
theorem cwI_123 (L : Nat) (xs : Nat → Int32) : (cw_123 L xs).1.2.2.2 = (cw_123 0 (fun _ => 0)).1.2.2.2 := congrArg (fun R : Nat → Nat → Nat => xur R 51 (fun _ => 0)) (cwI_122 L xs)
theorem cwI_124 (L : Nat) (xs : Nat → Int32) : (cw_124 L xs).1.2.2.2 = (cw_124 0 (fun _ => 0)).1.2.2.2 := congrArg (fun R : Nat → Nat → Nat => xu R 40 22 51) (cwI_123 L xs)
theorem cwI_125 (L : Nat) (xs : Nat → Int32) : (cw_125 L xs).1.2.2.2 = (cw_125 0 (fun _ => 0)).1.2.2.2 := congrArg (fun R : Nat → Nat → Nat => xur R 52 (fun _ => 0)) (cwI_124 L xs)
theorem cwI_126 (L : Nat) (xs : Nat → Int32) : (cw_126 L xs).1.2.2.2 = (cw_126 0 (fun _ => 0)).1.2.2.2 := congrArg (fun R : Nat → Nat → Nat => xu R 40 23 52) (cwI_125 L xs)
theorem cwI_127 (L : Nat) (xs : Nat → Int32) : (cw_127 L xs).1.2.2.2 = (cw_127 0 (fun _ => 0)).1.2.2.2 := congrArg (fun R : Nat → Nat → Nat => xur R 53 (fun _ => 0)) (cwI_126 L xs)
theorem cwI_128 (L : Nat) (xs : Nat → Int32) : (cw_128 L xs).1.2.2.2 = (cw_128 0 (fun _ => 0)).1.2.2.2 := congrArg (fun R : Nat → Nat → Nat => xu R 40 24 53) (cwI_127 L xs)
theorem cwI_129 (L : Nat) (xs : Nat → Int32) : (cw_129 L xs).1.2.2.2 = (cw_129 0 (fun _ => 0)).1.2.2.2 := congrArg (fun R : Nat → Nat → Nat => xur R 54 (fun _ => 0)) (cwI_128 L xs)
theorem cwI_130 (L : Nat) (xs : Nat → Int32) : (cw_130 L xs).1.2.2.2 = (cw_130 0 (fun _ => 0)).1.2.2.2 := congrArg (fun R : Nat → Nat → Nat => xu R 40 25 54) (cwI_129 L xs)
theorem cwI_131 (L : Nat) (xs : Nat → Int32) : (cw_131 L xs).1.2.2.2 = (cw_131 0 (fun _ => 0)).1.2.2.2 := (cwI_130 L xs)
theorem cwR1 (L : Nat) (xs : Nat → Int32) : (cw_131 L xs).1.2.2.2 = (cw_131 0 (fun _ => 0)).1.2.2.2 := cwI_131 L xs
theorem cwSh (L : Nat) (xs : Nat → Int32) : (cw_131 L xs).1 = xSH L := by
  have hK : (cw_131 L xs).1.2.2.1 = xKf L := funext (cwK L xs)
  have hR : (cw_131 L xs).1.2.2.2 = xRf := by
    funext a k
    by_cases ha : 55 ≤ a
    · rw [(cwP_131 L xs).2 a k (Or.inl ha)]
      obtain ⟨b, rfl⟩ : ∃ b, a = b + 55 := ⟨a - 55, by omega⟩
      exact (xRf_ha b k).symm
    · by_cases hk : 40 ≤ k
      · rw [(cwP_131 L xs).2 a k (Or.inr hk)]
        obtain ⟨j, rfl⟩ : ∃ j, k = j + 40 := ⟨k - 40, by omega⟩
        exact (xRf_hi a j).symm
      · rw [cwR1]
        exact cwR0 a (by omega) k (by omega)
  have e : (cw_131 L xs).1 = (55, 4433, (cw_131 L xs).1.2.2.1, (cw_131 L xs).1.2.2.2) := rfl
  rw [e, hK, hR]
  rfl
theorem cw_eq (L : Nat) (xs : Nat → Int32) : cw_131 L xs = (xSH L, (cw_131 L xs).2.1, (cw_131 L xs).2.2) := by
  rw [← cwSh L xs]
