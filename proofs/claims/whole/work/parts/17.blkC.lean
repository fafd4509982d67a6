theorem f_1_0 : xfind (xnth xTs 1) 0 = some (0, .aload_n 0, 1, (0, 0, 0, 0), .null, [], 0, 0, []) := rfl
theorem f_1_1 : xfind (xnth xTs 1) 1 = some (1, .iconst 0, 1, (0, 0, 0, 0), (.int 0), [], 0, 0, []) := rfl
theorem f_1_2 : xfind (xnth xTs 1) 2 = some (2, .putfield 9, 3, (0, 0, 0, 0), .null, [], 192, 0, []) := rfl
theorem f_1_5 : xfind (xnth xTs 1) 5 = some (5, .return_, 1, (0, 0, 0, 0), .null, [], 0, 0, []) := rfl
theorem b_History_clear_0 (sh : xSh) (M : Nat → Nat → Int32) (J : Nat → Nat → Int64) (l0 : Nat) : ev (1, 0, [.ref l0], [], (sh, M, J)) = (bif decide ((sh.2.2.1 l0).1 = 0) then some (none, (sh, (xu M l0 0 0), J)) else none) := by
  refine ev_nx (s1 := (1, 1, [.ref l0], [.ref l0], (sh, M, J))) f_1_0 rfl ?_
  refine ev_nx (s1 := (1, 2, [.ref l0], [.int 0, .ref l0], (sh, M, J))) f_1_1 rfl ?_
  refine ev_gd (s1 := (1, 5, [.ref l0], [], (sh, (xu M l0 0 0), J))) f_1_2 rfl ?_
  exact ev_r1 f_1_5 rfl
theorem f_2_0 : xfind (xnth xTs 2) 0 = some (0, .aload_n 0, 1, (0, 0, 0, 0), .null, [], 0, 0, []) := rfl
theorem f_2_1 : xfind (xnth xTs 2) 1 = some (1, .aload_n 0, 1, (0, 0, 0, 0), .null, [], 0, 0, []) := rfl
theorem f_2_2 : xfind (xnth xTs 2) 2 = some (2, .getfield 21, 3, (0, 2, 0, 0), .null, [], 195, 0, []) := rfl
theorem f_2_5 : xfind (xnth xTs 2) 5 = some (5, .ifCond .lt 21, 3, (0, 0, 0, 0), .null, [], 0, 0, []) := rfl
theorem f_2_8 : xfind (xnth xTs 2) 8 = some (8, .aload_n 0, 1, (0, 0, 0, 0), .null, [], 0, 0, []) := rfl
theorem f_2_9 : xfind (xnth xTs 2) 9 = some (9, .getfield 21, 3, (0, 2, 0, 0), .null, [], 195, 0, []) := rfl
theorem f_2_12 : xfind (xnth xTs 2) 12 = some (12, .bipush 19, 2, (0, 0, 0, 0), (.int 19), [], 0, 0, []) := rfl
theorem f_2_14 : xfind (xnth xTs 2) 14 = some (14, .if_icmp .ge 12, 3, (0, 0, 0, 0), .null, [], 0, 0, []) := rfl
theorem f_2_17 : xfind (xnth xTs 2) 17 = some (17, .aload_n 0, 1, (0, 0, 0, 0), .null, [], 0, 0, []) := rfl
theorem f_2_18 : xfind (xnth xTs 2) 18 = some (18, .getfield 21, 3, (0, 2, 0, 0), .null, [], 195, 0, []) := rfl
theorem f_2_21 : xfind (xnth xTs 2) 21 = some (21, .iconst 1, 1, (0, 0, 0, 0), (.int 1), [], 0, 0, []) := rfl
theorem f_2_22 : xfind (xnth xTs 2) 22 = some (22, .iadd, 1, (0, 0, 0, 0), .null, [], 0, 0, []) := rfl
theorem f_2_23 : xfind (xnth xTs 2) 23 = some (23, .goto 4, 3, (0, 0, 0, 0), .null, [], 0, 0, []) := rfl
theorem f_2_26 : xfind (xnth xTs 2) 26 = some (26, .iconst 0, 1, (0, 0, 0, 0), (.int 0), [], 0, 0, []) := rfl
theorem f_2_27 : xfind (xnth xTs 2) 27 = some (27, .putfield 21, 3, (0, 2, 0, 0), .null, [], 195, 0, []) := rfl
theorem f_2_30 : xfind (xnth xTs 2) 30 = some (30, .aload_n 1, 1, (0, 0, 0, 0), .null, [], 0, 0, []) := rfl
theorem f_2_31 : xfind (xnth xTs 2) 31 = some (31, .getfield 24, 3, (6, 0, 1, 0), .null, [], 139, 0, []) := rfl
theorem f_2_34 : xfind (xnth xTs 2) 34 = some (34, .iconst 0, 1, (0, 0, 0, 0), (.int 0), [], 0, 0, []) := rfl
theorem f_2_35 : xfind (xnth xTs 2) 35 = some (35, .aload_n 0, 1, (0, 0, 0, 0), .null, [], 0, 0, []) := rfl
theorem f_2_36 : xfind (xnth xTs 2) 36 = some (36, .getfield 17, 3, (0, 1, 1, 0), .null, [], 194, 0, []) := rfl
theorem f_2_39 : xfind (xnth xTs 2) 39 = some (39, .aload_n 0, 1, (0, 0, 0, 0), .null, [], 0, 0, []) := rfl
theorem f_2_40 : xfind (xnth xTs 2) 40 = some (40, .getfield 21, 3, (0, 2, 0, 0), .null, [], 195, 0, []) := rfl
theorem f_2_43 : xfind (xnth xTs 2) 43 = some (43, .bipush 62, 2, (0, 0, 0, 0), (.int 62), [], 0, 0, []) := rfl
theorem f_2_45 : xfind (xnth xTs 2) 45 = some (45, .imul, 1, (0, 0, 0, 0), .null, [], 0, 0, []) := rfl
theorem f_2_46 : xfind (xnth xTs 2) 46 = some (46, .bipush 62, 2, (0, 0, 0, 0), (.int 62), [], 0, 0, []) := rfl
theorem f_2_48 : xfind (xnth xTs 2) 48 = some (48, .invokestatic 27, 3, (999, 0, 0, 0), .null, [], 620, 0, []) := rfl
theorem f_2_51 : xfind (xnth xTs 2) 51 = some (51, .aload_n 0, 1, (0, 0, 0, 0), .null, [], 0, 0, []) := rfl
theorem f_2_52 : xfind (xnth xTs 2) 52 = some (52, .aload_n 0, 1, (0, 0, 0, 0), .null, [], 0, 0, []) := rfl
theorem f_2_53 : xfind (xnth xTs 2) 53 = some (53, .getfield 9, 3, (0, 0, 0, 0), .null, [], 192, 0, []) := rfl
theorem f_2_56 : xfind (xnth xTs 2) 56 = some (56, .iconst 1, 1, (0, 0, 0, 0), (.int 1), [], 0, 0, []) := rfl
theorem f_2_57 : xfind (xnth xTs 2) 57 = some (57, .iadd, 1, (0, 0, 0, 0), .null, [], 0, 0, []) := rfl
theorem f_2_58 : xfind (xnth xTs 2) 58 = some (58, .bipush 20, 2, (0, 0, 0, 0), (.int 20), [], 0, 0, []) := rfl
theorem f_2_60 : xfind (xnth xTs 2) 60 = some (60, .invokestatic 33, 3, (998, 0, 0, 0), .null, [], 621, 0, []) := rfl
theorem f_2_63 : xfind (xnth xTs 2) 63 = some (63, .putfield 9, 3, (0, 0, 0, 0), .null, [], 192, 0, []) := rfl
theorem f_2_66 : xfind (xnth xTs 2) 66 = some (66, .return_, 1, (0, 0, 0, 0), .null, [], 0, 0, []) := rfl
theorem b_History_remember_0 (sh : xSh) (M : Nat → Nat → Int32) (J : Nat → Nat → Int64) (l0 : Nat) (l1 : Nat) : ev (2, 0, [.ref l0, .ref l1], [], (sh, M, J)) = (bif decide ((sh.2.2.1 l0).1 = 0) then bif decide ((M l0 2) < 0) then bif decide ((sh.2.2.1 l0).1 = 0) then bif decide ((sh.2.2.1 l1).1 = 6) then bif decide ((sh.2.2.1 l0).1 = 0) then bif decide ((sh.2.2.1 l0).1 = 0) then bif (decide ((sh.2.2.1 (sh.2.2.2 l1 0)).1 = 11) && (decide ((sh.2.2.1 (sh.2.2.2 l0 1)).1 = 11) && (!decide ((0 : Int32) < 0) && (!decide (((((xu M l0 2 0) l0 2) * 62) : Int32) < 0) && (!decide ((62 : Int32) < 0) && (decide ((0 : Int32).toNatClampNeg + (62 : Int32).toNatClampNeg ≤ (sh.2.2.1 (sh.2.2.2 l1 0)).2) && (decide (((((xu M l0 2 0) l0 2) * 62) : Int32).toNatClampNeg + (62 : Int32).toNatClampNeg ≤ (sh.2.2.1 (sh.2.2.2 l0 1)).2) && true))))))) then bif decide ((sh.2.2.1 l0).1 = 0) then bif decide ((sh.2.2.1 l0).1 = 0) then some (none, (sh, (xu (xcp (xu M l0 2 0) (sh.2.2.2 l1 0) ((0 : Int32).toNatClampNeg) (sh.2.2.2 l0 1) (((((xu M l0 2 0) l0 2) * 62) : Int32).toNatClampNeg) ((62 : Int32).toNatClampNeg)) l0 0 (xmin (((xcp (xu M l0 2 0) (sh.2.2.2 l1 0) ((0 : Int32).toNatClampNeg) (sh.2.2.2 l0 1) (((((xu M l0 2 0) l0 2) * 62) : Int32).toNatClampNeg) ((62 : Int32).toNatClampNeg)) l0 0) + 1) 20)), J)) else none else none else none else none else none else none else none else bif decide ((sh.2.2.1 l0).1 = 0) then bif decide (19 ≤ (M l0 2)) then bif decide ((sh.2.2.1 l0).1 = 0) then bif decide ((sh.2.2.1 l1).1 = 6) then bif decide ((sh.2.2.1 l0).1 = 0) then bif decide ((sh.2.2.1 l0).1 = 0) then bif (decide ((sh.2.2.1 (sh.2.2.2 l1 0)).1 = 11) && (decide ((sh.2.2.1 (sh.2.2.2 l0 1)).1 = 11) && (!decide ((0 : Int32) < 0) && (!decide (((((xu M l0 2 0) l0 2) * 62) : Int32) < 0) && (!decide ((62 : Int32) < 0) && (decide ((0 : Int32).toNatClampNeg + (62 : Int32).toNatClampNeg ≤ (sh.2.2.1 (sh.2.2.2 l1 0)).2) && (decide (((((xu M l0 2 0) l0 2) * 62) : Int32).toNatClampNeg + (62 : Int32).toNatClampNeg ≤ (sh.2.2.1 (sh.2.2.2 l0 1)).2) && true))))))) then bif decide ((sh.2.2.1 l0).1 = 0) then bif decide ((sh.2.2.1 l0).1 = 0) then some (none, (sh, (xu (xcp (xu M l0 2 0) (sh.2.2.2 l1 0) ((0 : Int32).toNatClampNeg) (sh.2.2.2 l0 1) (((((xu M l0 2 0) l0 2) * 62) : Int32).toNatClampNeg) ((62 : Int32).toNatClampNeg)) l0 0 (xmin (((xcp (xu M l0 2 0) (sh.2.2.2 l1 0) ((0 : Int32).toNatClampNeg) (sh.2.2.2 l0 1) (((((xu M l0 2 0) l0 2) * 62) : Int32).toNatClampNeg) ((62 : Int32).toNatClampNeg)) l0 0) + 1) 20)), J)) else none else none else none else none else none else none else none else bif decide ((sh.2.2.1 l0).1 = 0) then bif decide ((sh.2.2.1 l0).1 = 0) then bif decide ((sh.2.2.1 l1).1 = 6) then bif decide ((sh.2.2.1 l0).1 = 0) then bif decide ((sh.2.2.1 l0).1 = 0) then bif (decide ((sh.2.2.1 (sh.2.2.2 l1 0)).1 = 11) && (decide ((sh.2.2.1 (sh.2.2.2 l0 1)).1 = 11) && (!decide ((0 : Int32) < 0) && (!decide (((((xu M l0 2 ((M l0 2) + 1)) l0 2) * 62) : Int32) < 0) && (!decide ((62 : Int32) < 0) && (decide ((0 : Int32).toNatClampNeg + (62 : Int32).toNatClampNeg ≤ (sh.2.2.1 (sh.2.2.2 l1 0)).2) && (decide (((((xu M l0 2 ((M l0 2) + 1)) l0 2) * 62) : Int32).toNatClampNeg + (62 : Int32).toNatClampNeg ≤ (sh.2.2.1 (sh.2.2.2 l0 1)).2) && true))))))) then bif decide ((sh.2.2.1 l0).1 = 0) then bif decide ((sh.2.2.1 l0).1 = 0) then some (none, (sh, (xu (xcp (xu M l0 2 ((M l0 2) + 1)) (sh.2.2.2 l1 0) ((0 : Int32).toNatClampNeg) (sh.2.2.2 l0 1) (((((xu M l0 2 ((M l0 2) + 1)) l0 2) * 62) : Int32).toNatClampNeg) ((62 : Int32).toNatClampNeg)) l0 0 (xmin (((xcp (xu M l0 2 ((M l0 2) + 1)) (sh.2.2.2 l1 0) ((0 : Int32).toNatClampNeg) (sh.2.2.2 l0 1) (((((xu M l0 2 ((M l0 2) + 1)) l0 2) * 62) : Int32).toNatClampNeg) ((62 : Int32).toNatClampNeg)) l0 0) + 1) 20)), J)) else none else none else none else none else none else none else none else none else none else none) := by
  refine ev_nx (s1 := (2, 1, [.ref l0, .ref l1], [.ref l0], (sh, M, J))) f_2_0 rfl ?_
  refine ev_nx (s1 := (2, 2, [.ref l0, .ref l1], [.ref l0, .ref l0], (sh, M, J))) f_2_1 rfl ?_
  refine ev_gd (s1 := (2, 5, [.ref l0, .ref l1], [.int (M l0 2), .ref l0], (sh, M, J))) f_2_2 rfl ?_
  refine ev_br (s1 := (2, 26, [.ref l0, .ref l1], [.ref l0], (sh, M, J))) (s2 := (2, 8, [.ref l0, .ref l1], [.ref l0], (sh, M, J))) f_2_5 rfl ?_ ?_
  · refine ev_nx (s1 := (2, 27, [.ref l0, .ref l1], [.int 0, .ref l0], (sh, M, J))) f_2_26 rfl ?_
    refine ev_gd (s1 := (2, 30, [.ref l0, .ref l1], [], (sh, (xu M l0 2 0), J))) f_2_27 rfl ?_
    refine ev_nx (s1 := (2, 31, [.ref l0, .ref l1], [.ref l1], (sh, (xu M l0 2 0), J))) f_2_30 rfl ?_
    refine ev_gd (s1 := (2, 34, [.ref l0, .ref l1], [.ref (sh.2.2.2 l1 0)], (sh, (xu M l0 2 0), J))) f_2_31 rfl ?_
    refine ev_nx (s1 := (2, 35, [.ref l0, .ref l1], [.int 0, .ref (sh.2.2.2 l1 0)], (sh, (xu M l0 2 0), J))) f_2_34 rfl ?_
    refine ev_nx (s1 := (2, 36, [.ref l0, .ref l1], [.ref l0, .int 0, .ref (sh.2.2.2 l1 0)], (sh, (xu M l0 2 0), J))) f_2_35 rfl ?_
    refine ev_gd (s1 := (2, 39, [.ref l0, .ref l1], [.ref (sh.2.2.2 l0 1), .int 0, .ref (sh.2.2.2 l1 0)], (sh, (xu M l0 2 0), J))) f_2_36 rfl ?_
    refine ev_nx (s1 := (2, 40, [.ref l0, .ref l1], [.ref l0, .ref (sh.2.2.2 l0 1), .int 0, .ref (sh.2.2.2 l1 0)], (sh, (xu M l0 2 0), J))) f_2_39 rfl ?_
    refine ev_gd (s1 := (2, 43, [.ref l0, .ref l1], [.int ((xu M l0 2 0) l0 2), .ref (sh.2.2.2 l0 1), .int 0, .ref (sh.2.2.2 l1 0)], (sh, (xu M l0 2 0), J))) f_2_40 rfl ?_
    refine ev_nx (s1 := (2, 45, [.ref l0, .ref l1], [.int 62, .int ((xu M l0 2 0) l0 2), .ref (sh.2.2.2 l0 1), .int 0, .ref (sh.2.2.2 l1 0)], (sh, (xu M l0 2 0), J))) f_2_43 rfl ?_
    refine ev_nx (s1 := (2, 46, [.ref l0, .ref l1], [.int (((xu M l0 2 0) l0 2) * 62), .ref (sh.2.2.2 l0 1), .int 0, .ref (sh.2.2.2 l1 0)], (sh, (xu M l0 2 0), J))) f_2_45 rfl ?_
    refine ev_nx (s1 := (2, 48, [.ref l0, .ref l1], [.int 62, .int (((xu M l0 2 0) l0 2) * 62), .ref (sh.2.2.2 l0 1), .int 0, .ref (sh.2.2.2 l1 0)], (sh, (xu M l0 2 0), J))) f_2_46 rfl ?_
    refine ev_gd (s1 := (2, 51, [.ref l0, .ref l1], [], (sh, (xcp (xu M l0 2 0) (sh.2.2.2 l1 0) ((0 : Int32).toNatClampNeg) (sh.2.2.2 l0 1) (((((xu M l0 2 0) l0 2) * 62) : Int32).toNatClampNeg) ((62 : Int32).toNatClampNeg)), J))) f_2_48 rfl ?_
    refine ev_nx (s1 := (2, 52, [.ref l0, .ref l1], [.ref l0], (sh, (xcp (xu M l0 2 0) (sh.2.2.2 l1 0) ((0 : Int32).toNatClampNeg) (sh.2.2.2 l0 1) (((((xu M l0 2 0) l0 2) * 62) : Int32).toNatClampNeg) ((62 : Int32).toNatClampNeg)), J))) f_2_51 rfl ?_
    refine ev_nx (s1 := (2, 53, [.ref l0, .ref l1], [.ref l0, .ref l0], (sh, (xcp (xu M l0 2 0) (sh.2.2.2 l1 0) ((0 : Int32).toNatClampNeg) (sh.2.2.2 l0 1) (((((xu M l0 2 0) l0 2) * 62) : Int32).toNatClampNeg) ((62 : Int32).toNatClampNeg)), J))) f_2_52 rfl ?_
    refine ev_gd (s1 := (2, 56, [.ref l0, .ref l1], [.int ((xcp (xu M l0 2 0) (sh.2.2.2 l1 0) ((0 : Int32).toNatClampNeg) (sh.2.2.2 l0 1) (((((xu M l0 2 0) l0 2) * 62) : Int32).toNatClampNeg) ((62 : Int32).toNatClampNeg)) l0 0), .ref l0], (sh, (xcp (xu M l0 2 0) (sh.2.2.2 l1 0) ((0 : Int32).toNatClampNeg) (sh.2.2.2 l0 1) (((((xu M l0 2 0) l0 2) * 62) : Int32).toNatClampNeg) ((62 : Int32).toNatClampNeg)), J))) f_2_53 rfl ?_
    refine ev_nx (s1 := (2, 57, [.ref l0, .ref l1], [.int 1, .int ((xcp (xu M l0 2 0) (sh.2.2.2 l1 0) ((0 : Int32).toNatClampNeg) (sh.2.2.2 l0 1) (((((xu M l0 2 0) l0 2) * 62) : Int32).toNatClampNeg) ((62 : Int32).toNatClampNeg)) l0 0), .ref l0], (sh, (xcp (xu M l0 2 0) (sh.2.2.2 l1 0) ((0 : Int32).toNatClampNeg) (sh.2.2.2 l0 1) (((((xu M l0 2 0) l0 2) * 62) : Int32).toNatClampNeg) ((62 : Int32).toNatClampNeg)), J))) f_2_56 rfl ?_
    refine ev_nx (s1 := (2, 58, [.ref l0, .ref l1], [.int (((xcp (xu M l0 2 0) (sh.2.2.2 l1 0) ((0 : Int32).toNatClampNeg) (sh.2.2.2 l0 1) (((((xu M l0 2 0) l0 2) * 62) : Int32).toNatClampNeg) ((62 : Int32).toNatClampNeg)) l0 0) + 1), .ref l0], (sh, (xcp (xu M l0 2 0) (sh.2.2.2 l1 0) ((0 : Int32).toNatClampNeg) (sh.2.2.2 l0 1) (((((xu M l0 2 0) l0 2) * 62) : Int32).toNatClampNeg) ((62 : Int32).toNatClampNeg)), J))) f_2_57 rfl ?_
    refine ev_nx (s1 := (2, 60, [.ref l0, .ref l1], [.int 20, .int (((xcp (xu M l0 2 0) (sh.2.2.2 l1 0) ((0 : Int32).toNatClampNeg) (sh.2.2.2 l0 1) (((((xu M l0 2 0) l0 2) * 62) : Int32).toNatClampNeg) ((62 : Int32).toNatClampNeg)) l0 0) + 1), .ref l0], (sh, (xcp (xu M l0 2 0) (sh.2.2.2 l1 0) ((0 : Int32).toNatClampNeg) (sh.2.2.2 l0 1) (((((xu M l0 2 0) l0 2) * 62) : Int32).toNatClampNeg) ((62 : Int32).toNatClampNeg)), J))) f_2_58 rfl ?_
    refine ev_nx (s1 := (2, 63, [.ref l0, .ref l1], [.int (xmin (((xcp (xu M l0 2 0) (sh.2.2.2 l1 0) ((0 : Int32).toNatClampNeg) (sh.2.2.2 l0 1) (((((xu M l0 2 0) l0 2) * 62) : Int32).toNatClampNeg) ((62 : Int32).toNatClampNeg)) l0 0) + 1) 20), .ref l0], (sh, (xcp (xu M l0 2 0) (sh.2.2.2 l1 0) ((0 : Int32).toNatClampNeg) (sh.2.2.2 l0 1) (((((xu M l0 2 0) l0 2) * 62) : Int32).toNatClampNeg) ((62 : Int32).toNatClampNeg)), J))) f_2_60 rfl ?_
    refine ev_gd (s1 := (2, 66, [.ref l0, .ref l1], [], (sh, (xu (xcp (xu M l0 2 0) (sh.2.2.2 l1 0) ((0 : Int32).toNatClampNeg) (sh.2.2.2 l0 1) (((((xu M l0 2 0) l0 2) * 62) : Int32).toNatClampNeg) ((62 : Int32).toNatClampNeg)) l0 0 (xmin (((xcp (xu M l0 2 0) (sh.2.2.2 l1 0) ((0 : Int32).toNatClampNeg) (sh.2.2.2 l0 1) (((((xu M l0 2 0) l0 2) * 62) : Int32).toNatClampNeg) ((62 : Int32).toNatClampNeg)) l0 0) + 1) 20)), J))) f_2_63 rfl ?_
    exact ev_r1 f_2_66 rfl
  · refine ev_nx (s1 := (2, 9, [.ref l0, .ref l1], [.ref l0, .ref l0], (sh, M, J))) f_2_8 rfl ?_
    refine ev_gd (s1 := (2, 12, [.ref l0, .ref l1], [.int (M l0 2), .ref l0], (sh, M, J))) f_2_9 rfl ?_
    refine ev_nx (s1 := (2, 14, [.ref l0, .ref l1], [.int 19, .int (M l0 2), .ref l0], (sh, M, J))) f_2_12 rfl ?_
    refine ev_br (s1 := (2, 26, [.ref l0, .ref l1], [.ref l0], (sh, M, J))) (s2 := (2, 17, [.ref l0, .ref l1], [.ref l0], (sh, M, J))) f_2_14 rfl ?_ ?_
    · refine ev_nx (s1 := (2, 27, [.ref l0, .ref l1], [.int 0, .ref l0], (sh, M, J))) f_2_26 rfl ?_
      refine ev_gd (s1 := (2, 30, [.ref l0, .ref l1], [], (sh, (xu M l0 2 0), J))) f_2_27 rfl ?_
      refine ev_nx (s1 := (2, 31, [.ref l0, .ref l1], [.ref l1], (sh, (xu M l0 2 0), J))) f_2_30 rfl ?_
      refine ev_gd (s1 := (2, 34, [.ref l0, .ref l1], [.ref (sh.2.2.2 l1 0)], (sh, (xu M l0 2 0), J))) f_2_31 rfl ?_
      refine ev_nx (s1 := (2, 35, [.ref l0, .ref l1], [.int 0, .ref (sh.2.2.2 l1 0)], (sh, (xu M l0 2 0), J))) f_2_34 rfl ?_
      refine ev_nx (s1 := (2, 36, [.ref l0, .ref l1], [.ref l0, .int 0, .ref (sh.2.2.2 l1 0)], (sh, (xu M l0 2 0), J))) f_2_35 rfl ?_
      refine ev_gd (s1 := (2, 39, [.ref l0, .ref l1], [.ref (sh.2.2.2 l0 1), .int 0, .ref (sh.2.2.2 l1 0)], (sh, (xu M l0 2 0), J))) f_2_36 rfl ?_
      refine ev_nx (s1 := (2, 40, [.ref l0, .ref l1], [.ref l0, .ref (sh.2.2.2 l0 1), .int 0, .ref (sh.2.2.2 l1 0)], (sh, (xu M l0 2 0), J))) f_2_39 rfl ?_
      refine ev_gd (s1 := (2, 43, [.ref l0, .ref l1], [.int ((xu M l0 2 0) l0 2), .ref (sh.2.2.2 l0 1), .int 0, .ref (sh.2.2.2 l1 0)], (sh, (xu M l0 2 0), J))) f_2_40 rfl ?_
      refine ev_nx (s1 := (2, 45, [.ref l0, .ref l1], [.int 62, .int ((xu M l0 2 0) l0 2), .ref (sh.2.2.2 l0 1), .int 0, .ref (sh.2.2.2 l1 0)], (sh, (xu M l0 2 0), J))) f_2_43 rfl ?_
      refine ev_nx (s1 := (2, 46, [.ref l0, .ref l1], [.int (((xu M l0 2 0) l0 2) * 62), .ref (sh.2.2.2 l0 1), .int 0, .ref (sh.2.2.2 l1 0)], (sh, (xu M l0 2 0), J))) f_2_45 rfl ?_
      refine ev_nx (s1 := (2, 48, [.ref l0, .ref l1], [.int 62, .int (((xu M l0 2 0) l0 2) * 62), .ref (sh.2.2.2 l0 1), .int 0, .ref (sh.2.2.2 l1 0)], (sh, (xu M l0 2 0), J))) f_2_46 rfl ?_
      refine ev_gd (s1 := (2, 51, [.ref l0, .ref l1], [], (sh, (xcp (xu M l0 2 0) (sh.2.2.2 l1 0) ((0 : Int32).toNatClampNeg) (sh.2.2.2 l0 1) (((((xu M l0 2 0) l0 2) * 62) : Int32).toNatClampNeg) ((62 : Int32).toNatClampNeg)), J))) f_2_48 rfl ?_
      refine ev_nx (s1 := (2, 52, [.ref l0, .ref l1], [.ref l0], (sh, (xcp (xu M l0 2 0) (sh.2.2.2 l1 0) ((0 : Int32).toNatClampNeg) (sh.2.2.2 l0 1) (((((xu M l0 2 0) l0 2) * 62) : Int32).toNatClampNeg) ((62 : Int32).toNatClampNeg)), J))) f_2_51 rfl ?_
      refine ev_nx (s1 := (2, 53, [.ref l0, .ref l1], [.ref l0, .ref l0], (sh, (xcp (xu M l0 2 0) (sh.2.2.2 l1 0) ((0 : Int32).toNatClampNeg) (sh.2.2.2 l0 1) (((((xu M l0 2 0) l0 2) * 62) : Int32).toNatClampNeg) ((62 : Int32).toNatClampNeg)), J))) f_2_52 rfl ?_
      refine ev_gd (s1 := (2, 56, [.ref l0, .ref l1], [.int ((xcp (xu M l0 2 0) (sh.2.2.2 l1 0) ((0 : Int32).toNatClampNeg) (sh.2.2.2 l0 1) (((((xu M l0 2 0) l0 2) * 62) : Int32).toNatClampNeg) ((62 : Int32).toNatClampNeg)) l0 0), .ref l0], (sh, (xcp (xu M l0 2 0) (sh.2.2.2 l1 0) ((0 : Int32).toNatClampNeg) (sh.2.2.2 l0 1) (((((xu M l0 2 0) l0 2) * 62) : Int32).toNatClampNeg) ((62 : Int32).toNatClampNeg)), J))) f_2_53 rfl ?_
      refine ev_nx (s1 := (2, 57, [.ref l0, .ref l1], [.int 1, .int ((xcp (xu M l0 2 0) (sh.2.2.2 l1 0) ((0 : Int32).toNatClampNeg) (sh.2.2.2 l0 1) (((((xu M l0 2 0) l0 2) * 62) : Int32).toNatClampNeg) ((62 : Int32).toNatClampNeg)) l0 0), .ref l0], (sh, (xcp (xu M l0 2 0) (sh.2.2.2 l1 0) ((0 : Int32).toNatClampNeg) (sh.2.2.2 l0 1) (((((xu M l0 2 0) l0 2) * 62) : Int32).toNatClampNeg) ((62 : Int32).toNatClampNeg)), J))) f_2_56 rfl ?_
      refine ev_nx (s1 := (2, 58, [.ref l0, .ref l1], [.int (((xcp (xu M l0 2 0) (sh.2.2.2 l1 0) ((0 : Int32).toNatClampNeg) (sh.2.2.2 l0 1) (((((xu M l0 2 0) l0 2) * 62) : Int32).toNatClampNeg) ((62 : Int32).toNatClampNeg)) l0 0) + 1), .ref l0], (sh, (xcp (xu M l0 2 0) (sh.2.2.2 l1 0) ((0 : Int32).toNatClampNeg) (sh.2.2.2 l0 1) (((((xu M l0 2 0) l0 2) * 62) : Int32).toNatClampNeg) ((62 : Int32).toNatClampNeg)), J))) f_2_57 rfl ?_
      refine ev_nx (s1 := (2, 60, [.ref l0, .ref l1], [.int 20, .int (((xcp (xu M l0 2 0) (sh.2.2.2 l1 0) ((0 : Int32).toNatClampNeg) (sh.2.2.2 l0 1) (((((xu M l0 2 0) l0 2) * 62) : Int32).toNatClampNeg) ((62 : Int32).toNatClampNeg)) l0 0) + 1), .ref l0], (sh, (xcp (xu M l0 2 0) (sh.2.2.2 l1 0) ((0 : Int32).toNatClampNeg) (sh.2.2.2 l0 1) (((((xu M l0 2 0) l0 2) * 62) : Int32).toNatClampNeg) ((62 : Int32).toNatClampNeg)), J))) f_2_58 rfl ?_
      refine ev_nx (s1 := (2, 63, [.ref l0, .ref l1], [.int (xmin (((xcp (xu M l0 2 0) (sh.2.2.2 l1 0) ((0 : Int32).toNatClampNeg) (sh.2.2.2 l0 1) (((((xu M l0 2 0) l0 2) * 62) : Int32).toNatClampNeg) ((62 : Int32).toNatClampNeg)) l0 0) + 1) 20), .ref l0], (sh, (xcp (xu M l0 2 0) (sh.2.2.2 l1 0) ((0 : Int32).toNatClampNeg) (sh.2.2.2 l0 1) (((((xu M l0 2 0) l0 2) * 62) : Int32).toNatClampNeg) ((62 : Int32).toNatClampNeg)), J))) f_2_60 rfl ?_
      refine ev_gd (s1 := (2, 66, [.ref l0, .ref l1], [], (sh, (xu (xcp (xu M l0 2 0) (sh.2.2.2 l1 0) ((0 : Int32).toNatClampNeg) (sh.2.2.2 l0 1) (((((xu M l0 2 0) l0 2) * 62) : Int32).toNatClampNeg) ((62 : Int32).toNatClampNeg)) l0 0 (xmin (((xcp (xu M l0 2 0) (sh.2.2.2 l1 0) ((0 : Int32).toNatClampNeg) (sh.2.2.2 l0 1) (((((xu M l0 2 0) l0 2) * 62) : Int32).toNatClampNeg) ((62 : Int32).toNatClampNeg)) l0 0) + 1) 20)), J))) f_2_63 rfl ?_
      exact ev_r1 f_2_66 rfl
    · refine ev_nx (s1 := (2, 18, [.ref l0, .ref l1], [.ref l0, .ref l0], (sh, M, J))) f_2_17 rfl ?_
      refine ev_gd (s1 := (2, 21, [.ref l0, .ref l1], [.int (M l0 2), .ref l0], (sh, M, J))) f_2_18 rfl ?_
      refine ev_nx (s1 := (2, 22, [.ref l0, .ref l1], [.int 1, .int (M l0 2), .ref l0], (sh, M, J))) f_2_21 rfl ?_
      refine ev_nx (s1 := (2, 23, [.ref l0, .ref l1], [.int ((M l0 2) + 1), .ref l0], (sh, M, J))) f_2_22 rfl ?_
      refine ev_nx (s1 := (2, 27, [.ref l0, .ref l1], [.int ((M l0 2) + 1), .ref l0], (sh, M, J))) f_2_23 rfl ?_
      refine ev_gd (s1 := (2, 30, [.ref l0, .ref l1], [], (sh, (xu M l0 2 ((M l0 2) + 1)), J))) f_2_27 rfl ?_
      refine ev_nx (s1 := (2, 31, [.ref l0, .ref l1], [.ref l1], (sh, (xu M l0 2 ((M l0 2) + 1)), J))) f_2_30 rfl ?_
      refine ev_gd (s1 := (2, 34, [.ref l0, .ref l1], [.ref (sh.2.2.2 l1 0)], (sh, (xu M l0 2 ((M l0 2) + 1)), J))) f_2_31 rfl ?_
      refine ev_nx (s1 := (2, 35, [.ref l0, .ref l1], [.int 0, .ref (sh.2.2.2 l1 0)], (sh, (xu M l0 2 ((M l0 2) + 1)), J))) f_2_34 rfl ?_
      refine ev_nx (s1 := (2, 36, [.ref l0, .ref l1], [.ref l0, .int 0, .ref (sh.2.2.2 l1 0)], (sh, (xu M l0 2 ((M l0 2) + 1)), J))) f_2_35 rfl ?_
      refine ev_gd (s1 := (2, 39, [.ref l0, .ref l1], [.ref (sh.2.2.2 l0 1), .int 0, .ref (sh.2.2.2 l1 0)], (sh, (xu M l0 2 ((M l0 2) + 1)), J))) f_2_36 rfl ?_
      refine ev_nx (s1 := (2, 40, [.ref l0, .ref l1], [.ref l0, .ref (sh.2.2.2 l0 1), .int 0, .ref (sh.2.2.2 l1 0)], (sh, (xu M l0 2 ((M l0 2) + 1)), J))) f_2_39 rfl ?_
      refine ev_gd (s1 := (2, 43, [.ref l0, .ref l1], [.int ((xu M l0 2 ((M l0 2) + 1)) l0 2), .ref (sh.2.2.2 l0 1), .int 0, .ref (sh.2.2.2 l1 0)], (sh, (xu M l0 2 ((M l0 2) + 1)), J))) f_2_40 rfl ?_
      refine ev_nx (s1 := (2, 45, [.ref l0, .ref l1], [.int 62, .int ((xu M l0 2 ((M l0 2) + 1)) l0 2), .ref (sh.2.2.2 l0 1), .int 0, .ref (sh.2.2.2 l1 0)], (sh, (xu M l0 2 ((M l0 2) + 1)), J))) f_2_43 rfl ?_
      refine ev_nx (s1 := (2, 46, [.ref l0, .ref l1], [.int (((xu M l0 2 ((M l0 2) + 1)) l0 2) * 62), .ref (sh.2.2.2 l0 1), .int 0, .ref (sh.2.2.2 l1 0)], (sh, (xu M l0 2 ((M l0 2) + 1)), J))) f_2_45 rfl ?_
      refine ev_nx (s1 := (2, 48, [.ref l0, .ref l1], [.int 62, .int (((xu M l0 2 ((M l0 2) + 1)) l0 2) * 62), .ref (sh.2.2.2 l0 1), .int 0, .ref (sh.2.2.2 l1 0)], (sh, (xu M l0 2 ((M l0 2) + 1)), J))) f_2_46 rfl ?_
      refine ev_gd (s1 := (2, 51, [.ref l0, .ref l1], [], (sh, (xcp (xu M l0 2 ((M l0 2) + 1)) (sh.2.2.2 l1 0) ((0 : Int32).toNatClampNeg) (sh.2.2.2 l0 1) (((((xu M l0 2 ((M l0 2) + 1)) l0 2) * 62) : Int32).toNatClampNeg) ((62 : Int32).toNatClampNeg)), J))) f_2_48 rfl ?_
      refine ev_nx (s1 := (2, 52, [.ref l0, .ref l1], [.ref l0], (sh, (xcp (xu M l0 2 ((M l0 2) + 1)) (sh.2.2.2 l1 0) ((0 : Int32).toNatClampNeg) (sh.2.2.2 l0 1) (((((xu M l0 2 ((M l0 2) + 1)) l0 2) * 62) : Int32).toNatClampNeg) ((62 : Int32).toNatClampNeg)), J))) f_2_51 rfl ?_
      refine ev_nx (s1 := (2, 53, [.ref l0, .ref l1], [.ref l0, .ref l0], (sh, (xcp (xu M l0 2 ((M l0 2) + 1)) (sh.2.2.2 l1 0) ((0 : Int32).toNatClampNeg) (sh.2.2.2 l0 1) (((((xu M l0 2 ((M l0 2) + 1)) l0 2) * 62) : Int32).toNatClampNeg) ((62 : Int32).toNatClampNeg)), J))) f_2_52 rfl ?_
      refine ev_gd (s1 := (2, 56, [.ref l0, .ref l1], [.int ((xcp (xu M l0 2 ((M l0 2) + 1)) (sh.2.2.2 l1 0) ((0 : Int32).toNatClampNeg) (sh.2.2.2 l0 1) (((((xu M l0 2 ((M l0 2) + 1)) l0 2) * 62) : Int32).toNatClampNeg) ((62 : Int32).toNatClampNeg)) l0 0), .ref l0], (sh, (xcp (xu M l0 2 ((M l0 2) + 1)) (sh.2.2.2 l1 0) ((0 : Int32).toNatClampNeg) (sh.2.2.2 l0 1) (((((xu M l0 2 ((M l0 2) + 1)) l0 2) * 62) : Int32).toNatClampNeg) ((62 : Int32).toNatClampNeg)), J))) f_2_53 rfl ?_
      refine ev_nx (s1 := (2, 57, [.ref l0, .ref l1], [.int 1, .int ((xcp (xu M l0 2 ((M l0 2) + 1)) (sh.2.2.2 l1 0) ((0 : Int32).toNatClampNeg) (sh.2.2.2 l0 1) (((((xu M l0 2 ((M l0 2) + 1)) l0 2) * 62) : Int32).toNatClampNeg) ((62 : Int32).toNatClampNeg)) l0 0), .ref l0], (sh, (xcp (xu M l0 2 ((M l0 2) + 1)) (sh.2.2.2 l1 0) ((0 : Int32).toNatClampNeg) (sh.2.2.2 l0 1) (((((xu M l0 2 ((M l0 2) + 1)) l0 2) * 62) : Int32).toNatClampNeg) ((62 : Int32).toNatClampNeg)), J))) f_2_56 rfl ?_
      refine ev_nx (s1 := (2, 58, [.ref l0, .ref l1], [.int (((xcp (xu M l0 2 ((M l0 2) + 1)) (sh.2.2.2 l1 0) ((0 : Int32).toNatClampNeg) (sh.2.2.2 l0 1) (((((xu M l0 2 ((M l0 2) + 1)) l0 2) * 62) : Int32).toNatClampNeg) ((62 : Int32).toNatClampNeg)) l0 0) + 1), .ref l0], (sh, (xcp (xu M l0 2 ((M l0 2) + 1)) (sh.2.2.2 l1 0) ((0 : Int32).toNatClampNeg) (sh.2.2.2 l0 1) (((((xu M l0 2 ((M l0 2) + 1)) l0 2) * 62) : Int32).toNatClampNeg) ((62 : Int32).toNatClampNeg)), J))) f_2_57 rfl ?_
      refine ev_nx (s1 := (2, 60, [.ref l0, .ref l1], [.int 20, .int (((xcp (xu M l0 2 ((M l0 2) + 1)) (sh.2.2.2 l1 0) ((0 : Int32).toNatClampNeg) (sh.2.2.2 l0 1) (((((xu M l0 2 ((M l0 2) + 1)) l0 2) * 62) : Int32).toNatClampNeg) ((62 : Int32).toNatClampNeg)) l0 0) + 1), .ref l0], (sh, (xcp (xu M l0 2 ((M l0 2) + 1)) (sh.2.2.2 l1 0) ((0 : Int32).toNatClampNeg) (sh.2.2.2 l0 1) (((((xu M l0 2 ((M l0 2) + 1)) l0 2) * 62) : Int32).toNatClampNeg) ((62 : Int32).toNatClampNeg)), J))) f_2_58 rfl ?_
      refine ev_nx (s1 := (2, 63, [.ref l0, .ref l1], [.int (xmin (((xcp (xu M l0 2 ((M l0 2) + 1)) (sh.2.2.2 l1 0) ((0 : Int32).toNatClampNeg) (sh.2.2.2 l0 1) (((((xu M l0 2 ((M l0 2) + 1)) l0 2) * 62) : Int32).toNatClampNeg) ((62 : Int32).toNatClampNeg)) l0 0) + 1) 20), .ref l0], (sh, (xcp (xu M l0 2 ((M l0 2) + 1)) (sh.2.2.2 l1 0) ((0 : Int32).toNatClampNeg) (sh.2.2.2 l0 1) (((((xu M l0 2 ((M l0 2) + 1)) l0 2) * 62) : Int32).toNatClampNeg) ((62 : Int32).toNatClampNeg)), J))) f_2_60 rfl ?_
      refine ev_gd (s1 := (2, 66, [.ref l0, .ref l1], [], (sh, (xu (xcp (xu M l0 2 ((M l0 2) + 1)) (sh.2.2.2 l1 0) ((0 : Int32).toNatClampNeg) (sh.2.2.2 l0 1) (((((xu M l0 2 ((M l0 2) + 1)) l0 2) * 62) : Int32).toNatClampNeg) ((62 : Int32).toNatClampNeg)) l0 0 (xmin (((xcp (xu M l0 2 ((M l0 2) + 1)) (sh.2.2.2 l1 0) ((0 : Int32).toNatClampNeg) (sh.2.2.2 l0 1) (((((xu M l0 2 ((M l0 2) + 1)) l0 2) * 62) : Int32).toNatClampNeg) ((62 : Int32).toNatClampNeg)) l0 0) + 1) 20)), J))) f_2_63 rfl ?_
      exact ev_r1 f_2_66 rfl
theorem f_3_0 : xfind (xnth xTs 3) 0 = some (0, .aload_n 0, 1, (0, 0, 0, 0), .null, [], 0, 0, []) := rfl
theorem f_3_1 : xfind (xnth xTs 3) 1 = some (1, .getfield 9, 3, (0, 0, 0, 0), .null, [], 192, 0, []) := rfl
theorem f_3_4 : xfind (xnth xTs 3) 4 = some (4, .iconst 1, 1, (0, 0, 0, 0), (.int 1), [], 0, 0, []) := rfl
theorem f_3_5 : xfind (xnth xTs 3) 5 = some (5, .if_icmp .lt 19, 3, (0, 0, 0, 0), .null, [], 0, 0, []) := rfl
theorem f_3_8 : xfind (xnth xTs 3) 8 = some (8, .aload_n 0, 1, (0, 0, 0, 0), .null, [], 0, 0, []) := rfl
theorem f_3_9 : xfind (xnth xTs 3) 9 = some (9, .getfield 21, 3, (0, 2, 0, 0), .null, [], 195, 0, []) := rfl
theorem f_3_12 : xfind (xnth xTs 3) 12 = some (12, .ifCond .lt 12, 3, (0, 0, 0, 0), .null, [], 0, 0, []) := rfl
theorem f_3_15 : xfind (xnth xTs 3) 15 = some (15, .aload_n 0, 1, (0, 0, 0, 0), .null, [], 0, 0, []) := rfl
theorem f_3_16 : xfind (xnth xTs 3) 16 = some (16, .getfield 21, 3, (0, 2, 0, 0), .null, [], 195, 0, []) := rfl
theorem f_3_19 : xfind (xnth xTs 3) 19 = some (19, .bipush 20, 2, (0, 0, 0, 0), (.int 20), [], 0, 0, []) := rfl
theorem f_3_21 : xfind (xnth xTs 3) 21 = some (21, .if_icmp .lt 5, 3, (0, 0, 0, 0), .null, [], 0, 0, []) := rfl
theorem f_3_24 : xfind (xnth xTs 3) 24 = some (24, .iconst 0, 1, (0, 0, 0, 0), (.int 0), [], 0, 0, []) := rfl
theorem f_3_25 : xfind (xnth xTs 3) 25 = some (25, .ireturn, 1, (1, 0, 0, 0), .null, [], 0, 0, []) := rfl
theorem f_3_26 : xfind (xnth xTs 3) 26 = some (26, .aload_n 0, 1, (0, 0, 0, 0), .null, [], 0, 0, []) := rfl
theorem f_3_27 : xfind (xnth xTs 3) 27 = some (27, .getfield 17, 3, (0, 1, 1, 0), .null, [], 194, 0, []) := rfl
theorem f_3_30 : xfind (xnth xTs 3) 30 = some (30, .aload_n 0, 1, (0, 0, 0, 0), .null, [], 0, 0, []) := rfl
theorem f_3_31 : xfind (xnth xTs 3) 31 = some (31, .getfield 21, 3, (0, 2, 0, 0), .null, [], 195, 0, []) := rfl
theorem f_3_34 : xfind (xnth xTs 3) 34 = some (34, .bipush 62, 2, (0, 0, 0, 0), (.int 62), [], 0, 0, []) := rfl
theorem f_3_36 : xfind (xnth xTs 3) 36 = some (36, .imul, 1, (0, 0, 0, 0), .null, [], 0, 0, []) := rfl
theorem f_3_37 : xfind (xnth xTs 3) 37 = some (37, .aload_n 1, 1, (0, 0, 0, 0), .null, [], 0, 0, []) := rfl
theorem f_3_38 : xfind (xnth xTs 3) 38 = some (38, .getfield 24, 3, (6, 0, 1, 0), .null, [], 139, 0, []) := rfl
theorem f_3_41 : xfind (xnth xTs 3) 41 = some (41, .iconst 0, 1, (0, 0, 0, 0), (.int 0), [], 0, 0, []) := rfl
theorem f_3_42 : xfind (xnth xTs 3) 42 = some (42, .bipush 62, 2, (0, 0, 0, 0), (.int 62), [], 0, 0, []) := rfl
theorem f_3_44 : xfind (xnth xTs 3) 44 = some (44, .invokestatic 27, 3, (999, 0, 0, 0), .null, [], 620, 0, []) := rfl
theorem f_3_47 : xfind (xnth xTs 3) 47 = some (47, .aload_n 0, 1, (0, 0, 0, 0), .null, [], 0, 0, []) := rfl
theorem f_3_48 : xfind (xnth xTs 3) 48 = some (48, .aload_n 0, 1, (0, 0, 0, 0), .null, [], 0, 0, []) := rfl
theorem f_3_49 : xfind (xnth xTs 3) 49 = some (49, .getfield 21, 3, (0, 2, 0, 0), .null, [], 195, 0, []) := rfl
theorem f_3_52 : xfind (xnth xTs 3) 52 = some (52, .ifCond .le 12, 3, (0, 0, 0, 0), .null, [], 0, 0, []) := rfl
theorem f_3_55 : xfind (xnth xTs 3) 55 = some (55, .aload_n 0, 1, (0, 0, 0, 0), .null, [], 0, 0, []) := rfl
theorem f_3_56 : xfind (xnth xTs 3) 56 = some (56, .getfield 21, 3, (0, 2, 0, 0), .null, [], 195, 0, []) := rfl
theorem f_3_59 : xfind (xnth xTs 3) 59 = some (59, .iconst 1, 1, (0, 0, 0, 0), (.int 1), [], 0, 0, []) := rfl
theorem f_3_60 : xfind (xnth xTs 3) 60 = some (60, .isub, 1, (0, 0, 0, 0), .null, [], 0, 0, []) := rfl
theorem f_3_61 : xfind (xnth xTs 3) 61 = some (61, .goto 5, 3, (0, 0, 0, 0), .null, [], 0, 0, []) := rfl
theorem f_3_64 : xfind (xnth xTs 3) 64 = some (64, .bipush 19, 2, (0, 0, 0, 0), (.int 19), [], 0, 0, []) := rfl
theorem f_3_66 : xfind (xnth xTs 3) 66 = some (66, .putfield 21, 3, (0, 2, 0, 0), .null, [], 195, 0, []) := rfl
theorem f_3_69 : xfind (xnth xTs 3) 69 = some (69, .aload_n 0, 1, (0, 0, 0, 0), .null, [], 0, 0, []) := rfl
theorem f_3_70 : xfind (xnth xTs 3) 70 = some (70, .dup, 1, (0, 0, 0, 0), .null, [], 0, 0, []) := rfl
theorem f_3_71 : xfind (xnth xTs 3) 71 = some (71, .getfield 9, 3, (0, 0, 0, 0), .null, [], 192, 0, []) := rfl
theorem f_3_74 : xfind (xnth xTs 3) 74 = some (74, .iconst 1, 1, (0, 0, 0, 0), (.int 1), [], 0, 0, []) := rfl
theorem f_3_75 : xfind (xnth xTs 3) 75 = some (75, .isub, 1, (0, 0, 0, 0), .null, [], 0, 0, []) := rfl
theorem f_3_76 : xfind (xnth xTs 3) 76 = some (76, .putfield 9, 3, (0, 0, 0, 0), .null, [], 192, 0, []) := rfl
theorem f_3_79 : xfind (xnth xTs 3) 79 = some (79, .iconst 1, 1, (0, 0, 0, 0), (.int 1), [], 0, 0, []) := rfl
theorem f_3_80 : xfind (xnth xTs 3) 80 = some (80, .ireturn, 1, (1, 0, 0, 0), .null, [], 0, 0, []) := rfl
theorem b_History_takeBack_0 (sh : xSh) (M : Nat → Nat → Int32) (J : Nat → Nat → Int64) (l0 : Nat) (l1 : Nat) : ev (3, 0, [.ref l0, .ref l1], [], (sh, M, J)) = (bif decide ((sh.2.2.1 l0).1 = 0) then bif decide ((M l0 0) < 1) then some (some (.int 0), (sh, M, J)) else bif decide ((sh.2.2.1 l0).1 = 0) then bif decide ((M l0 2) < 0) then some (some (.int 0), (sh, M, J)) else bif decide ((sh.2.2.1 l0).1 = 0) then bif decide ((M l0 2) < 20) then bif decide ((sh.2.2.1 l0).1 = 0) then bif decide ((sh.2.2.1 l0).1 = 0) then bif decide ((sh.2.2.1 l1).1 = 6) then bif (decide ((sh.2.2.1 (sh.2.2.2 l0 1)).1 = 11) && (decide ((sh.2.2.1 (sh.2.2.2 l1 0)).1 = 11) && (!decide ((((M l0 2) * 62) : Int32) < 0) && (!decide ((0 : Int32) < 0) && (!decide ((62 : Int32) < 0) && (decide ((((M l0 2) * 62) : Int32).toNatClampNeg + (62 : Int32).toNatClampNeg ≤ (sh.2.2.1 (sh.2.2.2 l0 1)).2) && (decide ((0 : Int32).toNatClampNeg + (62 : Int32).toNatClampNeg ≤ (sh.2.2.1 (sh.2.2.2 l1 0)).2) && true))))))) then bif decide ((sh.2.2.1 l0).1 = 0) then bif decide (((xcp M (sh.2.2.2 l0 1) ((((M l0 2) * 62) : Int32).toNatClampNeg) (sh.2.2.2 l1 0) ((0 : Int32).toNatClampNeg) ((62 : Int32).toNatClampNeg)) l0 2) ≤ 0) then bif decide ((sh.2.2.1 l0).1 = 0) then bif decide ((sh.2.2.1 l0).1 = 0) then bif decide ((sh.2.2.1 l0).1 = 0) then some (some (.int 1), (sh, (xu (xu (xcp M (sh.2.2.2 l0 1) ((((M l0 2) * 62) : Int32).toNatClampNeg) (sh.2.2.2 l1 0) ((0 : Int32).toNatClampNeg) ((62 : Int32).toNatClampNeg)) l0 2 19) l0 0 (((xu (xcp M (sh.2.2.2 l0 1) ((((M l0 2) * 62) : Int32).toNatClampNeg) (sh.2.2.2 l1 0) ((0 : Int32).toNatClampNeg) ((62 : Int32).toNatClampNeg)) l0 2 19) l0 0) - 1)), J)) else none else none else none else bif decide ((sh.2.2.1 l0).1 = 0) then bif decide ((sh.2.2.1 l0).1 = 0) then bif decide ((sh.2.2.1 l0).1 = 0) then bif decide ((sh.2.2.1 l0).1 = 0) then some (some (.int 1), (sh, (xu (xu (xcp M (sh.2.2.2 l0 1) ((((M l0 2) * 62) : Int32).toNatClampNeg) (sh.2.2.2 l1 0) ((0 : Int32).toNatClampNeg) ((62 : Int32).toNatClampNeg)) l0 2 (((xcp M (sh.2.2.2 l0 1) ((((M l0 2) * 62) : Int32).toNatClampNeg) (sh.2.2.2 l1 0) ((0 : Int32).toNatClampNeg) ((62 : Int32).toNatClampNeg)) l0 2) - 1)) l0 0 (((xu (xcp M (sh.2.2.2 l0 1) ((((M l0 2) * 62) : Int32).toNatClampNeg) (sh.2.2.2 l1 0) ((0 : Int32).toNatClampNeg) ((62 : Int32).toNatClampNeg)) l0 2 (((xcp M (sh.2.2.2 l0 1) ((((M l0 2) * 62) : Int32).toNatClampNeg) (sh.2.2.2 l1 0) ((0 : Int32).toNatClampNeg) ((62 : Int32).toNatClampNeg)) l0 2) - 1)) l0 0) - 1)), J)) else none else none else none else none else none else none else none else none else none else some (some (.int 0), (sh, M, J)) else none else none else none) := by
  refine ev_nx (s1 := (3, 1, [.ref l0, .ref l1], [.ref l0], (sh, M, J))) f_3_0 rfl ?_
  refine ev_gd (s1 := (3, 4, [.ref l0, .ref l1], [.int (M l0 0)], (sh, M, J))) f_3_1 rfl ?_
  refine ev_nx (s1 := (3, 5, [.ref l0, .ref l1], [.int 1, .int (M l0 0)], (sh, M, J))) f_3_4 rfl ?_
  refine ev_br (s1 := (3, 24, [.ref l0, .ref l1], [], (sh, M, J))) (s2 := (3, 8, [.ref l0, .ref l1], [], (sh, M, J))) f_3_5 rfl ?_ ?_
  · refine ev_nx (s1 := (3, 25, [.ref l0, .ref l1], [.int 0], (sh, M, J))) f_3_24 rfl ?_
    exact ev_r1 f_3_25 rfl
  · refine ev_nx (s1 := (3, 9, [.ref l0, .ref l1], [.ref l0], (sh, M, J))) f_3_8 rfl ?_
    refine ev_gd (s1 := (3, 12, [.ref l0, .ref l1], [.int (M l0 2)], (sh, M, J))) f_3_9 rfl ?_
    refine ev_br (s1 := (3, 24, [.ref l0, .ref l1], [], (sh, M, J))) (s2 := (3, 15, [.ref l0, .ref l1], [], (sh, M, J))) f_3_12 rfl ?_ ?_
    · refine ev_nx (s1 := (3, 25, [.ref l0, .ref l1], [.int 0], (sh, M, J))) f_3_24 rfl ?_
      exact ev_r1 f_3_25 rfl
    · refine ev_nx (s1 := (3, 16, [.ref l0, .ref l1], [.ref l0], (sh, M, J))) f_3_15 rfl ?_
      refine ev_gd (s1 := (3, 19, [.ref l0, .ref l1], [.int (M l0 2)], (sh, M, J))) f_3_16 rfl ?_
      refine ev_nx (s1 := (3, 21, [.ref l0, .ref l1], [.int 20, .int (M l0 2)], (sh, M, J))) f_3_19 rfl ?_
      refine ev_br (s1 := (3, 26, [.ref l0, .ref l1], [], (sh, M, J))) (s2 := (3, 24, [.ref l0, .ref l1], [], (sh, M, J))) f_3_21 rfl ?_ ?_
      · refine ev_nx (s1 := (3, 27, [.ref l0, .ref l1], [.ref l0], (sh, M, J))) f_3_26 rfl ?_
        refine ev_gd (s1 := (3, 30, [.ref l0, .ref l1], [.ref (sh.2.2.2 l0 1)], (sh, M, J))) f_3_27 rfl ?_
        refine ev_nx (s1 := (3, 31, [.ref l0, .ref l1], [.ref l0, .ref (sh.2.2.2 l0 1)], (sh, M, J))) f_3_30 rfl ?_
        refine ev_gd (s1 := (3, 34, [.ref l0, .ref l1], [.int (M l0 2), .ref (sh.2.2.2 l0 1)], (sh, M, J))) f_3_31 rfl ?_
        refine ev_nx (s1 := (3, 36, [.ref l0, .ref l1], [.int 62, .int (M l0 2), .ref (sh.2.2.2 l0 1)], (sh, M, J))) f_3_34 rfl ?_
        refine ev_nx (s1 := (3, 37, [.ref l0, .ref l1], [.int ((M l0 2) * 62), .ref (sh.2.2.2 l0 1)], (sh, M, J))) f_3_36 rfl ?_
        refine ev_nx (s1 := (3, 38, [.ref l0, .ref l1], [.ref l1, .int ((M l0 2) * 62), .ref (sh.2.2.2 l0 1)], (sh, M, J))) f_3_37 rfl ?_
        refine ev_gd (s1 := (3, 41, [.ref l0, .ref l1], [.ref (sh.2.2.2 l1 0), .int ((M l0 2) * 62), .ref (sh.2.2.2 l0 1)], (sh, M, J))) f_3_38 rfl ?_
        refine ev_nx (s1 := (3, 42, [.ref l0, .ref l1], [.int 0, .ref (sh.2.2.2 l1 0), .int ((M l0 2) * 62), .ref (sh.2.2.2 l0 1)], (sh, M, J))) f_3_41 rfl ?_
        refine ev_nx (s1 := (3, 44, [.ref l0, .ref l1], [.int 62, .int 0, .ref (sh.2.2.2 l1 0), .int ((M l0 2) * 62), .ref (sh.2.2.2 l0 1)], (sh, M, J))) f_3_42 rfl ?_
        refine ev_gd (s1 := (3, 47, [.ref l0, .ref l1], [], (sh, (xcp M (sh.2.2.2 l0 1) ((((M l0 2) * 62) : Int32).toNatClampNeg) (sh.2.2.2 l1 0) ((0 : Int32).toNatClampNeg) ((62 : Int32).toNatClampNeg)), J))) f_3_44 rfl ?_
        refine ev_nx (s1 := (3, 48, [.ref l0, .ref l1], [.ref l0], (sh, (xcp M (sh.2.2.2 l0 1) ((((M l0 2) * 62) : Int32).toNatClampNeg) (sh.2.2.2 l1 0) ((0 : Int32).toNatClampNeg) ((62 : Int32).toNatClampNeg)), J))) f_3_47 rfl ?_
        refine ev_nx (s1 := (3, 49, [.ref l0, .ref l1], [.ref l0, .ref l0], (sh, (xcp M (sh.2.2.2 l0 1) ((((M l0 2) * 62) : Int32).toNatClampNeg) (sh.2.2.2 l1 0) ((0 : Int32).toNatClampNeg) ((62 : Int32).toNatClampNeg)), J))) f_3_48 rfl ?_
        refine ev_gd (s1 := (3, 52, [.ref l0, .ref l1], [.int ((xcp M (sh.2.2.2 l0 1) ((((M l0 2) * 62) : Int32).toNatClampNeg) (sh.2.2.2 l1 0) ((0 : Int32).toNatClampNeg) ((62 : Int32).toNatClampNeg)) l0 2), .ref l0], (sh, (xcp M (sh.2.2.2 l0 1) ((((M l0 2) * 62) : Int32).toNatClampNeg) (sh.2.2.2 l1 0) ((0 : Int32).toNatClampNeg) ((62 : Int32).toNatClampNeg)), J))) f_3_49 rfl ?_
        refine ev_br (s1 := (3, 64, [.ref l0, .ref l1], [.ref l0], (sh, (xcp M (sh.2.2.2 l0 1) ((((M l0 2) * 62) : Int32).toNatClampNeg) (sh.2.2.2 l1 0) ((0 : Int32).toNatClampNeg) ((62 : Int32).toNatClampNeg)), J))) (s2 := (3, 55, [.ref l0, .ref l1], [.ref l0], (sh, (xcp M (sh.2.2.2 l0 1) ((((M l0 2) * 62) : Int32).toNatClampNeg) (sh.2.2.2 l1 0) ((0 : Int32).toNatClampNeg) ((62 : Int32).toNatClampNeg)), J))) f_3_52 rfl ?_ ?_
        · refine ev_nx (s1 := (3, 66, [.ref l0, .ref l1], [.int 19, .ref l0], (sh, (xcp M (sh.2.2.2 l0 1) ((((M l0 2) * 62) : Int32).toNatClampNeg) (sh.2.2.2 l1 0) ((0 : Int32).toNatClampNeg) ((62 : Int32).toNatClampNeg)), J))) f_3_64 rfl ?_
          refine ev_gd (s1 := (3, 69, [.ref l0, .ref l1], [], (sh, (xu (xcp M (sh.2.2.2 l0 1) ((((M l0 2) * 62) : Int32).toNatClampNeg) (sh.2.2.2 l1 0) ((0 : Int32).toNatClampNeg) ((62 : Int32).toNatClampNeg)) l0 2 19), J))) f_3_66 rfl ?_
          refine ev_nx (s1 := (3, 70, [.ref l0, .ref l1], [.ref l0], (sh, (xu (xcp M (sh.2.2.2 l0 1) ((((M l0 2) * 62) : Int32).toNatClampNeg) (sh.2.2.2 l1 0) ((0 : Int32).toNatClampNeg) ((62 : Int32).toNatClampNeg)) l0 2 19), J))) f_3_69 rfl ?_
          refine ev_nx (s1 := (3, 71, [.ref l0, .ref l1], [.ref l0, .ref l0], (sh, (xu (xcp M (sh.2.2.2 l0 1) ((((M l0 2) * 62) : Int32).toNatClampNeg) (sh.2.2.2 l1 0) ((0 : Int32).toNatClampNeg) ((62 : Int32).toNatClampNeg)) l0 2 19), J))) f_3_70 rfl ?_
          refine ev_gd (s1 := (3, 74, [.ref l0, .ref l1], [.int ((xu (xcp M (sh.2.2.2 l0 1) ((((M l0 2) * 62) : Int32).toNatClampNeg) (sh.2.2.2 l1 0) ((0 : Int32).toNatClampNeg) ((62 : Int32).toNatClampNeg)) l0 2 19) l0 0), .ref l0], (sh, (xu (xcp M (sh.2.2.2 l0 1) ((((M l0 2) * 62) : Int32).toNatClampNeg) (sh.2.2.2 l1 0) ((0 : Int32).toNatClampNeg) ((62 : Int32).toNatClampNeg)) l0 2 19), J))) f_3_71 rfl ?_
          refine ev_nx (s1 := (3, 75, [.ref l0, .ref l1], [.int 1, .int ((xu (xcp M (sh.2.2.2 l0 1) ((((M l0 2) * 62) : Int32).toNatClampNeg) (sh.2.2.2 l1 0) ((0 : Int32).toNatClampNeg) ((62 : Int32).toNatClampNeg)) l0 2 19) l0 0), .ref l0], (sh, (xu (xcp M (sh.2.2.2 l0 1) ((((M l0 2) * 62) : Int32).toNatClampNeg) (sh.2.2.2 l1 0) ((0 : Int32).toNatClampNeg) ((62 : Int32).toNatClampNeg)) l0 2 19), J))) f_3_74 rfl ?_
          refine ev_nx (s1 := (3, 76, [.ref l0, .ref l1], [.int (((xu (xcp M (sh.2.2.2 l0 1) ((((M l0 2) * 62) : Int32).toNatClampNeg) (sh.2.2.2 l1 0) ((0 : Int32).toNatClampNeg) ((62 : Int32).toNatClampNeg)) l0 2 19) l0 0) - 1), .ref l0], (sh, (xu (xcp M (sh.2.2.2 l0 1) ((((M l0 2) * 62) : Int32).toNatClampNeg) (sh.2.2.2 l1 0) ((0 : Int32).toNatClampNeg) ((62 : Int32).toNatClampNeg)) l0 2 19), J))) f_3_75 rfl ?_
          refine ev_gd (s1 := (3, 79, [.ref l0, .ref l1], [], (sh, (xu (xu (xcp M (sh.2.2.2 l0 1) ((((M l0 2) * 62) : Int32).toNatClampNeg) (sh.2.2.2 l1 0) ((0 : Int32).toNatClampNeg) ((62 : Int32).toNatClampNeg)) l0 2 19) l0 0 (((xu (xcp M (sh.2.2.2 l0 1) ((((M l0 2) * 62) : Int32).toNatClampNeg) (sh.2.2.2 l1 0) ((0 : Int32).toNatClampNeg) ((62 : Int32).toNatClampNeg)) l0 2 19) l0 0) - 1)), J))) f_3_76 rfl ?_
          refine ev_nx (s1 := (3, 80, [.ref l0, .ref l1], [.int 1], (sh, (xu (xu (xcp M (sh.2.2.2 l0 1) ((((M l0 2) * 62) : Int32).toNatClampNeg) (sh.2.2.2 l1 0) ((0 : Int32).toNatClampNeg) ((62 : Int32).toNatClampNeg)) l0 2 19) l0 0 (((xu (xcp M (sh.2.2.2 l0 1) ((((M l0 2) * 62) : Int32).toNatClampNeg) (sh.2.2.2 l1 0) ((0 : Int32).toNatClampNeg) ((62 : Int32).toNatClampNeg)) l0 2 19) l0 0) - 1)), J))) f_3_79 rfl ?_
          exact ev_r1 f_3_80 rfl
        · refine ev_nx (s1 := (3, 56, [.ref l0, .ref l1], [.ref l0, .ref l0], (sh, (xcp M (sh.2.2.2 l0 1) ((((M l0 2) * 62) : Int32).toNatClampNeg) (sh.2.2.2 l1 0) ((0 : Int32).toNatClampNeg) ((62 : Int32).toNatClampNeg)), J))) f_3_55 rfl ?_
          refine ev_gd (s1 := (3, 59, [.ref l0, .ref l1], [.int ((xcp M (sh.2.2.2 l0 1) ((((M l0 2) * 62) : Int32).toNatClampNeg) (sh.2.2.2 l1 0) ((0 : Int32).toNatClampNeg) ((62 : Int32).toNatClampNeg)) l0 2), .ref l0], (sh, (xcp M (sh.2.2.2 l0 1) ((((M l0 2) * 62) : Int32).toNatClampNeg) (sh.2.2.2 l1 0) ((0 : Int32).toNatClampNeg) ((62 : Int32).toNatClampNeg)), J))) f_3_56 rfl ?_
          refine ev_nx (s1 := (3, 60, [.ref l0, .ref l1], [.int 1, .int ((xcp M (sh.2.2.2 l0 1) ((((M l0 2) * 62) : Int32).toNatClampNeg) (sh.2.2.2 l1 0) ((0 : Int32).toNatClampNeg) ((62 : Int32).toNatClampNeg)) l0 2), .ref l0], (sh, (xcp M (sh.2.2.2 l0 1) ((((M l0 2) * 62) : Int32).toNatClampNeg) (sh.2.2.2 l1 0) ((0 : Int32).toNatClampNeg) ((62 : Int32).toNatClampNeg)), J))) f_3_59 rfl ?_
          refine ev_nx (s1 := (3, 61, [.ref l0, .ref l1], [.int (((xcp M (sh.2.2.2 l0 1) ((((M l0 2) * 62) : Int32).toNatClampNeg) (sh.2.2.2 l1 0) ((0 : Int32).toNatClampNeg) ((62 : Int32).toNatClampNeg)) l0 2) - 1), .ref l0], (sh, (xcp M (sh.2.2.2 l0 1) ((((M l0 2) * 62) : Int32).toNatClampNeg) (sh.2.2.2 l1 0) ((0 : Int32).toNatClampNeg) ((62 : Int32).toNatClampNeg)), J))) f_3_60 rfl ?_
          refine ev_nx (s1 := (3, 66, [.ref l0, .ref l1], [.int (((xcp M (sh.2.2.2 l0 1) ((((M l0 2) * 62) : Int32).toNatClampNeg) (sh.2.2.2 l1 0) ((0 : Int32).toNatClampNeg) ((62 : Int32).toNatClampNeg)) l0 2) - 1), .ref l0], (sh, (xcp M (sh.2.2.2 l0 1) ((((M l0 2) * 62) : Int32).toNatClampNeg) (sh.2.2.2 l1 0) ((0 : Int32).toNatClampNeg) ((62 : Int32).toNatClampNeg)), J))) f_3_61 rfl ?_
          refine ev_gd (s1 := (3, 69, [.ref l0, .ref l1], [], (sh, (xu (xcp M (sh.2.2.2 l0 1) ((((M l0 2) * 62) : Int32).toNatClampNeg) (sh.2.2.2 l1 0) ((0 : Int32).toNatClampNeg) ((62 : Int32).toNatClampNeg)) l0 2 (((xcp M (sh.2.2.2 l0 1) ((((M l0 2) * 62) : Int32).toNatClampNeg) (sh.2.2.2 l1 0) ((0 : Int32).toNatClampNeg) ((62 : Int32).toNatClampNeg)) l0 2) - 1)), J))) f_3_66 rfl ?_
          refine ev_nx (s1 := (3, 70, [.ref l0, .ref l1], [.ref l0], (sh, (xu (xcp M (sh.2.2.2 l0 1) ((((M l0 2) * 62) : Int32).toNatClampNeg) (sh.2.2.2 l1 0) ((0 : Int32).toNatClampNeg) ((62 : Int32).toNatClampNeg)) l0 2 (((xcp M (sh.2.2.2 l0 1) ((((M l0 2) * 62) : Int32).toNatClampNeg) (sh.2.2.2 l1 0) ((0 : Int32).toNatClampNeg) ((62 : Int32).toNatClampNeg)) l0 2) - 1)), J))) f_3_69 rfl ?_
          refine ev_nx (s1 := (3, 71, [.ref l0, .ref l1], [.ref l0, .ref l0], (sh, (xu (xcp M (sh.2.2.2 l0 1) ((((M l0 2) * 62) : Int32).toNatClampNeg) (sh.2.2.2 l1 0) ((0 : Int32).toNatClampNeg) ((62 : Int32).toNatClampNeg)) l0 2 (((xcp M (sh.2.2.2 l0 1) ((((M l0 2) * 62) : Int32).toNatClampNeg) (sh.2.2.2 l1 0) ((0 : Int32).toNatClampNeg) ((62 : Int32).toNatClampNeg)) l0 2) - 1)), J))) f_3_70 rfl ?_
          refine ev_gd (s1 := (3, 74, [.ref l0, .ref l1], [.int ((xu (xcp M (sh.2.2.2 l0 1) ((((M l0 2) * 62) : Int32).toNatClampNeg) (sh.2.2.2 l1 0) ((0 : Int32).toNatClampNeg) ((62 : Int32).toNatClampNeg)) l0 2 (((xcp M (sh.2.2.2 l0 1) ((((M l0 2) * 62) : Int32).toNatClampNeg) (sh.2.2.2 l1 0) ((0 : Int32).toNatClampNeg) ((62 : Int32).toNatClampNeg)) l0 2) - 1)) l0 0), .ref l0], (sh, (xu (xcp M (sh.2.2.2 l0 1) ((((M l0 2) * 62) : Int32).toNatClampNeg) (sh.2.2.2 l1 0) ((0 : Int32).toNatClampNeg) ((62 : Int32).toNatClampNeg)) l0 2 (((xcp M (sh.2.2.2 l0 1) ((((M l0 2) * 62) : Int32).toNatClampNeg) (sh.2.2.2 l1 0) ((0 : Int32).toNatClampNeg) ((62 : Int32).toNatClampNeg)) l0 2) - 1)), J))) f_3_71 rfl ?_
          refine ev_nx (s1 := (3, 75, [.ref l0, .ref l1], [.int 1, .int ((xu (xcp M (sh.2.2.2 l0 1) ((((M l0 2) * 62) : Int32).toNatClampNeg) (sh.2.2.2 l1 0) ((0 : Int32).toNatClampNeg) ((62 : Int32).toNatClampNeg)) l0 2 (((xcp M (sh.2.2.2 l0 1) ((((M l0 2) * 62) : Int32).toNatClampNeg) (sh.2.2.2 l1 0) ((0 : Int32).toNatClampNeg) ((62 : Int32).toNatClampNeg)) l0 2) - 1)) l0 0), .ref l0], (sh, (xu (xcp M (sh.2.2.2 l0 1) ((((M l0 2) * 62) : Int32).toNatClampNeg) (sh.2.2.2 l1 0) ((0 : Int32).toNatClampNeg) ((62 : Int32).toNatClampNeg)) l0 2 (((xcp M (sh.2.2.2 l0 1) ((((M l0 2) * 62) : Int32).toNatClampNeg) (sh.2.2.2 l1 0) ((0 : Int32).toNatClampNeg) ((62 : Int32).toNatClampNeg)) l0 2) - 1)), J))) f_3_74 rfl ?_
          refine ev_nx (s1 := (3, 76, [.ref l0, .ref l1], [.int (((xu (xcp M (sh.2.2.2 l0 1) ((((M l0 2) * 62) : Int32).toNatClampNeg) (sh.2.2.2 l1 0) ((0 : Int32).toNatClampNeg) ((62 : Int32).toNatClampNeg)) l0 2 (((xcp M (sh.2.2.2 l0 1) ((((M l0 2) * 62) : Int32).toNatClampNeg) (sh.2.2.2 l1 0) ((0 : Int32).toNatClampNeg) ((62 : Int32).toNatClampNeg)) l0 2) - 1)) l0 0) - 1), .ref l0], (sh, (xu (xcp M (sh.2.2.2 l0 1) ((((M l0 2) * 62) : Int32).toNatClampNeg) (sh.2.2.2 l1 0) ((0 : Int32).toNatClampNeg) ((62 : Int32).toNatClampNeg)) l0 2 (((xcp M (sh.2.2.2 l0 1) ((((M l0 2) * 62) : Int32).toNatClampNeg) (sh.2.2.2 l1 0) ((0 : Int32).toNatClampNeg) ((62 : Int32).toNatClampNeg)) l0 2) - 1)), J))) f_3_75 rfl ?_
          refine ev_gd (s1 := (3, 79, [.ref l0, .ref l1], [], (sh, (xu (xu (xcp M (sh.2.2.2 l0 1) ((((M l0 2) * 62) : Int32).toNatClampNeg) (sh.2.2.2 l1 0) ((0 : Int32).toNatClampNeg) ((62 : Int32).toNatClampNeg)) l0 2 (((xcp M (sh.2.2.2 l0 1) ((((M l0 2) * 62) : Int32).toNatClampNeg) (sh.2.2.2 l1 0) ((0 : Int32).toNatClampNeg) ((62 : Int32).toNatClampNeg)) l0 2) - 1)) l0 0 (((xu (xcp M (sh.2.2.2 l0 1) ((((M l0 2) * 62) : Int32).toNatClampNeg) (sh.2.2.2 l1 0) ((0 : Int32).toNatClampNeg) ((62 : Int32).toNatClampNeg)) l0 2 (((xcp M (sh.2.2.2 l0 1) ((((M l0 2) * 62) : Int32).toNatClampNeg) (sh.2.2.2 l1 0) ((0 : Int32).toNatClampNeg) ((62 : Int32).toNatClampNeg)) l0 2) - 1)) l0 0) - 1)), J))) f_3_76 rfl ?_
          refine ev_nx (s1 := (3, 80, [.ref l0, .ref l1], [.int 1], (sh, (xu (xu (xcp M (sh.2.2.2 l0 1) ((((M l0 2) * 62) : Int32).toNatClampNeg) (sh.2.2.2 l1 0) ((0 : Int32).toNatClampNeg) ((62 : Int32).toNatClampNeg)) l0 2 (((xcp M (sh.2.2.2 l0 1) ((((M l0 2) * 62) : Int32).toNatClampNeg) (sh.2.2.2 l1 0) ((0 : Int32).toNatClampNeg) ((62 : Int32).toNatClampNeg)) l0 2) - 1)) l0 0 (((xu (xcp M (sh.2.2.2 l0 1) ((((M l0 2) * 62) : Int32).toNatClampNeg) (sh.2.2.2 l1 0) ((0 : Int32).toNatClampNeg) ((62 : Int32).toNatClampNeg)) l0 2 (((xcp M (sh.2.2.2 l0 1) ((((M l0 2) * 62) : Int32).toNatClampNeg) (sh.2.2.2 l1 0) ((0 : Int32).toNatClampNeg) ((62 : Int32).toNatClampNeg)) l0 2) - 1)) l0 0) - 1)), J))) f_3_79 rfl ?_
          exact ev_r1 f_3_80 rfl
      · refine ev_nx (s1 := (3, 25, [.ref l0, .ref l1], [.int 0], (sh, M, J))) f_3_24 rfl ?_
        exact ev_r1 f_3_25 rfl
theorem f_5_0 : xfind (xnth xTs 5) 0 = some (0, .aload_n 0, 1, (0, 0, 0, 0), .null, [], 0, 0, []) := rfl
theorem f_5_1 : xfind (xnth xTs 5) 1 = some (1, .iconst 0, 1, (0, 0, 0, 0), (.int 0), [], 0, 0, []) := rfl
theorem f_5_2 : xfind (xnth xTs 5) 2 = some (2, .putfield 9, 3, (1, 0, 0, 0), .null, [], 97, 0, []) := rfl
theorem f_5_5 : xfind (xnth xTs 5) 5 = some (5, .aload_n 0, 1, (0, 0, 0, 0), .null, [], 0, 0, []) := rfl
theorem f_5_6 : xfind (xnth xTs 5) 6 = some (6, .iconst 0, 1, (0, 0, 0, 0), (.int 0), [], 0, 0, []) := rfl
theorem f_5_7 : xfind (xnth xTs 5) 7 = some (7, .putfield 15, 3, (1, 1, 0, 0), .null, [], 102, 0, []) := rfl
theorem f_5_10 : xfind (xnth xTs 5) 10 = some (10, .aload_n 0, 1, (0, 0, 0, 0), .null, [], 0, 0, []) := rfl
theorem f_5_11 : xfind (xnth xTs 5) 11 = some (11, .iconst 0, 1, (0, 0, 0, 0), (.int 0), [], 0, 0, []) := rfl
theorem f_5_12 : xfind (xnth xTs 5) 12 = some (12, .putfield 18, 3, (1, 2, 0, 0), .null, [], 107, 0, []) := rfl
theorem f_5_15 : xfind (xnth xTs 5) 15 = some (15, .iconst 0, 1, (0, 0, 0, 0), (.int 0), [], 0, 0, []) := rfl
theorem f_5_16 : xfind (xnth xTs 5) 16 = some (16, .istore_n 1, 1, (0, 0, 0, 0), .null, [], 0, 0, []) := rfl
theorem f_5_17 : xfind (xnth xTs 5) 17 = some (17, .iload_n 1, 1, (0, 0, 0, 0), .null, [], 0, 1, []) := rfl
theorem f_5_18 : xfind (xnth xTs 5) 18 = some (18, .iconst 5, 1, (0, 0, 0, 0), (.int 5), [], 0, 0, []) := rfl
theorem f_5_19 : xfind (xnth xTs 5) 19 = some (19, .if_icmp .ge 18, 3, (0, 0, 0, 0), .null, [], 0, 0, []) := rfl
theorem f_5_22 : xfind (xnth xTs 5) 22 = some (22, .aload_n 0, 1, (0, 0, 0, 0), .null, [], 0, 0, []) := rfl
theorem f_5_23 : xfind (xnth xTs 5) 23 = some (23, .iload_n 1, 1, (0, 0, 0, 0), .null, [], 0, 0, []) := rfl
theorem f_5_24 : xfind (xnth xTs 5) 24 = some (24, .bipush 10, 2, (0, 0, 0, 0), (.int 10), [], 0, 0, []) := rfl
theorem f_5_26 : xfind (xnth xTs 5) 26 = some (26, .iconst 0, 1, (0, 0, 0, 0), (.int 0), [], 0, 0, []) := rfl
theorem f_5_27 : xfind (xnth xTs 5) 27 = some (27, .iconst 5, 1, (0, 0, 0, 0), (.int 5), [], 0, 0, []) := rfl
theorem f_5_28 : xfind (xnth xTs 5) 28 = some (28, .invokevirtual 37, 3, (7, 4, 1, 5), .null, [], 86, 0, []) := rfl
theorem f_5_31 : xfind (xnth xTs 5) 31 = some (31, .iinc 1 1, 3, (0, 0, 0, 0), .null, [], 0, 0, []) := rfl
theorem f_5_34 : xfind (xnth xTs 5) 34 = some (34, .goto (-17), 3, (0, 0, 0, 0), .null, [], 0, 0, []) := rfl
theorem f_5_37 : xfind (xnth xTs 5) 37 = some (37, .iconst 0, 1, (0, 0, 0, 0), (.int 0), [], 0, 0, []) := rfl
theorem f_5_38 : xfind (xnth xTs 5) 38 = some (38, .istore_n 1, 1, (0, 0, 0, 0), .null, [], 0, 0, []) := rfl
theorem f_5_39 : xfind (xnth xTs 5) 39 = some (39, .iload_n 1, 1, (0, 0, 0, 0), .null, [], 0, 1, []) := rfl
theorem f_5_40 : xfind (xnth xTs 5) 40 = some (40, .iconst 5, 1, (0, 0, 0, 0), (.int 5), [], 0, 0, []) := rfl
theorem f_5_41 : xfind (xnth xTs 5) 41 = some (41, .if_icmp .ge 15, 3, (0, 0, 0, 0), .null, [], 0, 0, []) := rfl
theorem f_5_44 : xfind (xnth xTs 5) 44 = some (44, .aload_n 0, 1, (0, 0, 0, 0), .null, [], 0, 0, []) := rfl
theorem f_5_45 : xfind (xnth xTs 5) 45 = some (45, .iload_n 1, 1, (0, 0, 0, 0), .null, [], 0, 0, []) := rfl
theorem f_5_46 : xfind (xnth xTs 5) 46 = some (46, .iconst 0, 1, (0, 0, 0, 0), (.int 0), [], 0, 0, []) := rfl
theorem f_5_47 : xfind (xnth xTs 5) 47 = some (47, .invokevirtual 41, 3, (8, 2, 1, 3), .null, [], 93, 0, []) := rfl
theorem f_5_50 : xfind (xnth xTs 5) 50 = some (50, .iinc 1 1, 3, (0, 0, 0, 0), .null, [], 0, 0, []) := rfl
theorem f_5_53 : xfind (xnth xTs 5) 53 = some (53, .goto (-14), 3, (0, 0, 0, 0), .null, [], 0, 0, []) := rfl
theorem f_5_56 : xfind (xnth xTs 5) 56 = some (56, .return_, 1, (0, 0, 0, 0), .null, [], 0, 0, []) := rfl
theorem hd_5_17 : xhead 5 17 = some [] := rfl
theorem hd_5_39 : xhead 5 39 = some [] := rfl
theorem b_House_clear_0 (sh : xSh) (M : Nat → Nat → Int32) (J : Nat → Nat → Int64) (l0 : Nat) : ev (5, 0, [.ref l0, .null], [], (sh, M, J)) = (bif decide ((sh.2.2.1 l0).1 = 1) then bif decide ((sh.2.2.1 l0).1 = 1) then bif decide ((sh.2.2.1 l0).1 = 1) then ev (5, 17, [.ref l0, .int 0], [], (sh, (xu (xu (xu M l0 0 0) l0 1 0) l0 2 0), J)) else none else none else none) := by
  refine ev_nx (s1 := (5, 1, [.ref l0, .null], [.ref l0], (sh, M, J))) f_5_0 rfl ?_
  refine ev_nx (s1 := (5, 2, [.ref l0, .null], [.int 0, .ref l0], (sh, M, J))) f_5_1 rfl ?_
  refine ev_gd (s1 := (5, 5, [.ref l0, .null], [], (sh, (xu M l0 0 0), J))) f_5_2 rfl ?_
  refine ev_nx (s1 := (5, 6, [.ref l0, .null], [.ref l0], (sh, (xu M l0 0 0), J))) f_5_5 rfl ?_
  refine ev_nx (s1 := (5, 7, [.ref l0, .null], [.int 0, .ref l0], (sh, (xu M l0 0 0), J))) f_5_6 rfl ?_
  refine ev_gd (s1 := (5, 10, [.ref l0, .null], [], (sh, (xu (xu M l0 0 0) l0 1 0), J))) f_5_7 rfl ?_
  refine ev_nx (s1 := (5, 11, [.ref l0, .null], [.ref l0], (sh, (xu (xu M l0 0 0) l0 1 0), J))) f_5_10 rfl ?_
  refine ev_nx (s1 := (5, 12, [.ref l0, .null], [.int 0, .ref l0], (sh, (xu (xu M l0 0 0) l0 1 0), J))) f_5_11 rfl ?_
  refine ev_gd (s1 := (5, 15, [.ref l0, .null], [], (sh, (xu (xu (xu M l0 0 0) l0 1 0) l0 2 0), J))) f_5_12 rfl ?_
  refine ev_nx (s1 := (5, 16, [.ref l0, .null], [.int 0], (sh, (xu (xu (xu M l0 0 0) l0 1 0) l0 2 0), J))) f_5_15 rfl ?_
  refine ev_nx (s1 := (5, 17, [.ref l0, .int 0], [], (sh, (xu (xu (xu M l0 0 0) l0 1 0) l0 2 0), J))) f_5_16 rfl ?_
  exact rfl
theorem b_House_clear_17 (sh : xSh) (M : Nat → Nat → Int32) (J : Nat → Nat → Int64) (l0 : Nat) (l1 : Int32) : ev (5, 17, [.ref l0, .int l1], [], (sh, M, J)) = (bif decide (5 ≤ l1) then ev (5, 39, [.ref l0, .int 0], [], (sh, M, J)) else bif (decide ((sh.2.2.1 l0).1 = 1) && true) then (ev (7, 0, [.ref l0, .int l1, .int 10, .int 0, .int 5], [], (sh, M, J))).bind (fun r => ev (5, 31, [.ref l0, .int l1], r.1.toList ++ [], r.2)) else none) := by
  refine ev_nx (s1 := (5, 18, [.ref l0, .int l1], [.int l1], (sh, M, J))) f_5_17 rfl ?_
  refine ev_nx (s1 := (5, 19, [.ref l0, .int l1], [.int 5, .int l1], (sh, M, J))) f_5_18 rfl ?_
  refine ev_br (s1 := (5, 37, [.ref l0, .int l1], [], (sh, M, J))) (s2 := (5, 22, [.ref l0, .int l1], [], (sh, M, J))) f_5_19 rfl ?_ ?_
  · refine ev_nx (s1 := (5, 38, [.ref l0, .int l1], [.int 0], (sh, M, J))) f_5_37 rfl ?_
    refine ev_nx (s1 := (5, 39, [.ref l0, .int 0], [], (sh, M, J))) f_5_38 rfl ?_
    exact rfl
  · refine ev_nx (s1 := (5, 23, [.ref l0, .int l1], [.ref l0], (sh, M, J))) f_5_22 rfl ?_
    refine ev_nx (s1 := (5, 24, [.ref l0, .int l1], [.int l1, .ref l0], (sh, M, J))) f_5_23 rfl ?_
    refine ev_nx (s1 := (5, 26, [.ref l0, .int l1], [.int 10, .int l1, .ref l0], (sh, M, J))) f_5_24 rfl ?_
    refine ev_nx (s1 := (5, 27, [.ref l0, .int l1], [.int 0, .int 10, .int l1, .ref l0], (sh, M, J))) f_5_26 rfl ?_
    refine ev_nx (s1 := (5, 28, [.ref l0, .int l1], [.int 5, .int 0, .int 10, .int l1, .ref l0], (sh, M, J))) f_5_27 rfl ?_
    exact ev_ca (cc := (decide ((sh.2.2.1 l0).1 = 1) && true)) (s1 := (7, 0, [.ref l0, .int l1, .int 10, .int 0, .int 5], [], (sh, M, J))) (k := (5, 31, [.ref l0, .int l1], [])) f_5_28 rfl
theorem b_House_clear_31 (sh : xSh) (M : Nat → Nat → Int32) (J : Nat → Nat → Int64) (l0 : Nat) (l1 : Int32) : ev (5, 31, [.ref l0, .int l1], [], (sh, M, J)) = (ev (5, 17, [.ref l0, .int (l1 + 1)], [], (sh, M, J))) := by
  refine ev_nx (s1 := (5, 34, [.ref l0, .int (l1 + 1)], [], (sh, M, J))) f_5_31 rfl ?_
  refine ev_nx (s1 := (5, 17, [.ref l0, .int (l1 + 1)], [], (sh, M, J))) f_5_34 rfl ?_
  exact rfl
theorem b_House_clear_39 (sh : xSh) (M : Nat → Nat → Int32) (J : Nat → Nat → Int64) (l0 : Nat) (l1 : Int32) : ev (5, 39, [.ref l0, .int l1], [], (sh, M, J)) = (bif decide (5 ≤ l1) then some (none, (sh, M, J)) else bif (decide ((sh.2.2.1 l0).1 = 1) && true) then (ev (8, 0, [.ref l0, .int l1, .int 0], [], (sh, M, J))).bind (fun r => ev (5, 50, [.ref l0, .int l1], r.1.toList ++ [], r.2)) else none) := by
  refine ev_nx (s1 := (5, 40, [.ref l0, .int l1], [.int l1], (sh, M, J))) f_5_39 rfl ?_
  refine ev_nx (s1 := (5, 41, [.ref l0, .int l1], [.int 5, .int l1], (sh, M, J))) f_5_40 rfl ?_
  refine ev_br (s1 := (5, 56, [.ref l0, .int l1], [], (sh, M, J))) (s2 := (5, 44, [.ref l0, .int l1], [], (sh, M, J))) f_5_41 rfl ?_ ?_
  · exact ev_r1 f_5_56 rfl
  · refine ev_nx (s1 := (5, 45, [.ref l0, .int l1], [.ref l0], (sh, M, J))) f_5_44 rfl ?_
    refine ev_nx (s1 := (5, 46, [.ref l0, .int l1], [.int l1, .ref l0], (sh, M, J))) f_5_45 rfl ?_
    refine ev_nx (s1 := (5, 47, [.ref l0, .int l1], [.int 0, .int l1, .ref l0], (sh, M, J))) f_5_46 rfl ?_
    exact ev_ca (cc := (decide ((sh.2.2.1 l0).1 = 1) && true)) (s1 := (8, 0, [.ref l0, .int l1, .int 0], [], (sh, M, J))) (k := (5, 50, [.ref l0, .int l1], [])) f_5_47 rfl
theorem b_House_clear_50 (sh : xSh) (M : Nat → Nat → Int32) (J : Nat → Nat → Int64) (l0 : Nat) (l1 : Int32) : ev (5, 50, [.ref l0, .int l1], [], (sh, M, J)) = (ev (5, 39, [.ref l0, .int (l1 + 1)], [], (sh, M, J))) := by
  refine ev_nx (s1 := (5, 53, [.ref l0, .int (l1 + 1)], [], (sh, M, J))) f_5_50 rfl ?_
  refine ev_nx (s1 := (5, 39, [.ref l0, .int (l1 + 1)], [], (sh, M, J))) f_5_53 rfl ?_
  exact rfl
theorem f_6_0 : xfind (xnth xTs 6) 0 = some (0, .aload_n 0, 1, (0, 0, 0, 0), .null, [], 0, 0, []) := rfl
theorem f_6_1 : xfind (xnth xTs 6) 1 = some (1, .aload_n 1, 1, (0, 0, 0, 0), .null, [], 0, 0, []) := rfl
theorem f_6_2 : xfind (xnth xTs 6) 2 = some (2, .getfield 9, 3, (1, 0, 0, 0), .null, [], 97, 0, []) := rfl
theorem f_6_5 : xfind (xnth xTs 6) 5 = some (5, .putfield 9, 3, (1, 0, 0, 0), .null, [], 97, 0, []) := rfl
theorem f_6_8 : xfind (xnth xTs 6) 8 = some (8, .aload_n 0, 1, (0, 0, 0, 0), .null, [], 0, 0, []) := rfl
theorem f_6_9 : xfind (xnth xTs 6) 9 = some (9, .aload_n 1, 1, (0, 0, 0, 0), .null, [], 0, 0, []) := rfl
theorem f_6_10 : xfind (xnth xTs 6) 10 = some (10, .getfield 15, 3, (1, 1, 0, 0), .null, [], 102, 0, []) := rfl
theorem f_6_13 : xfind (xnth xTs 6) 13 = some (13, .putfield 15, 3, (1, 1, 0, 0), .null, [], 102, 0, []) := rfl
theorem f_6_16 : xfind (xnth xTs 6) 16 = some (16, .aload_n 0, 1, (0, 0, 0, 0), .null, [], 0, 0, []) := rfl
theorem f_6_17 : xfind (xnth xTs 6) 17 = some (17, .aload_n 1, 1, (0, 0, 0, 0), .null, [], 0, 0, []) := rfl
theorem f_6_18 : xfind (xnth xTs 6) 18 = some (18, .getfield 18, 3, (1, 2, 0, 0), .null, [], 107, 0, []) := rfl
theorem f_6_21 : xfind (xnth xTs 6) 21 = some (21, .putfield 18, 3, (1, 2, 0, 0), .null, [], 107, 0, []) := rfl
theorem f_6_24 : xfind (xnth xTs 6) 24 = some (24, .iconst 0, 1, (0, 0, 0, 0), (.int 0), [], 0, 0, []) := rfl
theorem f_6_25 : xfind (xnth xTs 6) 25 = some (25, .istore_n 2, 1, (0, 0, 0, 0), .null, [], 0, 0, []) := rfl
theorem f_6_26 : xfind (xnth xTs 6) 26 = some (26, .iload_n 2, 1, (0, 0, 0, 0), .null, [], 0, 1, []) := rfl
theorem f_6_27 : xfind (xnth xTs 6) 27 = some (27, .iconst 5, 1, (0, 0, 0, 0), (.int 5), [], 0, 0, []) := rfl
theorem f_6_28 : xfind (xnth xTs 6) 28 = some (28, .if_icmp .ge 29, 3, (0, 0, 0, 0), .null, [], 0, 0, []) := rfl
theorem f_6_31 : xfind (xnth xTs 6) 31 = some (31, .aload_n 0, 1, (0, 0, 0, 0), .null, [], 0, 0, []) := rfl
theorem f_6_32 : xfind (xnth xTs 6) 32 = some (32, .iload_n 2, 1, (0, 0, 0, 0), .null, [], 0, 0, []) := rfl
theorem f_6_33 : xfind (xnth xTs 6) 33 = some (33, .aload_n 1, 1, (0, 0, 0, 0), .null, [], 0, 0, []) := rfl
theorem f_6_34 : xfind (xnth xTs 6) 34 = some (34, .iload_n 2, 1, (0, 0, 0, 0), .null, [], 0, 0, []) := rfl
theorem f_6_35 : xfind (xnth xTs 6) 35 = some (35, .invokevirtual 45, 3, (9, 1, 1, 2), .null, [], 438, 0, []) := rfl
theorem f_6_38 : xfind (xnth xTs 6) 38 = some (38, .aload_n 1, 1, (0, 0, 0, 0), .null, [], 0, 0, []) := rfl
theorem f_6_39 : xfind (xnth xTs 6) 39 = some (39, .iload_n 2, 1, (0, 0, 0, 0), .null, [], 0, 0, []) := rfl
theorem f_6_40 : xfind (xnth xTs 6) 40 = some (40, .invokevirtual 49, 3, (10, 1, 1, 2), .null, [], 442, 0, []) := rfl
theorem f_6_43 : xfind (xnth xTs 6) 43 = some (43, .aload_n 1, 1, (0, 0, 0, 0), .null, [], 0, 0, []) := rfl
theorem f_6_44 : xfind (xnth xTs 6) 44 = some (44, .iload_n 2, 1, (0, 0, 0, 0), .null, [], 0, 0, []) := rfl
theorem f_6_45 : xfind (xnth xTs 6) 45 = some (45, .invokevirtual 52, 3, (11, 1, 1, 2), .null, [], 446, 0, []) := rfl
theorem f_6_48 : xfind (xnth xTs 6) 48 = some (48, .invokevirtual 37, 3, (7, 4, 1, 5), .null, [], 86, 0, []) := rfl
theorem f_6_51 : xfind (xnth xTs 6) 51 = some (51, .iinc 2 1, 3, (0, 0, 0, 0), .null, [], 0, 0, []) := rfl
theorem f_6_54 : xfind (xnth xTs 6) 54 = some (54, .goto (-28), 3, (0, 0, 0, 0), .null, [], 0, 0, []) := rfl
theorem f_6_57 : xfind (xnth xTs 6) 57 = some (57, .iconst 0, 1, (0, 0, 0, 0), (.int 0), [], 0, 0, []) := rfl
theorem f_6_58 : xfind (xnth xTs 6) 58 = some (58, .istore_n 2, 1, (0, 0, 0, 0), .null, [], 0, 0, []) := rfl
theorem f_6_59 : xfind (xnth xTs 6) 59 = some (59, .iload_n 2, 1, (0, 0, 0, 0), .null, [], 0, 1, []) := rfl
theorem f_6_60 : xfind (xnth xTs 6) 60 = some (60, .iconst 5, 1, (0, 0, 0, 0), (.int 5), [], 0, 0, []) := rfl
theorem f_6_61 : xfind (xnth xTs 6) 61 = some (61, .if_icmp .ge 19, 3, (0, 0, 0, 0), .null, [], 0, 0, []) := rfl
theorem f_6_64 : xfind (xnth xTs 6) 64 = some (64, .aload_n 0, 1, (0, 0, 0, 0), .null, [], 0, 0, []) := rfl
theorem f_6_65 : xfind (xnth xTs 6) 65 = some (65, .iload_n 2, 1, (0, 0, 0, 0), .null, [], 0, 0, []) := rfl
theorem f_6_66 : xfind (xnth xTs 6) 66 = some (66, .aload_n 1, 1, (0, 0, 0, 0), .null, [], 0, 0, []) := rfl
theorem f_6_67 : xfind (xnth xTs 6) 67 = some (67, .iload_n 2, 1, (0, 0, 0, 0), .null, [], 0, 0, []) := rfl
theorem f_6_68 : xfind (xnth xTs 6) 68 = some (68, .invokevirtual 55, 3, (12, 1, 1, 2), .null, [], 450, 0, []) := rfl
theorem f_6_71 : xfind (xnth xTs 6) 71 = some (71, .invokevirtual 41, 3, (8, 2, 1, 3), .null, [], 93, 0, []) := rfl
theorem f_6_74 : xfind (xnth xTs 6) 74 = some (74, .iinc 2 1, 3, (0, 0, 0, 0), .null, [], 0, 0, []) := rfl
theorem f_6_77 : xfind (xnth xTs 6) 77 = some (77, .goto (-18), 3, (0, 0, 0, 0), .null, [], 0, 0, []) := rfl
theorem f_6_80 : xfind (xnth xTs 6) 80 = some (80, .return_, 1, (0, 0, 0, 0), .null, [], 0, 0, []) := rfl
theorem hd_6_26 : xhead 6 26 = some [] := rfl
theorem hd_6_59 : xhead 6 59 = some [] := rfl
theorem b_House_become_0 (sh : xSh) (M : Nat → Nat → Int32) (J : Nat → Nat → Int64) (l0 : Nat) (l1 : Nat) : ev (6, 0, [.ref l0, .ref l1, .null], [], (sh, M, J)) = (bif decide ((sh.2.2.1 l1).1 = 1) then bif decide ((sh.2.2.1 l0).1 = 1) then bif decide ((sh.2.2.1 l1).1 = 1) then bif decide ((sh.2.2.1 l0).1 = 1) then bif decide ((sh.2.2.1 l1).1 = 1) then bif decide ((sh.2.2.1 l0).1 = 1) then ev (6, 26, [.ref l0, .ref l1, .int 0], [], (sh, (xu (xu (xu M l0 0 (M l1 0)) l0 1 ((xu M l0 0 (M l1 0)) l1 1)) l0 2 ((xu (xu M l0 0 (M l1 0)) l0 1 ((xu M l0 0 (M l1 0)) l1 1)) l1 2)), J)) else none else none else none else none else none else none) := by
  refine ev_nx (s1 := (6, 1, [.ref l0, .ref l1, .null], [.ref l0], (sh, M, J))) f_6_0 rfl ?_
  refine ev_nx (s1 := (6, 2, [.ref l0, .ref l1, .null], [.ref l1, .ref l0], (sh, M, J))) f_6_1 rfl ?_
  refine ev_gd (s1 := (6, 5, [.ref l0, .ref l1, .null], [.int (M l1 0), .ref l0], (sh, M, J))) f_6_2 rfl ?_
  refine ev_gd (s1 := (6, 8, [.ref l0, .ref l1, .null], [], (sh, (xu M l0 0 (M l1 0)), J))) f_6_5 rfl ?_
  refine ev_nx (s1 := (6, 9, [.ref l0, .ref l1, .null], [.ref l0], (sh, (xu M l0 0 (M l1 0)), J))) f_6_8 rfl ?_
  refine ev_nx (s1 := (6, 10, [.ref l0, .ref l1, .null], [.ref l1, .ref l0], (sh, (xu M l0 0 (M l1 0)), J))) f_6_9 rfl ?_
  refine ev_gd (s1 := (6, 13, [.ref l0, .ref l1, .null], [.int ((xu M l0 0 (M l1 0)) l1 1), .ref l0], (sh, (xu M l0 0 (M l1 0)), J))) f_6_10 rfl ?_
  refine ev_gd (s1 := (6, 16, [.ref l0, .ref l1, .null], [], (sh, (xu (xu M l0 0 (M l1 0)) l0 1 ((xu M l0 0 (M l1 0)) l1 1)), J))) f_6_13 rfl ?_
  refine ev_nx (s1 := (6, 17, [.ref l0, .ref l1, .null], [.ref l0], (sh, (xu (xu M l0 0 (M l1 0)) l0 1 ((xu M l0 0 (M l1 0)) l1 1)), J))) f_6_16 rfl ?_
  refine ev_nx (s1 := (6, 18, [.ref l0, .ref l1, .null], [.ref l1, .ref l0], (sh, (xu (xu M l0 0 (M l1 0)) l0 1 ((xu M l0 0 (M l1 0)) l1 1)), J))) f_6_17 rfl ?_
  refine ev_gd (s1 := (6, 21, [.ref l0, .ref l1, .null], [.int ((xu (xu M l0 0 (M l1 0)) l0 1 ((xu M l0 0 (M l1 0)) l1 1)) l1 2), .ref l0], (sh, (xu (xu M l0 0 (M l1 0)) l0 1 ((xu M l0 0 (M l1 0)) l1 1)), J))) f_6_18 rfl ?_
  refine ev_gd (s1 := (6, 24, [.ref l0, .ref l1, .null], [], (sh, (xu (xu (xu M l0 0 (M l1 0)) l0 1 ((xu M l0 0 (M l1 0)) l1 1)) l0 2 ((xu (xu M l0 0 (M l1 0)) l0 1 ((xu M l0 0 (M l1 0)) l1 1)) l1 2)), J))) f_6_21 rfl ?_
  refine ev_nx (s1 := (6, 25, [.ref l0, .ref l1, .null], [.int 0], (sh, (xu (xu (xu M l0 0 (M l1 0)) l0 1 ((xu M l0 0 (M l1 0)) l1 1)) l0 2 ((xu (xu M l0 0 (M l1 0)) l0 1 ((xu M l0 0 (M l1 0)) l1 1)) l1 2)), J))) f_6_24 rfl ?_
  refine ev_nx (s1 := (6, 26, [.ref l0, .ref l1, .int 0], [], (sh, (xu (xu (xu M l0 0 (M l1 0)) l0 1 ((xu M l0 0 (M l1 0)) l1 1)) l0 2 ((xu (xu M l0 0 (M l1 0)) l0 1 ((xu M l0 0 (M l1 0)) l1 1)) l1 2)), J))) f_6_25 rfl ?_
  exact rfl
theorem b_House_become_26 (sh : xSh) (M : Nat → Nat → Int32) (J : Nat → Nat → Int64) (l0 : Nat) (l1 : Nat) (l2 : Int32) : ev (6, 26, [.ref l0, .ref l1, .int l2], [], (sh, M, J)) = (bif decide (5 ≤ l2) then ev (6, 59, [.ref l0, .ref l1, .int 0], [], (sh, M, J)) else bif (decide ((sh.2.2.1 l1).1 = 1) && true) then (ev (9, 0, [.ref l1, .int l2], [], (sh, M, J))).bind (fun r => ev (6, 38, [.ref l0, .ref l1, .int l2], r.1.toList ++ [.int l2, .ref l0], r.2)) else none) := by
  refine ev_nx (s1 := (6, 27, [.ref l0, .ref l1, .int l2], [.int l2], (sh, M, J))) f_6_26 rfl ?_
  refine ev_nx (s1 := (6, 28, [.ref l0, .ref l1, .int l2], [.int 5, .int l2], (sh, M, J))) f_6_27 rfl ?_
  refine ev_br (s1 := (6, 57, [.ref l0, .ref l1, .int l2], [], (sh, M, J))) (s2 := (6, 31, [.ref l0, .ref l1, .int l2], [], (sh, M, J))) f_6_28 rfl ?_ ?_
  · refine ev_nx (s1 := (6, 58, [.ref l0, .ref l1, .int l2], [.int 0], (sh, M, J))) f_6_57 rfl ?_
    refine ev_nx (s1 := (6, 59, [.ref l0, .ref l1, .int 0], [], (sh, M, J))) f_6_58 rfl ?_
    exact rfl
  · refine ev_nx (s1 := (6, 32, [.ref l0, .ref l1, .int l2], [.ref l0], (sh, M, J))) f_6_31 rfl ?_
    refine ev_nx (s1 := (6, 33, [.ref l0, .ref l1, .int l2], [.int l2, .ref l0], (sh, M, J))) f_6_32 rfl ?_
    refine ev_nx (s1 := (6, 34, [.ref l0, .ref l1, .int l2], [.ref l1, .int l2, .ref l0], (sh, M, J))) f_6_33 rfl ?_
    refine ev_nx (s1 := (6, 35, [.ref l0, .ref l1, .int l2], [.int l2, .ref l1, .int l2, .ref l0], (sh, M, J))) f_6_34 rfl ?_
    exact ev_ca (cc := (decide ((sh.2.2.1 l1).1 = 1) && true)) (s1 := (9, 0, [.ref l1, .int l2], [], (sh, M, J))) (k := (6, 38, [.ref l0, .ref l1, .int l2], [.int l2, .ref l0])) f_6_35 rfl
theorem b_House_become_38 (sh : xSh) (M : Nat → Nat → Int32) (J : Nat → Nat → Int64) (l0 : Nat) (l1 : Nat) (l2 : Int32) (k0 : Int32) (k1 : Int32) (k2 : Nat) : ev (6, 38, [.ref l0, .ref l1, .int l2], [.int k0, .int k1, .ref k2], (sh, M, J)) = (bif (decide ((sh.2.2.1 l1).1 = 1) && true) then (ev (10, 0, [.ref l1, .int l2], [], (sh, M, J))).bind (fun r => ev (6, 43, [.ref l0, .ref l1, .int l2], r.1.toList ++ [.int k0, .int k1, .ref k2], r.2)) else none) := by
  refine ev_nx (s1 := (6, 39, [.ref l0, .ref l1, .int l2], [.ref l1, .int k0, .int k1, .ref k2], (sh, M, J))) f_6_38 rfl ?_
  refine ev_nx (s1 := (6, 40, [.ref l0, .ref l1, .int l2], [.int l2, .ref l1, .int k0, .int k1, .ref k2], (sh, M, J))) f_6_39 rfl ?_
  exact ev_ca (cc := (decide ((sh.2.2.1 l1).1 = 1) && true)) (s1 := (10, 0, [.ref l1, .int l2], [], (sh, M, J))) (k := (6, 43, [.ref l0, .ref l1, .int l2], [.int k0, .int k1, .ref k2])) f_6_40 rfl
theorem b_House_become_43 (sh : xSh) (M : Nat → Nat → Int32) (J : Nat → Nat → Int64) (l0 : Nat) (l1 : Nat) (l2 : Int32) (k0 : Int32) (k1 : Int32) (k2 : Int32) (k3 : Nat) : ev (6, 43, [.ref l0, .ref l1, .int l2], [.int k0, .int k1, .int k2, .ref k3], (sh, M, J)) = (bif (decide ((sh.2.2.1 l1).1 = 1) && true) then (ev (11, 0, [.ref l1, .int l2], [], (sh, M, J))).bind (fun r => ev (6, 48, [.ref l0, .ref l1, .int l2], r.1.toList ++ [.int k0, .int k1, .int k2, .ref k3], r.2)) else none) := by
  refine ev_nx (s1 := (6, 44, [.ref l0, .ref l1, .int l2], [.ref l1, .int k0, .int k1, .int k2, .ref k3], (sh, M, J))) f_6_43 rfl ?_
  refine ev_nx (s1 := (6, 45, [.ref l0, .ref l1, .int l2], [.int l2, .ref l1, .int k0, .int k1, .int k2, .ref k3], (sh, M, J))) f_6_44 rfl ?_
  exact ev_ca (cc := (decide ((sh.2.2.1 l1).1 = 1) && true)) (s1 := (11, 0, [.ref l1, .int l2], [], (sh, M, J))) (k := (6, 48, [.ref l0, .ref l1, .int l2], [.int k0, .int k1, .int k2, .ref k3])) f_6_45 rfl
theorem b_House_become_48 (sh : xSh) (M : Nat → Nat → Int32) (J : Nat → Nat → Int64) (l0 : Nat) (l1 : Nat) (l2 : Int32) (k0 : Int32) (k1 : Int32) (k2 : Int32) (k3 : Int32) (k4 : Nat) : ev (6, 48, [.ref l0, .ref l1, .int l2], [.int k0, .int k1, .int k2, .int k3, .ref k4], (sh, M, J)) = (bif (decide ((sh.2.2.1 k4).1 = 1) && true) then (ev (7, 0, [.ref k4, .int k3, .int k2, .int k1, .int k0], [], (sh, M, J))).bind (fun r => ev (6, 51, [.ref l0, .ref l1, .int l2], r.1.toList ++ [], r.2)) else none) := by
  exact ev_ca (cc := (decide ((sh.2.2.1 k4).1 = 1) && true)) (s1 := (7, 0, [.ref k4, .int k3, .int k2, .int k1, .int k0], [], (sh, M, J))) (k := (6, 51, [.ref l0, .ref l1, .int l2], [])) f_6_48 rfl
theorem b_House_become_51 (sh : xSh) (M : Nat → Nat → Int32) (J : Nat → Nat → Int64) (l0 : Nat) (l1 : Nat) (l2 : Int32) : ev (6, 51, [.ref l0, .ref l1, .int l2], [], (sh, M, J)) = (ev (6, 26, [.ref l0, .ref l1, .int (l2 + 1)], [], (sh, M, J))) := by
  refine ev_nx (s1 := (6, 54, [.ref l0, .ref l1, .int (l2 + 1)], [], (sh, M, J))) f_6_51 rfl ?_
  refine ev_nx (s1 := (6, 26, [.ref l0, .ref l1, .int (l2 + 1)], [], (sh, M, J))) f_6_54 rfl ?_
  exact rfl
theorem b_House_become_59 (sh : xSh) (M : Nat → Nat → Int32) (J : Nat → Nat → Int64) (l0 : Nat) (l1 : Nat) (l2 : Int32) : ev (6, 59, [.ref l0, .ref l1, .int l2], [], (sh, M, J)) = (bif decide (5 ≤ l2) then some (none, (sh, M, J)) else bif (decide ((sh.2.2.1 l1).1 = 1) && true) then (ev (12, 0, [.ref l1, .int l2], [], (sh, M, J))).bind (fun r => ev (6, 71, [.ref l0, .ref l1, .int l2], r.1.toList ++ [.int l2, .ref l0], r.2)) else none) := by
  refine ev_nx (s1 := (6, 60, [.ref l0, .ref l1, .int l2], [.int l2], (sh, M, J))) f_6_59 rfl ?_
  refine ev_nx (s1 := (6, 61, [.ref l0, .ref l1, .int l2], [.int 5, .int l2], (sh, M, J))) f_6_60 rfl ?_
  refine ev_br (s1 := (6, 80, [.ref l0, .ref l1, .int l2], [], (sh, M, J))) (s2 := (6, 64, [.ref l0, .ref l1, .int l2], [], (sh, M, J))) f_6_61 rfl ?_ ?_
  · exact ev_r1 f_6_80 rfl
  · refine ev_nx (s1 := (6, 65, [.ref l0, .ref l1, .int l2], [.ref l0], (sh, M, J))) f_6_64 rfl ?_
    refine ev_nx (s1 := (6, 66, [.ref l0, .ref l1, .int l2], [.int l2, .ref l0], (sh, M, J))) f_6_65 rfl ?_
    refine ev_nx (s1 := (6, 67, [.ref l0, .ref l1, .int l2], [.ref l1, .int l2, .ref l0], (sh, M, J))) f_6_66 rfl ?_
    refine ev_nx (s1 := (6, 68, [.ref l0, .ref l1, .int l2], [.int l2, .ref l1, .int l2, .ref l0], (sh, M, J))) f_6_67 rfl ?_
    exact ev_ca (cc := (decide ((sh.2.2.1 l1).1 = 1) && true)) (s1 := (12, 0, [.ref l1, .int l2], [], (sh, M, J))) (k := (6, 71, [.ref l0, .ref l1, .int l2], [.int l2, .ref l0])) f_6_68 rfl
theorem b_House_become_71 (sh : xSh) (M : Nat → Nat → Int32) (J : Nat → Nat → Int64) (l0 : Nat) (l1 : Nat) (l2 : Int32) (k0 : Int32) (k1 : Int32) (k2 : Nat) : ev (6, 71, [.ref l0, .ref l1, .int l2], [.int k0, .int k1, .ref k2], (sh, M, J)) = (bif (decide ((sh.2.2.1 k2).1 = 1) && true) then (ev (8, 0, [.ref k2, .int k1, .int k0], [], (sh, M, J))).bind (fun r => ev (6, 74, [.ref l0, .ref l1, .int l2], r.1.toList ++ [], r.2)) else none) := by
  exact ev_ca (cc := (decide ((sh.2.2.1 k2).1 = 1) && true)) (s1 := (8, 0, [.ref k2, .int k1, .int k0], [], (sh, M, J))) (k := (6, 74, [.ref l0, .ref l1, .int l2], [])) f_6_71 rfl
theorem b_House_become_74 (sh : xSh) (M : Nat → Nat → Int32) (J : Nat → Nat → Int64) (l0 : Nat) (l1 : Nat) (l2 : Int32) : ev (6, 74, [.ref l0, .ref l1, .int l2], [], (sh, M, J)) = (ev (6, 59, [.ref l0, .ref l1, .int (l2 + 1)], [], (sh, M, J))) := by
  refine ev_nx (s1 := (6, 77, [.ref l0, .ref l1, .int (l2 + 1)], [], (sh, M, J))) f_6_74 rfl ?_
  refine ev_nx (s1 := (6, 59, [.ref l0, .ref l1, .int (l2 + 1)], [], (sh, M, J))) f_6_77 rfl ?_
  exact rfl
theorem f_7_0 : xfind (xnth xTs 7) 0 = some (0, .aload_n 0, 1, (0, 0, 0, 0), .null, [], 0, 0, []) := rfl
theorem f_7_1 : xfind (xnth xTs 7) 1 = some (1, .getfield 21, 3, (1, 3, 1, 0), .null, [], 112, 0, []) := rfl
theorem f_7_4 : xfind (xnth xTs 7) 4 = some (4, .iload_n 1, 1, (0, 0, 0, 0), .null, [], 0, 0, []) := rfl
theorem f_7_5 : xfind (xnth xTs 7) 5 = some (5, .iload_n 2, 1, (0, 0, 0, 0), .null, [], 0, 0, []) := rfl
theorem f_7_6 : xfind (xnth xTs 7) 6 = some (6, .invokestatic 58, 3, (130, 3, 8, 3), .null, [], 90, 0, []) := rfl
theorem f_7_9 : xfind (xnth xTs 7) 9 = some (9, .aload_n 0, 1, (0, 0, 0, 0), .null, [], 0, 0, []) := rfl
theorem f_7_10 : xfind (xnth xTs 7) 10 = some (10, .getfield 25, 3, (1, 4, 1, 0), .null, [], 113, 0, []) := rfl
theorem f_7_13 : xfind (xnth xTs 7) 13 = some (13, .iload_n 1, 1, (0, 0, 0, 0), .null, [], 0, 0, []) := rfl
theorem f_7_14 : xfind (xnth xTs 7) 14 = some (14, .iload_n 3, 1, (0, 0, 0, 0), .null, [], 0, 0, []) := rfl
theorem f_7_15 : xfind (xnth xTs 7) 15 = some (15, .invokestatic 58, 3, (130, 3, 8, 3), .null, [], 90, 0, []) := rfl
theorem f_7_18 : xfind (xnth xTs 7) 18 = some (18, .aload_n 0, 1, (0, 0, 0, 0), .null, [], 0, 0, []) := rfl
theorem f_7_19 : xfind (xnth xTs 7) 19 = some (19, .getfield 28, 3, (1, 5, 1, 0), .null, [], 114, 0, []) := rfl
theorem f_7_22 : xfind (xnth xTs 7) 22 = some (22, .iload_n 1, 1, (0, 0, 0, 0), .null, [], 0, 0, []) := rfl
theorem f_7_23 : xfind (xnth xTs 7) 23 = some (23, .iload 4, 2, (0, 0, 0, 0), .null, [], 0, 0, []) := rfl
theorem f_7_25 : xfind (xnth xTs 7) 25 = some (25, .invokestatic 58, 3, (130, 3, 8, 3), .null, [], 90, 0, []) := rfl
theorem f_7_28 : xfind (xnth xTs 7) 28 = some (28, .return_, 1, (0, 0, 0, 0), .null, [], 0, 0, []) := rfl
theorem b_House_tellCloth_0 (sh : xSh) (M : Nat → Nat → Int32) (J : Nat → Nat → Int64) (l0 : Nat) (l1 : Int32) (l2 : Int32) (l3 : Int32) (l4 : Int32) : ev (7, 0, [.ref l0, .int l1, .int l2, .int l3, .int l4], [], (sh, M, J)) = (bif decide ((sh.2.2.1 l0).1 = 1) then (ev (130, 0, [.ref (sh.2.2.2 l0 3), .int l1, .int l2], [], (sh, M, J))).bind (fun r => ev (7, 9, [.ref l0, .int l1, .int l2, .int l3, .int l4], r.1.toList ++ [], r.2)) else none) := by
  refine ev_nx (s1 := (7, 1, [.ref l0, .int l1, .int l2, .int l3, .int l4], [.ref l0], (sh, M, J))) f_7_0 rfl ?_
  refine ev_gd (s1 := (7, 4, [.ref l0, .int l1, .int l2, .int l3, .int l4], [.ref (sh.2.2.2 l0 3)], (sh, M, J))) f_7_1 rfl ?_
  refine ev_nx (s1 := (7, 5, [.ref l0, .int l1, .int l2, .int l3, .int l4], [.int l1, .ref (sh.2.2.2 l0 3)], (sh, M, J))) f_7_4 rfl ?_
  refine ev_nx (s1 := (7, 6, [.ref l0, .int l1, .int l2, .int l3, .int l4], [.int l2, .int l1, .ref (sh.2.2.2 l0 3)], (sh, M, J))) f_7_5 rfl ?_
  exact ev_c1 (s1 := (130, 0, [.ref (sh.2.2.2 l0 3), .int l1, .int l2], [], (sh, M, J))) (k := (7, 9, [.ref l0, .int l1, .int l2, .int l3, .int l4], [])) f_7_6 rfl
theorem b_House_tellCloth_9 (sh : xSh) (M : Nat → Nat → Int32) (J : Nat → Nat → Int64) (l0 : Nat) (l1 : Int32) (l2 : Int32) (l3 : Int32) (l4 : Int32) : ev (7, 9, [.ref l0, .int l1, .int l2, .int l3, .int l4], [], (sh, M, J)) = (bif decide ((sh.2.2.1 l0).1 = 1) then (ev (130, 0, [.ref (sh.2.2.2 l0 4), .int l1, .int l3], [], (sh, M, J))).bind (fun r => ev (7, 18, [.ref l0, .int l1, .int l2, .int l3, .int l4], r.1.toList ++ [], r.2)) else none) := by
  refine ev_nx (s1 := (7, 10, [.ref l0, .int l1, .int l2, .int l3, .int l4], [.ref l0], (sh, M, J))) f_7_9 rfl ?_
  refine ev_gd (s1 := (7, 13, [.ref l0, .int l1, .int l2, .int l3, .int l4], [.ref (sh.2.2.2 l0 4)], (sh, M, J))) f_7_10 rfl ?_
  refine ev_nx (s1 := (7, 14, [.ref l0, .int l1, .int l2, .int l3, .int l4], [.int l1, .ref (sh.2.2.2 l0 4)], (sh, M, J))) f_7_13 rfl ?_
  refine ev_nx (s1 := (7, 15, [.ref l0, .int l1, .int l2, .int l3, .int l4], [.int l3, .int l1, .ref (sh.2.2.2 l0 4)], (sh, M, J))) f_7_14 rfl ?_
  exact ev_c1 (s1 := (130, 0, [.ref (sh.2.2.2 l0 4), .int l1, .int l3], [], (sh, M, J))) (k := (7, 18, [.ref l0, .int l1, .int l2, .int l3, .int l4], [])) f_7_15 rfl
theorem b_House_tellCloth_18 (sh : xSh) (M : Nat → Nat → Int32) (J : Nat → Nat → Int64) (l0 : Nat) (l1 : Int32) (l2 : Int32) (l3 : Int32) (l4 : Int32) : ev (7, 18, [.ref l0, .int l1, .int l2, .int l3, .int l4], [], (sh, M, J)) = (bif decide ((sh.2.2.1 l0).1 = 1) then (ev (130, 0, [.ref (sh.2.2.2 l0 5), .int l1, .int l4], [], (sh, M, J))).bind (fun r => ev (7, 28, [.ref l0, .int l1, .int l2, .int l3, .int l4], r.1.toList ++ [], r.2)) else none) := by
  refine ev_nx (s1 := (7, 19, [.ref l0, .int l1, .int l2, .int l3, .int l4], [.ref l0], (sh, M, J))) f_7_18 rfl ?_
  refine ev_gd (s1 := (7, 22, [.ref l0, .int l1, .int l2, .int l3, .int l4], [.ref (sh.2.2.2 l0 5)], (sh, M, J))) f_7_19 rfl ?_
  refine ev_nx (s1 := (7, 23, [.ref l0, .int l1, .int l2, .int l3, .int l4], [.int l1, .ref (sh.2.2.2 l0 5)], (sh, M, J))) f_7_22 rfl ?_
  refine ev_nx (s1 := (7, 25, [.ref l0, .int l1, .int l2, .int l3, .int l4], [.int l4, .int l1, .ref (sh.2.2.2 l0 5)], (sh, M, J))) f_7_23 rfl ?_
  exact ev_c1 (s1 := (130, 0, [.ref (sh.2.2.2 l0 5), .int l1, .int l4], [], (sh, M, J))) (k := (7, 28, [.ref l0, .int l1, .int l2, .int l3, .int l4], [])) f_7_25 rfl
theorem b_House_tellCloth_28 (sh : xSh) (M : Nat → Nat → Int32) (J : Nat → Nat → Int64) (l0 : Nat) (l1 : Int32) (l2 : Int32) (l3 : Int32) (l4 : Int32) : ev (7, 28, [.ref l0, .int l1, .int l2, .int l3, .int l4], [], (sh, M, J)) = (some (none, (sh, M, J))) := by
  exact ev_r1 f_7_28 rfl
theorem f_8_0 : xfind (xnth xTs 8) 0 = some (0, .aload_n 0, 1, (0, 0, 0, 0), .null, [], 0, 0, []) := rfl
theorem f_8_1 : xfind (xnth xTs 8) 1 = some (1, .getfield 31, 3, (1, 6, 1, 0), .null, [], 115, 0, []) := rfl
theorem f_8_4 : xfind (xnth xTs 8) 4 = some (4, .iload_n 1, 1, (0, 0, 0, 0), .null, [], 0, 0, []) := rfl
theorem f_8_5 : xfind (xnth xTs 8) 5 = some (5, .iload_n 2, 1, (0, 0, 0, 0), .null, [], 0, 0, []) := rfl
theorem f_8_6 : xfind (xnth xTs 8) 6 = some (6, .invokestatic 58, 3, (130, 3, 8, 3), .null, [], 90, 0, []) := rfl
theorem f_8_9 : xfind (xnth xTs 8) 9 = some (9, .return_, 1, (0, 0, 0, 0), .null, [], 0, 0, []) := rfl
theorem b_House_tellHeight_0 (sh : xSh) (M : Nat → Nat → Int32) (J : Nat → Nat → Int64) (l0 : Nat) (l1 : Int32) (l2 : Int32) : ev (8, 0, [.ref l0, .int l1, .int l2], [], (sh, M, J)) = (bif decide ((sh.2.2.1 l0).1 = 1) then (ev (130, 0, [.ref (sh.2.2.2 l0 6), .int l1, .int l2], [], (sh, M, J))).bind (fun r => ev (8, 9, [.ref l0, .int l1, .int l2], r.1.toList ++ [], r.2)) else none) := by
  refine ev_nx (s1 := (8, 1, [.ref l0, .int l1, .int l2], [.ref l0], (sh, M, J))) f_8_0 rfl ?_
  refine ev_gd (s1 := (8, 4, [.ref l0, .int l1, .int l2], [.ref (sh.2.2.2 l0 6)], (sh, M, J))) f_8_1 rfl ?_
  refine ev_nx (s1 := (8, 5, [.ref l0, .int l1, .int l2], [.int l1, .ref (sh.2.2.2 l0 6)], (sh, M, J))) f_8_4 rfl ?_
  refine ev_nx (s1 := (8, 6, [.ref l0, .int l1, .int l2], [.int l2, .int l1, .ref (sh.2.2.2 l0 6)], (sh, M, J))) f_8_5 rfl ?_
  exact ev_c1 (s1 := (130, 0, [.ref (sh.2.2.2 l0 6), .int l1, .int l2], [], (sh, M, J))) (k := (8, 9, [.ref l0, .int l1, .int l2], [])) f_8_6 rfl
theorem b_House_tellHeight_9 (sh : xSh) (M : Nat → Nat → Int32) (J : Nat → Nat → Int64) (l0 : Nat) (l1 : Int32) (l2 : Int32) : ev (8, 9, [.ref l0, .int l1, .int l2], [], (sh, M, J)) = (some (none, (sh, M, J))) := by
  exact ev_r1 f_8_9 rfl
theorem f_9_0 : xfind (xnth xTs 9) 0 = some (0, .iload_n 1, 1, (0, 0, 0, 0), .null, [], 0, 0, []) := rfl
theorem f_9_1 : xfind (xnth xTs 9) 1 = some (1, .ifCond .lt 17, 3, (0, 0, 0, 0), .null, [], 0, 0, []) := rfl
theorem f_9_4 : xfind (xnth xTs 9) 4 = some (4, .iload_n 1, 1, (0, 0, 0, 0), .null, [], 0, 0, []) := rfl
theorem f_9_5 : xfind (xnth xTs 9) 5 = some (5, .iconst 5, 1, (0, 0, 0, 0), (.int 5), [], 0, 0, []) := rfl
theorem f_9_6 : xfind (xnth xTs 9) 6 = some (6, .if_icmp .ge 12, 3, (0, 0, 0, 0), .null, [], 0, 0, []) := rfl
theorem f_9_9 : xfind (xnth xTs 9) 9 = some (9, .aload_n 0, 1, (0, 0, 0, 0), .null, [], 0, 0, []) := rfl
theorem f_9_10 : xfind (xnth xTs 9) 10 = some (10, .getfield 21, 3, (1, 3, 1, 0), .null, [], 112, 0, []) := rfl
theorem f_9_13 : xfind (xnth xTs 9) 13 = some (13, .iload_n 1, 1, (0, 0, 0, 0), .null, [], 0, 0, []) := rfl
theorem f_9_14 : xfind (xnth xTs 9) 14 = some (14, .iaload, 1, (0, 0, 0, 0), .null, [], 0, 0, []) := rfl
theorem f_9_15 : xfind (xnth xTs 9) 15 = some (15, .goto 4, 3, (0, 0, 0, 0), .null, [], 0, 0, []) := rfl
theorem f_9_18 : xfind (xnth xTs 9) 18 = some (18, .iconst 0, 1, (0, 0, 0, 0), (.int 0), [], 0, 0, []) := rfl
theorem f_9_19 : xfind (xnth xTs 9) 19 = some (19, .ireturn, 1, (0, 0, 0, 0), .null, [], 0, 0, []) := rfl
theorem b_House_weightOf_0 (sh : xSh) (M : Nat → Nat → Int32) (J : Nat → Nat → Int64) (l0 : Nat) (l1 : Int32) : ev (9, 0, [.ref l0, .int l1], [], (sh, M, J)) = (bif decide (l1 < 0) then some (some (.int 0), (sh, M, J)) else bif decide (5 ≤ l1) then some (some (.int 0), (sh, M, J)) else bif decide ((sh.2.2.1 l0).1 = 1) then bif (decide ((sh.2.2.1 (sh.2.2.2 l0 3)).1 = 11) && xin l1 (sh.2.2.1 (sh.2.2.2 l0 3)).2) then some (some (.int (M (sh.2.2.2 l0 3) (l1 : Int32).toNatClampNeg)), (sh, M, J)) else none else none) := by
  refine ev_nx (s1 := (9, 1, [.ref l0, .int l1], [.int l1], (sh, M, J))) f_9_0 rfl ?_
  refine ev_br (s1 := (9, 18, [.ref l0, .int l1], [], (sh, M, J))) (s2 := (9, 4, [.ref l0, .int l1], [], (sh, M, J))) f_9_1 rfl ?_ ?_
  · refine ev_nx (s1 := (9, 19, [.ref l0, .int l1], [.int 0], (sh, M, J))) f_9_18 rfl ?_
    exact ev_r1 f_9_19 rfl
  · refine ev_nx (s1 := (9, 5, [.ref l0, .int l1], [.int l1], (sh, M, J))) f_9_4 rfl ?_
    refine ev_nx (s1 := (9, 6, [.ref l0, .int l1], [.int 5, .int l1], (sh, M, J))) f_9_5 rfl ?_
    refine ev_br (s1 := (9, 18, [.ref l0, .int l1], [], (sh, M, J))) (s2 := (9, 9, [.ref l0, .int l1], [], (sh, M, J))) f_9_6 rfl ?_ ?_
    · refine ev_nx (s1 := (9, 19, [.ref l0, .int l1], [.int 0], (sh, M, J))) f_9_18 rfl ?_
      exact ev_r1 f_9_19 rfl
    · refine ev_nx (s1 := (9, 10, [.ref l0, .int l1], [.ref l0], (sh, M, J))) f_9_9 rfl ?_
      refine ev_gd (s1 := (9, 13, [.ref l0, .int l1], [.ref (sh.2.2.2 l0 3)], (sh, M, J))) f_9_10 rfl ?_
      refine ev_nx (s1 := (9, 14, [.ref l0, .int l1], [.int l1, .ref (sh.2.2.2 l0 3)], (sh, M, J))) f_9_13 rfl ?_
      refine ev_gd (s1 := (9, 15, [.ref l0, .int l1], [.int (M (sh.2.2.2 l0 3) (l1 : Int32).toNatClampNeg)], (sh, M, J))) f_9_14 rfl ?_
      refine ev_nx (s1 := (9, 19, [.ref l0, .int l1], [.int (M (sh.2.2.2 l0 3) (l1 : Int32).toNatClampNeg)], (sh, M, J))) f_9_15 rfl ?_
      exact ev_r1 f_9_19 rfl
theorem f_10_0 : xfind (xnth xTs 10) 0 = some (0, .iload_n 1, 1, (0, 0, 0, 0), .null, [], 0, 0, []) := rfl
theorem f_10_1 : xfind (xnth xTs 10) 1 = some (1, .ifCond .lt 17, 3, (0, 0, 0, 0), .null, [], 0, 0, []) := rfl
theorem f_10_4 : xfind (xnth xTs 10) 4 = some (4, .iload_n 1, 1, (0, 0, 0, 0), .null, [], 0, 0, []) := rfl
theorem f_10_5 : xfind (xnth xTs 10) 5 = some (5, .iconst 5, 1, (0, 0, 0, 0), (.int 5), [], 0, 0, []) := rfl
theorem f_10_6 : xfind (xnth xTs 10) 6 = some (6, .if_icmp .ge 12, 3, (0, 0, 0, 0), .null, [], 0, 0, []) := rfl
theorem f_10_9 : xfind (xnth xTs 10) 9 = some (9, .aload_n 0, 1, (0, 0, 0, 0), .null, [], 0, 0, []) := rfl
theorem f_10_10 : xfind (xnth xTs 10) 10 = some (10, .getfield 25, 3, (1, 4, 1, 0), .null, [], 113, 0, []) := rfl
theorem f_10_13 : xfind (xnth xTs 10) 13 = some (13, .iload_n 1, 1, (0, 0, 0, 0), .null, [], 0, 0, []) := rfl
theorem f_10_14 : xfind (xnth xTs 10) 14 = some (14, .iaload, 1, (0, 0, 0, 0), .null, [], 0, 0, []) := rfl
theorem f_10_15 : xfind (xnth xTs 10) 15 = some (15, .goto 4, 3, (0, 0, 0, 0), .null, [], 0, 0, []) := rfl
theorem f_10_18 : xfind (xnth xTs 10) 18 = some (18, .iconst 0, 1, (0, 0, 0, 0), (.int 0), [], 0, 0, []) := rfl
theorem f_10_19 : xfind (xnth xTs 10) 19 = some (19, .ireturn, 1, (0, 0, 0, 0), .null, [], 0, 0, []) := rfl
theorem b_House_likingOf_0 (sh : xSh) (M : Nat → Nat → Int32) (J : Nat → Nat → Int64) (l0 : Nat) (l1 : Int32) : ev (10, 0, [.ref l0, .int l1], [], (sh, M, J)) = (bif decide (l1 < 0) then some (some (.int 0), (sh, M, J)) else bif decide (5 ≤ l1) then some (some (.int 0), (sh, M, J)) else bif decide ((sh.2.2.1 l0).1 = 1) then bif (decide ((sh.2.2.1 (sh.2.2.2 l0 4)).1 = 11) && xin l1 (sh.2.2.1 (sh.2.2.2 l0 4)).2) then some (some (.int (M (sh.2.2.2 l0 4) (l1 : Int32).toNatClampNeg)), (sh, M, J)) else none else none) := by
  refine ev_nx (s1 := (10, 1, [.ref l0, .int l1], [.int l1], (sh, M, J))) f_10_0 rfl ?_
  refine ev_br (s1 := (10, 18, [.ref l0, .int l1], [], (sh, M, J))) (s2 := (10, 4, [.ref l0, .int l1], [], (sh, M, J))) f_10_1 rfl ?_ ?_
  · refine ev_nx (s1 := (10, 19, [.ref l0, .int l1], [.int 0], (sh, M, J))) f_10_18 rfl ?_
    exact ev_r1 f_10_19 rfl
  · refine ev_nx (s1 := (10, 5, [.ref l0, .int l1], [.int l1], (sh, M, J))) f_10_4 rfl ?_
    refine ev_nx (s1 := (10, 6, [.ref l0, .int l1], [.int 5, .int l1], (sh, M, J))) f_10_5 rfl ?_
    refine ev_br (s1 := (10, 18, [.ref l0, .int l1], [], (sh, M, J))) (s2 := (10, 9, [.ref l0, .int l1], [], (sh, M, J))) f_10_6 rfl ?_ ?_
    · refine ev_nx (s1 := (10, 19, [.ref l0, .int l1], [.int 0], (sh, M, J))) f_10_18 rfl ?_
      exact ev_r1 f_10_19 rfl
    · refine ev_nx (s1 := (10, 10, [.ref l0, .int l1], [.ref l0], (sh, M, J))) f_10_9 rfl ?_
      refine ev_gd (s1 := (10, 13, [.ref l0, .int l1], [.ref (sh.2.2.2 l0 4)], (sh, M, J))) f_10_10 rfl ?_
      refine ev_nx (s1 := (10, 14, [.ref l0, .int l1], [.int l1, .ref (sh.2.2.2 l0 4)], (sh, M, J))) f_10_13 rfl ?_
      refine ev_gd (s1 := (10, 15, [.ref l0, .int l1], [.int (M (sh.2.2.2 l0 4) (l1 : Int32).toNatClampNeg)], (sh, M, J))) f_10_14 rfl ?_
      refine ev_nx (s1 := (10, 19, [.ref l0, .int l1], [.int (M (sh.2.2.2 l0 4) (l1 : Int32).toNatClampNeg)], (sh, M, J))) f_10_15 rfl ?_
      exact ev_r1 f_10_19 rfl
theorem f_11_0 : xfind (xnth xTs 11) 0 = some (0, .iload_n 1, 1, (0, 0, 0, 0), .null, [], 0, 0, []) := rfl
theorem f_11_1 : xfind (xnth xTs 11) 1 = some (1, .ifCond .lt 17, 3, (0, 0, 0, 0), .null, [], 0, 0, []) := rfl
theorem f_11_4 : xfind (xnth xTs 11) 4 = some (4, .iload_n 1, 1, (0, 0, 0, 0), .null, [], 0, 0, []) := rfl
theorem f_11_5 : xfind (xnth xTs 11) 5 = some (5, .iconst 5, 1, (0, 0, 0, 0), (.int 5), [], 0, 0, []) := rfl
theorem f_11_6 : xfind (xnth xTs 11) 6 = some (6, .if_icmp .ge 12, 3, (0, 0, 0, 0), .null, [], 0, 0, []) := rfl
theorem f_11_9 : xfind (xnth xTs 11) 9 = some (9, .aload_n 0, 1, (0, 0, 0, 0), .null, [], 0, 0, []) := rfl
theorem f_11_10 : xfind (xnth xTs 11) 10 = some (10, .getfield 28, 3, (1, 5, 1, 0), .null, [], 114, 0, []) := rfl
theorem f_11_13 : xfind (xnth xTs 11) 13 = some (13, .iload_n 1, 1, (0, 0, 0, 0), .null, [], 0, 0, []) := rfl
theorem f_11_14 : xfind (xnth xTs 11) 14 = some (14, .iaload, 1, (0, 0, 0, 0), .null, [], 0, 0, []) := rfl
theorem f_11_15 : xfind (xnth xTs 11) 15 = some (15, .goto 4, 3, (0, 0, 0, 0), .null, [], 0, 0, []) := rfl
theorem f_11_18 : xfind (xnth xTs 11) 18 = some (18, .iconst 0, 1, (0, 0, 0, 0), (.int 0), [], 0, 0, []) := rfl
theorem f_11_19 : xfind (xnth xTs 11) 19 = some (19, .ireturn, 1, (0, 0, 0, 0), .null, [], 0, 0, []) := rfl
theorem b_House_minutesOf_0 (sh : xSh) (M : Nat → Nat → Int32) (J : Nat → Nat → Int64) (l0 : Nat) (l1 : Int32) : ev (11, 0, [.ref l0, .int l1], [], (sh, M, J)) = (bif decide (l1 < 0) then some (some (.int 0), (sh, M, J)) else bif decide (5 ≤ l1) then some (some (.int 0), (sh, M, J)) else bif decide ((sh.2.2.1 l0).1 = 1) then bif (decide ((sh.2.2.1 (sh.2.2.2 l0 5)).1 = 11) && xin l1 (sh.2.2.1 (sh.2.2.2 l0 5)).2) then some (some (.int (M (sh.2.2.2 l0 5) (l1 : Int32).toNatClampNeg)), (sh, M, J)) else none else none) := by
  refine ev_nx (s1 := (11, 1, [.ref l0, .int l1], [.int l1], (sh, M, J))) f_11_0 rfl ?_
  refine ev_br (s1 := (11, 18, [.ref l0, .int l1], [], (sh, M, J))) (s2 := (11, 4, [.ref l0, .int l1], [], (sh, M, J))) f_11_1 rfl ?_ ?_
  · refine ev_nx (s1 := (11, 19, [.ref l0, .int l1], [.int 0], (sh, M, J))) f_11_18 rfl ?_
    exact ev_r1 f_11_19 rfl
  · refine ev_nx (s1 := (11, 5, [.ref l0, .int l1], [.int l1], (sh, M, J))) f_11_4 rfl ?_
    refine ev_nx (s1 := (11, 6, [.ref l0, .int l1], [.int 5, .int l1], (sh, M, J))) f_11_5 rfl ?_
    refine ev_br (s1 := (11, 18, [.ref l0, .int l1], [], (sh, M, J))) (s2 := (11, 9, [.ref l0, .int l1], [], (sh, M, J))) f_11_6 rfl ?_ ?_
    · refine ev_nx (s1 := (11, 19, [.ref l0, .int l1], [.int 0], (sh, M, J))) f_11_18 rfl ?_
      exact ev_r1 f_11_19 rfl
    · refine ev_nx (s1 := (11, 10, [.ref l0, .int l1], [.ref l0], (sh, M, J))) f_11_9 rfl ?_
      refine ev_gd (s1 := (11, 13, [.ref l0, .int l1], [.ref (sh.2.2.2 l0 5)], (sh, M, J))) f_11_10 rfl ?_
      refine ev_nx (s1 := (11, 14, [.ref l0, .int l1], [.int l1, .ref (sh.2.2.2 l0 5)], (sh, M, J))) f_11_13 rfl ?_
      refine ev_gd (s1 := (11, 15, [.ref l0, .int l1], [.int (M (sh.2.2.2 l0 5) (l1 : Int32).toNatClampNeg)], (sh, M, J))) f_11_14 rfl ?_
      refine ev_nx (s1 := (11, 19, [.ref l0, .int l1], [.int (M (sh.2.2.2 l0 5) (l1 : Int32).toNatClampNeg)], (sh, M, J))) f_11_15 rfl ?_
      exact ev_r1 f_11_19 rfl
theorem f_12_0 : xfind (xnth xTs 12) 0 = some (0, .iload_n 1, 1, (0, 0, 0, 0), .null, [], 0, 0, []) := rfl
theorem f_12_1 : xfind (xnth xTs 12) 1 = some (1, .ifCond .lt 17, 3, (0, 0, 0, 0), .null, [], 0, 0, []) := rfl
theorem f_12_4 : xfind (xnth xTs 12) 4 = some (4, .iload_n 1, 1, (0, 0, 0, 0), .null, [], 0, 0, []) := rfl
theorem f_12_5 : xfind (xnth xTs 12) 5 = some (5, .iconst 5, 1, (0, 0, 0, 0), (.int 5), [], 0, 0, []) := rfl
theorem f_12_6 : xfind (xnth xTs 12) 6 = some (6, .if_icmp .ge 12, 3, (0, 0, 0, 0), .null, [], 0, 0, []) := rfl
theorem f_12_9 : xfind (xnth xTs 12) 9 = some (9, .aload_n 0, 1, (0, 0, 0, 0), .null, [], 0, 0, []) := rfl
theorem f_12_10 : xfind (xnth xTs 12) 10 = some (10, .getfield 31, 3, (1, 6, 1, 0), .null, [], 115, 0, []) := rfl
theorem f_12_13 : xfind (xnth xTs 12) 13 = some (13, .iload_n 1, 1, (0, 0, 0, 0), .null, [], 0, 0, []) := rfl
theorem f_12_14 : xfind (xnth xTs 12) 14 = some (14, .iaload, 1, (0, 0, 0, 0), .null, [], 0, 0, []) := rfl
theorem f_12_15 : xfind (xnth xTs 12) 15 = some (15, .goto 4, 3, (0, 0, 0, 0), .null, [], 0, 0, []) := rfl
theorem f_12_18 : xfind (xnth xTs 12) 18 = some (18, .iconst 0, 1, (0, 0, 0, 0), (.int 0), [], 0, 0, []) := rfl
theorem f_12_19 : xfind (xnth xTs 12) 19 = some (19, .ireturn, 1, (0, 0, 0, 0), .null, [], 0, 0, []) := rfl
theorem b_House_heightOf_0 (sh : xSh) (M : Nat → Nat → Int32) (J : Nat → Nat → Int64) (l0 : Nat) (l1 : Int32) : ev (12, 0, [.ref l0, .int l1], [], (sh, M, J)) = (bif decide (l1 < 0) then some (some (.int 0), (sh, M, J)) else bif decide (5 ≤ l1) then some (some (.int 0), (sh, M, J)) else bif decide ((sh.2.2.1 l0).1 = 1) then bif (decide ((sh.2.2.1 (sh.2.2.2 l0 6)).1 = 11) && xin l1 (sh.2.2.1 (sh.2.2.2 l0 6)).2) then some (some (.int (M (sh.2.2.2 l0 6) (l1 : Int32).toNatClampNeg)), (sh, M, J)) else none else none) := by
  refine ev_nx (s1 := (12, 1, [.ref l0, .int l1], [.int l1], (sh, M, J))) f_12_0 rfl ?_
  refine ev_br (s1 := (12, 18, [.ref l0, .int l1], [], (sh, M, J))) (s2 := (12, 4, [.ref l0, .int l1], [], (sh, M, J))) f_12_1 rfl ?_ ?_
  · refine ev_nx (s1 := (12, 19, [.ref l0, .int l1], [.int 0], (sh, M, J))) f_12_18 rfl ?_
    exact ev_r1 f_12_19 rfl
  · refine ev_nx (s1 := (12, 5, [.ref l0, .int l1], [.int l1], (sh, M, J))) f_12_4 rfl ?_
    refine ev_nx (s1 := (12, 6, [.ref l0, .int l1], [.int 5, .int l1], (sh, M, J))) f_12_5 rfl ?_
    refine ev_br (s1 := (12, 18, [.ref l0, .int l1], [], (sh, M, J))) (s2 := (12, 9, [.ref l0, .int l1], [], (sh, M, J))) f_12_6 rfl ?_ ?_
    · refine ev_nx (s1 := (12, 19, [.ref l0, .int l1], [.int 0], (sh, M, J))) f_12_18 rfl ?_
      exact ev_r1 f_12_19 rfl
    · refine ev_nx (s1 := (12, 10, [.ref l0, .int l1], [.ref l0], (sh, M, J))) f_12_9 rfl ?_
      refine ev_gd (s1 := (12, 13, [.ref l0, .int l1], [.ref (sh.2.2.2 l0 6)], (sh, M, J))) f_12_10 rfl ?_
      refine ev_nx (s1 := (12, 14, [.ref l0, .int l1], [.int l1, .ref (sh.2.2.2 l0 6)], (sh, M, J))) f_12_13 rfl ?_
      refine ev_gd (s1 := (12, 15, [.ref l0, .int l1], [.int (M (sh.2.2.2 l0 6) (l1 : Int32).toNatClampNeg)], (sh, M, J))) f_12_14 rfl ?_
      refine ev_nx (s1 := (12, 19, [.ref l0, .int l1], [.int (M (sh.2.2.2 l0 6) (l1 : Int32).toNatClampNeg)], (sh, M, J))) f_12_15 rfl ?_
      exact ev_r1 f_12_19 rfl
theorem f_13_0 : xfind (xnth xTs 13) 0 = some (0, .aload_n 0, 1, (0, 0, 0, 0), .null, [], 0, 0, []) := rfl
theorem f_13_1 : xfind (xnth xTs 13) 1 = some (1, .getfield 9, 3, (1, 0, 0, 0), .null, [], 97, 0, []) := rfl
theorem f_13_4 : xfind (xnth xTs 13) 4 = some (4, .aload_n 0, 1, (0, 0, 0, 0), .null, [], 0, 0, []) := rfl
theorem f_13_5 : xfind (xnth xTs 13) 5 = some (5, .getfield 15, 3, (1, 1, 0, 0), .null, [], 102, 0, []) := rfl
theorem f_13_8 : xfind (xnth xTs 13) 8 = some (8, .imul, 1, (0, 0, 0, 0), .null, [], 0, 0, []) := rfl
theorem f_13_9 : xfind (xnth xTs 13) 9 = some (9, .ireturn, 1, (0, 0, 0, 0), .null, [], 0, 0, []) := rfl
theorem b_House_cells_0 (sh : xSh) (M : Nat → Nat → Int32) (J : Nat → Nat → Int64) (l0 : Nat) : ev (13, 0, [.ref l0], [], (sh, M, J)) = (bif decide ((sh.2.2.1 l0).1 = 1) then bif decide ((sh.2.2.1 l0).1 = 1) then some (some (.int ((M l0 0) * (M l0 1))), (sh, M, J)) else none else none) := by
  refine ev_nx (s1 := (13, 1, [.ref l0], [.ref l0], (sh, M, J))) f_13_0 rfl ?_
  refine ev_gd (s1 := (13, 4, [.ref l0], [.int (M l0 0)], (sh, M, J))) f_13_1 rfl ?_
  refine ev_nx (s1 := (13, 5, [.ref l0], [.ref l0, .int (M l0 0)], (sh, M, J))) f_13_4 rfl ?_
  refine ev_gd (s1 := (13, 8, [.ref l0], [.int (M l0 1), .int (M l0 0)], (sh, M, J))) f_13_5 rfl ?_
  refine ev_nx (s1 := (13, 9, [.ref l0], [.int ((M l0 0) * (M l0 1))], (sh, M, J))) f_13_8 rfl ?_
  exact ev_r1 f_13_9 rfl
theorem f_14_0 : xfind (xnth xTs 14) 0 = some (0, .iload_n 1, 1, (0, 0, 0, 0), .null, [], 0, 0, []) := rfl
theorem f_14_1 : xfind (xnth xTs 14) 1 = some (1, .iconst 0, 1, (0, 0, 0, 0), (.int 0), [], 0, 0, []) := rfl
theorem f_14_2 : xfind (xnth xTs 14) 2 = some (2, .aload_n 0, 1, (0, 0, 0, 0), .null, [], 0, 0, []) := rfl
theorem f_14_3 : xfind (xnth xTs 14) 3 = some (3, .invokevirtual 62, 3, (13, 0, 1, 1), .null, [], 554, 0, []) := rfl
theorem f_14_6 : xfind (xnth xTs 14) 6 = some (6, .iconst 1, 1, (0, 0, 0, 0), (.int 1), [], 0, 0, []) := rfl
theorem f_14_7 : xfind (xnth xTs 14) 7 = some (7, .isub, 1, (0, 0, 0, 0), .null, [], 0, 0, []) := rfl
theorem f_14_8 : xfind (xnth xTs 14) 8 = some (8, .invokestatic 66, 3, (125, 3, 8, 3), .null, [], 555, 0, []) := rfl
theorem f_14_11 : xfind (xnth xTs 14) 11 = some (11, .ireturn, 1, (1, 0, 0, 0), .null, [], 0, 0, []) := rfl
theorem b_House_hasCell_0 (sh : xSh) (M : Nat → Nat → Int32) (J : Nat → Nat → Int64) (l0 : Nat) (l1 : Int32) : ev (14, 0, [.ref l0, .int l1], [], (sh, M, J)) = (bif (decide ((sh.2.2.1 l0).1 = 1) && true) then (ev (13, 0, [.ref l0], [], (sh, M, J))).bind (fun r => ev (14, 6, [.ref l0, .int l1], r.1.toList ++ [.int 0, .int l1], r.2)) else none) := by
  refine ev_nx (s1 := (14, 1, [.ref l0, .int l1], [.int l1], (sh, M, J))) f_14_0 rfl ?_
  refine ev_nx (s1 := (14, 2, [.ref l0, .int l1], [.int 0, .int l1], (sh, M, J))) f_14_1 rfl ?_
  refine ev_nx (s1 := (14, 3, [.ref l0, .int l1], [.ref l0, .int 0, .int l1], (sh, M, J))) f_14_2 rfl ?_
  exact ev_ca (cc := (decide ((sh.2.2.1 l0).1 = 1) && true)) (s1 := (13, 0, [.ref l0], [], (sh, M, J))) (k := (14, 6, [.ref l0, .int l1], [.int 0, .int l1])) f_14_3 rfl
theorem b_House_hasCell_6 (sh : xSh) (M : Nat → Nat → Int32) (J : Nat → Nat → Int64) (l0 : Nat) (l1 : Int32) (k0 : Int32) (k1 : Int32) (k2 : Int32) : ev (14, 6, [.ref l0, .int l1], [.int k0, .int k1, .int k2], (sh, M, J)) = ((ev (125, 0, [.int k2, .int k1, .int (k0 - 1)], [], (sh, M, J))).bind (fun r => ev (14, 11, [.ref l0, .int l1], r.1.toList ++ [], r.2))) := by
  refine ev_nx (s1 := (14, 7, [.ref l0, .int l1], [.int 1, .int k0, .int k1, .int k2], (sh, M, J))) f_14_6 rfl ?_
  refine ev_nx (s1 := (14, 8, [.ref l0, .int l1], [.int (k0 - 1), .int k1, .int k2], (sh, M, J))) f_14_7 rfl ?_
  exact ev_c1 (s1 := (125, 0, [.int k2, .int k1, .int (k0 - 1)], [], (sh, M, J))) (k := (14, 11, [.ref l0, .int l1], [])) f_14_8 rfl
theorem b_House_hasCell_11 (sh : xSh) (M : Nat → Nat → Int32) (J : Nat → Nat → Int64) (l0 : Nat) (l1 : Int32) (k0 : Int32) : ev (14, 11, [.ref l0, .int l1], [.int k0], (sh, M, J)) = (bif ((k0 &&& 1) == k0) then some (some (.int k0), (sh, M, J)) else none) := by
  exact ev_rt f_14_11 rfl
theorem f_15_0 : xfind (xnth xTs 15) 0 = some (0, .iload_n 1, 1, (0, 0, 0, 0), .null, [], 0, 0, []) := rfl
theorem f_15_1 : xfind (xnth xTs 15) 1 = some (1, .iconst 0, 1, (0, 0, 0, 0), (.int 0), [], 0, 0, []) := rfl
theorem f_15_2 : xfind (xnth xTs 15) 2 = some (2, .aload_n 0, 1, (0, 0, 0, 0), .null, [], 0, 0, []) := rfl
theorem f_15_3 : xfind (xnth xTs 15) 3 = some (3, .getfield 9, 3, (1, 0, 0, 0), .null, [], 97, 0, []) := rfl
theorem f_15_6 : xfind (xnth xTs 15) 6 = some (6, .iconst 1, 1, (0, 0, 0, 0), (.int 1), [], 0, 0, []) := rfl
theorem f_15_7 : xfind (xnth xTs 15) 7 = some (7, .isub, 1, (0, 0, 0, 0), .null, [], 0, 0, []) := rfl
theorem f_15_8 : xfind (xnth xTs 15) 8 = some (8, .invokestatic 66, 3, (125, 3, 8, 3), .null, [], 555, 0, []) := rfl
theorem f_15_11 : xfind (xnth xTs 15) 11 = some (11, .ireturn, 1, (1, 0, 0, 0), .null, [], 0, 0, []) := rfl
theorem b_House_hasColumn_0 (sh : xSh) (M : Nat → Nat → Int32) (J : Nat → Nat → Int64) (l0 : Nat) (l1 : Int32) : ev (15, 0, [.ref l0, .int l1], [], (sh, M, J)) = (bif decide ((sh.2.2.1 l0).1 = 1) then (ev (125, 0, [.int l1, .int 0, .int ((M l0 0) - 1)], [], (sh, M, J))).bind (fun r => ev (15, 11, [.ref l0, .int l1], r.1.toList ++ [], r.2)) else none) := by
  refine ev_nx (s1 := (15, 1, [.ref l0, .int l1], [.int l1], (sh, M, J))) f_15_0 rfl ?_
  refine ev_nx (s1 := (15, 2, [.ref l0, .int l1], [.int 0, .int l1], (sh, M, J))) f_15_1 rfl ?_
  refine ev_nx (s1 := (15, 3, [.ref l0, .int l1], [.ref l0, .int 0, .int l1], (sh, M, J))) f_15_2 rfl ?_
  refine ev_gd (s1 := (15, 6, [.ref l0, .int l1], [.int (M l0 0), .int 0, .int l1], (sh, M, J))) f_15_3 rfl ?_
  refine ev_nx (s1 := (15, 7, [.ref l0, .int l1], [.int 1, .int (M l0 0), .int 0, .int l1], (sh, M, J))) f_15_6 rfl ?_
  refine ev_nx (s1 := (15, 8, [.ref l0, .int l1], [.int ((M l0 0) - 1), .int 0, .int l1], (sh, M, J))) f_15_7 rfl ?_
  exact ev_c1 (s1 := (125, 0, [.int l1, .int 0, .int ((M l0 0) - 1)], [], (sh, M, J))) (k := (15, 11, [.ref l0, .int l1], [])) f_15_8 rfl
theorem b_House_hasColumn_11 (sh : xSh) (M : Nat → Nat → Int32) (J : Nat → Nat → Int64) (l0 : Nat) (l1 : Int32) (k0 : Int32) : ev (15, 11, [.ref l0, .int l1], [.int k0], (sh, M, J)) = (bif ((k0 &&& 1) == k0) then some (some (.int k0), (sh, M, J)) else none) := by
  exact ev_rt f_15_11 rfl
theorem f_16_0 : xfind (xnth xTs 16) 0 = some (0, .iload_n 1, 1, (0, 0, 0, 0), .null, [], 0, 0, []) := rfl
theorem f_16_1 : xfind (xnth xTs 16) 1 = some (1, .iconst 0, 1, (0, 0, 0, 0), (.int 0), [], 0, 0, []) := rfl
theorem f_16_2 : xfind (xnth xTs 16) 2 = some (2, .aload_n 0, 1, (0, 0, 0, 0), .null, [], 0, 0, []) := rfl
theorem f_16_3 : xfind (xnth xTs 16) 3 = some (3, .getfield 18, 3, (1, 2, 0, 0), .null, [], 107, 0, []) := rfl
theorem f_16_6 : xfind (xnth xTs 16) 6 = some (6, .iconst 1, 1, (0, 0, 0, 0), (.int 1), [], 0, 0, []) := rfl
theorem f_16_7 : xfind (xnth xTs 16) 7 = some (7, .isub, 1, (0, 0, 0, 0), .null, [], 0, 0, []) := rfl
theorem f_16_8 : xfind (xnth xTs 16) 8 = some (8, .invokestatic 66, 3, (125, 3, 8, 3), .null, [], 555, 0, []) := rfl
theorem f_16_11 : xfind (xnth xTs 16) 11 = some (11, .ireturn, 1, (1, 0, 0, 0), .null, [], 0, 0, []) := rfl
theorem b_House_hasActor_0 (sh : xSh) (M : Nat → Nat → Int32) (J : Nat → Nat → Int64) (l0 : Nat) (l1 : Int32) : ev (16, 0, [.ref l0, .int l1], [], (sh, M, J)) = (bif decide ((sh.2.2.1 l0).1 = 1) then (ev (125, 0, [.int l1, .int 0, .int ((M l0 2) - 1)], [], (sh, M, J))).bind (fun r => ev (16, 11, [.ref l0, .int l1], r.1.toList ++ [], r.2)) else none) := by
  refine ev_nx (s1 := (16, 1, [.ref l0, .int l1], [.int l1], (sh, M, J))) f_16_0 rfl ?_
  refine ev_nx (s1 := (16, 2, [.ref l0, .int l1], [.int 0, .int l1], (sh, M, J))) f_16_1 rfl ?_
  refine ev_nx (s1 := (16, 3, [.ref l0, .int l1], [.ref l0, .int 0, .int l1], (sh, M, J))) f_16_2 rfl ?_
  refine ev_gd (s1 := (16, 6, [.ref l0, .int l1], [.int (M l0 2), .int 0, .int l1], (sh, M, J))) f_16_3 rfl ?_
  refine ev_nx (s1 := (16, 7, [.ref l0, .int l1], [.int 1, .int (M l0 2), .int 0, .int l1], (sh, M, J))) f_16_6 rfl ?_
  refine ev_nx (s1 := (16, 8, [.ref l0, .int l1], [.int ((M l0 2) - 1), .int 0, .int l1], (sh, M, J))) f_16_7 rfl ?_
  exact ev_c1 (s1 := (125, 0, [.int l1, .int 0, .int ((M l0 2) - 1)], [], (sh, M, J))) (k := (16, 11, [.ref l0, .int l1], [])) f_16_8 rfl
theorem b_House_hasActor_11 (sh : xSh) (M : Nat → Nat → Int32) (J : Nat → Nat → Int64) (l0 : Nat) (l1 : Int32) (k0 : Int32) : ev (16, 11, [.ref l0, .int l1], [.int k0], (sh, M, J)) = (bif ((k0 &&& 1) == k0) then some (some (.int k0), (sh, M, J)) else none) := by
  exact ev_rt f_16_11 rfl
theorem f_17_0 : xfind (xnth xTs 17) 0 = some (0, .iload_n 2, 1, (0, 0, 0, 0), .null, [], 0, 0, []) := rfl
theorem f_17_1 : xfind (xnth xTs 17) 1 = some (1, .aload_n 0, 1, (0, 0, 0, 0), .null, [], 0, 0, []) := rfl
theorem f_17_2 : xfind (xnth xTs 17) 2 = some (2, .getfield 9, 3, (1, 0, 0, 0), .null, [], 97, 0, []) := rfl
theorem f_17_5 : xfind (xnth xTs 17) 5 = some (5, .imul, 1, (0, 0, 0, 0), .null, [], 0, 0, []) := rfl
theorem f_17_6 : xfind (xnth xTs 17) 6 = some (6, .iload_n 1, 1, (0, 0, 0, 0), .null, [], 0, 0, []) := rfl
theorem f_17_7 : xfind (xnth xTs 17) 7 = some (7, .iadd, 1, (0, 0, 0, 0), .null, [], 0, 0, []) := rfl
theorem f_17_8 : xfind (xnth xTs 17) 8 = some (8, .ireturn, 1, (0, 0, 0, 0), .null, [], 0, 0, []) := rfl
theorem b_House_cellAt_0 (sh : xSh) (M : Nat → Nat → Int32) (J : Nat → Nat → Int64) (l0 : Nat) (l1 : Int32) (l2 : Int32) : ev (17, 0, [.ref l0, .int l1, .int l2], [], (sh, M, J)) = (bif decide ((sh.2.2.1 l0).1 = 1) then some (some (.int ((l2 * (M l0 0)) + l1)), (sh, M, J)) else none) := by
  refine ev_nx (s1 := (17, 1, [.ref l0, .int l1, .int l2], [.int l2], (sh, M, J))) f_17_0 rfl ?_
  refine ev_nx (s1 := (17, 2, [.ref l0, .int l1, .int l2], [.ref l0, .int l2], (sh, M, J))) f_17_1 rfl ?_
  refine ev_gd (s1 := (17, 5, [.ref l0, .int l1, .int l2], [.int (M l0 0), .int l2], (sh, M, J))) f_17_2 rfl ?_
  refine ev_nx (s1 := (17, 6, [.ref l0, .int l1, .int l2], [.int (l2 * (M l0 0))], (sh, M, J))) f_17_5 rfl ?_
  refine ev_nx (s1 := (17, 7, [.ref l0, .int l1, .int l2], [.int l1, .int (l2 * (M l0 0))], (sh, M, J))) f_17_6 rfl ?_
  refine ev_nx (s1 := (17, 8, [.ref l0, .int l1, .int l2], [.int ((l2 * (M l0 0)) + l1)], (sh, M, J))) f_17_7 rfl ?_
  exact ev_r1 f_17_8 rfl
theorem f_18_0 : xfind (xnth xTs 18) 0 = some (0, .aload_n 0, 1, (0, 0, 0, 0), .null, [], 0, 0, []) := rfl
theorem f_18_1 : xfind (xnth xTs 18) 1 = some (1, .getfield 9, 3, (1, 0, 0, 0), .null, [], 97, 0, []) := rfl
theorem f_18_4 : xfind (xnth xTs 18) 4 = some (4, .ifCond .le 12, 3, (0, 0, 0, 0), .null, [], 0, 0, []) := rfl
theorem f_18_7 : xfind (xnth xTs 18) 7 = some (7, .iload_n 1, 1, (0, 0, 0, 0), .null, [], 0, 0, []) := rfl
theorem f_18_8 : xfind (xnth xTs 18) 8 = some (8, .aload_n 0, 1, (0, 0, 0, 0), .null, [], 0, 0, []) := rfl
theorem f_18_9 : xfind (xnth xTs 18) 9 = some (9, .getfield 9, 3, (1, 0, 0, 0), .null, [], 97, 0, []) := rfl
theorem f_18_12 : xfind (xnth xTs 18) 12 = some (12, .irem, 1, (0, 0, 0, 0), .null, [], 0, 0, []) := rfl
theorem f_18_13 : xfind (xnth xTs 18) 13 = some (13, .goto 4, 3, (0, 0, 0, 0), .null, [], 0, 0, []) := rfl
theorem f_18_16 : xfind (xnth xTs 18) 16 = some (16, .iconst 0, 1, (0, 0, 0, 0), (.int 0), [], 0, 0, []) := rfl
theorem f_18_17 : xfind (xnth xTs 18) 17 = some (17, .ireturn, 1, (0, 0, 0, 0), .null, [], 0, 0, []) := rfl
theorem b_House_columnOfCell_0 (sh : xSh) (M : Nat → Nat → Int32) (J : Nat → Nat → Int64) (l0 : Nat) (l1 : Int32) : ev (18, 0, [.ref l0, .int l1], [], (sh, M, J)) = (bif decide ((sh.2.2.1 l0).1 = 1) then bif decide ((M l0 0) ≤ 0) then some (some (.int 0), (sh, M, J)) else bif decide ((sh.2.2.1 l0).1 = 1) then bif !decide ((M l0 0) = 0) then some (some (.int (xrem l1 (M l0 0))), (sh, M, J)) else none else none else none) := by
  refine ev_nx (s1 := (18, 1, [.ref l0, .int l1], [.ref l0], (sh, M, J))) f_18_0 rfl ?_
  refine ev_gd (s1 := (18, 4, [.ref l0, .int l1], [.int (M l0 0)], (sh, M, J))) f_18_1 rfl ?_
  refine ev_br (s1 := (18, 16, [.ref l0, .int l1], [], (sh, M, J))) (s2 := (18, 7, [.ref l0, .int l1], [], (sh, M, J))) f_18_4 rfl ?_ ?_
  · refine ev_nx (s1 := (18, 17, [.ref l0, .int l1], [.int 0], (sh, M, J))) f_18_16 rfl ?_
    exact ev_r1 f_18_17 rfl
  · refine ev_nx (s1 := (18, 8, [.ref l0, .int l1], [.int l1], (sh, M, J))) f_18_7 rfl ?_
    refine ev_nx (s1 := (18, 9, [.ref l0, .int l1], [.ref l0, .int l1], (sh, M, J))) f_18_8 rfl ?_
    refine ev_gd (s1 := (18, 12, [.ref l0, .int l1], [.int (M l0 0), .int l1], (sh, M, J))) f_18_9 rfl ?_
    refine ev_gd (s1 := (18, 13, [.ref l0, .int l1], [.int (xrem l1 (M l0 0))], (sh, M, J))) f_18_12 rfl ?_
    refine ev_nx (s1 := (18, 17, [.ref l0, .int l1], [.int (xrem l1 (M l0 0))], (sh, M, J))) f_18_13 rfl ?_
    exact ev_r1 f_18_17 rfl
theorem f_19_0 : xfind (xnth xTs 19) 0 = some (0, .aload_n 0, 1, (0, 0, 0, 0), .null, [], 0, 0, []) := rfl
theorem f_19_1 : xfind (xnth xTs 19) 1 = some (1, .getfield 9, 3, (1, 0, 0, 0), .null, [], 97, 0, []) := rfl
theorem f_19_4 : xfind (xnth xTs 19) 4 = some (4, .ifCond .le 12, 3, (0, 0, 0, 0), .null, [], 0, 0, []) := rfl
theorem f_19_7 : xfind (xnth xTs 19) 7 = some (7, .iload_n 1, 1, (0, 0, 0, 0), .null, [], 0, 0, []) := rfl
theorem f_19_8 : xfind (xnth xTs 19) 8 = some (8, .aload_n 0, 1, (0, 0, 0, 0), .null, [], 0, 0, []) := rfl
theorem f_19_9 : xfind (xnth xTs 19) 9 = some (9, .getfield 9, 3, (1, 0, 0, 0), .null, [], 97, 0, []) := rfl
theorem f_19_12 : xfind (xnth xTs 19) 12 = some (12, .idiv, 1, (0, 0, 0, 0), .null, [], 0, 0, []) := rfl
theorem f_19_13 : xfind (xnth xTs 19) 13 = some (13, .goto 4, 3, (0, 0, 0, 0), .null, [], 0, 0, []) := rfl
theorem f_19_16 : xfind (xnth xTs 19) 16 = some (16, .iconst 0, 1, (0, 0, 0, 0), (.int 0), [], 0, 0, []) := rfl
theorem f_19_17 : xfind (xnth xTs 19) 17 = some (17, .ireturn, 1, (0, 0, 0, 0), .null, [], 0, 0, []) := rfl
theorem b_House_rowOfCell_0 (sh : xSh) (M : Nat → Nat → Int32) (J : Nat → Nat → Int64) (l0 : Nat) (l1 : Int32) : ev (19, 0, [.ref l0, .int l1], [], (sh, M, J)) = (bif decide ((sh.2.2.1 l0).1 = 1) then bif decide ((M l0 0) ≤ 0) then some (some (.int 0), (sh, M, J)) else bif decide ((sh.2.2.1 l0).1 = 1) then bif !decide ((M l0 0) = 0) then some (some (.int (l1 / (M l0 0))), (sh, M, J)) else none else none else none) := by
  refine ev_nx (s1 := (19, 1, [.ref l0, .int l1], [.ref l0], (sh, M, J))) f_19_0 rfl ?_
  refine ev_gd (s1 := (19, 4, [.ref l0, .int l1], [.int (M l0 0)], (sh, M, J))) f_19_1 rfl ?_
  refine ev_br (s1 := (19, 16, [.ref l0, .int l1], [], (sh, M, J))) (s2 := (19, 7, [.ref l0, .int l1], [], (sh, M, J))) f_19_4 rfl ?_ ?_
  · refine ev_nx (s1 := (19, 17, [.ref l0, .int l1], [.int 0], (sh, M, J))) f_19_16 rfl ?_
    exact ev_r1 f_19_17 rfl
  · refine ev_nx (s1 := (19, 8, [.ref l0, .int l1], [.int l1], (sh, M, J))) f_19_7 rfl ?_
    refine ev_nx (s1 := (19, 9, [.ref l0, .int l1], [.ref l0, .int l1], (sh, M, J))) f_19_8 rfl ?_
    refine ev_gd (s1 := (19, 12, [.ref l0, .int l1], [.int (M l0 0), .int l1], (sh, M, J))) f_19_9 rfl ?_
    refine ev_gd (s1 := (19, 13, [.ref l0, .int l1], [.int (l1 / (M l0 0))], (sh, M, J))) f_19_12 rfl ?_
    refine ev_nx (s1 := (19, 17, [.ref l0, .int l1], [.int (l1 / (M l0 0))], (sh, M, J))) f_19_13 rfl ?_
    exact ev_r1 f_19_17 rfl
theorem f_20_0 : xfind (xnth xTs 20) 0 = some (0, .iconst 2, 1, (0, 0, 0, 0), (.int 2), [], 0, 0, []) := rfl
theorem f_20_1 : xfind (xnth xTs 20) 1 = some (1, .iload_n 1, 1, (0, 0, 0, 0), .null, [], 0, 0, []) := rfl
theorem f_20_2 : xfind (xnth xTs 20) 2 = some (2, .imul, 1, (0, 0, 0, 0), .null, [], 0, 0, []) := rfl
theorem f_20_3 : xfind (xnth xTs 20) 3 = some (3, .aload_n 0, 1, (0, 0, 0, 0), .null, [], 0, 0, []) := rfl
theorem f_20_4 : xfind (xnth xTs 20) 4 = some (4, .getfield 9, 3, (1, 0, 0, 0), .null, [], 97, 0, []) := rfl
theorem f_20_7 : xfind (xnth xTs 20) 7 = some (7, .iconst 1, 1, (0, 0, 0, 0), (.int 1), [], 0, 0, []) := rfl
theorem f_20_8 : xfind (xnth xTs 20) 8 = some (8, .isub, 1, (0, 0, 0, 0), .null, [], 0, 0, []) := rfl
theorem f_20_9 : xfind (xnth xTs 20) 9 = some (9, .invokestatic 70, 3, (201, 2, 99, 2), .null, [], 509, 0, []) := rfl
theorem f_20_12 : xfind (xnth xTs 20) 12 = some (12, .ireturn, 1, (0, 0, 0, 0), .null, [], 0, 0, []) := rfl
theorem b_House_sideOf_0 (sh : xSh) (M : Nat → Nat → Int32) (J : Nat → Nat → Int64) (l0 : Nat) (l1 : Int32) : ev (20, 0, [.ref l0, .int l1], [], (sh, M, J)) = (bif decide ((sh.2.2.1 l0).1 = 1) then (ev (201, 0, [.int ((2 : Int32) * l1), .int ((M l0 0) - 1)], [], (sh, M, J))).bind (fun r => ev (20, 12, [.ref l0, .int l1], r.1.toList ++ [], r.2)) else none) := by
  refine ev_nx (s1 := (20, 1, [.ref l0, .int l1], [.int 2], (sh, M, J))) f_20_0 rfl ?_
  refine ev_nx (s1 := (20, 2, [.ref l0, .int l1], [.int l1, .int 2], (sh, M, J))) f_20_1 rfl ?_
  refine ev_nx (s1 := (20, 3, [.ref l0, .int l1], [.int ((2 : Int32) * l1)], (sh, M, J))) f_20_2 rfl ?_
  refine ev_nx (s1 := (20, 4, [.ref l0, .int l1], [.ref l0, .int ((2 : Int32) * l1)], (sh, M, J))) f_20_3 rfl ?_
  refine ev_gd (s1 := (20, 7, [.ref l0, .int l1], [.int (M l0 0), .int ((2 : Int32) * l1)], (sh, M, J))) f_20_4 rfl ?_
  refine ev_nx (s1 := (20, 8, [.ref l0, .int l1], [.int 1, .int (M l0 0), .int ((2 : Int32) * l1)], (sh, M, J))) f_20_7 rfl ?_
  refine ev_nx (s1 := (20, 9, [.ref l0, .int l1], [.int ((M l0 0) - 1), .int ((2 : Int32) * l1)], (sh, M, J))) f_20_8 rfl ?_
  exact ev_c1 (s1 := (201, 0, [.int ((2 : Int32) * l1), .int ((M l0 0) - 1)], [], (sh, M, J))) (k := (20, 12, [.ref l0, .int l1], [])) f_20_9 rfl
theorem b_House_sideOf_12 (sh : xSh) (M : Nat → Nat → Int32) (J : Nat → Nat → Int64) (l0 : Nat) (l1 : Int32) (k0 : Int32) : ev (20, 12, [.ref l0, .int l1], [.int k0], (sh, M, J)) = (some (some (.int k0), (sh, M, J))) := by
  exact ev_r1 f_20_12 rfl
theorem f_21_0 : xfind (xnth xTs 21) 0 = some (0, .aload_n 0, 1, (0, 0, 0, 0), .null, [], 0, 0, []) := rfl
theorem f_21_1 : xfind (xnth xTs 21) 1 = some (1, .iload_n 1, 1, (0, 0, 0, 0), .null, [], 0, 0, []) := rfl
theorem f_21_2 : xfind (xnth xTs 21) 2 = some (2, .invokevirtual 76, 3, (19, 1, 1, 2), .null, [], 567, 0, []) := rfl
theorem f_21_5 : xfind (xnth xTs 21) 5 = some (5, .aload_n 0, 1, (0, 0, 0, 0), .null, [], 0, 0, []) := rfl
theorem f_21_6 : xfind (xnth xTs 21) 6 = some (6, .aload_n 0, 1, (0, 0, 0, 0), .null, [], 0, 0, []) := rfl
theorem f_21_7 : xfind (xnth xTs 21) 7 = some (7, .iload_n 1, 1, (0, 0, 0, 0), .null, [], 0, 0, []) := rfl
theorem f_21_8 : xfind (xnth xTs 21) 8 = some (8, .invokevirtual 79, 3, (18, 1, 1, 2), .null, [], 571, 0, []) := rfl
theorem f_21_11 : xfind (xnth xTs 21) 11 = some (11, .invokevirtual 82, 3, (20, 1, 1, 2), .null, [], 575, 0, []) := rfl
theorem f_21_14 : xfind (xnth xTs 21) 14 = some (14, .iload_n 2, 1, (0, 0, 0, 0), .null, [], 0, 0, []) := rfl
theorem f_21_15 : xfind (xnth xTs 21) 15 = some (15, .imul, 1, (0, 0, 0, 0), .null, [], 0, 0, []) := rfl
theorem f_21_16 : xfind (xnth xTs 21) 16 = some (16, .iadd, 1, (0, 0, 0, 0), .null, [], 0, 0, []) := rfl
theorem f_21_17 : xfind (xnth xTs 21) 17 = some (17, .ireturn, 1, (0, 0, 0, 0), .null, [], 0, 0, []) := rfl
theorem b_House_hangsIn_0 (sh : xSh) (M : Nat → Nat → Int32) (J : Nat → Nat → Int64) (l0 : Nat) (l1 : Int32) (l2 : Int32) : ev (21, 0, [.ref l0, .int l1, .int l2], [], (sh, M, J)) = (bif (decide ((sh.2.2.1 l0).1 = 1) && true) then (ev (19, 0, [.ref l0, .int l1], [], (sh, M, J))).bind (fun r => ev (21, 5, [.ref l0, .int l1, .int l2], r.1.toList ++ [], r.2)) else none) := by
  refine ev_nx (s1 := (21, 1, [.ref l0, .int l1, .int l2], [.ref l0], (sh, M, J))) f_21_0 rfl ?_
  refine ev_nx (s1 := (21, 2, [.ref l0, .int l1, .int l2], [.int l1, .ref l0], (sh, M, J))) f_21_1 rfl ?_
  exact ev_ca (cc := (decide ((sh.2.2.1 l0).1 = 1) && true)) (s1 := (19, 0, [.ref l0, .int l1], [], (sh, M, J))) (k := (21, 5, [.ref l0, .int l1, .int l2], [])) f_21_2 rfl
theorem b_House_hangsIn_5 (sh : xSh) (M : Nat → Nat → Int32) (J : Nat → Nat → Int64) (l0 : Nat) (l1 : Int32) (l2 : Int32) (k0 : Int32) : ev (21, 5, [.ref l0, .int l1, .int l2], [.int k0], (sh, M, J)) = (bif (decide ((sh.2.2.1 l0).1 = 1) && true) then (ev (18, 0, [.ref l0, .int l1], [], (sh, M, J))).bind (fun r => ev (21, 11, [.ref l0, .int l1, .int l2], r.1.toList ++ [.ref l0, .int k0], r.2)) else none) := by
  refine ev_nx (s1 := (21, 6, [.ref l0, .int l1, .int l2], [.ref l0, .int k0], (sh, M, J))) f_21_5 rfl ?_
  refine ev_nx (s1 := (21, 7, [.ref l0, .int l1, .int l2], [.ref l0, .ref l0, .int k0], (sh, M, J))) f_21_6 rfl ?_
  refine ev_nx (s1 := (21, 8, [.ref l0, .int l1, .int l2], [.int l1, .ref l0, .ref l0, .int k0], (sh, M, J))) f_21_7 rfl ?_
  exact ev_ca (cc := (decide ((sh.2.2.1 l0).1 = 1) && true)) (s1 := (18, 0, [.ref l0, .int l1], [], (sh, M, J))) (k := (21, 11, [.ref l0, .int l1, .int l2], [.ref l0, .int k0])) f_21_8 rfl
theorem b_House_hangsIn_11 (sh : xSh) (M : Nat → Nat → Int32) (J : Nat → Nat → Int64) (l0 : Nat) (l1 : Int32) (l2 : Int32) (k0 : Int32) (k1 : Nat) (k2 : Int32) : ev (21, 11, [.ref l0, .int l1, .int l2], [.int k0, .ref k1, .int k2], (sh, M, J)) = (bif (decide ((sh.2.2.1 k1).1 = 1) && true) then (ev (20, 0, [.ref k1, .int k0], [], (sh, M, J))).bind (fun r => ev (21, 14, [.ref l0, .int l1, .int l2], r.1.toList ++ [.int k2], r.2)) else none) := by
  exact ev_ca (cc := (decide ((sh.2.2.1 k1).1 = 1) && true)) (s1 := (20, 0, [.ref k1, .int k0], [], (sh, M, J))) (k := (21, 14, [.ref l0, .int l1, .int l2], [.int k2])) f_21_11 rfl
theorem b_House_hangsIn_14 (sh : xSh) (M : Nat → Nat → Int32) (J : Nat → Nat → Int64) (l0 : Nat) (l1 : Int32) (l2 : Int32) (k0 : Int32) (k1 : Int32) : ev (21, 14, [.ref l0, .int l1, .int l2], [.int k0, .int k1], (sh, M, J)) = (some (some (.int (k1 + (k0 * l2))), (sh, M, J))) := by
  refine ev_nx (s1 := (21, 15, [.ref l0, .int l1, .int l2], [.int l2, .int k0, .int k1], (sh, M, J))) f_21_14 rfl ?_
  refine ev_nx (s1 := (21, 16, [.ref l0, .int l1, .int l2], [.int (k0 * l2), .int k1], (sh, M, J))) f_21_15 rfl ?_
  refine ev_nx (s1 := (21, 17, [.ref l0, .int l1, .int l2], [.int (k1 + (k0 * l2))], (sh, M, J))) f_21_16 rfl ?_
  exact ev_r1 f_21_17 rfl
theorem f_22_0 : xfind (xnth xTs 22) 0 = some (0, .iconst 1, 1, (0, 0, 0, 0), (.int 1), [], 0, 0, []) := rfl
theorem f_22_1 : xfind (xnth xTs 22) 1 = some (1, .istore_n 1, 1, (0, 0, 0, 0), .null, [], 0, 0, []) := rfl
theorem f_22_2 : xfind (xnth xTs 22) 2 = some (2, .iconst 0, 1, (0, 0, 0, 0), (.int 0), [], 0, 0, []) := rfl
theorem f_22_3 : xfind (xnth xTs 22) 3 = some (3, .istore_n 2, 1, (0, 0, 0, 0), .null, [], 0, 0, []) := rfl
theorem f_22_4 : xfind (xnth xTs 22) 4 = some (4, .iload_n 2, 1, (0, 0, 0, 0), .null, [], 0, 1, []) := rfl
theorem f_22_5 : xfind (xnth xTs 22) 5 = some (5, .aload_n 0, 1, (0, 0, 0, 0), .null, [], 0, 0, []) := rfl
theorem f_22_6 : xfind (xnth xTs 22) 6 = some (6, .getfield 18, 3, (1, 2, 0, 0), .null, [], 107, 0, []) := rfl
theorem f_22_9 : xfind (xnth xTs 22) 9 = some (9, .if_icmp .ge 16, 3, (0, 0, 0, 0), .null, [], 0, 0, []) := rfl
theorem f_22_12 : xfind (xnth xTs 22) 12 = some (12, .iload_n 1, 1, (0, 0, 0, 0), .null, [], 0, 0, []) := rfl
theorem f_22_13 : xfind (xnth xTs 22) 13 = some (13, .aload_n 0, 1, (0, 0, 0, 0), .null, [], 0, 0, []) := rfl
theorem f_22_14 : xfind (xnth xTs 22) 14 = some (14, .getfield 9, 3, (1, 0, 0, 0), .null, [], 97, 0, []) := rfl
theorem f_22_17 : xfind (xnth xTs 22) 17 = some (17, .imul, 1, (0, 0, 0, 0), .null, [], 0, 0, []) := rfl
theorem f_22_18 : xfind (xnth xTs 22) 18 = some (18, .istore_n 1, 1, (0, 0, 0, 0), .null, [], 0, 0, []) := rfl
theorem f_22_19 : xfind (xnth xTs 22) 19 = some (19, .iinc 2 1, 3, (0, 0, 0, 0), .null, [], 0, 0, []) := rfl
theorem f_22_22 : xfind (xnth xTs 22) 22 = some (22, .goto (-18), 3, (0, 0, 0, 0), .null, [], 0, 0, []) := rfl
theorem f_22_25 : xfind (xnth xTs 22) 25 = some (25, .iload_n 1, 1, (0, 0, 0, 0), .null, [], 0, 0, []) := rfl
theorem f_22_26 : xfind (xnth xTs 22) 26 = some (26, .ireturn, 1, (0, 0, 0, 0), .null, [], 0, 0, []) := rfl
theorem hd_22_4 : xhead 22 4 = some [] := rfl
theorem b_House_placings_0 (sh : xSh) (M : Nat → Nat → Int32) (J : Nat → Nat → Int64) (l0 : Nat) : ev (22, 0, [.ref l0, .null, .null], [], (sh, M, J)) = (ev (22, 4, [.ref l0, .int 1, .int 0], [], (sh, M, J))) := by
  refine ev_nx (s1 := (22, 1, [.ref l0, .null, .null], [.int 1], (sh, M, J))) f_22_0 rfl ?_
  refine ev_nx (s1 := (22, 2, [.ref l0, .int 1, .null], [], (sh, M, J))) f_22_1 rfl ?_
  refine ev_nx (s1 := (22, 3, [.ref l0, .int 1, .null], [.int 0], (sh, M, J))) f_22_2 rfl ?_
  refine ev_nx (s1 := (22, 4, [.ref l0, .int 1, .int 0], [], (sh, M, J))) f_22_3 rfl ?_
  exact rfl
theorem b_House_placings_4 (sh : xSh) (M : Nat → Nat → Int32) (J : Nat → Nat → Int64) (l0 : Nat) (l1 : Int32) (l2 : Int32) : ev (22, 4, [.ref l0, .int l1, .int l2], [], (sh, M, J)) = (bif decide ((sh.2.2.1 l0).1 = 1) then bif decide ((M l0 2) ≤ l2) then some (some (.int l1), (sh, M, J)) else bif decide ((sh.2.2.1 l0).1 = 1) then ev (22, 4, [.ref l0, .int (l1 * (M l0 0)), .int (l2 + 1)], [], (sh, M, J)) else none else none) := by
  refine ev_nx (s1 := (22, 5, [.ref l0, .int l1, .int l2], [.int l2], (sh, M, J))) f_22_4 rfl ?_
  refine ev_nx (s1 := (22, 6, [.ref l0, .int l1, .int l2], [.ref l0, .int l2], (sh, M, J))) f_22_5 rfl ?_
  refine ev_gd (s1 := (22, 9, [.ref l0, .int l1, .int l2], [.int (M l0 2), .int l2], (sh, M, J))) f_22_6 rfl ?_
  refine ev_br (s1 := (22, 25, [.ref l0, .int l1, .int l2], [], (sh, M, J))) (s2 := (22, 12, [.ref l0, .int l1, .int l2], [], (sh, M, J))) f_22_9 rfl ?_ ?_
  · refine ev_nx (s1 := (22, 26, [.ref l0, .int l1, .int l2], [.int l1], (sh, M, J))) f_22_25 rfl ?_
    exact ev_r1 f_22_26 rfl
  · refine ev_nx (s1 := (22, 13, [.ref l0, .int l1, .int l2], [.int l1], (sh, M, J))) f_22_12 rfl ?_
    refine ev_nx (s1 := (22, 14, [.ref l0, .int l1, .int l2], [.ref l0, .int l1], (sh, M, J))) f_22_13 rfl ?_
    refine ev_gd (s1 := (22, 17, [.ref l0, .int l1, .int l2], [.int (M l0 0), .int l1], (sh, M, J))) f_22_14 rfl ?_
    refine ev_nx (s1 := (22, 18, [.ref l0, .int l1, .int l2], [.int (l1 * (M l0 0))], (sh, M, J))) f_22_17 rfl ?_
    refine ev_nx (s1 := (22, 19, [.ref l0, .int (l1 * (M l0 0)), .int l2], [], (sh, M, J))) f_22_18 rfl ?_
    refine ev_nx (s1 := (22, 22, [.ref l0, .int (l1 * (M l0 0)), .int (l2 + 1)], [], (sh, M, J))) f_22_19 rfl ?_
    refine ev_nx (s1 := (22, 4, [.ref l0, .int (l1 * (M l0 0)), .int (l2 + 1)], [], (sh, M, J))) f_22_22 rfl ?_
    exact rfl
theorem f_24_0 : xfind (xnth xTs 24) 0 = some (0, .aload_n 0, 1, (0, 0, 0, 0), .null, [], 0, 0, []) := rfl
theorem f_24_1 : xfind (xnth xTs 24) 1 = some (1, .iconst 0, 1, (0, 0, 0, 0), (.int 0), [], 0, 0, []) := rfl
theorem f_24_2 : xfind (xnth xTs 24) 2 = some (2, .putfield 20, 3, (2, 2, 0, 0), .null, [], 211, 0, []) := rfl
theorem f_24_5 : xfind (xnth xTs 24) 5 = some (5, .return_, 1, (0, 0, 0, 0), .null, [], 0, 0, []) := rfl
theorem b_Images_clear_0 (sh : xSh) (M : Nat → Nat → Int32) (J : Nat → Nat → Int64) (l0 : Nat) : ev (24, 0, [.ref l0], [], (sh, M, J)) = (bif decide ((sh.2.2.1 l0).1 = 2) then some (none, (sh, (xu M l0 2 0), J)) else none) := by
  refine ev_nx (s1 := (24, 1, [.ref l0], [.ref l0], (sh, M, J))) f_24_0 rfl ?_
  refine ev_nx (s1 := (24, 2, [.ref l0], [.int 0, .ref l0], (sh, M, J))) f_24_1 rfl ?_
  refine ev_gd (s1 := (24, 5, [.ref l0], [], (sh, (xu M l0 2 0), J))) f_24_2 rfl ?_
  exact ev_r1 f_24_5 rfl
theorem f_25_0 : xfind (xnth xTs 25) 0 = some (0, .aload_n 0, 1, (0, 0, 0, 0), .null, [], 0, 0, []) := rfl
theorem f_25_1 : xfind (xnth xTs 25) 1 = some (1, .getfield 20, 3, (2, 2, 0, 0), .null, [], 211, 0, []) := rfl
theorem f_25_4 : xfind (xnth xTs 25) 4 = some (4, .iload_n 1, 1, (0, 0, 0, 0), .null, [], 0, 0, []) := rfl
theorem f_25_5 : xfind (xnth xTs 25) 5 = some (5, .invokestatic 24, 3, (127, 2, 8, 2), .null, [], 876, 0, []) := rfl
theorem f_25_8 : xfind (xnth xTs 25) 8 = some (8, .ireturn, 1, (1, 0, 0, 0), .null, [], 0, 0, []) := rfl
theorem b_Images_isStored_0 (sh : xSh) (M : Nat → Nat → Int32) (J : Nat → Nat → Int64) (l0 : Nat) (l1 : Int32) : ev (25, 0, [.ref l0, .int l1], [], (sh, M, J)) = (bif decide ((sh.2.2.1 l0).1 = 2) then (ev (127, 0, [.int (M l0 2), .int l1], [], (sh, M, J))).bind (fun r => ev (25, 8, [.ref l0, .int l1], r.1.toList ++ [], r.2)) else none) := by
  refine ev_nx (s1 := (25, 1, [.ref l0, .int l1], [.ref l0], (sh, M, J))) f_25_0 rfl ?_
  refine ev_gd (s1 := (25, 4, [.ref l0, .int l1], [.int (M l0 2)], (sh, M, J))) f_25_1 rfl ?_
  refine ev_nx (s1 := (25, 5, [.ref l0, .int l1], [.int l1, .int (M l0 2)], (sh, M, J))) f_25_4 rfl ?_
  exact ev_c1 (s1 := (127, 0, [.int (M l0 2), .int l1], [], (sh, M, J))) (k := (25, 8, [.ref l0, .int l1], [])) f_25_5 rfl
theorem b_Images_isStored_8 (sh : xSh) (M : Nat → Nat → Int32) (J : Nat → Nat → Int64) (l0 : Nat) (l1 : Int32) (k0 : Int32) : ev (25, 8, [.ref l0, .int l1], [.int k0], (sh, M, J)) = (bif ((k0 &&& 1) == k0) then some (some (.int k0), (sh, M, J)) else none) := by
  exact ev_rt f_25_8 rfl
theorem f_26_0 : xfind (xnth xTs 26) 0 = some (0, .iload_n 1, 1, (0, 0, 0, 0), .null, [], 0, 0, []) := rfl
theorem f_26_1 : xfind (xnth xTs 26) 1 = some (1, .iconst 0, 1, (0, 0, 0, 0), (.int 0), [], 0, 0, []) := rfl
theorem f_26_2 : xfind (xnth xTs 26) 2 = some (2, .iconst 1, 1, (0, 0, 0, 0), (.int 1), [], 0, 0, []) := rfl
theorem f_26_3 : xfind (xnth xTs 26) 3 = some (3, .invokestatic 28, 3, (125, 3, 8, 3), .null, [], 865, 0, []) := rfl
theorem f_26_6 : xfind (xnth xTs 26) 6 = some (6, .ifCond .eq 42, 3, (0, 0, 0, 0), .null, [], 0, 0, []) := rfl
theorem f_26_9 : xfind (xnth xTs 26) 9 = some (9, .aload_n 2, 1, (0, 0, 0, 0), .null, [], 0, 0, []) := rfl
theorem f_26_10 : xfind (xnth xTs 26) 10 = some (10, .getfield 32, 3, (6, 0, 1, 0), .null, [], 140, 0, []) := rfl
theorem f_26_13 : xfind (xnth xTs 26) 13 = some (13, .iconst 0, 1, (0, 0, 0, 0), (.int 0), [], 0, 0, []) := rfl
theorem f_26_14 : xfind (xnth xTs 26) 14 = some (14, .aload_n 0, 1, (0, 0, 0, 0), .null, [], 0, 0, []) := rfl
theorem f_26_15 : xfind (xnth xTs 26) 15 = some (15, .getfield 11, 3, (2, 0, 1, 0), .null, [], 209, 0, []) := rfl
theorem f_26_18 : xfind (xnth xTs 26) 18 = some (18, .iload_n 1, 1, (0, 0, 0, 0), .null, [], 0, 0, []) := rfl
theorem f_26_19 : xfind (xnth xTs 26) 19 = some (19, .bipush 62, 2, (0, 0, 0, 0), (.int 62), [], 0, 0, []) := rfl
theorem f_26_21 : xfind (xnth xTs 26) 21 = some (21, .imul, 1, (0, 0, 0, 0), .null, [], 0, 0, []) := rfl
theorem f_26_22 : xfind (xnth xTs 26) 22 = some (22, .bipush 62, 2, (0, 0, 0, 0), (.int 62), [], 0, 0, []) := rfl
theorem f_26_24 : xfind (xnth xTs 26) 24 = some (24, .invokestatic 35, 3, (999, 0, 0, 0), .null, [], 866, 0, []) := rfl
theorem f_26_27 : xfind (xnth xTs 26) 27 = some (27, .aload_n 0, 1, (0, 0, 0, 0), .null, [], 0, 0, []) := rfl
theorem f_26_28 : xfind (xnth xTs 26) 28 = some (28, .getfield 17, 3, (2, 1, 1, 0), .null, [], 210, 0, []) := rfl
theorem f_26_31 : xfind (xnth xTs 26) 31 = some (31, .iload_n 1, 1, (0, 0, 0, 0), .null, [], 0, 0, []) := rfl
theorem f_26_32 : xfind (xnth xTs 26) 32 = some (32, .iload_n 3, 1, (0, 0, 0, 0), .null, [], 0, 0, []) := rfl
theorem f_26_33 : xfind (xnth xTs 26) 33 = some (33, .invokestatic 41, 3, (130, 3, 8, 3), .null, [], 867, 0, []) := rfl
theorem f_26_36 : xfind (xnth xTs 26) 36 = some (36, .aload_n 0, 1, (0, 0, 0, 0), .null, [], 0, 0, []) := rfl
theorem f_26_37 : xfind (xnth xTs 26) 37 = some (37, .dup, 1, (0, 0, 0, 0), .null, [], 0, 0, []) := rfl
theorem f_26_38 : xfind (xnth xTs 26) 38 = some (38, .getfield 20, 3, (2, 2, 0, 0), .null, [], 211, 0, []) := rfl
theorem f_26_41 : xfind (xnth xTs 26) 41 = some (41, .iconst 1, 1, (0, 0, 0, 0), (.int 1), [], 0, 0, []) := rfl
theorem f_26_42 : xfind (xnth xTs 26) 42 = some (42, .iload_n 1, 1, (0, 0, 0, 0), .null, [], 0, 0, []) := rfl
theorem f_26_43 : xfind (xnth xTs 26) 43 = some (43, .ishl, 1, (0, 0, 0, 0), .null, [], 0, 0, []) := rfl
theorem f_26_44 : xfind (xnth xTs 26) 44 = some (44, .ior, 1, (0, 0, 0, 0), .null, [], 0, 0, []) := rfl
theorem f_26_45 : xfind (xnth xTs 26) 45 = some (45, .putfield 20, 3, (2, 2, 0, 0), .null, [], 211, 0, []) := rfl
theorem f_26_48 : xfind (xnth xTs 26) 48 = some (48, .return_, 1, (0, 0, 0, 0), .null, [], 0, 0, []) := rfl
theorem b_Images_store_0 (sh : xSh) (M : Nat → Nat → Int32) (J : Nat → Nat → Int64) (l0 : Nat) (l1 : Int32) (l2 : Nat) (l3 : Int32) : ev (26, 0, [.ref l0, .int l1, .ref l2, .int l3], [], (sh, M, J)) = ((ev (125, 0, [.int l1, .int 0, .int 1], [], (sh, M, J))).bind (fun r => ev (26, 6, [.ref l0, .int l1, .ref l2, .int l3], r.1.toList ++ [], r.2))) := by
  refine ev_nx (s1 := (26, 1, [.ref l0, .int l1, .ref l2, .int l3], [.int l1], (sh, M, J))) f_26_0 rfl ?_
  refine ev_nx (s1 := (26, 2, [.ref l0, .int l1, .ref l2, .int l3], [.int 0, .int l1], (sh, M, J))) f_26_1 rfl ?_
  refine ev_nx (s1 := (26, 3, [.ref l0, .int l1, .ref l2, .int l3], [.int 1, .int 0, .int l1], (sh, M, J))) f_26_2 rfl ?_
  exact ev_c1 (s1 := (125, 0, [.int l1, .int 0, .int 1], [], (sh, M, J))) (k := (26, 6, [.ref l0, .int l1, .ref l2, .int l3], [])) f_26_3 rfl
theorem b_Images_store_6 (sh : xSh) (M : Nat → Nat → Int32) (J : Nat → Nat → Int64) (l0 : Nat) (l1 : Int32) (l2 : Nat) (l3 : Int32) (k0 : Int32) : ev (26, 6, [.ref l0, .int l1, .ref l2, .int l3], [.int k0], (sh, M, J)) = (bif decide (k0 = 0) then some (none, (sh, M, J)) else bif decide ((sh.2.2.1 l2).1 = 6) then bif decide ((sh.2.2.1 l0).1 = 2) then bif (decide ((sh.2.2.1 (sh.2.2.2 l2 0)).1 = 11) && (decide ((sh.2.2.1 (sh.2.2.2 l0 0)).1 = 11) && (!decide ((0 : Int32) < 0) && (!decide (((l1 * 62) : Int32) < 0) && (!decide ((62 : Int32) < 0) && (decide ((0 : Int32).toNatClampNeg + (62 : Int32).toNatClampNeg ≤ (sh.2.2.1 (sh.2.2.2 l2 0)).2) && (decide (((l1 * 62) : Int32).toNatClampNeg + (62 : Int32).toNatClampNeg ≤ (sh.2.2.1 (sh.2.2.2 l0 0)).2) && true))))))) then bif decide ((sh.2.2.1 l0).1 = 2) then (ev (130, 0, [.ref (sh.2.2.2 l0 1), .int l1, .int l3], [], (sh, (xcp M (sh.2.2.2 l2 0) ((0 : Int32).toNatClampNeg) (sh.2.2.2 l0 0) (((l1 * 62) : Int32).toNatClampNeg) ((62 : Int32).toNatClampNeg)), J))).bind (fun r => ev (26, 36, [.ref l0, .int l1, .ref l2, .int l3], r.1.toList ++ [], r.2)) else none else none else none else none) := by
  refine ev_br (s1 := (26, 48, [.ref l0, .int l1, .ref l2, .int l3], [], (sh, M, J))) (s2 := (26, 9, [.ref l0, .int l1, .ref l2, .int l3], [], (sh, M, J))) f_26_6 rfl ?_ ?_
  · exact ev_r1 f_26_48 rfl
  · refine ev_nx (s1 := (26, 10, [.ref l0, .int l1, .ref l2, .int l3], [.ref l2], (sh, M, J))) f_26_9 rfl ?_
    refine ev_gd (s1 := (26, 13, [.ref l0, .int l1, .ref l2, .int l3], [.ref (sh.2.2.2 l2 0)], (sh, M, J))) f_26_10 rfl ?_
    refine ev_nx (s1 := (26, 14, [.ref l0, .int l1, .ref l2, .int l3], [.int 0, .ref (sh.2.2.2 l2 0)], (sh, M, J))) f_26_13 rfl ?_
    refine ev_nx (s1 := (26, 15, [.ref l0, .int l1, .ref l2, .int l3], [.ref l0, .int 0, .ref (sh.2.2.2 l2 0)], (sh, M, J))) f_26_14 rfl ?_
    refine ev_gd (s1 := (26, 18, [.ref l0, .int l1, .ref l2, .int l3], [.ref (sh.2.2.2 l0 0), .int 0, .ref (sh.2.2.2 l2 0)], (sh, M, J))) f_26_15 rfl ?_
    refine ev_nx (s1 := (26, 19, [.ref l0, .int l1, .ref l2, .int l3], [.int l1, .ref (sh.2.2.2 l0 0), .int 0, .ref (sh.2.2.2 l2 0)], (sh, M, J))) f_26_18 rfl ?_
    refine ev_nx (s1 := (26, 21, [.ref l0, .int l1, .ref l2, .int l3], [.int 62, .int l1, .ref (sh.2.2.2 l0 0), .int 0, .ref (sh.2.2.2 l2 0)], (sh, M, J))) f_26_19 rfl ?_
    refine ev_nx (s1 := (26, 22, [.ref l0, .int l1, .ref l2, .int l3], [.int (l1 * 62), .ref (sh.2.2.2 l0 0), .int 0, .ref (sh.2.2.2 l2 0)], (sh, M, J))) f_26_21 rfl ?_
    refine ev_nx (s1 := (26, 24, [.ref l0, .int l1, .ref l2, .int l3], [.int 62, .int (l1 * 62), .ref (sh.2.2.2 l0 0), .int 0, .ref (sh.2.2.2 l2 0)], (sh, M, J))) f_26_22 rfl ?_
    refine ev_gd (s1 := (26, 27, [.ref l0, .int l1, .ref l2, .int l3], [], (sh, (xcp M (sh.2.2.2 l2 0) ((0 : Int32).toNatClampNeg) (sh.2.2.2 l0 0) (((l1 * 62) : Int32).toNatClampNeg) ((62 : Int32).toNatClampNeg)), J))) f_26_24 rfl ?_
    refine ev_nx (s1 := (26, 28, [.ref l0, .int l1, .ref l2, .int l3], [.ref l0], (sh, (xcp M (sh.2.2.2 l2 0) ((0 : Int32).toNatClampNeg) (sh.2.2.2 l0 0) (((l1 * 62) : Int32).toNatClampNeg) ((62 : Int32).toNatClampNeg)), J))) f_26_27 rfl ?_
    refine ev_gd (s1 := (26, 31, [.ref l0, .int l1, .ref l2, .int l3], [.ref (sh.2.2.2 l0 1)], (sh, (xcp M (sh.2.2.2 l2 0) ((0 : Int32).toNatClampNeg) (sh.2.2.2 l0 0) (((l1 * 62) : Int32).toNatClampNeg) ((62 : Int32).toNatClampNeg)), J))) f_26_28 rfl ?_
    refine ev_nx (s1 := (26, 32, [.ref l0, .int l1, .ref l2, .int l3], [.int l1, .ref (sh.2.2.2 l0 1)], (sh, (xcp M (sh.2.2.2 l2 0) ((0 : Int32).toNatClampNeg) (sh.2.2.2 l0 0) (((l1 * 62) : Int32).toNatClampNeg) ((62 : Int32).toNatClampNeg)), J))) f_26_31 rfl ?_
    refine ev_nx (s1 := (26, 33, [.ref l0, .int l1, .ref l2, .int l3], [.int l3, .int l1, .ref (sh.2.2.2 l0 1)], (sh, (xcp M (sh.2.2.2 l2 0) ((0 : Int32).toNatClampNeg) (sh.2.2.2 l0 0) (((l1 * 62) : Int32).toNatClampNeg) ((62 : Int32).toNatClampNeg)), J))) f_26_32 rfl ?_
    exact ev_c1 (s1 := (130, 0, [.ref (sh.2.2.2 l0 1), .int l1, .int l3], [], (sh, (xcp M (sh.2.2.2 l2 0) ((0 : Int32).toNatClampNeg) (sh.2.2.2 l0 0) (((l1 * 62) : Int32).toNatClampNeg) ((62 : Int32).toNatClampNeg)), J))) (k := (26, 36, [.ref l0, .int l1, .ref l2, .int l3], [])) f_26_33 rfl
theorem b_Images_store_36 (sh : xSh) (M : Nat → Nat → Int32) (J : Nat → Nat → Int64) (l0 : Nat) (l1 : Int32) (l2 : Nat) (l3 : Int32) : ev (26, 36, [.ref l0, .int l1, .ref l2, .int l3], [], (sh, M, J)) = (bif decide ((sh.2.2.1 l0).1 = 2) then bif decide ((sh.2.2.1 l0).1 = 2) then some (none, (sh, (xu M l0 2 ((M l0 2) ||| ((1 : Int32) <<< (l1 &&& 31)))), J)) else none else none) := by
  refine ev_nx (s1 := (26, 37, [.ref l0, .int l1, .ref l2, .int l3], [.ref l0], (sh, M, J))) f_26_36 rfl ?_
  refine ev_nx (s1 := (26, 38, [.ref l0, .int l1, .ref l2, .int l3], [.ref l0, .ref l0], (sh, M, J))) f_26_37 rfl ?_
  refine ev_gd (s1 := (26, 41, [.ref l0, .int l1, .ref l2, .int l3], [.int (M l0 2), .ref l0], (sh, M, J))) f_26_38 rfl ?_
  refine ev_nx (s1 := (26, 42, [.ref l0, .int l1, .ref l2, .int l3], [.int 1, .int (M l0 2), .ref l0], (sh, M, J))) f_26_41 rfl ?_
  refine ev_nx (s1 := (26, 43, [.ref l0, .int l1, .ref l2, .int l3], [.int l1, .int 1, .int (M l0 2), .ref l0], (sh, M, J))) f_26_42 rfl ?_
  refine ev_nx (s1 := (26, 44, [.ref l0, .int l1, .ref l2, .int l3], [.int ((1 : Int32) <<< (l1 &&& 31)), .int (M l0 2), .ref l0], (sh, M, J))) f_26_43 rfl ?_
  refine ev_nx (s1 := (26, 45, [.ref l0, .int l1, .ref l2, .int l3], [.int ((M l0 2) ||| ((1 : Int32) <<< (l1 &&& 31))), .ref l0], (sh, M, J))) f_26_44 rfl ?_
  refine ev_gd (s1 := (26, 48, [.ref l0, .int l1, .ref l2, .int l3], [], (sh, (xu M l0 2 ((M l0 2) ||| ((1 : Int32) <<< (l1 &&& 31)))), J))) f_26_45 rfl ?_
  exact ev_r1 f_26_48 rfl
theorem f_27_0 : xfind (xnth xTs 27) 0 = some (0, .iload_n 1, 1, (0, 0, 0, 0), .null, [], 0, 0, []) := rfl
theorem f_27_1 : xfind (xnth xTs 27) 1 = some (1, .iconst 0, 1, (0, 0, 0, 0), (.int 0), [], 0, 0, []) := rfl
theorem f_27_2 : xfind (xnth xTs 27) 2 = some (2, .iconst 1, 1, (0, 0, 0, 0), (.int 1), [], 0, 0, []) := rfl
theorem f_27_3 : xfind (xnth xTs 27) 3 = some (3, .invokestatic 28, 3, (125, 3, 8, 3), .null, [], 865, 0, []) := rfl
theorem f_27_6 : xfind (xnth xTs 27) 6 = some (6, .ifCond .eq 21, 3, (0, 0, 0, 0), .null, [], 0, 0, []) := rfl
theorem f_27_9 : xfind (xnth xTs 27) 9 = some (9, .aload_n 0, 1, (0, 0, 0, 0), .null, [], 0, 0, []) := rfl
theorem f_27_10 : xfind (xnth xTs 27) 10 = some (10, .getfield 11, 3, (2, 0, 1, 0), .null, [], 209, 0, []) := rfl
theorem f_27_13 : xfind (xnth xTs 27) 13 = some (13, .iload_n 1, 1, (0, 0, 0, 0), .null, [], 0, 0, []) := rfl
theorem f_27_14 : xfind (xnth xTs 27) 14 = some (14, .bipush 62, 2, (0, 0, 0, 0), (.int 62), [], 0, 0, []) := rfl
theorem f_27_16 : xfind (xnth xTs 27) 16 = some (16, .imul, 1, (0, 0, 0, 0), .null, [], 0, 0, []) := rfl
theorem f_27_17 : xfind (xnth xTs 27) 17 = some (17, .aload_n 2, 1, (0, 0, 0, 0), .null, [], 0, 0, []) := rfl
theorem f_27_18 : xfind (xnth xTs 27) 18 = some (18, .getfield 32, 3, (6, 0, 1, 0), .null, [], 140, 0, []) := rfl
theorem f_27_21 : xfind (xnth xTs 27) 21 = some (21, .iconst 0, 1, (0, 0, 0, 0), (.int 0), [], 0, 0, []) := rfl
theorem f_27_22 : xfind (xnth xTs 27) 22 = some (22, .bipush 62, 2, (0, 0, 0, 0), (.int 62), [], 0, 0, []) := rfl
theorem f_27_24 : xfind (xnth xTs 27) 24 = some (24, .invokestatic 35, 3, (999, 0, 0, 0), .null, [], 866, 0, []) := rfl
theorem f_27_27 : xfind (xnth xTs 27) 27 = some (27, .return_, 1, (0, 0, 0, 0), .null, [], 0, 0, []) := rfl
theorem b_Images_fetch_0 (sh : xSh) (M : Nat → Nat → Int32) (J : Nat → Nat → Int64) (l0 : Nat) (l1 : Int32) (l2 : Nat) : ev (27, 0, [.ref l0, .int l1, .ref l2], [], (sh, M, J)) = ((ev (125, 0, [.int l1, .int 0, .int 1], [], (sh, M, J))).bind (fun r => ev (27, 6, [.ref l0, .int l1, .ref l2], r.1.toList ++ [], r.2))) := by
  refine ev_nx (s1 := (27, 1, [.ref l0, .int l1, .ref l2], [.int l1], (sh, M, J))) f_27_0 rfl ?_
  refine ev_nx (s1 := (27, 2, [.ref l0, .int l1, .ref l2], [.int 0, .int l1], (sh, M, J))) f_27_1 rfl ?_
  refine ev_nx (s1 := (27, 3, [.ref l0, .int l1, .ref l2], [.int 1, .int 0, .int l1], (sh, M, J))) f_27_2 rfl ?_
  exact ev_c1 (s1 := (125, 0, [.int l1, .int 0, .int 1], [], (sh, M, J))) (k := (27, 6, [.ref l0, .int l1, .ref l2], [])) f_27_3 rfl
theorem b_Images_fetch_6 (sh : xSh) (M : Nat → Nat → Int32) (J : Nat → Nat → Int64) (l0 : Nat) (l1 : Int32) (l2 : Nat) (k0 : Int32) : ev (27, 6, [.ref l0, .int l1, .ref l2], [.int k0], (sh, M, J)) = (bif decide (k0 = 0) then some (none, (sh, M, J)) else bif decide ((sh.2.2.1 l0).1 = 2) then bif decide ((sh.2.2.1 l2).1 = 6) then bif (decide ((sh.2.2.1 (sh.2.2.2 l0 0)).1 = 11) && (decide ((sh.2.2.1 (sh.2.2.2 l2 0)).1 = 11) && (!decide (((l1 * 62) : Int32) < 0) && (!decide ((0 : Int32) < 0) && (!decide ((62 : Int32) < 0) && (decide (((l1 * 62) : Int32).toNatClampNeg + (62 : Int32).toNatClampNeg ≤ (sh.2.2.1 (sh.2.2.2 l0 0)).2) && (decide ((0 : Int32).toNatClampNeg + (62 : Int32).toNatClampNeg ≤ (sh.2.2.1 (sh.2.2.2 l2 0)).2) && true))))))) then some (none, (sh, (xcp M (sh.2.2.2 l0 0) (((l1 * 62) : Int32).toNatClampNeg) (sh.2.2.2 l2 0) ((0 : Int32).toNatClampNeg) ((62 : Int32).toNatClampNeg)), J)) else none else none else none) := by
  refine ev_br (s1 := (27, 27, [.ref l0, .int l1, .ref l2], [], (sh, M, J))) (s2 := (27, 9, [.ref l0, .int l1, .ref l2], [], (sh, M, J))) f_27_6 rfl ?_ ?_
  · exact ev_r1 f_27_27 rfl
  · refine ev_nx (s1 := (27, 10, [.ref l0, .int l1, .ref l2], [.ref l0], (sh, M, J))) f_27_9 rfl ?_
    refine ev_gd (s1 := (27, 13, [.ref l0, .int l1, .ref l2], [.ref (sh.2.2.2 l0 0)], (sh, M, J))) f_27_10 rfl ?_
    refine ev_nx (s1 := (27, 14, [.ref l0, .int l1, .ref l2], [.int l1, .ref (sh.2.2.2 l0 0)], (sh, M, J))) f_27_13 rfl ?_
    refine ev_nx (s1 := (27, 16, [.ref l0, .int l1, .ref l2], [.int 62, .int l1, .ref (sh.2.2.2 l0 0)], (sh, M, J))) f_27_14 rfl ?_
    refine ev_nx (s1 := (27, 17, [.ref l0, .int l1, .ref l2], [.int (l1 * 62), .ref (sh.2.2.2 l0 0)], (sh, M, J))) f_27_16 rfl ?_
    refine ev_nx (s1 := (27, 18, [.ref l0, .int l1, .ref l2], [.ref l2, .int (l1 * 62), .ref (sh.2.2.2 l0 0)], (sh, M, J))) f_27_17 rfl ?_
    refine ev_gd (s1 := (27, 21, [.ref l0, .int l1, .ref l2], [.ref (sh.2.2.2 l2 0), .int (l1 * 62), .ref (sh.2.2.2 l0 0)], (sh, M, J))) f_27_18 rfl ?_
    refine ev_nx (s1 := (27, 22, [.ref l0, .int l1, .ref l2], [.int 0, .ref (sh.2.2.2 l2 0), .int (l1 * 62), .ref (sh.2.2.2 l0 0)], (sh, M, J))) f_27_21 rfl ?_
    refine ev_nx (s1 := (27, 24, [.ref l0, .int l1, .ref l2], [.int 62, .int 0, .ref (sh.2.2.2 l2 0), .int (l1 * 62), .ref (sh.2.2.2 l0 0)], (sh, M, J))) f_27_22 rfl ?_
    refine ev_gd (s1 := (27, 27, [.ref l0, .int l1, .ref l2], [], (sh, (xcp M (sh.2.2.2 l0 0) (((l1 * 62) : Int32).toNatClampNeg) (sh.2.2.2 l2 0) ((0 : Int32).toNatClampNeg) ((62 : Int32).toNatClampNeg)), J))) f_27_24 rfl ?_
    exact ev_r1 f_27_27 rfl
theorem f_28_0 : xfind (xnth xTs 28) 0 = some (0, .aload_n 0, 1, (0, 0, 0, 0), .null, [], 0, 0, []) := rfl
theorem f_28_1 : xfind (xnth xTs 28) 1 = some (1, .getfield 17, 3, (2, 1, 1, 0), .null, [], 210, 0, []) := rfl
theorem f_28_4 : xfind (xnth xTs 28) 4 = some (4, .iload_n 1, 1, (0, 0, 0, 0), .null, [], 0, 0, []) := rfl
theorem f_28_5 : xfind (xnth xTs 28) 5 = some (5, .invokestatic 45, 3, (129, 2, 8, 2), .null, [], 885, 0, []) := rfl
theorem f_28_8 : xfind (xnth xTs 28) 8 = some (8, .ireturn, 1, (0, 0, 0, 0), .null, [], 0, 0, []) := rfl
theorem b_Images_seedOf_0 (sh : xSh) (M : Nat → Nat → Int32) (J : Nat → Nat → Int64) (l0 : Nat) (l1 : Int32) : ev (28, 0, [.ref l0, .int l1], [], (sh, M, J)) = (bif decide ((sh.2.2.1 l0).1 = 2) then (ev (129, 0, [.ref (sh.2.2.2 l0 1), .int l1], [], (sh, M, J))).bind (fun r => ev (28, 8, [.ref l0, .int l1], r.1.toList ++ [], r.2)) else none) := by
  refine ev_nx (s1 := (28, 1, [.ref l0, .int l1], [.ref l0], (sh, M, J))) f_28_0 rfl ?_
  refine ev_gd (s1 := (28, 4, [.ref l0, .int l1], [.ref (sh.2.2.2 l0 1)], (sh, M, J))) f_28_1 rfl ?_
  refine ev_nx (s1 := (28, 5, [.ref l0, .int l1], [.int l1, .ref (sh.2.2.2 l0 1)], (sh, M, J))) f_28_4 rfl ?_
  exact ev_c1 (s1 := (129, 0, [.ref (sh.2.2.2 l0 1), .int l1], [], (sh, M, J))) (k := (28, 8, [.ref l0, .int l1], [])) f_28_5 rfl
theorem b_Images_seedOf_8 (sh : xSh) (M : Nat → Nat → Int32) (J : Nat → Nat → Int64) (l0 : Nat) (l1 : Int32) (k0 : Int32) : ev (28, 8, [.ref l0, .int l1], [.int k0], (sh, M, J)) = (some (some (.int k0), (sh, M, J))) := by
  exact ev_r1 f_28_8 rfl
theorem f_30_0 : xfind (xnth xTs 30) 0 = some (0, .aload_n 0, 1, (0, 0, 0, 0), .null, [], 0, 0, []) := rfl
theorem f_30_1 : xfind (xnth xTs 30) 1 = some (1, .iconst 0, 1, (0, 0, 0, 0), (.int 0), [], 0, 0, []) := rfl
theorem f_30_2 : xfind (xnth xTs 30) 2 = some (2, .putfield 9, 3, (3, 0, 0, 0), .null, [], 225, 0, []) := rfl
theorem f_30_5 : xfind (xnth xTs 30) 5 = some (5, .aload_n 0, 1, (0, 0, 0, 0), .null, [], 0, 0, []) := rfl
theorem f_30_6 : xfind (xnth xTs 30) 6 = some (6, .iconst 0, 1, (0, 0, 0, 0), (.int 0), [], 0, 0, []) := rfl
theorem f_30_7 : xfind (xnth xTs 30) 7 = some (7, .putfield 15, 3, (3, 1, 0, 0), .null, [], 227, 0, []) := rfl
theorem f_30_10 : xfind (xnth xTs 30) 10 = some (10, .return_, 1, (0, 0, 0, 0), .null, [], 0, 0, []) := rfl
theorem b_Notes_clear_0 (sh : xSh) (M : Nat → Nat → Int32) (J : Nat → Nat → Int64) (l0 : Nat) : ev (30, 0, [.ref l0], [], (sh, M, J)) = (bif decide ((sh.2.2.1 l0).1 = 3) then bif decide ((sh.2.2.1 l0).1 = 3) then some (none, (sh, (xu (xu M l0 0 0) l0 1 0), J)) else none else none) := by
  refine ev_nx (s1 := (30, 1, [.ref l0], [.ref l0], (sh, M, J))) f_30_0 rfl ?_
  refine ev_nx (s1 := (30, 2, [.ref l0], [.int 0, .ref l0], (sh, M, J))) f_30_1 rfl ?_
  refine ev_gd (s1 := (30, 5, [.ref l0], [], (sh, (xu M l0 0 0), J))) f_30_2 rfl ?_
  refine ev_nx (s1 := (30, 6, [.ref l0], [.ref l0], (sh, (xu M l0 0 0), J))) f_30_5 rfl ?_
  refine ev_nx (s1 := (30, 7, [.ref l0], [.int 0, .ref l0], (sh, (xu M l0 0 0), J))) f_30_6 rfl ?_
  refine ev_gd (s1 := (30, 10, [.ref l0], [], (sh, (xu (xu M l0 0 0) l0 1 0), J))) f_30_7 rfl ?_
  exact ev_r1 f_30_10 rfl
theorem f_31_0 : xfind (xnth xTs 31) 0 = some (0, .aload_n 0, 1, (0, 0, 0, 0), .null, [], 0, 0, []) := rfl
theorem f_31_1 : xfind (xnth xTs 31) 1 = some (1, .getfield 9, 3, (3, 0, 0, 0), .null, [], 225, 0, []) := rfl
theorem f_31_4 : xfind (xnth xTs 31) 4 = some (4, .bipush 6, 2, (0, 0, 0, 0), (.int 6), [], 0, 0, []) := rfl
theorem f_31_6 : xfind (xnth xTs 31) 6 = some (6, .if_icmp .lt 5, 3, (0, 0, 0, 0), .null, [], 0, 0, []) := rfl
theorem f_31_9 : xfind (xnth xTs 31) 9 = some (9, .iconst 0, 1, (0, 0, 0, 0), (.int 0), [], 0, 0, []) := rfl
theorem f_31_10 : xfind (xnth xTs 31) 10 = some (10, .ireturn, 1, (1, 0, 0, 0), .null, [], 0, 0, []) := rfl
theorem f_31_11 : xfind (xnth xTs 31) 11 = some (11, .aload_n 0, 1, (0, 0, 0, 0), .null, [], 0, 0, []) := rfl
theorem f_31_12 : xfind (xnth xTs 31) 12 = some (12, .getfield 18, 3, (3, 2, 1, 0), .null, [], 229, 0, []) := rfl
theorem f_31_15 : xfind (xnth xTs 31) 15 = some (15, .aload_n 0, 1, (0, 0, 0, 0), .null, [], 0, 0, []) := rfl
theorem f_31_16 : xfind (xnth xTs 31) 16 = some (16, .getfield 9, 3, (3, 0, 0, 0), .null, [], 225, 0, []) := rfl
theorem f_31_19 : xfind (xnth xTs 31) 19 = some (19, .iload_n 1, 1, (0, 0, 0, 0), .null, [], 0, 0, []) := rfl
theorem f_31_20 : xfind (xnth xTs 31) 20 = some (20, .invokestatic 31, 3, (130, 3, 8, 3), .null, [], 807, 0, []) := rfl
theorem f_31_23 : xfind (xnth xTs 31) 23 = some (23, .aload_n 0, 1, (0, 0, 0, 0), .null, [], 0, 0, []) := rfl
theorem f_31_24 : xfind (xnth xTs 31) 24 = some (24, .getfield 22, 3, (3, 3, 1, 0), .null, [], 230, 0, []) := rfl
theorem f_31_27 : xfind (xnth xTs 31) 27 = some (27, .aload_n 0, 1, (0, 0, 0, 0), .null, [], 0, 0, []) := rfl
theorem f_31_28 : xfind (xnth xTs 31) 28 = some (28, .getfield 9, 3, (3, 0, 0, 0), .null, [], 225, 0, []) := rfl
theorem f_31_31 : xfind (xnth xTs 31) 31 = some (31, .iload_n 2, 1, (0, 0, 0, 0), .null, [], 0, 0, []) := rfl
theorem f_31_32 : xfind (xnth xTs 31) 32 = some (32, .ifCond .eq 7, 3, (0, 0, 0, 0), .null, [], 0, 0, []) := rfl
theorem f_31_35 : xfind (xnth xTs 31) 35 = some (35, .iconst 1, 1, (0, 0, 0, 0), (.int 1), [], 0, 0, []) := rfl
theorem f_31_36 : xfind (xnth xTs 31) 36 = some (36, .goto 4, 3, (0, 0, 0, 0), .null, [], 0, 0, []) := rfl
theorem f_31_39 : xfind (xnth xTs 31) 39 = some (39, .iconst 0, 1, (0, 0, 0, 0), (.int 0), [], 0, 0, []) := rfl
theorem f_31_40 : xfind (xnth xTs 31) 40 = some (40, .invokestatic 31, 3, (130, 3, 8, 3), .null, [], 807, 0, []) := rfl
theorem f_31_43 : xfind (xnth xTs 31) 43 = some (43, .aload_n 0, 1, (0, 0, 0, 0), .null, [], 0, 0, []) := rfl
theorem f_31_44 : xfind (xnth xTs 31) 44 = some (44, .dup, 1, (0, 0, 0, 0), .null, [], 0, 0, []) := rfl
theorem f_31_45 : xfind (xnth xTs 31) 45 = some (45, .getfield 9, 3, (3, 0, 0, 0), .null, [], 225, 0, []) := rfl
theorem f_31_48 : xfind (xnth xTs 31) 48 = some (48, .iconst 1, 1, (0, 0, 0, 0), (.int 1), [], 0, 0, []) := rfl
theorem f_31_49 : xfind (xnth xTs 31) 49 = some (49, .iadd, 1, (0, 0, 0, 0), .null, [], 0, 0, []) := rfl
theorem f_31_50 : xfind (xnth xTs 31) 50 = some (50, .putfield 9, 3, (3, 0, 0, 0), .null, [], 225, 0, []) := rfl
theorem f_31_53 : xfind (xnth xTs 31) 53 = some (53, .iconst 1, 1, (0, 0, 0, 0), (.int 1), [], 0, 0, []) := rfl
theorem f_31_54 : xfind (xnth xTs 31) 54 = some (54, .ireturn, 1, (1, 0, 0, 0), .null, [], 0, 0, []) := rfl
theorem b_Notes_addSeen_0 (sh : xSh) (M : Nat → Nat → Int32) (J : Nat → Nat → Int64) (l0 : Nat) (l1 : Int32) (l2 : Int32) : ev (31, 0, [.ref l0, .int l1, .int l2], [], (sh, M, J)) = (bif decide ((sh.2.2.1 l0).1 = 3) then bif decide ((M l0 0) < 6) then bif decide ((sh.2.2.1 l0).1 = 3) then bif decide ((sh.2.2.1 l0).1 = 3) then (ev (130, 0, [.ref (sh.2.2.2 l0 2), .int (M l0 0), .int l1], [], (sh, M, J))).bind (fun r => ev (31, 23, [.ref l0, .int l1, .int l2], r.1.toList ++ [], r.2)) else none else none else some (some (.int 0), (sh, M, J)) else none) := by
  refine ev_nx (s1 := (31, 1, [.ref l0, .int l1, .int l2], [.ref l0], (sh, M, J))) f_31_0 rfl ?_
  refine ev_gd (s1 := (31, 4, [.ref l0, .int l1, .int l2], [.int (M l0 0)], (sh, M, J))) f_31_1 rfl ?_
  refine ev_nx (s1 := (31, 6, [.ref l0, .int l1, .int l2], [.int 6, .int (M l0 0)], (sh, M, J))) f_31_4 rfl ?_
  refine ev_br (s1 := (31, 11, [.ref l0, .int l1, .int l2], [], (sh, M, J))) (s2 := (31, 9, [.ref l0, .int l1, .int l2], [], (sh, M, J))) f_31_6 rfl ?_ ?_
  · refine ev_nx (s1 := (31, 12, [.ref l0, .int l1, .int l2], [.ref l0], (sh, M, J))) f_31_11 rfl ?_
    refine ev_gd (s1 := (31, 15, [.ref l0, .int l1, .int l2], [.ref (sh.2.2.2 l0 2)], (sh, M, J))) f_31_12 rfl ?_
    refine ev_nx (s1 := (31, 16, [.ref l0, .int l1, .int l2], [.ref l0, .ref (sh.2.2.2 l0 2)], (sh, M, J))) f_31_15 rfl ?_
    refine ev_gd (s1 := (31, 19, [.ref l0, .int l1, .int l2], [.int (M l0 0), .ref (sh.2.2.2 l0 2)], (sh, M, J))) f_31_16 rfl ?_
    refine ev_nx (s1 := (31, 20, [.ref l0, .int l1, .int l2], [.int l1, .int (M l0 0), .ref (sh.2.2.2 l0 2)], (sh, M, J))) f_31_19 rfl ?_
    exact ev_c1 (s1 := (130, 0, [.ref (sh.2.2.2 l0 2), .int (M l0 0), .int l1], [], (sh, M, J))) (k := (31, 23, [.ref l0, .int l1, .int l2], [])) f_31_20 rfl
  · refine ev_nx (s1 := (31, 10, [.ref l0, .int l1, .int l2], [.int 0], (sh, M, J))) f_31_9 rfl ?_
    exact ev_r1 f_31_10 rfl
theorem b_Notes_addSeen_23 (sh : xSh) (M : Nat → Nat → Int32) (J : Nat → Nat → Int64) (l0 : Nat) (l1 : Int32) (l2 : Int32) : ev (31, 23, [.ref l0, .int l1, .int l2], [], (sh, M, J)) = (bif decide ((sh.2.2.1 l0).1 = 3) then bif decide ((sh.2.2.1 l0).1 = 3) then bif decide (l2 = 0) then (ev (130, 0, [.ref (sh.2.2.2 l0 3), .int (M l0 0), .int 0], [], (sh, M, J))).bind (fun r => ev (31, 43, [.ref l0, .int l1, .int l2], r.1.toList ++ [], r.2)) else (ev (130, 0, [.ref (sh.2.2.2 l0 3), .int (M l0 0), .int 1], [], (sh, M, J))).bind (fun r => ev (31, 43, [.ref l0, .int l1, .int l2], r.1.toList ++ [], r.2)) else none else none) := by
  refine ev_nx (s1 := (31, 24, [.ref l0, .int l1, .int l2], [.ref l0], (sh, M, J))) f_31_23 rfl ?_
  refine ev_gd (s1 := (31, 27, [.ref l0, .int l1, .int l2], [.ref (sh.2.2.2 l0 3)], (sh, M, J))) f_31_24 rfl ?_
  refine ev_nx (s1 := (31, 28, [.ref l0, .int l1, .int l2], [.ref l0, .ref (sh.2.2.2 l0 3)], (sh, M, J))) f_31_27 rfl ?_
  refine ev_gd (s1 := (31, 31, [.ref l0, .int l1, .int l2], [.int (M l0 0), .ref (sh.2.2.2 l0 3)], (sh, M, J))) f_31_28 rfl ?_
  refine ev_nx (s1 := (31, 32, [.ref l0, .int l1, .int l2], [.int l2, .int (M l0 0), .ref (sh.2.2.2 l0 3)], (sh, M, J))) f_31_31 rfl ?_
  refine ev_br (s1 := (31, 39, [.ref l0, .int l1, .int l2], [.int (M l0 0), .ref (sh.2.2.2 l0 3)], (sh, M, J))) (s2 := (31, 35, [.ref l0, .int l1, .int l2], [.int (M l0 0), .ref (sh.2.2.2 l0 3)], (sh, M, J))) f_31_32 rfl ?_ ?_
  · refine ev_nx (s1 := (31, 40, [.ref l0, .int l1, .int l2], [.int 0, .int (M l0 0), .ref (sh.2.2.2 l0 3)], (sh, M, J))) f_31_39 rfl ?_
    exact ev_c1 (s1 := (130, 0, [.ref (sh.2.2.2 l0 3), .int (M l0 0), .int 0], [], (sh, M, J))) (k := (31, 43, [.ref l0, .int l1, .int l2], [])) f_31_40 rfl
  · refine ev_nx (s1 := (31, 36, [.ref l0, .int l1, .int l2], [.int 1, .int (M l0 0), .ref (sh.2.2.2 l0 3)], (sh, M, J))) f_31_35 rfl ?_
    refine ev_nx (s1 := (31, 40, [.ref l0, .int l1, .int l2], [.int 1, .int (M l0 0), .ref (sh.2.2.2 l0 3)], (sh, M, J))) f_31_36 rfl ?_
    exact ev_c1 (s1 := (130, 0, [.ref (sh.2.2.2 l0 3), .int (M l0 0), .int 1], [], (sh, M, J))) (k := (31, 43, [.ref l0, .int l1, .int l2], [])) f_31_40 rfl
theorem b_Notes_addSeen_43 (sh : xSh) (M : Nat → Nat → Int32) (J : Nat → Nat → Int64) (l0 : Nat) (l1 : Int32) (l2 : Int32) : ev (31, 43, [.ref l0, .int l1, .int l2], [], (sh, M, J)) = (bif decide ((sh.2.2.1 l0).1 = 3) then bif decide ((sh.2.2.1 l0).1 = 3) then some (some (.int 1), (sh, (xu M l0 0 ((M l0 0) + 1)), J)) else none else none) := by
  refine ev_nx (s1 := (31, 44, [.ref l0, .int l1, .int l2], [.ref l0], (sh, M, J))) f_31_43 rfl ?_
  refine ev_nx (s1 := (31, 45, [.ref l0, .int l1, .int l2], [.ref l0, .ref l0], (sh, M, J))) f_31_44 rfl ?_
  refine ev_gd (s1 := (31, 48, [.ref l0, .int l1, .int l2], [.int (M l0 0), .ref l0], (sh, M, J))) f_31_45 rfl ?_
  refine ev_nx (s1 := (31, 49, [.ref l0, .int l1, .int l2], [.int 1, .int (M l0 0), .ref l0], (sh, M, J))) f_31_48 rfl ?_
  refine ev_nx (s1 := (31, 50, [.ref l0, .int l1, .int l2], [.int ((M l0 0) + 1), .ref l0], (sh, M, J))) f_31_49 rfl ?_
  refine ev_gd (s1 := (31, 53, [.ref l0, .int l1, .int l2], [], (sh, (xu M l0 0 ((M l0 0) + 1)), J))) f_31_50 rfl ?_
  refine ev_nx (s1 := (31, 54, [.ref l0, .int l1, .int l2], [.int 1], (sh, (xu M l0 0 ((M l0 0) + 1)), J))) f_31_53 rfl ?_
  exact ev_r1 f_31_54 rfl
theorem f_32_0 : xfind (xnth xTs 32) 0 = some (0, .aload_n 0, 1, (0, 0, 0, 0), .null, [], 0, 0, []) := rfl
theorem f_32_1 : xfind (xnth xTs 32) 1 = some (1, .getfield 15, 3, (3, 1, 0, 0), .null, [], 227, 0, []) := rfl
theorem f_32_4 : xfind (xnth xTs 32) 4 = some (4, .bipush 15, 2, (0, 0, 0, 0), (.int 15), [], 0, 0, []) := rfl
theorem f_32_6 : xfind (xnth xTs 32) 6 = some (6, .if_icmp .lt 5, 3, (0, 0, 0, 0), .null, [], 0, 0, []) := rfl
theorem f_32_9 : xfind (xnth xTs 32) 9 = some (9, .iconst 0, 1, (0, 0, 0, 0), (.int 0), [], 0, 0, []) := rfl
theorem f_32_10 : xfind (xnth xTs 32) 10 = some (10, .ireturn, 1, (1, 0, 0, 0), .null, [], 0, 0, []) := rfl
theorem f_32_11 : xfind (xnth xTs 32) 11 = some (11, .aload_n 0, 1, (0, 0, 0, 0), .null, [], 0, 0, []) := rfl
theorem f_32_12 : xfind (xnth xTs 32) 12 = some (12, .getfield 25, 3, (3, 4, 1, 0), .null, [], 231, 0, []) := rfl
theorem f_32_15 : xfind (xnth xTs 32) 15 = some (15, .aload_n 0, 1, (0, 0, 0, 0), .null, [], 0, 0, []) := rfl
theorem f_32_16 : xfind (xnth xTs 32) 16 = some (16, .getfield 15, 3, (3, 1, 0, 0), .null, [], 227, 0, []) := rfl
theorem f_32_19 : xfind (xnth xTs 32) 19 = some (19, .iload_n 1, 1, (0, 0, 0, 0), .null, [], 0, 0, []) := rfl
theorem f_32_20 : xfind (xnth xTs 32) 20 = some (20, .invokestatic 31, 3, (130, 3, 8, 3), .null, [], 807, 0, []) := rfl
theorem f_32_23 : xfind (xnth xTs 32) 23 = some (23, .aload_n 0, 1, (0, 0, 0, 0), .null, [], 0, 0, []) := rfl
theorem f_32_24 : xfind (xnth xTs 32) 24 = some (24, .getfield 28, 3, (3, 5, 1, 0), .null, [], 232, 0, []) := rfl
theorem f_32_27 : xfind (xnth xTs 32) 27 = some (27, .aload_n 0, 1, (0, 0, 0, 0), .null, [], 0, 0, []) := rfl
theorem f_32_28 : xfind (xnth xTs 32) 28 = some (28, .getfield 15, 3, (3, 1, 0, 0), .null, [], 227, 0, []) := rfl
theorem f_32_31 : xfind (xnth xTs 32) 31 = some (31, .iload_n 2, 1, (0, 0, 0, 0), .null, [], 0, 0, []) := rfl
theorem f_32_32 : xfind (xnth xTs 32) 32 = some (32, .invokestatic 31, 3, (130, 3, 8, 3), .null, [], 807, 0, []) := rfl
theorem f_32_35 : xfind (xnth xTs 32) 35 = some (35, .aload_n 0, 1, (0, 0, 0, 0), .null, [], 0, 0, []) := rfl
theorem f_32_36 : xfind (xnth xTs 32) 36 = some (36, .dup, 1, (0, 0, 0, 0), .null, [], 0, 0, []) := rfl
theorem f_32_37 : xfind (xnth xTs 32) 37 = some (37, .getfield 15, 3, (3, 1, 0, 0), .null, [], 227, 0, []) := rfl
theorem f_32_40 : xfind (xnth xTs 32) 40 = some (40, .iconst 1, 1, (0, 0, 0, 0), (.int 1), [], 0, 0, []) := rfl
theorem f_32_41 : xfind (xnth xTs 32) 41 = some (41, .iadd, 1, (0, 0, 0, 0), .null, [], 0, 0, []) := rfl
theorem f_32_42 : xfind (xnth xTs 32) 42 = some (42, .putfield 15, 3, (3, 1, 0, 0), .null, [], 227, 0, []) := rfl
theorem f_32_45 : xfind (xnth xTs 32) 45 = some (45, .iconst 1, 1, (0, 0, 0, 0), (.int 1), [], 0, 0, []) := rfl
theorem f_32_46 : xfind (xnth xTs 32) 46 = some (46, .ireturn, 1, (1, 0, 0, 0), .null, [], 0, 0, []) := rfl
theorem b_Notes_addEntry_0 (sh : xSh) (M : Nat → Nat → Int32) (J : Nat → Nat → Int64) (l0 : Nat) (l1 : Int32) (l2 : Int32) : ev (32, 0, [.ref l0, .int l1, .int l2], [], (sh, M, J)) = (bif decide ((sh.2.2.1 l0).1 = 3) then bif decide ((M l0 1) < 15) then bif decide ((sh.2.2.1 l0).1 = 3) then bif decide ((sh.2.2.1 l0).1 = 3) then (ev (130, 0, [.ref (sh.2.2.2 l0 4), .int (M l0 1), .int l1], [], (sh, M, J))).bind (fun r => ev (32, 23, [.ref l0, .int l1, .int l2], r.1.toList ++ [], r.2)) else none else none else some (some (.int 0), (sh, M, J)) else none) := by
  refine ev_nx (s1 := (32, 1, [.ref l0, .int l1, .int l2], [.ref l0], (sh, M, J))) f_32_0 rfl ?_
  refine ev_gd (s1 := (32, 4, [.ref l0, .int l1, .int l2], [.int (M l0 1)], (sh, M, J))) f_32_1 rfl ?_
  refine ev_nx (s1 := (32, 6, [.ref l0, .int l1, .int l2], [.int 15, .int (M l0 1)], (sh, M, J))) f_32_4 rfl ?_
  refine ev_br (s1 := (32, 11, [.ref l0, .int l1, .int l2], [], (sh, M, J))) (s2 := (32, 9, [.ref l0, .int l1, .int l2], [], (sh, M, J))) f_32_6 rfl ?_ ?_
  · refine ev_nx (s1 := (32, 12, [.ref l0, .int l1, .int l2], [.ref l0], (sh, M, J))) f_32_11 rfl ?_
    refine ev_gd (s1 := (32, 15, [.ref l0, .int l1, .int l2], [.ref (sh.2.2.2 l0 4)], (sh, M, J))) f_32_12 rfl ?_
    refine ev_nx (s1 := (32, 16, [.ref l0, .int l1, .int l2], [.ref l0, .ref (sh.2.2.2 l0 4)], (sh, M, J))) f_32_15 rfl ?_
    refine ev_gd (s1 := (32, 19, [.ref l0, .int l1, .int l2], [.int (M l0 1), .ref (sh.2.2.2 l0 4)], (sh, M, J))) f_32_16 rfl ?_
    refine ev_nx (s1 := (32, 20, [.ref l0, .int l1, .int l2], [.int l1, .int (M l0 1), .ref (sh.2.2.2 l0 4)], (sh, M, J))) f_32_19 rfl ?_
    exact ev_c1 (s1 := (130, 0, [.ref (sh.2.2.2 l0 4), .int (M l0 1), .int l1], [], (sh, M, J))) (k := (32, 23, [.ref l0, .int l1, .int l2], [])) f_32_20 rfl
  · refine ev_nx (s1 := (32, 10, [.ref l0, .int l1, .int l2], [.int 0], (sh, M, J))) f_32_9 rfl ?_
    exact ev_r1 f_32_10 rfl
theorem b_Notes_addEntry_23 (sh : xSh) (M : Nat → Nat → Int32) (J : Nat → Nat → Int64) (l0 : Nat) (l1 : Int32) (l2 : Int32) : ev (32, 23, [.ref l0, .int l1, .int l2], [], (sh, M, J)) = (bif decide ((sh.2.2.1 l0).1 = 3) then bif decide ((sh.2.2.1 l0).1 = 3) then (ev (130, 0, [.ref (sh.2.2.2 l0 5), .int (M l0 1), .int l2], [], (sh, M, J))).bind (fun r => ev (32, 35, [.ref l0, .int l1, .int l2], r.1.toList ++ [], r.2)) else none else none) := by
  refine ev_nx (s1 := (32, 24, [.ref l0, .int l1, .int l2], [.ref l0], (sh, M, J))) f_32_23 rfl ?_
  refine ev_gd (s1 := (32, 27, [.ref l0, .int l1, .int l2], [.ref (sh.2.2.2 l0 5)], (sh, M, J))) f_32_24 rfl ?_
  refine ev_nx (s1 := (32, 28, [.ref l0, .int l1, .int l2], [.ref l0, .ref (sh.2.2.2 l0 5)], (sh, M, J))) f_32_27 rfl ?_
  refine ev_gd (s1 := (32, 31, [.ref l0, .int l1, .int l2], [.int (M l0 1), .ref (sh.2.2.2 l0 5)], (sh, M, J))) f_32_28 rfl ?_
  refine ev_nx (s1 := (32, 32, [.ref l0, .int l1, .int l2], [.int l2, .int (M l0 1), .ref (sh.2.2.2 l0 5)], (sh, M, J))) f_32_31 rfl ?_
  exact ev_c1 (s1 := (130, 0, [.ref (sh.2.2.2 l0 5), .int (M l0 1), .int l2], [], (sh, M, J))) (k := (32, 35, [.ref l0, .int l1, .int l2], [])) f_32_32 rfl
theorem b_Notes_addEntry_35 (sh : xSh) (M : Nat → Nat → Int32) (J : Nat → Nat → Int64) (l0 : Nat) (l1 : Int32) (l2 : Int32) : ev (32, 35, [.ref l0, .int l1, .int l2], [], (sh, M, J)) = (bif decide ((sh.2.2.1 l0).1 = 3) then bif decide ((sh.2.2.1 l0).1 = 3) then some (some (.int 1), (sh, (xu M l0 1 ((M l0 1) + 1)), J)) else none else none) := by
  refine ev_nx (s1 := (32, 36, [.ref l0, .int l1, .int l2], [.ref l0], (sh, M, J))) f_32_35 rfl ?_
  refine ev_nx (s1 := (32, 37, [.ref l0, .int l1, .int l2], [.ref l0, .ref l0], (sh, M, J))) f_32_36 rfl ?_
  refine ev_gd (s1 := (32, 40, [.ref l0, .int l1, .int l2], [.int (M l0 1), .ref l0], (sh, M, J))) f_32_37 rfl ?_
  refine ev_nx (s1 := (32, 41, [.ref l0, .int l1, .int l2], [.int 1, .int (M l0 1), .ref l0], (sh, M, J))) f_32_40 rfl ?_
  refine ev_nx (s1 := (32, 42, [.ref l0, .int l1, .int l2], [.int ((M l0 1) + 1), .ref l0], (sh, M, J))) f_32_41 rfl ?_
  refine ev_gd (s1 := (32, 45, [.ref l0, .int l1, .int l2], [], (sh, (xu M l0 1 ((M l0 1) + 1)), J))) f_32_42 rfl ?_
  refine ev_nx (s1 := (32, 46, [.ref l0, .int l1, .int l2], [.int 1], (sh, (xu M l0 1 ((M l0 1) + 1)), J))) f_32_45 rfl ?_
  exact ev_r1 f_32_46 rfl
theorem f_33_0 : xfind (xnth xTs 33) 0 = some (0, .iconst 0, 1, (0, 0, 0, 0), (.int 0), [], 0, 0, []) := rfl
theorem f_33_1 : xfind (xnth xTs 33) 1 = some (1, .istore 4, 2, (0, 0, 0, 0), .null, [], 0, 0, []) := rfl
theorem f_33_3 : xfind (xnth xTs 33) 3 = some (3, .iload 4, 2, (0, 0, 0, 0), .null, [], 0, 1, []) := rfl
theorem f_33_5 : xfind (xnth xTs 33) 5 = some (5, .aload_n 0, 1, (0, 0, 0, 0), .null, [], 0, 0, []) := rfl
theorem f_33_6 : xfind (xnth xTs 33) 6 = some (6, .getfield 9, 3, (3, 0, 0, 0), .null, [], 225, 0, []) := rfl
theorem f_33_9 : xfind (xnth xTs 33) 9 = some (9, .if_icmp .ge 47, 3, (0, 0, 0, 0), .null, [], 0, 0, []) := rfl
theorem f_33_12 : xfind (xnth xTs 33) 12 = some (12, .aload_n 2, 1, (0, 0, 0, 0), .null, [], 0, 0, []) := rfl
theorem f_33_13 : xfind (xnth xTs 33) 13 = some (13, .aload_n 1, 1, (0, 0, 0, 0), .null, [], 0, 0, []) := rfl
theorem f_33_14 : xfind (xnth xTs 33) 14 = some (14, .aload_n 0, 1, (0, 0, 0, 0), .null, [], 0, 0, []) := rfl
theorem f_33_15 : xfind (xnth xTs 33) 15 = some (15, .getfield 18, 3, (3, 2, 1, 0), .null, [], 229, 0, []) := rfl
theorem f_33_18 : xfind (xnth xTs 33) 18 = some (18, .iload 4, 2, (0, 0, 0, 0), .null, [], 0, 0, []) := rfl
theorem f_33_20 : xfind (xnth xTs 33) 20 = some (20, .invokestatic 35, 3, (129, 2, 8, 2), .null, [], 816, 0, []) := rfl
theorem f_33_23 : xfind (xnth xTs 33) 23 = some (23, .iload_n 3, 1, (0, 0, 0, 0), .null, [], 0, 0, []) := rfl
theorem f_33_24 : xfind (xnth xTs 33) 24 = some (24, .invokevirtual 39, 3, (77, 3, 6, 5), .null, [], 817, 0, []) := rfl
theorem f_33_27 : xfind (xnth xTs 33) 27 = some (27, .aload_n 0, 1, (0, 0, 0, 0), .null, [], 0, 0, []) := rfl
theorem f_33_28 : xfind (xnth xTs 33) 28 = some (28, .getfield 22, 3, (3, 3, 1, 0), .null, [], 230, 0, []) := rfl
theorem f_33_31 : xfind (xnth xTs 33) 31 = some (31, .iload 4, 2, (0, 0, 0, 0), .null, [], 0, 0, []) := rfl
theorem f_33_33 : xfind (xnth xTs 33) 33 = some (33, .invokestatic 35, 3, (129, 2, 8, 2), .null, [], 816, 0, []) := rfl
theorem f_33_36 : xfind (xnth xTs 33) 36 = some (36, .iconst 1, 1, (0, 0, 0, 0), (.int 1), [], 0, 0, []) := rfl
theorem f_33_37 : xfind (xnth xTs 33) 37 = some (37, .if_icmp .ne 7, 3, (0, 0, 0, 0), .null, [], 0, 0, []) := rfl
theorem f_33_40 : xfind (xnth xTs 33) 40 = some (40, .iconst 1, 1, (0, 0, 0, 0), (.int 1), [], 0, 0, []) := rfl
theorem f_33_41 : xfind (xnth xTs 33) 41 = some (41, .goto 4, 3, (0, 0, 0, 0), .null, [], 0, 0, []) := rfl
theorem f_33_44 : xfind (xnth xTs 33) 44 = some (44, .iconst 0, 1, (0, 0, 0, 0), (.int 0), [], 0, 0, []) := rfl
theorem f_33_45 : xfind (xnth xTs 33) 45 = some (45, .if_icmp .eq 5, 3, (0, 0, 0, 0), .null, [], 0, 0, []) := rfl
theorem f_33_48 : xfind (xnth xTs 33) 48 = some (48, .iconst 0, 1, (0, 0, 0, 0), (.int 0), [], 0, 0, []) := rfl
theorem f_33_49 : xfind (xnth xTs 33) 49 = some (49, .ireturn, 1, (1, 0, 0, 0), .null, [], 0, 0, []) := rfl
theorem f_33_50 : xfind (xnth xTs 33) 50 = some (50, .iinc 4 1, 3, (0, 0, 0, 0), .null, [], 0, 0, []) := rfl
theorem f_33_53 : xfind (xnth xTs 33) 53 = some (53, .goto (-50), 3, (0, 0, 0, 0), .null, [], 0, 0, []) := rfl
theorem f_33_56 : xfind (xnth xTs 33) 56 = some (56, .iconst 1, 1, (0, 0, 0, 0), (.int 1), [], 0, 0, []) := rfl
theorem f_33_57 : xfind (xnth xTs 33) 57 = some (57, .ireturn, 1, (1, 0, 0, 0), .null, [], 0, 0, []) := rfl
theorem hd_33_3 : xhead 33 3 = some [] := rfl
theorem b_Notes_fitCut_0 (sh : xSh) (M : Nat → Nat → Int32) (J : Nat → Nat → Int64) (l0 : Nat) (l1 : Nat) (l2 : Nat) (l3 : Int32) : ev (33, 0, [.ref l0, .ref l1, .ref l2, .int l3, .null], [], (sh, M, J)) = (ev (33, 3, [.ref l0, .ref l1, .ref l2, .int l3, .int 0], [], (sh, M, J))) := by
  refine ev_nx (s1 := (33, 1, [.ref l0, .ref l1, .ref l2, .int l3, .null], [.int 0], (sh, M, J))) f_33_0 rfl ?_
  refine ev_nx (s1 := (33, 3, [.ref l0, .ref l1, .ref l2, .int l3, .int 0], [], (sh, M, J))) f_33_1 rfl ?_
  exact rfl
theorem b_Notes_fitCut_3 (sh : xSh) (M : Nat → Nat → Int32) (J : Nat → Nat → Int64) (l0 : Nat) (l1 : Nat) (l2 : Nat) (l3 : Int32) (l4 : Int32) : ev (33, 3, [.ref l0, .ref l1, .ref l2, .int l3, .int l4], [], (sh, M, J)) = (bif decide ((sh.2.2.1 l0).1 = 3) then bif decide ((M l0 0) ≤ l4) then some (some (.int 1), (sh, M, J)) else bif decide ((sh.2.2.1 l0).1 = 3) then (ev (129, 0, [.ref (sh.2.2.2 l0 2), .int l4], [], (sh, M, J))).bind (fun r => ev (33, 23, [.ref l0, .ref l1, .ref l2, .int l3, .int l4], r.1.toList ++ [.ref l1, .ref l2], r.2)) else none else none) := by
  refine ev_nx (s1 := (33, 5, [.ref l0, .ref l1, .ref l2, .int l3, .int l4], [.int l4], (sh, M, J))) f_33_3 rfl ?_
  refine ev_nx (s1 := (33, 6, [.ref l0, .ref l1, .ref l2, .int l3, .int l4], [.ref l0, .int l4], (sh, M, J))) f_33_5 rfl ?_
  refine ev_gd (s1 := (33, 9, [.ref l0, .ref l1, .ref l2, .int l3, .int l4], [.int (M l0 0), .int l4], (sh, M, J))) f_33_6 rfl ?_
  refine ev_br (s1 := (33, 56, [.ref l0, .ref l1, .ref l2, .int l3, .int l4], [], (sh, M, J))) (s2 := (33, 12, [.ref l0, .ref l1, .ref l2, .int l3, .int l4], [], (sh, M, J))) f_33_9 rfl ?_ ?_
  · refine ev_nx (s1 := (33, 57, [.ref l0, .ref l1, .ref l2, .int l3, .int l4], [.int 1], (sh, M, J))) f_33_56 rfl ?_
    exact ev_r1 f_33_57 rfl
  · refine ev_nx (s1 := (33, 13, [.ref l0, .ref l1, .ref l2, .int l3, .int l4], [.ref l2], (sh, M, J))) f_33_12 rfl ?_
    refine ev_nx (s1 := (33, 14, [.ref l0, .ref l1, .ref l2, .int l3, .int l4], [.ref l1, .ref l2], (sh, M, J))) f_33_13 rfl ?_
    refine ev_nx (s1 := (33, 15, [.ref l0, .ref l1, .ref l2, .int l3, .int l4], [.ref l0, .ref l1, .ref l2], (sh, M, J))) f_33_14 rfl ?_
    refine ev_gd (s1 := (33, 18, [.ref l0, .ref l1, .ref l2, .int l3, .int l4], [.ref (sh.2.2.2 l0 2), .ref l1, .ref l2], (sh, M, J))) f_33_15 rfl ?_
    refine ev_nx (s1 := (33, 20, [.ref l0, .ref l1, .ref l2, .int l3, .int l4], [.int l4, .ref (sh.2.2.2 l0 2), .ref l1, .ref l2], (sh, M, J))) f_33_18 rfl ?_
    exact ev_c1 (s1 := (129, 0, [.ref (sh.2.2.2 l0 2), .int l4], [], (sh, M, J))) (k := (33, 23, [.ref l0, .ref l1, .ref l2, .int l3, .int l4], [.ref l1, .ref l2])) f_33_20 rfl
theorem b_Notes_fitCut_23 (sh : xSh) (M : Nat → Nat → Int32) (J : Nat → Nat → Int64) (l0 : Nat) (l1 : Nat) (l2 : Nat) (l3 : Int32) (l4 : Int32) (k0 : Int32) (k1 : Nat) (k2 : Nat) : ev (33, 23, [.ref l0, .ref l1, .ref l2, .int l3, .int l4], [.int k0, .ref k1, .ref k2], (sh, M, J)) = (bif (decide ((sh.2.2.1 k2).1 = 6) && true) then (ev (77, 0, [.ref k2, .ref k1, .int k0, .int l3, .null], [], (sh, M, J))).bind (fun r => ev (33, 27, [.ref l0, .ref l1, .ref l2, .int l3, .int l4], r.1.toList ++ [], r.2)) else none) := by
  refine ev_nx (s1 := (33, 24, [.ref l0, .ref l1, .ref l2, .int l3, .int l4], [.int l3, .int k0, .ref k1, .ref k2], (sh, M, J))) f_33_23 rfl ?_
  exact ev_ca (cc := (decide ((sh.2.2.1 k2).1 = 6) && true)) (s1 := (77, 0, [.ref k2, .ref k1, .int k0, .int l3, .null], [], (sh, M, J))) (k := (33, 27, [.ref l0, .ref l1, .ref l2, .int l3, .int l4], [])) f_33_24 rfl
theorem b_Notes_fitCut_27 (sh : xSh) (M : Nat → Nat → Int32) (J : Nat → Nat → Int64) (l0 : Nat) (l1 : Nat) (l2 : Nat) (l3 : Int32) (l4 : Int32) (k0 : Int32) : ev (33, 27, [.ref l0, .ref l1, .ref l2, .int l3, .int l4], [.int k0], (sh, M, J)) = (bif decide ((sh.2.2.1 l0).1 = 3) then (ev (129, 0, [.ref (sh.2.2.2 l0 3), .int l4], [], (sh, M, J))).bind (fun r => ev (33, 36, [.ref l0, .ref l1, .ref l2, .int l3, .int l4], r.1.toList ++ [.int k0], r.2)) else none) := by
  refine ev_nx (s1 := (33, 28, [.ref l0, .ref l1, .ref l2, .int l3, .int l4], [.ref l0, .int k0], (sh, M, J))) f_33_27 rfl ?_
  refine ev_gd (s1 := (33, 31, [.ref l0, .ref l1, .ref l2, .int l3, .int l4], [.ref (sh.2.2.2 l0 3), .int k0], (sh, M, J))) f_33_28 rfl ?_
  refine ev_nx (s1 := (33, 33, [.ref l0, .ref l1, .ref l2, .int l3, .int l4], [.int l4, .ref (sh.2.2.2 l0 3), .int k0], (sh, M, J))) f_33_31 rfl ?_
  exact ev_c1 (s1 := (129, 0, [.ref (sh.2.2.2 l0 3), .int l4], [], (sh, M, J))) (k := (33, 36, [.ref l0, .ref l1, .ref l2, .int l3, .int l4], [.int k0])) f_33_33 rfl
theorem b_Notes_fitCut_36 (sh : xSh) (M : Nat → Nat → Int32) (J : Nat → Nat → Int64) (l0 : Nat) (l1 : Nat) (l2 : Nat) (l3 : Int32) (l4 : Int32) (k0 : Int32) (k1 : Int32) : ev (33, 36, [.ref l0, .ref l1, .ref l2, .int l3, .int l4], [.int k0, .int k1], (sh, M, J)) = (bif !decide (k0 = 1) then bif decide (k1 = 0) then ev (33, 3, [.ref l0, .ref l1, .ref l2, .int l3, .int (l4 + 1)], [], (sh, M, J)) else some (some (.int 0), (sh, M, J)) else bif decide (k1 = 1) then ev (33, 3, [.ref l0, .ref l1, .ref l2, .int l3, .int (l4 + 1)], [], (sh, M, J)) else some (some (.int 0), (sh, M, J))) := by
  refine ev_nx (s1 := (33, 37, [.ref l0, .ref l1, .ref l2, .int l3, .int l4], [.int 1, .int k0, .int k1], (sh, M, J))) f_33_36 rfl ?_
  refine ev_br (s1 := (33, 44, [.ref l0, .ref l1, .ref l2, .int l3, .int l4], [.int k1], (sh, M, J))) (s2 := (33, 40, [.ref l0, .ref l1, .ref l2, .int l3, .int l4], [.int k1], (sh, M, J))) f_33_37 rfl ?_ ?_
  · refine ev_nx (s1 := (33, 45, [.ref l0, .ref l1, .ref l2, .int l3, .int l4], [.int 0, .int k1], (sh, M, J))) f_33_44 rfl ?_
    refine ev_br (s1 := (33, 50, [.ref l0, .ref l1, .ref l2, .int l3, .int l4], [], (sh, M, J))) (s2 := (33, 48, [.ref l0, .ref l1, .ref l2, .int l3, .int l4], [], (sh, M, J))) f_33_45 rfl ?_ ?_
    · refine ev_nx (s1 := (33, 53, [.ref l0, .ref l1, .ref l2, .int l3, .int (l4 + 1)], [], (sh, M, J))) f_33_50 rfl ?_
      refine ev_nx (s1 := (33, 3, [.ref l0, .ref l1, .ref l2, .int l3, .int (l4 + 1)], [], (sh, M, J))) f_33_53 rfl ?_
      exact rfl
    · refine ev_nx (s1 := (33, 49, [.ref l0, .ref l1, .ref l2, .int l3, .int l4], [.int 0], (sh, M, J))) f_33_48 rfl ?_
      exact ev_r1 f_33_49 rfl
  · refine ev_nx (s1 := (33, 41, [.ref l0, .ref l1, .ref l2, .int l3, .int l4], [.int 1, .int k1], (sh, M, J))) f_33_40 rfl ?_
    refine ev_nx (s1 := (33, 45, [.ref l0, .ref l1, .ref l2, .int l3, .int l4], [.int 1, .int k1], (sh, M, J))) f_33_41 rfl ?_
    refine ev_br (s1 := (33, 50, [.ref l0, .ref l1, .ref l2, .int l3, .int l4], [], (sh, M, J))) (s2 := (33, 48, [.ref l0, .ref l1, .ref l2, .int l3, .int l4], [], (sh, M, J))) f_33_45 rfl ?_ ?_
    · refine ev_nx (s1 := (33, 53, [.ref l0, .ref l1, .ref l2, .int l3, .int (l4 + 1)], [], (sh, M, J))) f_33_50 rfl ?_
      refine ev_nx (s1 := (33, 3, [.ref l0, .ref l1, .ref l2, .int l3, .int (l4 + 1)], [], (sh, M, J))) f_33_53 rfl ?_
      exact rfl
    · refine ev_nx (s1 := (33, 49, [.ref l0, .ref l1, .ref l2, .int l3, .int l4], [.int 0], (sh, M, J))) f_33_48 rfl ?_
      exact ev_r1 f_33_49 rfl
theorem f_34_0 : xfind (xnth xTs 34) 0 = some (0, .iconst 0, 1, (0, 0, 0, 0), (.int 0), [], 0, 0, []) := rfl
theorem f_34_1 : xfind (xnth xTs 34) 1 = some (1, .istore_n 2, 1, (0, 0, 0, 0), .null, [], 0, 0, []) := rfl
theorem f_34_2 : xfind (xnth xTs 34) 2 = some (2, .iload_n 2, 1, (0, 0, 0, 0), .null, [], 0, 1, []) := rfl
theorem f_34_3 : xfind (xnth xTs 34) 3 = some (3, .aload_n 0, 1, (0, 0, 0, 0), .null, [], 0, 0, []) := rfl
theorem f_34_4 : xfind (xnth xTs 34) 4 = some (4, .getfield 15, 3, (3, 1, 0, 0), .null, [], 227, 0, []) := rfl
theorem f_34_7 : xfind (xnth xTs 34) 7 = some (7, .if_icmp .ge 34, 3, (0, 0, 0, 0), .null, [], 0, 0, []) := rfl
theorem f_34_10 : xfind (xnth xTs 34) 10 = some (10, .aload_n 1, 1, (0, 0, 0, 0), .null, [], 0, 0, []) := rfl
theorem f_34_11 : xfind (xnth xTs 34) 11 = some (11, .aload_n 0, 1, (0, 0, 0, 0), .null, [], 0, 0, []) := rfl
theorem f_34_12 : xfind (xnth xTs 34) 12 = some (12, .getfield 25, 3, (3, 4, 1, 0), .null, [], 231, 0, []) := rfl
theorem f_34_15 : xfind (xnth xTs 34) 15 = some (15, .iload_n 2, 1, (0, 0, 0, 0), .null, [], 0, 0, []) := rfl
theorem f_34_16 : xfind (xnth xTs 34) 16 = some (16, .invokestatic 35, 3, (129, 2, 8, 2), .null, [], 816, 0, []) := rfl
theorem f_34_19 : xfind (xnth xTs 34) 19 = some (19, .invokevirtual 45, 3, (65, 1, 6, 2), .null, [], 852, 0, []) := rfl
theorem f_34_22 : xfind (xnth xTs 34) 22 = some (22, .aload_n 0, 1, (0, 0, 0, 0), .null, [], 0, 0, []) := rfl
theorem f_34_23 : xfind (xnth xTs 34) 23 = some (23, .getfield 28, 3, (3, 5, 1, 0), .null, [], 232, 0, []) := rfl
theorem f_34_26 : xfind (xnth xTs 34) 26 = some (26, .iload_n 2, 1, (0, 0, 0, 0), .null, [], 0, 0, []) := rfl
theorem f_34_27 : xfind (xnth xTs 34) 27 = some (27, .invokestatic 35, 3, (129, 2, 8, 2), .null, [], 816, 0, []) := rfl
theorem f_34_30 : xfind (xnth xTs 34) 30 = some (30, .if_icmp .eq 5, 3, (0, 0, 0, 0), .null, [], 0, 0, []) := rfl
theorem f_34_33 : xfind (xnth xTs 34) 33 = some (33, .iload_n 2, 1, (0, 0, 0, 0), .null, [], 0, 0, []) := rfl
theorem f_34_34 : xfind (xnth xTs 34) 34 = some (34, .ireturn, 1, (0, 0, 0, 0), .null, [], 0, 0, []) := rfl
theorem f_34_35 : xfind (xnth xTs 34) 35 = some (35, .iinc 2 1, 3, (0, 0, 0, 0), .null, [], 0, 0, []) := rfl
theorem f_34_38 : xfind (xnth xTs 34) 38 = some (38, .goto (-36), 3, (0, 0, 0, 0), .null, [], 0, 0, []) := rfl
theorem f_34_41 : xfind (xnth xTs 34) 41 = some (41, .iconst (-1), 1, (0, 0, 0, 0), (.int (-1)), [], 0, 0, []) := rfl
theorem f_34_42 : xfind (xnth xTs 34) 42 = some (42, .ireturn, 1, (0, 0, 0, 0), .null, [], 0, 0, []) := rfl
theorem hd_34_2 : xhead 34 2 = some [] := rfl
theorem b_Notes_firstWrong_0 (sh : xSh) (M : Nat → Nat → Int32) (J : Nat → Nat → Int64) (l0 : Nat) (l1 : Nat) : ev (34, 0, [.ref l0, .ref l1, .null], [], (sh, M, J)) = (ev (34, 2, [.ref l0, .ref l1, .int 0], [], (sh, M, J))) := by
  refine ev_nx (s1 := (34, 1, [.ref l0, .ref l1, .null], [.int 0], (sh, M, J))) f_34_0 rfl ?_
  refine ev_nx (s1 := (34, 2, [.ref l0, .ref l1, .int 0], [], (sh, M, J))) f_34_1 rfl ?_
  exact rfl
theorem b_Notes_firstWrong_2 (sh : xSh) (M : Nat → Nat → Int32) (J : Nat → Nat → Int64) (l0 : Nat) (l1 : Nat) (l2 : Int32) : ev (34, 2, [.ref l0, .ref l1, .int l2], [], (sh, M, J)) = (bif decide ((sh.2.2.1 l0).1 = 3) then bif decide ((M l0 1) ≤ l2) then some (some (.int (-1)), (sh, M, J)) else bif decide ((sh.2.2.1 l0).1 = 3) then (ev (129, 0, [.ref (sh.2.2.2 l0 4), .int l2], [], (sh, M, J))).bind (fun r => ev (34, 19, [.ref l0, .ref l1, .int l2], r.1.toList ++ [.ref l1], r.2)) else none else none) := by
  refine ev_nx (s1 := (34, 3, [.ref l0, .ref l1, .int l2], [.int l2], (sh, M, J))) f_34_2 rfl ?_
  refine ev_nx (s1 := (34, 4, [.ref l0, .ref l1, .int l2], [.ref l0, .int l2], (sh, M, J))) f_34_3 rfl ?_
  refine ev_gd (s1 := (34, 7, [.ref l0, .ref l1, .int l2], [.int (M l0 1), .int l2], (sh, M, J))) f_34_4 rfl ?_
  refine ev_br (s1 := (34, 41, [.ref l0, .ref l1, .int l2], [], (sh, M, J))) (s2 := (34, 10, [.ref l0, .ref l1, .int l2], [], (sh, M, J))) f_34_7 rfl ?_ ?_
  · refine ev_nx (s1 := (34, 42, [.ref l0, .ref l1, .int l2], [.int (-1)], (sh, M, J))) f_34_41 rfl ?_
    exact ev_r1 f_34_42 rfl
  · refine ev_nx (s1 := (34, 11, [.ref l0, .ref l1, .int l2], [.ref l1], (sh, M, J))) f_34_10 rfl ?_
    refine ev_nx (s1 := (34, 12, [.ref l0, .ref l1, .int l2], [.ref l0, .ref l1], (sh, M, J))) f_34_11 rfl ?_
    refine ev_gd (s1 := (34, 15, [.ref l0, .ref l1, .int l2], [.ref (sh.2.2.2 l0 4), .ref l1], (sh, M, J))) f_34_12 rfl ?_
    refine ev_nx (s1 := (34, 16, [.ref l0, .ref l1, .int l2], [.int l2, .ref (sh.2.2.2 l0 4), .ref l1], (sh, M, J))) f_34_15 rfl ?_
    exact ev_c1 (s1 := (129, 0, [.ref (sh.2.2.2 l0 4), .int l2], [], (sh, M, J))) (k := (34, 19, [.ref l0, .ref l1, .int l2], [.ref l1])) f_34_16 rfl
theorem b_Notes_firstWrong_19 (sh : xSh) (M : Nat → Nat → Int32) (J : Nat → Nat → Int64) (l0 : Nat) (l1 : Nat) (l2 : Int32) (k0 : Int32) (k1 : Nat) : ev (34, 19, [.ref l0, .ref l1, .int l2], [.int k0, .ref k1], (sh, M, J)) = (bif (decide ((sh.2.2.1 k1).1 = 6) && true) then (ev (65, 0, [.ref k1, .int k0], [], (sh, M, J))).bind (fun r => ev (34, 22, [.ref l0, .ref l1, .int l2], r.1.toList ++ [], r.2)) else none) := by
  exact ev_ca (cc := (decide ((sh.2.2.1 k1).1 = 6) && true)) (s1 := (65, 0, [.ref k1, .int k0], [], (sh, M, J))) (k := (34, 22, [.ref l0, .ref l1, .int l2], [])) f_34_19 rfl
theorem b_Notes_firstWrong_22 (sh : xSh) (M : Nat → Nat → Int32) (J : Nat → Nat → Int64) (l0 : Nat) (l1 : Nat) (l2 : Int32) (k0 : Int32) : ev (34, 22, [.ref l0, .ref l1, .int l2], [.int k0], (sh, M, J)) = (bif decide ((sh.2.2.1 l0).1 = 3) then (ev (129, 0, [.ref (sh.2.2.2 l0 5), .int l2], [], (sh, M, J))).bind (fun r => ev (34, 30, [.ref l0, .ref l1, .int l2], r.1.toList ++ [.int k0], r.2)) else none) := by
  refine ev_nx (s1 := (34, 23, [.ref l0, .ref l1, .int l2], [.ref l0, .int k0], (sh, M, J))) f_34_22 rfl ?_
  refine ev_gd (s1 := (34, 26, [.ref l0, .ref l1, .int l2], [.ref (sh.2.2.2 l0 5), .int k0], (sh, M, J))) f_34_23 rfl ?_
  refine ev_nx (s1 := (34, 27, [.ref l0, .ref l1, .int l2], [.int l2, .ref (sh.2.2.2 l0 5), .int k0], (sh, M, J))) f_34_26 rfl ?_
  exact ev_c1 (s1 := (129, 0, [.ref (sh.2.2.2 l0 5), .int l2], [], (sh, M, J))) (k := (34, 30, [.ref l0, .ref l1, .int l2], [.int k0])) f_34_27 rfl
theorem b_Notes_firstWrong_30 (sh : xSh) (M : Nat → Nat → Int32) (J : Nat → Nat → Int64) (l0 : Nat) (l1 : Nat) (l2 : Int32) (k0 : Int32) (k1 : Int32) : ev (34, 30, [.ref l0, .ref l1, .int l2], [.int k0, .int k1], (sh, M, J)) = (bif decide (k1 = k0) then ev (34, 2, [.ref l0, .ref l1, .int (l2 + 1)], [], (sh, M, J)) else some (some (.int l2), (sh, M, J))) := by
  refine ev_br (s1 := (34, 35, [.ref l0, .ref l1, .int l2], [], (sh, M, J))) (s2 := (34, 33, [.ref l0, .ref l1, .int l2], [], (sh, M, J))) f_34_30 rfl ?_ ?_
  · refine ev_nx (s1 := (34, 38, [.ref l0, .ref l1, .int (l2 + 1)], [], (sh, M, J))) f_34_35 rfl ?_
    refine ev_nx (s1 := (34, 2, [.ref l0, .ref l1, .int (l2 + 1)], [], (sh, M, J))) f_34_38 rfl ?_
    exact rfl
  · refine ev_nx (s1 := (34, 34, [.ref l0, .ref l1, .int l2], [.int l2], (sh, M, J))) f_34_33 rfl ?_
    exact ev_r1 f_34_34 rfl
theorem f_36_0 : xfind (xnth xTs 36) 0 = some (0, .aload_n 0, 1, (0, 0, 0, 0), .null, [], 0, 0, []) := rfl
theorem f_36_1 : xfind (xnth xTs 36) 1 = some (1, .iconst (-1), 1, (0, 0, 0, 0), (.int (-1)), [], 0, 0, []) := rfl
theorem f_36_2 : xfind (xnth xTs 36) 2 = some (2, .putfield 9, 3, (4, 0, 0, 0), .null, [], 254, 0, []) := rfl
theorem f_36_5 : xfind (xnth xTs 36) 5 = some (5, .iconst 0, 1, (0, 0, 0, 0), (.int 0), [], 0, 0, []) := rfl
theorem f_36_6 : xfind (xnth xTs 36) 6 = some (6, .istore 5, 2, (0, 0, 0, 0), .null, [], 0, 0, []) := rfl
theorem f_36_8 : xfind (xnth xTs 36) 8 = some (8, .iload 5, 2, (0, 0, 0, 0), .null, [], 0, 1, [6, 7]) := rfl
theorem f_36_10 : xfind (xnth xTs 36) 10 = some (10, .iconst 5, 1, (0, 0, 0, 0), (.int 5), [], 0, 0, []) := rfl
theorem f_36_11 : xfind (xnth xTs 36) 11 = some (11, .if_icmp .ge 19, 3, (0, 0, 0, 0), .null, [], 0, 0, []) := rfl
theorem f_36_14 : xfind (xnth xTs 36) 14 = some (14, .aload_n 0, 1, (0, 0, 0, 0), .null, [], 0, 0, []) := rfl
theorem f_36_15 : xfind (xnth xTs 36) 15 = some (15, .getfield 19, 3, (4, 2, 1, 0), .null, [], 258, 0, []) := rfl
theorem f_36_18 : xfind (xnth xTs 36) 18 = some (18, .iload 5, 2, (0, 0, 0, 0), .null, [], 0, 0, []) := rfl
theorem f_36_20 : xfind (xnth xTs 36) 20 = some (20, .iconst 0, 1, (0, 0, 0, 0), (.int 0), [], 0, 0, []) := rfl
theorem f_36_21 : xfind (xnth xTs 36) 21 = some (21, .invokestatic 32, 3, (130, 3, 8, 3), .null, [], 706, 0, []) := rfl
theorem f_36_24 : xfind (xnth xTs 36) 24 = some (24, .iinc 5 1, 3, (0, 0, 0, 0), .null, [], 0, 0, []) := rfl
theorem f_36_27 : xfind (xnth xTs 36) 27 = some (27, .goto (-19), 3, (0, 0, 0, 0), .null, [], 0, 0, []) := rfl
theorem f_36_30 : xfind (xnth xTs 36) 30 = some (30, .aload_n 0, 1, (0, 0, 0, 0), .null, [], 0, 0, []) := rfl
theorem f_36_31 : xfind (xnth xTs 36) 31 = some (31, .aload_n 1, 1, (0, 0, 0, 0), .null, [], 0, 0, []) := rfl
theorem f_36_32 : xfind (xnth xTs 36) 32 = some (32, .aload_n 2, 1, (0, 0, 0, 0), .null, [], 0, 0, []) := rfl
theorem f_36_33 : xfind (xnth xTs 36) 33 = some (33, .invokevirtual 36, 3, (37, 2, 4, 6), .null, [], 707, 0, []) := rfl
theorem f_36_36 : xfind (xnth xTs 36) 36 = some (36, .aload_n 1, 1, (0, 0, 0, 0), .null, [], 0, 0, []) := rfl
theorem f_36_37 : xfind (xnth xTs 36) 37 = some (37, .invokevirtual 40, 3, (22, 0, 1, 3), .null, [], 714, 0, []) := rfl
theorem f_36_40 : xfind (xnth xTs 36) 40 = some (40, .istore 5, 2, (0, 0, 0, 0), .null, [], 0, 0, []) := rfl
theorem f_36_42 : xfind (xnth xTs 36) 42 = some (42, .iconst 0, 1, (0, 0, 0, 0), (.int 0), [], 0, 0, []) := rfl
theorem f_36_43 : xfind (xnth xTs 36) 43 = some (43, .istore 6, 2, (0, 0, 0, 0), .null, [], 0, 0, []) := rfl
theorem f_36_45 : xfind (xnth xTs 36) 45 = some (45, .iload 6, 2, (0, 0, 0, 0), .null, [], 0, 1, [7]) := rfl
theorem f_36_47 : xfind (xnth xTs 36) 47 = some (47, .iload 5, 2, (0, 0, 0, 0), .null, [], 0, 0, []) := rfl
theorem f_36_49 : xfind (xnth xTs 36) 49 = some (49, .if_icmp .ge 88, 3, (0, 0, 0, 0), .null, [], 0, 0, []) := rfl
theorem f_36_52 : xfind (xnth xTs 36) 52 = some (52, .aload_n 0, 1, (0, 0, 0, 0), .null, [], 0, 0, []) := rfl
theorem f_36_53 : xfind (xnth xTs 36) 53 = some (53, .getfield 9, 3, (4, 0, 0, 0), .null, [], 254, 0, []) := rfl
theorem f_36_56 : xfind (xnth xTs 36) 56 = some (56, .ifCond .eq 81, 3, (0, 0, 0, 0), .null, [], 0, 0, []) := rfl
theorem f_36_59 : xfind (xnth xTs 36) 59 = some (59, .aload_n 0, 1, (0, 0, 0, 0), .null, [], 0, 0, []) := rfl
theorem f_36_60 : xfind (xnth xTs 36) 60 = some (60, .aload_n 1, 1, (0, 0, 0, 0), .null, [], 0, 0, []) := rfl
theorem f_36_61 : xfind (xnth xTs 36) 61 = some (61, .aload_n 2, 1, (0, 0, 0, 0), .null, [], 0, 0, []) := rfl
theorem f_36_62 : xfind (xnth xTs 36) 62 = some (62, .invokevirtual 46, 3, (38, 2, 4, 6), .null, [], 718, 0, []) := rfl
theorem f_36_65 : xfind (xnth xTs 36) 65 = some (65, .ifCond .eq 15, 3, (0, 0, 0, 0), .null, [], 0, 0, []) := rfl
theorem f_36_68 : xfind (xnth xTs 36) 68 = some (68, .aload_n 0, 1, (0, 0, 0, 0), .null, [], 0, 0, []) := rfl
theorem f_36_69 : xfind (xnth xTs 36) 69 = some (69, .aload_n 1, 1, (0, 0, 0, 0), .null, [], 0, 0, []) := rfl
theorem f_36_70 : xfind (xnth xTs 36) 70 = some (70, .aload_n 2, 1, (0, 0, 0, 0), .null, [], 0, 0, []) := rfl
theorem f_36_71 : xfind (xnth xTs 36) 71 = some (71, .iload_n 3, 1, (0, 0, 0, 0), .null, [], 0, 0, []) := rfl
theorem f_36_72 : xfind (xnth xTs 36) 72 = some (72, .iload 4, 2, (0, 0, 0, 0), .null, [], 0, 0, []) := rfl
theorem f_36_74 : xfind (xnth xTs 36) 74 = some (74, .invokevirtual 50, 3, (39, 4, 4, 9), .null, [], 724, 0, []) := rfl
theorem f_36_77 : xfind (xnth xTs 36) 77 = some (77, .goto 4, 3, (0, 0, 0, 0), .null, [], 0, 0, []) := rfl
theorem f_36_80 : xfind (xnth xTs 36) 80 = some (80, .iconst (-1), 1, (0, 0, 0, 0), (.int (-1)), [], 0, 0, []) := rfl
theorem f_36_81 : xfind (xnth xTs 36) 81 = some (81, .istore 7, 2, (0, 0, 0, 0), .null, [], 0, 0, []) := rfl
theorem f_36_83 : xfind (xnth xTs 36) 83 = some (83, .iload 7, 2, (0, 0, 0, 0), .null, [], 0, 0, []) := rfl
theorem f_36_85 : xfind (xnth xTs 36) 85 = some (85, .iconst (-1), 1, (0, 0, 0, 0), (.int (-1)), [], 0, 0, []) := rfl
theorem f_36_86 : xfind (xnth xTs 36) 86 = some (86, .if_icmp .eq 40, 3, (0, 0, 0, 0), .null, [], 0, 0, []) := rfl
theorem f_36_89 : xfind (xnth xTs 36) 89 = some (89, .aload_n 0, 1, (0, 0, 0, 0), .null, [], 0, 0, []) := rfl
theorem f_36_90 : xfind (xnth xTs 36) 90 = some (90, .getfield 9, 3, (4, 0, 0, 0), .null, [], 254, 0, []) := rfl
theorem f_36_93 : xfind (xnth xTs 36) 93 = some (93, .iconst (-1), 1, (0, 0, 0, 0), (.int (-1)), [], 0, 0, []) := rfl
theorem f_36_94 : xfind (xnth xTs 36) 94 = some (94, .if_icmp .eq 12, 3, (0, 0, 0, 0), .null, [], 0, 0, []) := rfl
theorem f_36_97 : xfind (xnth xTs 36) 97 = some (97, .iload 7, 2, (0, 0, 0, 0), .null, [], 0, 0, []) := rfl
theorem f_36_99 : xfind (xnth xTs 36) 99 = some (99, .aload_n 0, 1, (0, 0, 0, 0), .null, [], 0, 0, []) := rfl
theorem f_36_100 : xfind (xnth xTs 36) 100 = some (100, .getfield 9, 3, (4, 0, 0, 0), .null, [], 254, 0, []) := rfl
theorem f_36_103 : xfind (xnth xTs 36) 103 = some (103, .if_icmp .ge 23, 3, (0, 0, 0, 0), .null, [], 0, 0, []) := rfl
theorem f_36_106 : xfind (xnth xTs 36) 106 = some (106, .aload_n 0, 1, (0, 0, 0, 0), .null, [], 0, 0, []) := rfl
theorem f_36_107 : xfind (xnth xTs 36) 107 = some (107, .iload 7, 2, (0, 0, 0, 0), .null, [], 0, 0, []) := rfl
theorem f_36_109 : xfind (xnth xTs 36) 109 = some (109, .putfield 9, 3, (4, 0, 0, 0), .null, [], 254, 0, []) := rfl
theorem f_36_112 : xfind (xnth xTs 36) 112 = some (112, .aload_n 0, 1, (0, 0, 0, 0), .null, [], 0, 0, []) := rfl
theorem f_36_113 : xfind (xnth xTs 36) 113 = some (113, .getfield 19, 3, (4, 2, 1, 0), .null, [], 258, 0, []) := rfl
theorem f_36_116 : xfind (xnth xTs 36) 116 = some (116, .iconst 0, 1, (0, 0, 0, 0), (.int 0), [], 0, 0, []) := rfl
theorem f_36_117 : xfind (xnth xTs 36) 117 = some (117, .aload_n 0, 1, (0, 0, 0, 0), .null, [], 0, 0, []) := rfl
theorem f_36_118 : xfind (xnth xTs 36) 118 = some (118, .getfield 15, 3, (4, 1, 1, 0), .null, [], 256, 0, []) := rfl
theorem f_36_121 : xfind (xnth xTs 36) 121 = some (121, .iconst 0, 1, (0, 0, 0, 0), (.int 0), [], 0, 0, []) := rfl
theorem f_36_122 : xfind (xnth xTs 36) 122 = some (122, .iconst 5, 1, (0, 0, 0, 0), (.int 5), [], 0, 0, []) := rfl
theorem f_36_123 : xfind (xnth xTs 36) 123 = some (123, .invokestatic 54, 3, (999, 0, 0, 0), .null, [], 733, 0, []) := rfl
theorem f_36_126 : xfind (xnth xTs 36) 126 = some (126, .aload_n 0, 1, (0, 0, 0, 0), .null, [], 0, 0, []) := rfl
theorem f_36_127 : xfind (xnth xTs 36) 127 = some (127, .aload_n 1, 1, (0, 0, 0, 0), .null, [], 0, 0, []) := rfl
theorem f_36_128 : xfind (xnth xTs 36) 128 = some (128, .invokevirtual 60, 3, (40, 1, 4, 4), .null, [], 734, 0, []) := rfl
theorem f_36_131 : xfind (xnth xTs 36) 131 = some (131, .iinc 6 1, 3, (0, 0, 0, 0), .null, [], 0, 0, []) := rfl
theorem f_36_134 : xfind (xnth xTs 36) 134 = some (134, .goto (-89), 3, (0, 0, 0, 0), .null, [], 0, 0, []) := rfl
theorem f_36_137 : xfind (xnth xTs 36) 137 = some (137, .return_, 1, (0, 0, 0, 0), .null, [], 0, 0, []) := rfl
theorem hd_36_8 : xhead 36 8 = some [6, 7] := rfl
theorem hd_36_45 : xhead 36 45 = some [7] := rfl
theorem b_Placing_search_0 (sh : xSh) (M : Nat → Nat → Int32) (J : Nat → Nat → Int64) (l0 : Nat) (l1 : Nat) (l2 : Nat) (l3 : Int32) (l4 : Int32) : ev (36, 0, [.ref l0, .ref l1, .ref l2, .int l3, .int l4, .null, .null, .null], [], (sh, M, J)) = (bif decide ((sh.2.2.1 l0).1 = 4) then ev (36, 8, [.ref l0, .ref l1, .ref l2, .int l3, .int l4, .int 0, .null, .null], [], (sh, (xu M l0 0 (-1)), J)) else none) := by
  refine ev_nx (s1 := (36, 1, [.ref l0, .ref l1, .ref l2, .int l3, .int l4, .null, .null, .null], [.ref l0], (sh, M, J))) f_36_0 rfl ?_
  refine ev_nx (s1 := (36, 2, [.ref l0, .ref l1, .ref l2, .int l3, .int l4, .null, .null, .null], [.int (-1), .ref l0], (sh, M, J))) f_36_1 rfl ?_
  refine ev_gd (s1 := (36, 5, [.ref l0, .ref l1, .ref l2, .int l3, .int l4, .null, .null, .null], [], (sh, (xu M l0 0 (-1)), J))) f_36_2 rfl ?_
  refine ev_nx (s1 := (36, 6, [.ref l0, .ref l1, .ref l2, .int l3, .int l4, .null, .null, .null], [.int 0], (sh, (xu M l0 0 (-1)), J))) f_36_5 rfl ?_
  refine ev_nx (s1 := (36, 8, [.ref l0, .ref l1, .ref l2, .int l3, .int l4, .int 0, .null, .null], [], (sh, (xu M l0 0 (-1)), J))) f_36_6 rfl ?_
  exact rfl
theorem b_Placing_search_8 (sh : xSh) (M : Nat → Nat → Int32) (J : Nat → Nat → Int64) (l0 : Nat) (l1 : Nat) (l2 : Nat) (l3 : Int32) (l4 : Int32) (l5 : Int32) : ev (36, 8, [.ref l0, .ref l1, .ref l2, .int l3, .int l4, .int l5, .null, .null], [], (sh, M, J)) = (bif decide (5 ≤ l5) then bif (decide ((sh.2.2.1 l0).1 = 4) && true) then (ev (37, 0, [.ref l0, .ref l1, .ref l2, .null, .null, .null], [], (sh, M, J))).bind (fun r => ev (36, 36, [.ref l0, .ref l1, .ref l2, .int l3, .int l4, .int l5, .null, .null], r.1.toList ++ [], r.2)) else none else bif decide ((sh.2.2.1 l0).1 = 4) then (ev (130, 0, [.ref (sh.2.2.2 l0 2), .int l5, .int 0], [], (sh, M, J))).bind (fun r => ev (36, 24, [.ref l0, .ref l1, .ref l2, .int l3, .int l4, .int l5, .null, .null], r.1.toList ++ [], r.2)) else none) := by
  refine ev_nx (s1 := (36, 10, [.ref l0, .ref l1, .ref l2, .int l3, .int l4, .int l5, .null, .null], [.int l5], (sh, M, J))) f_36_8 rfl ?_
  refine ev_nx (s1 := (36, 11, [.ref l0, .ref l1, .ref l2, .int l3, .int l4, .int l5, .null, .null], [.int 5, .int l5], (sh, M, J))) f_36_10 rfl ?_
  refine ev_br (s1 := (36, 30, [.ref l0, .ref l1, .ref l2, .int l3, .int l4, .int l5, .null, .null], [], (sh, M, J))) (s2 := (36, 14, [.ref l0, .ref l1, .ref l2, .int l3, .int l4, .int l5, .null, .null], [], (sh, M, J))) f_36_11 rfl ?_ ?_
  · refine ev_nx (s1 := (36, 31, [.ref l0, .ref l1, .ref l2, .int l3, .int l4, .int l5, .null, .null], [.ref l0], (sh, M, J))) f_36_30 rfl ?_
    refine ev_nx (s1 := (36, 32, [.ref l0, .ref l1, .ref l2, .int l3, .int l4, .int l5, .null, .null], [.ref l1, .ref l0], (sh, M, J))) f_36_31 rfl ?_
    refine ev_nx (s1 := (36, 33, [.ref l0, .ref l1, .ref l2, .int l3, .int l4, .int l5, .null, .null], [.ref l2, .ref l1, .ref l0], (sh, M, J))) f_36_32 rfl ?_
    exact ev_ca (cc := (decide ((sh.2.2.1 l0).1 = 4) && true)) (s1 := (37, 0, [.ref l0, .ref l1, .ref l2, .null, .null, .null], [], (sh, M, J))) (k := (36, 36, [.ref l0, .ref l1, .ref l2, .int l3, .int l4, .int l5, .null, .null], [])) f_36_33 rfl
  · refine ev_nx (s1 := (36, 15, [.ref l0, .ref l1, .ref l2, .int l3, .int l4, .int l5, .null, .null], [.ref l0], (sh, M, J))) f_36_14 rfl ?_
    refine ev_gd (s1 := (36, 18, [.ref l0, .ref l1, .ref l2, .int l3, .int l4, .int l5, .null, .null], [.ref (sh.2.2.2 l0 2)], (sh, M, J))) f_36_15 rfl ?_
    refine ev_nx (s1 := (36, 20, [.ref l0, .ref l1, .ref l2, .int l3, .int l4, .int l5, .null, .null], [.int l5, .ref (sh.2.2.2 l0 2)], (sh, M, J))) f_36_18 rfl ?_
    refine ev_nx (s1 := (36, 21, [.ref l0, .ref l1, .ref l2, .int l3, .int l4, .int l5, .null, .null], [.int 0, .int l5, .ref (sh.2.2.2 l0 2)], (sh, M, J))) f_36_20 rfl ?_
    exact ev_c1 (s1 := (130, 0, [.ref (sh.2.2.2 l0 2), .int l5, .int 0], [], (sh, M, J))) (k := (36, 24, [.ref l0, .ref l1, .ref l2, .int l3, .int l4, .int l5, .null, .null], [])) f_36_21 rfl
theorem b_Placing_search_24 (sh : xSh) (M : Nat → Nat → Int32) (J : Nat → Nat → Int64) (l0 : Nat) (l1 : Nat) (l2 : Nat) (l3 : Int32) (l4 : Int32) (l5 : Int32) : ev (36, 24, [.ref l0, .ref l1, .ref l2, .int l3, .int l4, .int l5, .null, .null], [], (sh, M, J)) = (ev (36, 8, [.ref l0, .ref l1, .ref l2, .int l3, .int l4, .int (l5 + 1), .null, .null], [], (sh, M, J))) := by
  refine ev_nx (s1 := (36, 27, [.ref l0, .ref l1, .ref l2, .int l3, .int l4, .int (l5 + 1), .null, .null], [], (sh, M, J))) f_36_24 rfl ?_
  refine ev_nx (s1 := (36, 8, [.ref l0, .ref l1, .ref l2, .int l3, .int l4, .int (l5 + 1), .null, .null], [], (sh, M, J))) f_36_27 rfl ?_
  exact rfl
theorem b_Placing_search_36 (sh : xSh) (M : Nat → Nat → Int32) (J : Nat → Nat → Int64) (l0 : Nat) (l1 : Nat) (l2 : Nat) (l3 : Int32) (l4 : Int32) (l5 : Int32) : ev (36, 36, [.ref l0, .ref l1, .ref l2, .int l3, .int l4, .int l5, .null, .null], [], (sh, M, J)) = (bif (decide ((sh.2.2.1 l1).1 = 1) && true) then (ev (22, 0, [.ref l1, .null, .null], [], (sh, M, J))).bind (fun r => ev (36, 40, [.ref l0, .ref l1, .ref l2, .int l3, .int l4, .int l5, .null, .null], r.1.toList ++ [], r.2)) else none) := by
  refine ev_nx (s1 := (36, 37, [.ref l0, .ref l1, .ref l2, .int l3, .int l4, .int l5, .null, .null], [.ref l1], (sh, M, J))) f_36_36 rfl ?_
  exact ev_ca (cc := (decide ((sh.2.2.1 l1).1 = 1) && true)) (s1 := (22, 0, [.ref l1, .null, .null], [], (sh, M, J))) (k := (36, 40, [.ref l0, .ref l1, .ref l2, .int l3, .int l4, .int l5, .null, .null], [])) f_36_37 rfl
theorem b_Placing_search_40 (sh : xSh) (M : Nat → Nat → Int32) (J : Nat → Nat → Int64) (l0 : Nat) (l1 : Nat) (l2 : Nat) (l3 : Int32) (l4 : Int32) (l5 : Int32) (k0 : Int32) : ev (36, 40, [.ref l0, .ref l1, .ref l2, .int l3, .int l4, .int l5, .null, .null], [.int k0], (sh, M, J)) = (ev (36, 45, [.ref l0, .ref l1, .ref l2, .int l3, .int l4, .int k0, .int 0, .null], [], (sh, M, J))) := by
  refine ev_nx (s1 := (36, 42, [.ref l0, .ref l1, .ref l2, .int l3, .int l4, .int k0, .null, .null], [], (sh, M, J))) f_36_40 rfl ?_
  refine ev_nx (s1 := (36, 43, [.ref l0, .ref l1, .ref l2, .int l3, .int l4, .int k0, .null, .null], [.int 0], (sh, M, J))) f_36_42 rfl ?_
  refine ev_nx (s1 := (36, 45, [.ref l0, .ref l1, .ref l2, .int l3, .int l4, .int k0, .int 0, .null], [], (sh, M, J))) f_36_43 rfl ?_
  exact rfl
theorem b_Placing_search_45 (sh : xSh) (M : Nat → Nat → Int32) (J : Nat → Nat → Int64) (l0 : Nat) (l1 : Nat) (l2 : Nat) (l3 : Int32) (l4 : Int32) (l5 : Int32) (l6 : Int32) : ev (36, 45, [.ref l0, .ref l1, .ref l2, .int l3, .int l4, .int l5, .int l6, .null], [], (sh, M, J)) = (bif decide (l5 ≤ l6) then some (none, (sh, M, J)) else bif decide ((sh.2.2.1 l0).1 = 4) then bif decide ((M l0 0) = 0) then some (none, (sh, M, J)) else bif (decide ((sh.2.2.1 l0).1 = 4) && true) then (ev (38, 0, [.ref l0, .ref l1, .ref l2, .null, .null, .null], [], (sh, M, J))).bind (fun r => ev (36, 65, [.ref l0, .ref l1, .ref l2, .int l3, .int l4, .int l5, .int l6, .null], r.1.toList ++ [], r.2)) else none else none) := by
  refine ev_nx (s1 := (36, 47, [.ref l0, .ref l1, .ref l2, .int l3, .int l4, .int l5, .int l6, .null], [.int l6], (sh, M, J))) f_36_45 rfl ?_
  refine ev_nx (s1 := (36, 49, [.ref l0, .ref l1, .ref l2, .int l3, .int l4, .int l5, .int l6, .null], [.int l5, .int l6], (sh, M, J))) f_36_47 rfl ?_
  refine ev_br (s1 := (36, 137, [.ref l0, .ref l1, .ref l2, .int l3, .int l4, .int l5, .int l6, .null], [], (sh, M, J))) (s2 := (36, 52, [.ref l0, .ref l1, .ref l2, .int l3, .int l4, .int l5, .int l6, .null], [], (sh, M, J))) f_36_49 rfl ?_ ?_
  · exact ev_r1 f_36_137 rfl
  · refine ev_nx (s1 := (36, 53, [.ref l0, .ref l1, .ref l2, .int l3, .int l4, .int l5, .int l6, .null], [.ref l0], (sh, M, J))) f_36_52 rfl ?_
    refine ev_gd (s1 := (36, 56, [.ref l0, .ref l1, .ref l2, .int l3, .int l4, .int l5, .int l6, .null], [.int (M l0 0)], (sh, M, J))) f_36_53 rfl ?_
    refine ev_br (s1 := (36, 137, [.ref l0, .ref l1, .ref l2, .int l3, .int l4, .int l5, .int l6, .null], [], (sh, M, J))) (s2 := (36, 59, [.ref l0, .ref l1, .ref l2, .int l3, .int l4, .int l5, .int l6, .null], [], (sh, M, J))) f_36_56 rfl ?_ ?_
    · exact ev_r1 f_36_137 rfl
    · refine ev_nx (s1 := (36, 60, [.ref l0, .ref l1, .ref l2, .int l3, .int l4, .int l5, .int l6, .null], [.ref l0], (sh, M, J))) f_36_59 rfl ?_
      refine ev_nx (s1 := (36, 61, [.ref l0, .ref l1, .ref l2, .int l3, .int l4, .int l5, .int l6, .null], [.ref l1, .ref l0], (sh, M, J))) f_36_60 rfl ?_
      refine ev_nx (s1 := (36, 62, [.ref l0, .ref l1, .ref l2, .int l3, .int l4, .int l5, .int l6, .null], [.ref l2, .ref l1, .ref l0], (sh, M, J))) f_36_61 rfl ?_
      exact ev_ca (cc := (decide ((sh.2.2.1 l0).1 = 4) && true)) (s1 := (38, 0, [.ref l0, .ref l1, .ref l2, .null, .null, .null], [], (sh, M, J))) (k := (36, 65, [.ref l0, .ref l1, .ref l2, .int l3, .int l4, .int l5, .int l6, .null], [])) f_36_62 rfl
theorem b_Placing_search_65 (sh : xSh) (M : Nat → Nat → Int32) (J : Nat → Nat → Int64) (l0 : Nat) (l1 : Nat) (l2 : Nat) (l3 : Int32) (l4 : Int32) (l5 : Int32) (l6 : Int32) (k0 : Int32) : ev (36, 65, [.ref l0, .ref l1, .ref l2, .int l3, .int l4, .int l5, .int l6, .null], [.int k0], (sh, M, J)) = (bif decide (k0 = 0) then bif decide (((-1) : Int32) = (-1)) then bif (decide ((sh.2.2.1 l0).1 = 4) && true) then (ev (40, 0, [.ref l0, .ref l1, .null, .null], [], (sh, M, J))).bind (fun r => ev (36, 131, [.ref l0, .ref l1, .ref l2, .int l3, .int l4, .int l5, .int l6, .int (-1)], r.1.toList ++ [], r.2)) else none else bif decide ((sh.2.2.1 l0).1 = 4) then bif decide ((M l0 0) = (-1)) then bif decide ((sh.2.2.1 l0).1 = 4) then bif decide ((sh.2.2.1 l0).1 = 4) then bif decide ((sh.2.2.1 l0).1 = 4) then bif (decide ((sh.2.2.1 (sh.2.2.2 l0 2)).1 = 11) && (decide ((sh.2.2.1 (sh.2.2.2 l0 1)).1 = 11) && (!decide ((0 : Int32) < 0) && (!decide ((0 : Int32) < 0) && (!decide ((5 : Int32) < 0) && (decide ((0 : Int32).toNatClampNeg + (5 : Int32).toNatClampNeg ≤ (sh.2.2.1 (sh.2.2.2 l0 2)).2) && (decide ((0 : Int32).toNatClampNeg + (5 : Int32).toNatClampNeg ≤ (sh.2.2.1 (sh.2.2.2 l0 1)).2) && true))))))) then bif (decide ((sh.2.2.1 l0).1 = 4) && true) then (ev (40, 0, [.ref l0, .ref l1, .null, .null], [], (sh, (xcp (xu M l0 0 (-1)) (sh.2.2.2 l0 2) ((0 : Int32).toNatClampNeg) (sh.2.2.2 l0 1) ((0 : Int32).toNatClampNeg) ((5 : Int32).toNatClampNeg)), J))).bind (fun r => ev (36, 131, [.ref l0, .ref l1, .ref l2, .int l3, .int l4, .int l5, .int l6, .int (-1)], r.1.toList ++ [], r.2)) else none else none else none else none else none else bif decide ((sh.2.2.1 l0).1 = 4) then bif decide ((M l0 0) ≤ ((-1) : Int32)) then bif (decide ((sh.2.2.1 l0).1 = 4) && true) then (ev (40, 0, [.ref l0, .ref l1, .null, .null], [], (sh, M, J))).bind (fun r => ev (36, 131, [.ref l0, .ref l1, .ref l2, .int l3, .int l4, .int l5, .int l6, .int (-1)], r.1.toList ++ [], r.2)) else none else bif decide ((sh.2.2.1 l0).1 = 4) then bif decide ((sh.2.2.1 l0).1 = 4) then bif decide ((sh.2.2.1 l0).1 = 4) then bif (decide ((sh.2.2.1 (sh.2.2.2 l0 2)).1 = 11) && (decide ((sh.2.2.1 (sh.2.2.2 l0 1)).1 = 11) && (!decide ((0 : Int32) < 0) && (!decide ((0 : Int32) < 0) && (!decide ((5 : Int32) < 0) && (decide ((0 : Int32).toNatClampNeg + (5 : Int32).toNatClampNeg ≤ (sh.2.2.1 (sh.2.2.2 l0 2)).2) && (decide ((0 : Int32).toNatClampNeg + (5 : Int32).toNatClampNeg ≤ (sh.2.2.1 (sh.2.2.2 l0 1)).2) && true))))))) then bif (decide ((sh.2.2.1 l0).1 = 4) && true) then (ev (40, 0, [.ref l0, .ref l1, .null, .null], [], (sh, (xcp (xu M l0 0 (-1)) (sh.2.2.2 l0 2) ((0 : Int32).toNatClampNeg) (sh.2.2.2 l0 1) ((0 : Int32).toNatClampNeg) ((5 : Int32).toNatClampNeg)), J))).bind (fun r => ev (36, 131, [.ref l0, .ref l1, .ref l2, .int l3, .int l4, .int l5, .int l6, .int (-1)], r.1.toList ++ [], r.2)) else none else none else none else none else none else none else none else bif (decide ((sh.2.2.1 l0).1 = 4) && true) then (ev (39, 0, [.ref l0, .ref l1, .ref l2, .int l3, .int l4, .null, .null, .null, .null], [], (sh, M, J))).bind (fun r => ev (36, 77, [.ref l0, .ref l1, .ref l2, .int l3, .int l4, .int l5, .int l6, .null], r.1.toList ++ [], r.2)) else none) := by
  refine ev_br (s1 := (36, 80, [.ref l0, .ref l1, .ref l2, .int l3, .int l4, .int l5, .int l6, .null], [], (sh, M, J))) (s2 := (36, 68, [.ref l0, .ref l1, .ref l2, .int l3, .int l4, .int l5, .int l6, .null], [], (sh, M, J))) f_36_65 rfl ?_ ?_
  · refine ev_nx (s1 := (36, 81, [.ref l0, .ref l1, .ref l2, .int l3, .int l4, .int l5, .int l6, .null], [.int (-1)], (sh, M, J))) f_36_80 rfl ?_
    refine ev_nx (s1 := (36, 83, [.ref l0, .ref l1, .ref l2, .int l3, .int l4, .int l5, .int l6, .int (-1)], [], (sh, M, J))) f_36_81 rfl ?_
    refine ev_nx (s1 := (36, 85, [.ref l0, .ref l1, .ref l2, .int l3, .int l4, .int l5, .int l6, .int (-1)], [.int (-1)], (sh, M, J))) f_36_83 rfl ?_
    refine ev_nx (s1 := (36, 86, [.ref l0, .ref l1, .ref l2, .int l3, .int l4, .int l5, .int l6, .int (-1)], [.int (-1), .int (-1)], (sh, M, J))) f_36_85 rfl ?_
    refine ev_br (s1 := (36, 126, [.ref l0, .ref l1, .ref l2, .int l3, .int l4, .int l5, .int l6, .int (-1)], [], (sh, M, J))) (s2 := (36, 89, [.ref l0, .ref l1, .ref l2, .int l3, .int l4, .int l5, .int l6, .int (-1)], [], (sh, M, J))) f_36_86 rfl ?_ ?_
    · refine ev_nx (s1 := (36, 127, [.ref l0, .ref l1, .ref l2, .int l3, .int l4, .int l5, .int l6, .int (-1)], [.ref l0], (sh, M, J))) f_36_126 rfl ?_
      refine ev_nx (s1 := (36, 128, [.ref l0, .ref l1, .ref l2, .int l3, .int l4, .int l5, .int l6, .int (-1)], [.ref l1, .ref l0], (sh, M, J))) f_36_127 rfl ?_
      exact ev_ca (cc := (decide ((sh.2.2.1 l0).1 = 4) && true)) (s1 := (40, 0, [.ref l0, .ref l1, .null, .null], [], (sh, M, J))) (k := (36, 131, [.ref l0, .ref l1, .ref l2, .int l3, .int l4, .int l5, .int l6, .int (-1)], [])) f_36_128 rfl
    · refine ev_nx (s1 := (36, 90, [.ref l0, .ref l1, .ref l2, .int l3, .int l4, .int l5, .int l6, .int (-1)], [.ref l0], (sh, M, J))) f_36_89 rfl ?_
      refine ev_gd (s1 := (36, 93, [.ref l0, .ref l1, .ref l2, .int l3, .int l4, .int l5, .int l6, .int (-1)], [.int (M l0 0)], (sh, M, J))) f_36_90 rfl ?_
      refine ev_nx (s1 := (36, 94, [.ref l0, .ref l1, .ref l2, .int l3, .int l4, .int l5, .int l6, .int (-1)], [.int (-1), .int (M l0 0)], (sh, M, J))) f_36_93 rfl ?_
      refine ev_br (s1 := (36, 106, [.ref l0, .ref l1, .ref l2, .int l3, .int l4, .int l5, .int l6, .int (-1)], [], (sh, M, J))) (s2 := (36, 97, [.ref l0, .ref l1, .ref l2, .int l3, .int l4, .int l5, .int l6, .int (-1)], [], (sh, M, J))) f_36_94 rfl ?_ ?_
      · refine ev_nx (s1 := (36, 107, [.ref l0, .ref l1, .ref l2, .int l3, .int l4, .int l5, .int l6, .int (-1)], [.ref l0], (sh, M, J))) f_36_106 rfl ?_
        refine ev_nx (s1 := (36, 109, [.ref l0, .ref l1, .ref l2, .int l3, .int l4, .int l5, .int l6, .int (-1)], [.int (-1), .ref l0], (sh, M, J))) f_36_107 rfl ?_
        refine ev_gd (s1 := (36, 112, [.ref l0, .ref l1, .ref l2, .int l3, .int l4, .int l5, .int l6, .int (-1)], [], (sh, (xu M l0 0 (-1)), J))) f_36_109 rfl ?_
        refine ev_nx (s1 := (36, 113, [.ref l0, .ref l1, .ref l2, .int l3, .int l4, .int l5, .int l6, .int (-1)], [.ref l0], (sh, (xu M l0 0 (-1)), J))) f_36_112 rfl ?_
        refine ev_gd (s1 := (36, 116, [.ref l0, .ref l1, .ref l2, .int l3, .int l4, .int l5, .int l6, .int (-1)], [.ref (sh.2.2.2 l0 2)], (sh, (xu M l0 0 (-1)), J))) f_36_113 rfl ?_
        refine ev_nx (s1 := (36, 117, [.ref l0, .ref l1, .ref l2, .int l3, .int l4, .int l5, .int l6, .int (-1)], [.int 0, .ref (sh.2.2.2 l0 2)], (sh, (xu M l0 0 (-1)), J))) f_36_116 rfl ?_
        refine ev_nx (s1 := (36, 118, [.ref l0, .ref l1, .ref l2, .int l3, .int l4, .int l5, .int l6, .int (-1)], [.ref l0, .int 0, .ref (sh.2.2.2 l0 2)], (sh, (xu M l0 0 (-1)), J))) f_36_117 rfl ?_
        refine ev_gd (s1 := (36, 121, [.ref l0, .ref l1, .ref l2, .int l3, .int l4, .int l5, .int l6, .int (-1)], [.ref (sh.2.2.2 l0 1), .int 0, .ref (sh.2.2.2 l0 2)], (sh, (xu M l0 0 (-1)), J))) f_36_118 rfl ?_
        refine ev_nx (s1 := (36, 122, [.ref l0, .ref l1, .ref l2, .int l3, .int l4, .int l5, .int l6, .int (-1)], [.int 0, .ref (sh.2.2.2 l0 1), .int 0, .ref (sh.2.2.2 l0 2)], (sh, (xu M l0 0 (-1)), J))) f_36_121 rfl ?_
        refine ev_nx (s1 := (36, 123, [.ref l0, .ref l1, .ref l2, .int l3, .int l4, .int l5, .int l6, .int (-1)], [.int 5, .int 0, .ref (sh.2.2.2 l0 1), .int 0, .ref (sh.2.2.2 l0 2)], (sh, (xu M l0 0 (-1)), J))) f_36_122 rfl ?_
        refine ev_gd (s1 := (36, 126, [.ref l0, .ref l1, .ref l2, .int l3, .int l4, .int l5, .int l6, .int (-1)], [], (sh, (xcp (xu M l0 0 (-1)) (sh.2.2.2 l0 2) ((0 : Int32).toNatClampNeg) (sh.2.2.2 l0 1) ((0 : Int32).toNatClampNeg) ((5 : Int32).toNatClampNeg)), J))) f_36_123 rfl ?_
        refine ev_nx (s1 := (36, 127, [.ref l0, .ref l1, .ref l2, .int l3, .int l4, .int l5, .int l6, .int (-1)], [.ref l0], (sh, (xcp (xu M l0 0 (-1)) (sh.2.2.2 l0 2) ((0 : Int32).toNatClampNeg) (sh.2.2.2 l0 1) ((0 : Int32).toNatClampNeg) ((5 : Int32).toNatClampNeg)), J))) f_36_126 rfl ?_
        refine ev_nx (s1 := (36, 128, [.ref l0, .ref l1, .ref l2, .int l3, .int l4, .int l5, .int l6, .int (-1)], [.ref l1, .ref l0], (sh, (xcp (xu M l0 0 (-1)) (sh.2.2.2 l0 2) ((0 : Int32).toNatClampNeg) (sh.2.2.2 l0 1) ((0 : Int32).toNatClampNeg) ((5 : Int32).toNatClampNeg)), J))) f_36_127 rfl ?_
        exact ev_ca (cc := (decide ((sh.2.2.1 l0).1 = 4) && true)) (s1 := (40, 0, [.ref l0, .ref l1, .null, .null], [], (sh, (xcp (xu M l0 0 (-1)) (sh.2.2.2 l0 2) ((0 : Int32).toNatClampNeg) (sh.2.2.2 l0 1) ((0 : Int32).toNatClampNeg) ((5 : Int32).toNatClampNeg)), J))) (k := (36, 131, [.ref l0, .ref l1, .ref l2, .int l3, .int l4, .int l5, .int l6, .int (-1)], [])) f_36_128 rfl
      · refine ev_nx (s1 := (36, 99, [.ref l0, .ref l1, .ref l2, .int l3, .int l4, .int l5, .int l6, .int (-1)], [.int (-1)], (sh, M, J))) f_36_97 rfl ?_
        refine ev_nx (s1 := (36, 100, [.ref l0, .ref l1, .ref l2, .int l3, .int l4, .int l5, .int l6, .int (-1)], [.ref l0, .int (-1)], (sh, M, J))) f_36_99 rfl ?_
        refine ev_gd (s1 := (36, 103, [.ref l0, .ref l1, .ref l2, .int l3, .int l4, .int l5, .int l6, .int (-1)], [.int (M l0 0), .int (-1)], (sh, M, J))) f_36_100 rfl ?_
        refine ev_br (s1 := (36, 126, [.ref l0, .ref l1, .ref l2, .int l3, .int l4, .int l5, .int l6, .int (-1)], [], (sh, M, J))) (s2 := (36, 106, [.ref l0, .ref l1, .ref l2, .int l3, .int l4, .int l5, .int l6, .int (-1)], [], (sh, M, J))) f_36_103 rfl ?_ ?_
        · refine ev_nx (s1 := (36, 127, [.ref l0, .ref l1, .ref l2, .int l3, .int l4, .int l5, .int l6, .int (-1)], [.ref l0], (sh, M, J))) f_36_126 rfl ?_
          refine ev_nx (s1 := (36, 128, [.ref l0, .ref l1, .ref l2, .int l3, .int l4, .int l5, .int l6, .int (-1)], [.ref l1, .ref l0], (sh, M, J))) f_36_127 rfl ?_
          exact ev_ca (cc := (decide ((sh.2.2.1 l0).1 = 4) && true)) (s1 := (40, 0, [.ref l0, .ref l1, .null, .null], [], (sh, M, J))) (k := (36, 131, [.ref l0, .ref l1, .ref l2, .int l3, .int l4, .int l5, .int l6, .int (-1)], [])) f_36_128 rfl
        · refine ev_nx (s1 := (36, 107, [.ref l0, .ref l1, .ref l2, .int l3, .int l4, .int l5, .int l6, .int (-1)], [.ref l0], (sh, M, J))) f_36_106 rfl ?_
          refine ev_nx (s1 := (36, 109, [.ref l0, .ref l1, .ref l2, .int l3, .int l4, .int l5, .int l6, .int (-1)], [.int (-1), .ref l0], (sh, M, J))) f_36_107 rfl ?_
          refine ev_gd (s1 := (36, 112, [.ref l0, .ref l1, .ref l2, .int l3, .int l4, .int l5, .int l6, .int (-1)], [], (sh, (xu M l0 0 (-1)), J))) f_36_109 rfl ?_
          refine ev_nx (s1 := (36, 113, [.ref l0, .ref l1, .ref l2, .int l3, .int l4, .int l5, .int l6, .int (-1)], [.ref l0], (sh, (xu M l0 0 (-1)), J))) f_36_112 rfl ?_
          refine ev_gd (s1 := (36, 116, [.ref l0, .ref l1, .ref l2, .int l3, .int l4, .int l5, .int l6, .int (-1)], [.ref (sh.2.2.2 l0 2)], (sh, (xu M l0 0 (-1)), J))) f_36_113 rfl ?_
          refine ev_nx (s1 := (36, 117, [.ref l0, .ref l1, .ref l2, .int l3, .int l4, .int l5, .int l6, .int (-1)], [.int 0, .ref (sh.2.2.2 l0 2)], (sh, (xu M l0 0 (-1)), J))) f_36_116 rfl ?_
          refine ev_nx (s1 := (36, 118, [.ref l0, .ref l1, .ref l2, .int l3, .int l4, .int l5, .int l6, .int (-1)], [.ref l0, .int 0, .ref (sh.2.2.2 l0 2)], (sh, (xu M l0 0 (-1)), J))) f_36_117 rfl ?_
          refine ev_gd (s1 := (36, 121, [.ref l0, .ref l1, .ref l2, .int l3, .int l4, .int l5, .int l6, .int (-1)], [.ref (sh.2.2.2 l0 1), .int 0, .ref (sh.2.2.2 l0 2)], (sh, (xu M l0 0 (-1)), J))) f_36_118 rfl ?_
          refine ev_nx (s1 := (36, 122, [.ref l0, .ref l1, .ref l2, .int l3, .int l4, .int l5, .int l6, .int (-1)], [.int 0, .ref (sh.2.2.2 l0 1), .int 0, .ref (sh.2.2.2 l0 2)], (sh, (xu M l0 0 (-1)), J))) f_36_121 rfl ?_
          refine ev_nx (s1 := (36, 123, [.ref l0, .ref l1, .ref l2, .int l3, .int l4, .int l5, .int l6, .int (-1)], [.int 5, .int 0, .ref (sh.2.2.2 l0 1), .int 0, .ref (sh.2.2.2 l0 2)], (sh, (xu M l0 0 (-1)), J))) f_36_122 rfl ?_
          refine ev_gd (s1 := (36, 126, [.ref l0, .ref l1, .ref l2, .int l3, .int l4, .int l5, .int l6, .int (-1)], [], (sh, (xcp (xu M l0 0 (-1)) (sh.2.2.2 l0 2) ((0 : Int32).toNatClampNeg) (sh.2.2.2 l0 1) ((0 : Int32).toNatClampNeg) ((5 : Int32).toNatClampNeg)), J))) f_36_123 rfl ?_
          refine ev_nx (s1 := (36, 127, [.ref l0, .ref l1, .ref l2, .int l3, .int l4, .int l5, .int l6, .int (-1)], [.ref l0], (sh, (xcp (xu M l0 0 (-1)) (sh.2.2.2 l0 2) ((0 : Int32).toNatClampNeg) (sh.2.2.2 l0 1) ((0 : Int32).toNatClampNeg) ((5 : Int32).toNatClampNeg)), J))) f_36_126 rfl ?_
          refine ev_nx (s1 := (36, 128, [.ref l0, .ref l1, .ref l2, .int l3, .int l4, .int l5, .int l6, .int (-1)], [.ref l1, .ref l0], (sh, (xcp (xu M l0 0 (-1)) (sh.2.2.2 l0 2) ((0 : Int32).toNatClampNeg) (sh.2.2.2 l0 1) ((0 : Int32).toNatClampNeg) ((5 : Int32).toNatClampNeg)), J))) f_36_127 rfl ?_
          exact ev_ca (cc := (decide ((sh.2.2.1 l0).1 = 4) && true)) (s1 := (40, 0, [.ref l0, .ref l1, .null, .null], [], (sh, (xcp (xu M l0 0 (-1)) (sh.2.2.2 l0 2) ((0 : Int32).toNatClampNeg) (sh.2.2.2 l0 1) ((0 : Int32).toNatClampNeg) ((5 : Int32).toNatClampNeg)), J))) (k := (36, 131, [.ref l0, .ref l1, .ref l2, .int l3, .int l4, .int l5, .int l6, .int (-1)], [])) f_36_128 rfl
  · refine ev_nx (s1 := (36, 69, [.ref l0, .ref l1, .ref l2, .int l3, .int l4, .int l5, .int l6, .null], [.ref l0], (sh, M, J))) f_36_68 rfl ?_
    refine ev_nx (s1 := (36, 70, [.ref l0, .ref l1, .ref l2, .int l3, .int l4, .int l5, .int l6, .null], [.ref l1, .ref l0], (sh, M, J))) f_36_69 rfl ?_
    refine ev_nx (s1 := (36, 71, [.ref l0, .ref l1, .ref l2, .int l3, .int l4, .int l5, .int l6, .null], [.ref l2, .ref l1, .ref l0], (sh, M, J))) f_36_70 rfl ?_
    refine ev_nx (s1 := (36, 72, [.ref l0, .ref l1, .ref l2, .int l3, .int l4, .int l5, .int l6, .null], [.int l3, .ref l2, .ref l1, .ref l0], (sh, M, J))) f_36_71 rfl ?_
    refine ev_nx (s1 := (36, 74, [.ref l0, .ref l1, .ref l2, .int l3, .int l4, .int l5, .int l6, .null], [.int l4, .int l3, .ref l2, .ref l1, .ref l0], (sh, M, J))) f_36_72 rfl ?_
    exact ev_ca (cc := (decide ((sh.2.2.1 l0).1 = 4) && true)) (s1 := (39, 0, [.ref l0, .ref l1, .ref l2, .int l3, .int l4, .null, .null, .null, .null], [], (sh, M, J))) (k := (36, 77, [.ref l0, .ref l1, .ref l2, .int l3, .int l4, .int l5, .int l6, .null], [])) f_36_74 rfl
theorem b_Placing_search_77 (sh : xSh) (M : Nat → Nat → Int32) (J : Nat → Nat → Int64) (l0 : Nat) (l1 : Nat) (l2 : Nat) (l3 : Int32) (l4 : Int32) (l5 : Int32) (l6 : Int32) (k0 : Int32) : ev (36, 77, [.ref l0, .ref l1, .ref l2, .int l3, .int l4, .int l5, .int l6, .null], [.int k0], (sh, M, J)) = (bif decide (k0 = (-1)) then bif (decide ((sh.2.2.1 l0).1 = 4) && true) then (ev (40, 0, [.ref l0, .ref l1, .null, .null], [], (sh, M, J))).bind (fun r => ev (36, 131, [.ref l0, .ref l1, .ref l2, .int l3, .int l4, .int l5, .int l6, .int k0], r.1.toList ++ [], r.2)) else none else bif decide ((sh.2.2.1 l0).1 = 4) then bif decide ((M l0 0) = (-1)) then bif decide ((sh.2.2.1 l0).1 = 4) then bif decide ((sh.2.2.1 l0).1 = 4) then bif decide ((sh.2.2.1 l0).1 = 4) then bif (decide ((sh.2.2.1 (sh.2.2.2 l0 2)).1 = 11) && (decide ((sh.2.2.1 (sh.2.2.2 l0 1)).1 = 11) && (!decide ((0 : Int32) < 0) && (!decide ((0 : Int32) < 0) && (!decide ((5 : Int32) < 0) && (decide ((0 : Int32).toNatClampNeg + (5 : Int32).toNatClampNeg ≤ (sh.2.2.1 (sh.2.2.2 l0 2)).2) && (decide ((0 : Int32).toNatClampNeg + (5 : Int32).toNatClampNeg ≤ (sh.2.2.1 (sh.2.2.2 l0 1)).2) && true))))))) then bif (decide ((sh.2.2.1 l0).1 = 4) && true) then (ev (40, 0, [.ref l0, .ref l1, .null, .null], [], (sh, (xcp (xu M l0 0 k0) (sh.2.2.2 l0 2) ((0 : Int32).toNatClampNeg) (sh.2.2.2 l0 1) ((0 : Int32).toNatClampNeg) ((5 : Int32).toNatClampNeg)), J))).bind (fun r => ev (36, 131, [.ref l0, .ref l1, .ref l2, .int l3, .int l4, .int l5, .int l6, .int k0], r.1.toList ++ [], r.2)) else none else none else none else none else none else bif decide ((sh.2.2.1 l0).1 = 4) then bif decide ((M l0 0) ≤ k0) then bif (decide ((sh.2.2.1 l0).1 = 4) && true) then (ev (40, 0, [.ref l0, .ref l1, .null, .null], [], (sh, M, J))).bind (fun r => ev (36, 131, [.ref l0, .ref l1, .ref l2, .int l3, .int l4, .int l5, .int l6, .int k0], r.1.toList ++ [], r.2)) else none else bif decide ((sh.2.2.1 l0).1 = 4) then bif decide ((sh.2.2.1 l0).1 = 4) then bif decide ((sh.2.2.1 l0).1 = 4) then bif (decide ((sh.2.2.1 (sh.2.2.2 l0 2)).1 = 11) && (decide ((sh.2.2.1 (sh.2.2.2 l0 1)).1 = 11) && (!decide ((0 : Int32) < 0) && (!decide ((0 : Int32) < 0) && (!decide ((5 : Int32) < 0) && (decide ((0 : Int32).toNatClampNeg + (5 : Int32).toNatClampNeg ≤ (sh.2.2.1 (sh.2.2.2 l0 2)).2) && (decide ((0 : Int32).toNatClampNeg + (5 : Int32).toNatClampNeg ≤ (sh.2.2.1 (sh.2.2.2 l0 1)).2) && true))))))) then bif (decide ((sh.2.2.1 l0).1 = 4) && true) then (ev (40, 0, [.ref l0, .ref l1, .null, .null], [], (sh, (xcp (xu M l0 0 k0) (sh.2.2.2 l0 2) ((0 : Int32).toNatClampNeg) (sh.2.2.2 l0 1) ((0 : Int32).toNatClampNeg) ((5 : Int32).toNatClampNeg)), J))).bind (fun r => ev (36, 131, [.ref l0, .ref l1, .ref l2, .int l3, .int l4, .int l5, .int l6, .int k0], r.1.toList ++ [], r.2)) else none else none else none else none else none else none else none) := by
  refine ev_nx (s1 := (36, 81, [.ref l0, .ref l1, .ref l2, .int l3, .int l4, .int l5, .int l6, .null], [.int k0], (sh, M, J))) f_36_77 rfl ?_
  refine ev_nx (s1 := (36, 83, [.ref l0, .ref l1, .ref l2, .int l3, .int l4, .int l5, .int l6, .int k0], [], (sh, M, J))) f_36_81 rfl ?_
  refine ev_nx (s1 := (36, 85, [.ref l0, .ref l1, .ref l2, .int l3, .int l4, .int l5, .int l6, .int k0], [.int k0], (sh, M, J))) f_36_83 rfl ?_
  refine ev_nx (s1 := (36, 86, [.ref l0, .ref l1, .ref l2, .int l3, .int l4, .int l5, .int l6, .int k0], [.int (-1), .int k0], (sh, M, J))) f_36_85 rfl ?_
  refine ev_br (s1 := (36, 126, [.ref l0, .ref l1, .ref l2, .int l3, .int l4, .int l5, .int l6, .int k0], [], (sh, M, J))) (s2 := (36, 89, [.ref l0, .ref l1, .ref l2, .int l3, .int l4, .int l5, .int l6, .int k0], [], (sh, M, J))) f_36_86 rfl ?_ ?_
  · refine ev_nx (s1 := (36, 127, [.ref l0, .ref l1, .ref l2, .int l3, .int l4, .int l5, .int l6, .int k0], [.ref l0], (sh, M, J))) f_36_126 rfl ?_
    refine ev_nx (s1 := (36, 128, [.ref l0, .ref l1, .ref l2, .int l3, .int l4, .int l5, .int l6, .int k0], [.ref l1, .ref l0], (sh, M, J))) f_36_127 rfl ?_
    exact ev_ca (cc := (decide ((sh.2.2.1 l0).1 = 4) && true)) (s1 := (40, 0, [.ref l0, .ref l1, .null, .null], [], (sh, M, J))) (k := (36, 131, [.ref l0, .ref l1, .ref l2, .int l3, .int l4, .int l5, .int l6, .int k0], [])) f_36_128 rfl
  · refine ev_nx (s1 := (36, 90, [.ref l0, .ref l1, .ref l2, .int l3, .int l4, .int l5, .int l6, .int k0], [.ref l0], (sh, M, J))) f_36_89 rfl ?_
    refine ev_gd (s1 := (36, 93, [.ref l0, .ref l1, .ref l2, .int l3, .int l4, .int l5, .int l6, .int k0], [.int (M l0 0)], (sh, M, J))) f_36_90 rfl ?_
    refine ev_nx (s1 := (36, 94, [.ref l0, .ref l1, .ref l2, .int l3, .int l4, .int l5, .int l6, .int k0], [.int (-1), .int (M l0 0)], (sh, M, J))) f_36_93 rfl ?_
    refine ev_br (s1 := (36, 106, [.ref l0, .ref l1, .ref l2, .int l3, .int l4, .int l5, .int l6, .int k0], [], (sh, M, J))) (s2 := (36, 97, [.ref l0, .ref l1, .ref l2, .int l3, .int l4, .int l5, .int l6, .int k0], [], (sh, M, J))) f_36_94 rfl ?_ ?_
    · refine ev_nx (s1 := (36, 107, [.ref l0, .ref l1, .ref l2, .int l3, .int l4, .int l5, .int l6, .int k0], [.ref l0], (sh, M, J))) f_36_106 rfl ?_
      refine ev_nx (s1 := (36, 109, [.ref l0, .ref l1, .ref l2, .int l3, .int l4, .int l5, .int l6, .int k0], [.int k0, .ref l0], (sh, M, J))) f_36_107 rfl ?_
      refine ev_gd (s1 := (36, 112, [.ref l0, .ref l1, .ref l2, .int l3, .int l4, .int l5, .int l6, .int k0], [], (sh, (xu M l0 0 k0), J))) f_36_109 rfl ?_
      refine ev_nx (s1 := (36, 113, [.ref l0, .ref l1, .ref l2, .int l3, .int l4, .int l5, .int l6, .int k0], [.ref l0], (sh, (xu M l0 0 k0), J))) f_36_112 rfl ?_
      refine ev_gd (s1 := (36, 116, [.ref l0, .ref l1, .ref l2, .int l3, .int l4, .int l5, .int l6, .int k0], [.ref (sh.2.2.2 l0 2)], (sh, (xu M l0 0 k0), J))) f_36_113 rfl ?_
      refine ev_nx (s1 := (36, 117, [.ref l0, .ref l1, .ref l2, .int l3, .int l4, .int l5, .int l6, .int k0], [.int 0, .ref (sh.2.2.2 l0 2)], (sh, (xu M l0 0 k0), J))) f_36_116 rfl ?_
      refine ev_nx (s1 := (36, 118, [.ref l0, .ref l1, .ref l2, .int l3, .int l4, .int l5, .int l6, .int k0], [.ref l0, .int 0, .ref (sh.2.2.2 l0 2)], (sh, (xu M l0 0 k0), J))) f_36_117 rfl ?_
      refine ev_gd (s1 := (36, 121, [.ref l0, .ref l1, .ref l2, .int l3, .int l4, .int l5, .int l6, .int k0], [.ref (sh.2.2.2 l0 1), .int 0, .ref (sh.2.2.2 l0 2)], (sh, (xu M l0 0 k0), J))) f_36_118 rfl ?_
      refine ev_nx (s1 := (36, 122, [.ref l0, .ref l1, .ref l2, .int l3, .int l4, .int l5, .int l6, .int k0], [.int 0, .ref (sh.2.2.2 l0 1), .int 0, .ref (sh.2.2.2 l0 2)], (sh, (xu M l0 0 k0), J))) f_36_121 rfl ?_
      refine ev_nx (s1 := (36, 123, [.ref l0, .ref l1, .ref l2, .int l3, .int l4, .int l5, .int l6, .int k0], [.int 5, .int 0, .ref (sh.2.2.2 l0 1), .int 0, .ref (sh.2.2.2 l0 2)], (sh, (xu M l0 0 k0), J))) f_36_122 rfl ?_
      refine ev_gd (s1 := (36, 126, [.ref l0, .ref l1, .ref l2, .int l3, .int l4, .int l5, .int l6, .int k0], [], (sh, (xcp (xu M l0 0 k0) (sh.2.2.2 l0 2) ((0 : Int32).toNatClampNeg) (sh.2.2.2 l0 1) ((0 : Int32).toNatClampNeg) ((5 : Int32).toNatClampNeg)), J))) f_36_123 rfl ?_
      refine ev_nx (s1 := (36, 127, [.ref l0, .ref l1, .ref l2, .int l3, .int l4, .int l5, .int l6, .int k0], [.ref l0], (sh, (xcp (xu M l0 0 k0) (sh.2.2.2 l0 2) ((0 : Int32).toNatClampNeg) (sh.2.2.2 l0 1) ((0 : Int32).toNatClampNeg) ((5 : Int32).toNatClampNeg)), J))) f_36_126 rfl ?_
      refine ev_nx (s1 := (36, 128, [.ref l0, .ref l1, .ref l2, .int l3, .int l4, .int l5, .int l6, .int k0], [.ref l1, .ref l0], (sh, (xcp (xu M l0 0 k0) (sh.2.2.2 l0 2) ((0 : Int32).toNatClampNeg) (sh.2.2.2 l0 1) ((0 : Int32).toNatClampNeg) ((5 : Int32).toNatClampNeg)), J))) f_36_127 rfl ?_
      exact ev_ca (cc := (decide ((sh.2.2.1 l0).1 = 4) && true)) (s1 := (40, 0, [.ref l0, .ref l1, .null, .null], [], (sh, (xcp (xu M l0 0 k0) (sh.2.2.2 l0 2) ((0 : Int32).toNatClampNeg) (sh.2.2.2 l0 1) ((0 : Int32).toNatClampNeg) ((5 : Int32).toNatClampNeg)), J))) (k := (36, 131, [.ref l0, .ref l1, .ref l2, .int l3, .int l4, .int l5, .int l6, .int k0], [])) f_36_128 rfl
    · refine ev_nx (s1 := (36, 99, [.ref l0, .ref l1, .ref l2, .int l3, .int l4, .int l5, .int l6, .int k0], [.int k0], (sh, M, J))) f_36_97 rfl ?_
      refine ev_nx (s1 := (36, 100, [.ref l0, .ref l1, .ref l2, .int l3, .int l4, .int l5, .int l6, .int k0], [.ref l0, .int k0], (sh, M, J))) f_36_99 rfl ?_
      refine ev_gd (s1 := (36, 103, [.ref l0, .ref l1, .ref l2, .int l3, .int l4, .int l5, .int l6, .int k0], [.int (M l0 0), .int k0], (sh, M, J))) f_36_100 rfl ?_
      refine ev_br (s1 := (36, 126, [.ref l0, .ref l1, .ref l2, .int l3, .int l4, .int l5, .int l6, .int k0], [], (sh, M, J))) (s2 := (36, 106, [.ref l0, .ref l1, .ref l2, .int l3, .int l4, .int l5, .int l6, .int k0], [], (sh, M, J))) f_36_103 rfl ?_ ?_
      · refine ev_nx (s1 := (36, 127, [.ref l0, .ref l1, .ref l2, .int l3, .int l4, .int l5, .int l6, .int k0], [.ref l0], (sh, M, J))) f_36_126 rfl ?_
        refine ev_nx (s1 := (36, 128, [.ref l0, .ref l1, .ref l2, .int l3, .int l4, .int l5, .int l6, .int k0], [.ref l1, .ref l0], (sh, M, J))) f_36_127 rfl ?_
        exact ev_ca (cc := (decide ((sh.2.2.1 l0).1 = 4) && true)) (s1 := (40, 0, [.ref l0, .ref l1, .null, .null], [], (sh, M, J))) (k := (36, 131, [.ref l0, .ref l1, .ref l2, .int l3, .int l4, .int l5, .int l6, .int k0], [])) f_36_128 rfl
      · refine ev_nx (s1 := (36, 107, [.ref l0, .ref l1, .ref l2, .int l3, .int l4, .int l5, .int l6, .int k0], [.ref l0], (sh, M, J))) f_36_106 rfl ?_
        refine ev_nx (s1 := (36, 109, [.ref l0, .ref l1, .ref l2, .int l3, .int l4, .int l5, .int l6, .int k0], [.int k0, .ref l0], (sh, M, J))) f_36_107 rfl ?_
        refine ev_gd (s1 := (36, 112, [.ref l0, .ref l1, .ref l2, .int l3, .int l4, .int l5, .int l6, .int k0], [], (sh, (xu M l0 0 k0), J))) f_36_109 rfl ?_
        refine ev_nx (s1 := (36, 113, [.ref l0, .ref l1, .ref l2, .int l3, .int l4, .int l5, .int l6, .int k0], [.ref l0], (sh, (xu M l0 0 k0), J))) f_36_112 rfl ?_
        refine ev_gd (s1 := (36, 116, [.ref l0, .ref l1, .ref l2, .int l3, .int l4, .int l5, .int l6, .int k0], [.ref (sh.2.2.2 l0 2)], (sh, (xu M l0 0 k0), J))) f_36_113 rfl ?_
        refine ev_nx (s1 := (36, 117, [.ref l0, .ref l1, .ref l2, .int l3, .int l4, .int l5, .int l6, .int k0], [.int 0, .ref (sh.2.2.2 l0 2)], (sh, (xu M l0 0 k0), J))) f_36_116 rfl ?_
        refine ev_nx (s1 := (36, 118, [.ref l0, .ref l1, .ref l2, .int l3, .int l4, .int l5, .int l6, .int k0], [.ref l0, .int 0, .ref (sh.2.2.2 l0 2)], (sh, (xu M l0 0 k0), J))) f_36_117 rfl ?_
        refine ev_gd (s1 := (36, 121, [.ref l0, .ref l1, .ref l2, .int l3, .int l4, .int l5, .int l6, .int k0], [.ref (sh.2.2.2 l0 1), .int 0, .ref (sh.2.2.2 l0 2)], (sh, (xu M l0 0 k0), J))) f_36_118 rfl ?_
        refine ev_nx (s1 := (36, 122, [.ref l0, .ref l1, .ref l2, .int l3, .int l4, .int l5, .int l6, .int k0], [.int 0, .ref (sh.2.2.2 l0 1), .int 0, .ref (sh.2.2.2 l0 2)], (sh, (xu M l0 0 k0), J))) f_36_121 rfl ?_
        refine ev_nx (s1 := (36, 123, [.ref l0, .ref l1, .ref l2, .int l3, .int l4, .int l5, .int l6, .int k0], [.int 5, .int 0, .ref (sh.2.2.2 l0 1), .int 0, .ref (sh.2.2.2 l0 2)], (sh, (xu M l0 0 k0), J))) f_36_122 rfl ?_
        refine ev_gd (s1 := (36, 126, [.ref l0, .ref l1, .ref l2, .int l3, .int l4, .int l5, .int l6, .int k0], [], (sh, (xcp (xu M l0 0 k0) (sh.2.2.2 l0 2) ((0 : Int32).toNatClampNeg) (sh.2.2.2 l0 1) ((0 : Int32).toNatClampNeg) ((5 : Int32).toNatClampNeg)), J))) f_36_123 rfl ?_
        refine ev_nx (s1 := (36, 127, [.ref l0, .ref l1, .ref l2, .int l3, .int l4, .int l5, .int l6, .int k0], [.ref l0], (sh, (xcp (xu M l0 0 k0) (sh.2.2.2 l0 2) ((0 : Int32).toNatClampNeg) (sh.2.2.2 l0 1) ((0 : Int32).toNatClampNeg) ((5 : Int32).toNatClampNeg)), J))) f_36_126 rfl ?_
        refine ev_nx (s1 := (36, 128, [.ref l0, .ref l1, .ref l2, .int l3, .int l4, .int l5, .int l6, .int k0], [.ref l1, .ref l0], (sh, (xcp (xu M l0 0 k0) (sh.2.2.2 l0 2) ((0 : Int32).toNatClampNeg) (sh.2.2.2 l0 1) ((0 : Int32).toNatClampNeg) ((5 : Int32).toNatClampNeg)), J))) f_36_127 rfl ?_
        exact ev_ca (cc := (decide ((sh.2.2.1 l0).1 = 4) && true)) (s1 := (40, 0, [.ref l0, .ref l1, .null, .null], [], (sh, (xcp (xu M l0 0 k0) (sh.2.2.2 l0 2) ((0 : Int32).toNatClampNeg) (sh.2.2.2 l0 1) ((0 : Int32).toNatClampNeg) ((5 : Int32).toNatClampNeg)), J))) (k := (36, 131, [.ref l0, .ref l1, .ref l2, .int l3, .int l4, .int l5, .int l6, .int k0], [])) f_36_128 rfl
theorem b_Placing_search_131 (sh : xSh) (M : Nat → Nat → Int32) (J : Nat → Nat → Int64) (l0 : Nat) (l1 : Nat) (l2 : Nat) (l3 : Int32) (l4 : Int32) (l5 : Int32) (l6 : Int32) (l7 : Int32) : ev (36, 131, [.ref l0, .ref l1, .ref l2, .int l3, .int l4, .int l5, .int l6, .int l7], [], (sh, M, J)) = (ev (36, 45, [.ref l0, .ref l1, .ref l2, .int l3, .int l4, .int l5, .int (l6 + 1), .null], [], (sh, M, J))) := by
  refine ev_nx (s1 := (36, 134, [.ref l0, .ref l1, .ref l2, .int l3, .int l4, .int l5, .int (l6 + 1), .int l7], [], (sh, M, J))) f_36_131 rfl ?_
  refine ev_nx (s1 := (36, 45, [.ref l0, .ref l1, .ref l2, .int l3, .int l4, .int l5, .int (l6 + 1), .int l7], [], (sh, M, J))) f_36_134 rfl ?_
  exact (ev_kill hd_36_45).symm
theorem f_37_0 : xfind (xnth xTs 37) 0 = some (0, .iconst 0, 1, (0, 0, 0, 0), (.int 0), [], 0, 0, []) := rfl
theorem f_37_1 : xfind (xnth xTs 37) 1 = some (1, .istore_n 3, 1, (0, 0, 0, 0), .null, [], 0, 0, []) := rfl
theorem f_37_2 : xfind (xnth xTs 37) 2 = some (2, .iload_n 3, 1, (0, 0, 0, 0), .null, [], 0, 1, [4, 5]) := rfl
theorem f_37_3 : xfind (xnth xTs 37) 3 = some (3, .aload_n 1, 1, (0, 0, 0, 0), .null, [], 0, 0, []) := rfl
theorem f_37_4 : xfind (xnth xTs 37) 4 = some (4, .getfield 64, 3, (1, 0, 0, 0), .null, [], 98, 0, []) := rfl
theorem f_37_7 : xfind (xnth xTs 37) 7 = some (7, .if_icmp .ge 67, 3, (0, 0, 0, 0), .null, [], 0, 0, []) := rfl
theorem f_37_10 : xfind (xnth xTs 37) 10 = some (10, .iconst 0, 1, (0, 0, 0, 0), (.int 0), [], 0, 0, []) := rfl
theorem f_37_11 : xfind (xnth xTs 37) 11 = some (11, .istore 4, 2, (0, 0, 0, 0), .null, [], 0, 0, []) := rfl
theorem f_37_13 : xfind (xnth xTs 37) 13 = some (13, .iconst 0, 1, (0, 0, 0, 0), (.int 0), [], 0, 0, []) := rfl
theorem f_37_14 : xfind (xnth xTs 37) 14 = some (14, .istore 5, 2, (0, 0, 0, 0), .null, [], 0, 0, []) := rfl
theorem f_37_16 : xfind (xnth xTs 37) 16 = some (16, .iload 5, 2, (0, 0, 0, 0), .null, [], 0, 1, []) := rfl
theorem f_37_18 : xfind (xnth xTs 37) 18 = some (18, .aload_n 1, 1, (0, 0, 0, 0), .null, [], 0, 0, []) := rfl
theorem f_37_19 : xfind (xnth xTs 37) 19 = some (19, .getfield 67, 3, (1, 1, 0, 0), .null, [], 103, 0, []) := rfl
theorem f_37_22 : xfind (xnth xTs 37) 22 = some (22, .if_icmp .ge 36, 3, (0, 0, 0, 0), .null, [], 0, 0, []) := rfl
theorem f_37_25 : xfind (xnth xTs 37) 25 = some (25, .iload 4, 2, (0, 0, 0, 0), .null, [], 0, 0, []) := rfl
theorem f_37_27 : xfind (xnth xTs 37) 27 = some (27, .aload_n 2, 1, (0, 0, 0, 0), .null, [], 0, 0, []) := rfl
theorem f_37_28 : xfind (xnth xTs 37) 28 = some (28, .invokevirtual 70, 3, (59, 0, 6, 1), .null, [], 711, 0, []) := rfl
theorem f_37_31 : xfind (xnth xTs 37) 31 = some (31, .aload_n 1, 1, (0, 0, 0, 0), .null, [], 0, 0, []) := rfl
theorem f_37_32 : xfind (xnth xTs 37) 32 = some (32, .iload_n 3, 1, (0, 0, 0, 0), .null, [], 0, 0, []) := rfl
theorem f_37_33 : xfind (xnth xTs 37) 33 = some (33, .iload 5, 2, (0, 0, 0, 0), .null, [], 0, 0, []) := rfl
theorem f_37_35 : xfind (xnth xTs 37) 35 = some (35, .invokevirtual 73, 3, (17, 2, 1, 3), .null, [], 712, 0, []) := rfl
theorem f_37_38 : xfind (xnth xTs 37) 38 = some (38, .invokestatic 77, 3, (127, 2, 8, 2), .null, [], 713, 0, []) := rfl
theorem f_37_41 : xfind (xnth xTs 37) 41 = some (41, .ifCond .eq 7, 3, (0, 0, 0, 0), .null, [], 0, 0, []) := rfl
theorem f_37_44 : xfind (xnth xTs 37) 44 = some (44, .iconst 1, 1, (0, 0, 0, 0), (.int 1), [], 0, 0, []) := rfl
theorem f_37_45 : xfind (xnth xTs 37) 45 = some (45, .goto 4, 3, (0, 0, 0, 0), .null, [], 0, 0, []) := rfl
theorem f_37_48 : xfind (xnth xTs 37) 48 = some (48, .iconst 0, 1, (0, 0, 0, 0), (.int 0), [], 0, 0, []) := rfl
theorem f_37_49 : xfind (xnth xTs 37) 49 = some (49, .iadd, 1, (0, 0, 0, 0), .null, [], 0, 0, []) := rfl
theorem f_37_50 : xfind (xnth xTs 37) 50 = some (50, .istore 4, 2, (0, 0, 0, 0), .null, [], 0, 0, []) := rfl
theorem f_37_52 : xfind (xnth xTs 37) 52 = some (52, .iinc 5 1, 3, (0, 0, 0, 0), .null, [], 0, 0, []) := rfl
theorem f_37_55 : xfind (xnth xTs 37) 55 = some (55, .goto (-39), 3, (0, 0, 0, 0), .null, [], 0, 0, []) := rfl
theorem f_37_58 : xfind (xnth xTs 37) 58 = some (58, .aload_n 0, 1, (0, 0, 0, 0), .null, [], 0, 0, []) := rfl
theorem f_37_59 : xfind (xnth xTs 37) 59 = some (59, .getfield 22, 3, (4, 3, 1, 0), .null, [], 259, 0, []) := rfl
theorem f_37_62 : xfind (xnth xTs 37) 62 = some (62, .iload_n 3, 1, (0, 0, 0, 0), .null, [], 0, 0, []) := rfl
theorem f_37_63 : xfind (xnth xTs 37) 63 = some (63, .iload 4, 2, (0, 0, 0, 0), .null, [], 0, 0, []) := rfl
theorem f_37_65 : xfind (xnth xTs 37) 65 = some (65, .invokestatic 32, 3, (130, 3, 8, 3), .null, [], 706, 0, []) := rfl
theorem f_37_68 : xfind (xnth xTs 37) 68 = some (68, .iinc 3 1, 3, (0, 0, 0, 0), .null, [], 0, 0, []) := rfl
theorem f_37_71 : xfind (xnth xTs 37) 71 = some (71, .goto (-69), 3, (0, 0, 0, 0), .null, [], 0, 0, []) := rfl
theorem f_37_74 : xfind (xnth xTs 37) 74 = some (74, .return_, 1, (0, 0, 0, 0), .null, [], 0, 0, []) := rfl
theorem hd_37_2 : xhead 37 2 = some [4, 5] := rfl
theorem hd_37_16 : xhead 37 16 = some [] := rfl
theorem b_Placing_countHoles_0 (sh : xSh) (M : Nat → Nat → Int32) (J : Nat → Nat → Int64) (l0 : Nat) (l1 : Nat) (l2 : Nat) : ev (37, 0, [.ref l0, .ref l1, .ref l2, .null, .null, .null], [], (sh, M, J)) = (ev (37, 2, [.ref l0, .ref l1, .ref l2, .int 0, .null, .null], [], (sh, M, J))) := by
  refine ev_nx (s1 := (37, 1, [.ref l0, .ref l1, .ref l2, .null, .null, .null], [.int 0], (sh, M, J))) f_37_0 rfl ?_
  refine ev_nx (s1 := (37, 2, [.ref l0, .ref l1, .ref l2, .int 0, .null, .null], [], (sh, M, J))) f_37_1 rfl ?_
  exact rfl
theorem b_Placing_countHoles_2 (sh : xSh) (M : Nat → Nat → Int32) (J : Nat → Nat → Int64) (l0 : Nat) (l1 : Nat) (l2 : Nat) (l3 : Int32) : ev (37, 2, [.ref l0, .ref l1, .ref l2, .int l3, .null, .null], [], (sh, M, J)) = (bif decide ((sh.2.2.1 l1).1 = 1) then bif decide ((M l1 0) ≤ l3) then some (none, (sh, M, J)) else ev (37, 16, [.ref l0, .ref l1, .ref l2, .int l3, .int 0, .int 0], [], (sh, M, J)) else none) := by
  refine ev_nx (s1 := (37, 3, [.ref l0, .ref l1, .ref l2, .int l3, .null, .null], [.int l3], (sh, M, J))) f_37_2 rfl ?_
  refine ev_nx (s1 := (37, 4, [.ref l0, .ref l1, .ref l2, .int l3, .null, .null], [.ref l1, .int l3], (sh, M, J))) f_37_3 rfl ?_
  refine ev_gd (s1 := (37, 7, [.ref l0, .ref l1, .ref l2, .int l3, .null, .null], [.int (M l1 0), .int l3], (sh, M, J))) f_37_4 rfl ?_
  refine ev_br (s1 := (37, 74, [.ref l0, .ref l1, .ref l2, .int l3, .null, .null], [], (sh, M, J))) (s2 := (37, 10, [.ref l0, .ref l1, .ref l2, .int l3, .null, .null], [], (sh, M, J))) f_37_7 rfl ?_ ?_
  · exact ev_r1 f_37_74 rfl
  · refine ev_nx (s1 := (37, 11, [.ref l0, .ref l1, .ref l2, .int l3, .null, .null], [.int 0], (sh, M, J))) f_37_10 rfl ?_
    refine ev_nx (s1 := (37, 13, [.ref l0, .ref l1, .ref l2, .int l3, .int 0, .null], [], (sh, M, J))) f_37_11 rfl ?_
    refine ev_nx (s1 := (37, 14, [.ref l0, .ref l1, .ref l2, .int l3, .int 0, .null], [.int 0], (sh, M, J))) f_37_13 rfl ?_
    refine ev_nx (s1 := (37, 16, [.ref l0, .ref l1, .ref l2, .int l3, .int 0, .int 0], [], (sh, M, J))) f_37_14 rfl ?_
    exact rfl
theorem b_Placing_countHoles_16 (sh : xSh) (M : Nat → Nat → Int32) (J : Nat → Nat → Int64) (l0 : Nat) (l1 : Nat) (l2 : Nat) (l3 : Int32) (l4 : Int32) (l5 : Int32) : ev (37, 16, [.ref l0, .ref l1, .ref l2, .int l3, .int l4, .int l5], [], (sh, M, J)) = (bif decide ((sh.2.2.1 l1).1 = 1) then bif decide ((M l1 1) ≤ l5) then bif decide ((sh.2.2.1 l0).1 = 4) then (ev (130, 0, [.ref (sh.2.2.2 l0 3), .int l3, .int l4], [], (sh, M, J))).bind (fun r => ev (37, 68, [.ref l0, .ref l1, .ref l2, .int l3, .int l4, .int l5], r.1.toList ++ [], r.2)) else none else bif (decide ((sh.2.2.1 l2).1 = 6) && true) then (ev (59, 0, [.ref l2], [], (sh, M, J))).bind (fun r => ev (37, 31, [.ref l0, .ref l1, .ref l2, .int l3, .int l4, .int l5], r.1.toList ++ [.int l4], r.2)) else none else none) := by
  refine ev_nx (s1 := (37, 18, [.ref l0, .ref l1, .ref l2, .int l3, .int l4, .int l5], [.int l5], (sh, M, J))) f_37_16 rfl ?_
  refine ev_nx (s1 := (37, 19, [.ref l0, .ref l1, .ref l2, .int l3, .int l4, .int l5], [.ref l1, .int l5], (sh, M, J))) f_37_18 rfl ?_
  refine ev_gd (s1 := (37, 22, [.ref l0, .ref l1, .ref l2, .int l3, .int l4, .int l5], [.int (M l1 1), .int l5], (sh, M, J))) f_37_19 rfl ?_
  refine ev_br (s1 := (37, 58, [.ref l0, .ref l1, .ref l2, .int l3, .int l4, .int l5], [], (sh, M, J))) (s2 := (37, 25, [.ref l0, .ref l1, .ref l2, .int l3, .int l4, .int l5], [], (sh, M, J))) f_37_22 rfl ?_ ?_
  · refine ev_nx (s1 := (37, 59, [.ref l0, .ref l1, .ref l2, .int l3, .int l4, .int l5], [.ref l0], (sh, M, J))) f_37_58 rfl ?_
    refine ev_gd (s1 := (37, 62, [.ref l0, .ref l1, .ref l2, .int l3, .int l4, .int l5], [.ref (sh.2.2.2 l0 3)], (sh, M, J))) f_37_59 rfl ?_
    refine ev_nx (s1 := (37, 63, [.ref l0, .ref l1, .ref l2, .int l3, .int l4, .int l5], [.int l3, .ref (sh.2.2.2 l0 3)], (sh, M, J))) f_37_62 rfl ?_
    refine ev_nx (s1 := (37, 65, [.ref l0, .ref l1, .ref l2, .int l3, .int l4, .int l5], [.int l4, .int l3, .ref (sh.2.2.2 l0 3)], (sh, M, J))) f_37_63 rfl ?_
    exact ev_c1 (s1 := (130, 0, [.ref (sh.2.2.2 l0 3), .int l3, .int l4], [], (sh, M, J))) (k := (37, 68, [.ref l0, .ref l1, .ref l2, .int l3, .int l4, .int l5], [])) f_37_65 rfl
  · refine ev_nx (s1 := (37, 27, [.ref l0, .ref l1, .ref l2, .int l3, .int l4, .int l5], [.int l4], (sh, M, J))) f_37_25 rfl ?_
    refine ev_nx (s1 := (37, 28, [.ref l0, .ref l1, .ref l2, .int l3, .int l4, .int l5], [.ref l2, .int l4], (sh, M, J))) f_37_27 rfl ?_
    exact ev_ca (cc := (decide ((sh.2.2.1 l2).1 = 6) && true)) (s1 := (59, 0, [.ref l2], [], (sh, M, J))) (k := (37, 31, [.ref l0, .ref l1, .ref l2, .int l3, .int l4, .int l5], [.int l4])) f_37_28 rfl
theorem b_Placing_countHoles_31 (sh : xSh) (M : Nat → Nat → Int32) (J : Nat → Nat → Int64) (l0 : Nat) (l1 : Nat) (l2 : Nat) (l3 : Int32) (l4 : Int32) (l5 : Int32) (k0 : Int32) (k1 : Int32) : ev (37, 31, [.ref l0, .ref l1, .ref l2, .int l3, .int l4, .int l5], [.int k0, .int k1], (sh, M, J)) = (bif (decide ((sh.2.2.1 l1).1 = 1) && true) then (ev (17, 0, [.ref l1, .int l3, .int l5], [], (sh, M, J))).bind (fun r => ev (37, 38, [.ref l0, .ref l1, .ref l2, .int l3, .int l4, .int l5], r.1.toList ++ [.int k0, .int k1], r.2)) else none) := by
  refine ev_nx (s1 := (37, 32, [.ref l0, .ref l1, .ref l2, .int l3, .int l4, .int l5], [.ref l1, .int k0, .int k1], (sh, M, J))) f_37_31 rfl ?_
  refine ev_nx (s1 := (37, 33, [.ref l0, .ref l1, .ref l2, .int l3, .int l4, .int l5], [.int l3, .ref l1, .int k0, .int k1], (sh, M, J))) f_37_32 rfl ?_
  refine ev_nx (s1 := (37, 35, [.ref l0, .ref l1, .ref l2, .int l3, .int l4, .int l5], [.int l5, .int l3, .ref l1, .int k0, .int k1], (sh, M, J))) f_37_33 rfl ?_
  exact ev_ca (cc := (decide ((sh.2.2.1 l1).1 = 1) && true)) (s1 := (17, 0, [.ref l1, .int l3, .int l5], [], (sh, M, J))) (k := (37, 38, [.ref l0, .ref l1, .ref l2, .int l3, .int l4, .int l5], [.int k0, .int k1])) f_37_35 rfl
theorem b_Placing_countHoles_38 (sh : xSh) (M : Nat → Nat → Int32) (J : Nat → Nat → Int64) (l0 : Nat) (l1 : Nat) (l2 : Nat) (l3 : Int32) (l4 : Int32) (l5 : Int32) (k0 : Int32) (k1 : Int32) (k2 : Int32) : ev (37, 38, [.ref l0, .ref l1, .ref l2, .int l3, .int l4, .int l5], [.int k0, .int k1, .int k2], (sh, M, J)) = ((ev (127, 0, [.int k1, .int k0], [], (sh, M, J))).bind (fun r => ev (37, 41, [.ref l0, .ref l1, .ref l2, .int l3, .int l4, .int l5], r.1.toList ++ [.int k2], r.2))) := by
  exact ev_c1 (s1 := (127, 0, [.int k1, .int k0], [], (sh, M, J))) (k := (37, 41, [.ref l0, .ref l1, .ref l2, .int l3, .int l4, .int l5], [.int k2])) f_37_38 rfl
theorem b_Placing_countHoles_41 (sh : xSh) (M : Nat → Nat → Int32) (J : Nat → Nat → Int64) (l0 : Nat) (l1 : Nat) (l2 : Nat) (l3 : Int32) (l4 : Int32) (l5 : Int32) (k0 : Int32) (k1 : Int32) : ev (37, 41, [.ref l0, .ref l1, .ref l2, .int l3, .int l4, .int l5], [.int k0, .int k1], (sh, M, J)) = (bif decide (k0 = 0) then ev (37, 16, [.ref l0, .ref l1, .ref l2, .int l3, .int (k1 + 0), .int (l5 + 1)], [], (sh, M, J)) else ev (37, 16, [.ref l0, .ref l1, .ref l2, .int l3, .int (k1 + 1), .int (l5 + 1)], [], (sh, M, J))) := by
  refine ev_br (s1 := (37, 48, [.ref l0, .ref l1, .ref l2, .int l3, .int l4, .int l5], [.int k1], (sh, M, J))) (s2 := (37, 44, [.ref l0, .ref l1, .ref l2, .int l3, .int l4, .int l5], [.int k1], (sh, M, J))) f_37_41 rfl ?_ ?_
  · refine ev_nx (s1 := (37, 49, [.ref l0, .ref l1, .ref l2, .int l3, .int l4, .int l5], [.int 0, .int k1], (sh, M, J))) f_37_48 rfl ?_
    refine ev_nx (s1 := (37, 50, [.ref l0, .ref l1, .ref l2, .int l3, .int l4, .int l5], [.int (k1 + 0)], (sh, M, J))) f_37_49 rfl ?_
    refine ev_nx (s1 := (37, 52, [.ref l0, .ref l1, .ref l2, .int l3, .int (k1 + 0), .int l5], [], (sh, M, J))) f_37_50 rfl ?_
    refine ev_nx (s1 := (37, 55, [.ref l0, .ref l1, .ref l2, .int l3, .int (k1 + 0), .int (l5 + 1)], [], (sh, M, J))) f_37_52 rfl ?_
    refine ev_nx (s1 := (37, 16, [.ref l0, .ref l1, .ref l2, .int l3, .int (k1 + 0), .int (l5 + 1)], [], (sh, M, J))) f_37_55 rfl ?_
    exact rfl
  · refine ev_nx (s1 := (37, 45, [.ref l0, .ref l1, .ref l2, .int l3, .int l4, .int l5], [.int 1, .int k1], (sh, M, J))) f_37_44 rfl ?_
    refine ev_nx (s1 := (37, 49, [.ref l0, .ref l1, .ref l2, .int l3, .int l4, .int l5], [.int 1, .int k1], (sh, M, J))) f_37_45 rfl ?_
    refine ev_nx (s1 := (37, 50, [.ref l0, .ref l1, .ref l2, .int l3, .int l4, .int l5], [.int (k1 + 1)], (sh, M, J))) f_37_49 rfl ?_
    refine ev_nx (s1 := (37, 52, [.ref l0, .ref l1, .ref l2, .int l3, .int (k1 + 1), .int l5], [], (sh, M, J))) f_37_50 rfl ?_
    refine ev_nx (s1 := (37, 55, [.ref l0, .ref l1, .ref l2, .int l3, .int (k1 + 1), .int (l5 + 1)], [], (sh, M, J))) f_37_52 rfl ?_
    refine ev_nx (s1 := (37, 16, [.ref l0, .ref l1, .ref l2, .int l3, .int (k1 + 1), .int (l5 + 1)], [], (sh, M, J))) f_37_55 rfl ?_
    exact rfl
theorem b_Placing_countHoles_68 (sh : xSh) (M : Nat → Nat → Int32) (J : Nat → Nat → Int64) (l0 : Nat) (l1 : Nat) (l2 : Nat) (l3 : Int32) (l4 : Int32) (l5 : Int32) : ev (37, 68, [.ref l0, .ref l1, .ref l2, .int l3, .int l4, .int l5], [], (sh, M, J)) = (ev (37, 2, [.ref l0, .ref l1, .ref l2, .int (l3 + 1), .null, .null], [], (sh, M, J))) := by
  refine ev_nx (s1 := (37, 71, [.ref l0, .ref l1, .ref l2, .int (l3 + 1), .int l4, .int l5], [], (sh, M, J))) f_37_68 rfl ?_
  refine ev_nx (s1 := (37, 2, [.ref l0, .ref l1, .ref l2, .int (l3 + 1), .int l4, .int l5], [], (sh, M, J))) f_37_71 rfl ?_
  exact (ev_kill hd_37_2).symm
theorem f_38_0 : xfind (xnth xTs 38) 0 = some (0, .iconst 0, 1, (0, 0, 0, 0), (.int 0), [], 0, 0, []) := rfl
theorem f_38_1 : xfind (xnth xTs 38) 1 = some (1, .istore_n 3, 1, (0, 0, 0, 0), .null, [], 0, 0, []) := rfl
theorem f_38_2 : xfind (xnth xTs 38) 2 = some (2, .iload_n 3, 1, (0, 0, 0, 0), .null, [], 0, 1, [4, 5]) := rfl
theorem f_38_3 : xfind (xnth xTs 38) 3 = some (3, .aload_n 1, 1, (0, 0, 0, 0), .null, [], 0, 0, []) := rfl
theorem f_38_4 : xfind (xnth xTs 38) 4 = some (4, .getfield 64, 3, (1, 0, 0, 0), .null, [], 98, 0, []) := rfl
theorem f_38_7 : xfind (xnth xTs 38) 7 = some (7, .if_icmp .ge 77, 3, (0, 0, 0, 0), .null, [], 0, 0, []) := rfl
theorem f_38_10 : xfind (xnth xTs 38) 10 = some (10, .aload_n 0, 1, (0, 0, 0, 0), .null, [], 0, 0, []) := rfl
theorem f_38_11 : xfind (xnth xTs 38) 11 = some (11, .getfield 22, 3, (4, 3, 1, 0), .null, [], 259, 0, []) := rfl
theorem f_38_14 : xfind (xnth xTs 38) 14 = some (14, .iload_n 3, 1, (0, 0, 0, 0), .null, [], 0, 0, []) := rfl
theorem f_38_15 : xfind (xnth xTs 38) 15 = some (15, .invokestatic 81, 3, (129, 2, 8, 2), .null, [], 722, 0, []) := rfl
theorem f_38_18 : xfind (xnth xTs 38) 18 = some (18, .istore 4, 2, (0, 0, 0, 0), .null, [], 0, 0, []) := rfl
theorem f_38_20 : xfind (xnth xTs 38) 20 = some (20, .iconst 0, 1, (0, 0, 0, 0), (.int 0), [], 0, 0, []) := rfl
theorem f_38_21 : xfind (xnth xTs 38) 21 = some (21, .istore 5, 2, (0, 0, 0, 0), .null, [], 0, 0, []) := rfl
theorem f_38_23 : xfind (xnth xTs 38) 23 = some (23, .iload 5, 2, (0, 0, 0, 0), .null, [], 0, 1, []) := rfl
theorem f_38_25 : xfind (xnth xTs 38) 25 = some (25, .aload_n 1, 1, (0, 0, 0, 0), .null, [], 0, 0, []) := rfl
theorem f_38_26 : xfind (xnth xTs 38) 26 = some (26, .getfield 85, 3, (1, 2, 0, 0), .null, [], 109, 0, []) := rfl
theorem f_38_29 : xfind (xnth xTs 38) 29 = some (29, .if_icmp .ge 42, 3, (0, 0, 0, 0), .null, [], 0, 0, []) := rfl
theorem f_38_32 : xfind (xnth xTs 38) 32 = some (32, .iload 4, 2, (0, 0, 0, 0), .null, [], 0, 0, []) := rfl
theorem f_38_34 : xfind (xnth xTs 38) 34 = some (34, .ifCond .le 37, 3, (0, 0, 0, 0), .null, [], 0, 0, []) := rfl
theorem f_38_37 : xfind (xnth xTs 38) 37 = some (37, .iload 4, 2, (0, 0, 0, 0), .null, [], 0, 0, []) := rfl
theorem f_38_39 : xfind (xnth xTs 38) 39 = some (39, .aload_n 0, 1, (0, 0, 0, 0), .null, [], 0, 0, []) := rfl
theorem f_38_40 : xfind (xnth xTs 38) 40 = some (40, .getfield 19, 3, (4, 2, 1, 0), .null, [], 258, 0, []) := rfl
theorem f_38_43 : xfind (xnth xTs 38) 43 = some (43, .iload 5, 2, (0, 0, 0, 0), .null, [], 0, 0, []) := rfl
theorem f_38_45 : xfind (xnth xTs 38) 45 = some (45, .invokestatic 81, 3, (129, 2, 8, 2), .null, [], 722, 0, []) := rfl
theorem f_38_48 : xfind (xnth xTs 38) 48 = some (48, .iload_n 3, 1, (0, 0, 0, 0), .null, [], 0, 0, []) := rfl
theorem f_38_49 : xfind (xnth xTs 38) 49 = some (49, .if_icmp .ne 12, 3, (0, 0, 0, 0), .null, [], 0, 0, []) := rfl
theorem f_38_52 : xfind (xnth xTs 38) 52 = some (52, .aload_n 2, 1, (0, 0, 0, 0), .null, [], 0, 0, []) := rfl
theorem f_38_53 : xfind (xnth xTs 38) 53 = some (53, .iload 5, 2, (0, 0, 0, 0), .null, [], 0, 0, []) := rfl
theorem f_38_55 : xfind (xnth xTs 38) 55 = some (55, .invokevirtual 88, 3, (65, 1, 6, 2), .null, [], 723, 0, []) := rfl
theorem f_38_58 : xfind (xnth xTs 38) 58 = some (58, .goto 4, 3, (0, 0, 0, 0), .null, [], 0, 0, []) := rfl
theorem f_38_61 : xfind (xnth xTs 38) 61 = some (61, .iconst 0, 1, (0, 0, 0, 0), (.int 0), [], 0, 0, []) := rfl
theorem f_38_62 : xfind (xnth xTs 38) 62 = some (62, .isub, 1, (0, 0, 0, 0), .null, [], 0, 0, []) := rfl
theorem f_38_63 : xfind (xnth xTs 38) 63 = some (63, .istore 4, 2, (0, 0, 0, 0), .null, [], 0, 0, []) := rfl
theorem f_38_65 : xfind (xnth xTs 38) 65 = some (65, .iinc 5 1, 3, (0, 0, 0, 0), .null, [], 0, 0, []) := rfl
theorem f_38_68 : xfind (xnth xTs 38) 68 = some (68, .goto (-45), 3, (0, 0, 0, 0), .null, [], 0, 0, []) := rfl
theorem f_38_71 : xfind (xnth xTs 38) 71 = some (71, .iload 4, 2, (0, 0, 0, 0), .null, [], 0, 0, []) := rfl
theorem f_38_73 : xfind (xnth xTs 38) 73 = some (73, .ifCond .le 5, 3, (0, 0, 0, 0), .null, [], 0, 0, []) := rfl
theorem f_38_76 : xfind (xnth xTs 38) 76 = some (76, .iconst 0, 1, (0, 0, 0, 0), (.int 0), [], 0, 0, []) := rfl
theorem f_38_77 : xfind (xnth xTs 38) 77 = some (77, .ireturn, 1, (1, 0, 0, 0), .null, [], 0, 0, []) := rfl
theorem f_38_78 : xfind (xnth xTs 38) 78 = some (78, .iinc 3 1, 3, (0, 0, 0, 0), .null, [], 0, 0, []) := rfl
theorem f_38_81 : xfind (xnth xTs 38) 81 = some (81, .goto (-79), 3, (0, 0, 0, 0), .null, [], 0, 0, []) := rfl
theorem f_38_84 : xfind (xnth xTs 38) 84 = some (84, .iconst 1, 1, (0, 0, 0, 0), (.int 1), [], 0, 0, []) := rfl
theorem f_38_85 : xfind (xnth xTs 38) 85 = some (85, .ireturn, 1, (1, 0, 0, 0), .null, [], 0, 0, []) := rfl
theorem hd_38_2 : xhead 38 2 = some [4, 5] := rfl
theorem hd_38_23 : xhead 38 23 = some [] := rfl
theorem b_Placing_hasEnough_0 (sh : xSh) (M : Nat → Nat → Int32) (J : Nat → Nat → Int64) (l0 : Nat) (l1 : Nat) (l2 : Nat) : ev (38, 0, [.ref l0, .ref l1, .ref l2, .null, .null, .null], [], (sh, M, J)) = (ev (38, 2, [.ref l0, .ref l1, .ref l2, .int 0, .null, .null], [], (sh, M, J))) := by
  refine ev_nx (s1 := (38, 1, [.ref l0, .ref l1, .ref l2, .null, .null, .null], [.int 0], (sh, M, J))) f_38_0 rfl ?_
  refine ev_nx (s1 := (38, 2, [.ref l0, .ref l1, .ref l2, .int 0, .null, .null], [], (sh, M, J))) f_38_1 rfl ?_
  exact rfl
theorem b_Placing_hasEnough_2 (sh : xSh) (M : Nat → Nat → Int32) (J : Nat → Nat → Int64) (l0 : Nat) (l1 : Nat) (l2 : Nat) (l3 : Int32) : ev (38, 2, [.ref l0, .ref l1, .ref l2, .int l3, .null, .null], [], (sh, M, J)) = (bif decide ((sh.2.2.1 l1).1 = 1) then bif decide ((M l1 0) ≤ l3) then some (some (.int 1), (sh, M, J)) else bif decide ((sh.2.2.1 l0).1 = 4) then (ev (129, 0, [.ref (sh.2.2.2 l0 3), .int l3], [], (sh, M, J))).bind (fun r => ev (38, 18, [.ref l0, .ref l1, .ref l2, .int l3, .null, .null], r.1.toList ++ [], r.2)) else none else none) := by
  refine ev_nx (s1 := (38, 3, [.ref l0, .ref l1, .ref l2, .int l3, .null, .null], [.int l3], (sh, M, J))) f_38_2 rfl ?_
  refine ev_nx (s1 := (38, 4, [.ref l0, .ref l1, .ref l2, .int l3, .null, .null], [.ref l1, .int l3], (sh, M, J))) f_38_3 rfl ?_
  refine ev_gd (s1 := (38, 7, [.ref l0, .ref l1, .ref l2, .int l3, .null, .null], [.int (M l1 0), .int l3], (sh, M, J))) f_38_4 rfl ?_
  refine ev_br (s1 := (38, 84, [.ref l0, .ref l1, .ref l2, .int l3, .null, .null], [], (sh, M, J))) (s2 := (38, 10, [.ref l0, .ref l1, .ref l2, .int l3, .null, .null], [], (sh, M, J))) f_38_7 rfl ?_ ?_
  · refine ev_nx (s1 := (38, 85, [.ref l0, .ref l1, .ref l2, .int l3, .null, .null], [.int 1], (sh, M, J))) f_38_84 rfl ?_
    exact ev_r1 f_38_85 rfl
  · refine ev_nx (s1 := (38, 11, [.ref l0, .ref l1, .ref l2, .int l3, .null, .null], [.ref l0], (sh, M, J))) f_38_10 rfl ?_
    refine ev_gd (s1 := (38, 14, [.ref l0, .ref l1, .ref l2, .int l3, .null, .null], [.ref (sh.2.2.2 l0 3)], (sh, M, J))) f_38_11 rfl ?_
    refine ev_nx (s1 := (38, 15, [.ref l0, .ref l1, .ref l2, .int l3, .null, .null], [.int l3, .ref (sh.2.2.2 l0 3)], (sh, M, J))) f_38_14 rfl ?_
    exact ev_c1 (s1 := (129, 0, [.ref (sh.2.2.2 l0 3), .int l3], [], (sh, M, J))) (k := (38, 18, [.ref l0, .ref l1, .ref l2, .int l3, .null, .null], [])) f_38_15 rfl
theorem b_Placing_hasEnough_18 (sh : xSh) (M : Nat → Nat → Int32) (J : Nat → Nat → Int64) (l0 : Nat) (l1 : Nat) (l2 : Nat) (l3 : Int32) (k0 : Int32) : ev (38, 18, [.ref l0, .ref l1, .ref l2, .int l3, .null, .null], [.int k0], (sh, M, J)) = (ev (38, 23, [.ref l0, .ref l1, .ref l2, .int l3, .int k0, .int 0], [], (sh, M, J))) := by
  refine ev_nx (s1 := (38, 20, [.ref l0, .ref l1, .ref l2, .int l3, .int k0, .null], [], (sh, M, J))) f_38_18 rfl ?_
  refine ev_nx (s1 := (38, 21, [.ref l0, .ref l1, .ref l2, .int l3, .int k0, .null], [.int 0], (sh, M, J))) f_38_20 rfl ?_
  refine ev_nx (s1 := (38, 23, [.ref l0, .ref l1, .ref l2, .int l3, .int k0, .int 0], [], (sh, M, J))) f_38_21 rfl ?_
  exact rfl
theorem b_Placing_hasEnough_23 (sh : xSh) (M : Nat → Nat → Int32) (J : Nat → Nat → Int64) (l0 : Nat) (l1 : Nat) (l2 : Nat) (l3 : Int32) (l4 : Int32) (l5 : Int32) : ev (38, 23, [.ref l0, .ref l1, .ref l2, .int l3, .int l4, .int l5], [], (sh, M, J)) = (bif decide ((sh.2.2.1 l1).1 = 1) then bif decide ((M l1 2) ≤ l5) then bif decide (l4 ≤ 0) then ev (38, 2, [.ref l0, .ref l1, .ref l2, .int (l3 + 1), .null, .null], [], (sh, M, J)) else some (some (.int 0), (sh, M, J)) else bif decide (l4 ≤ 0) then bif decide (l4 ≤ 0) then ev (38, 2, [.ref l0, .ref l1, .ref l2, .int (l3 + 1), .null, .null], [], (sh, M, J)) else some (some (.int 0), (sh, M, J)) else bif decide ((sh.2.2.1 l0).1 = 4) then (ev (129, 0, [.ref (sh.2.2.2 l0 2), .int l5], [], (sh, M, J))).bind (fun r => ev (38, 48, [.ref l0, .ref l1, .ref l2, .int l3, .int l4, .int l5], r.1.toList ++ [.int l4], r.2)) else none else none) := by
  refine ev_nx (s1 := (38, 25, [.ref l0, .ref l1, .ref l2, .int l3, .int l4, .int l5], [.int l5], (sh, M, J))) f_38_23 rfl ?_
  refine ev_nx (s1 := (38, 26, [.ref l0, .ref l1, .ref l2, .int l3, .int l4, .int l5], [.ref l1, .int l5], (sh, M, J))) f_38_25 rfl ?_
  refine ev_gd (s1 := (38, 29, [.ref l0, .ref l1, .ref l2, .int l3, .int l4, .int l5], [.int (M l1 2), .int l5], (sh, M, J))) f_38_26 rfl ?_
  refine ev_br (s1 := (38, 71, [.ref l0, .ref l1, .ref l2, .int l3, .int l4, .int l5], [], (sh, M, J))) (s2 := (38, 32, [.ref l0, .ref l1, .ref l2, .int l3, .int l4, .int l5], [], (sh, M, J))) f_38_29 rfl ?_ ?_
  · refine ev_nx (s1 := (38, 73, [.ref l0, .ref l1, .ref l2, .int l3, .int l4, .int l5], [.int l4], (sh, M, J))) f_38_71 rfl ?_
    refine ev_br (s1 := (38, 78, [.ref l0, .ref l1, .ref l2, .int l3, .int l4, .int l5], [], (sh, M, J))) (s2 := (38, 76, [.ref l0, .ref l1, .ref l2, .int l3, .int l4, .int l5], [], (sh, M, J))) f_38_73 rfl ?_ ?_
    · refine ev_nx (s1 := (38, 81, [.ref l0, .ref l1, .ref l2, .int (l3 + 1), .int l4, .int l5], [], (sh, M, J))) f_38_78 rfl ?_
      refine ev_nx (s1 := (38, 2, [.ref l0, .ref l1, .ref l2, .int (l3 + 1), .int l4, .int l5], [], (sh, M, J))) f_38_81 rfl ?_
      exact (ev_kill hd_38_2).symm
    · refine ev_nx (s1 := (38, 77, [.ref l0, .ref l1, .ref l2, .int l3, .int l4, .int l5], [.int 0], (sh, M, J))) f_38_76 rfl ?_
      exact ev_r1 f_38_77 rfl
  · refine ev_nx (s1 := (38, 34, [.ref l0, .ref l1, .ref l2, .int l3, .int l4, .int l5], [.int l4], (sh, M, J))) f_38_32 rfl ?_
    refine ev_br (s1 := (38, 71, [.ref l0, .ref l1, .ref l2, .int l3, .int l4, .int l5], [], (sh, M, J))) (s2 := (38, 37, [.ref l0, .ref l1, .ref l2, .int l3, .int l4, .int l5], [], (sh, M, J))) f_38_34 rfl ?_ ?_
    · refine ev_nx (s1 := (38, 73, [.ref l0, .ref l1, .ref l2, .int l3, .int l4, .int l5], [.int l4], (sh, M, J))) f_38_71 rfl ?_
      refine ev_br (s1 := (38, 78, [.ref l0, .ref l1, .ref l2, .int l3, .int l4, .int l5], [], (sh, M, J))) (s2 := (38, 76, [.ref l0, .ref l1, .ref l2, .int l3, .int l4, .int l5], [], (sh, M, J))) f_38_73 rfl ?_ ?_
      · refine ev_nx (s1 := (38, 81, [.ref l0, .ref l1, .ref l2, .int (l3 + 1), .int l4, .int l5], [], (sh, M, J))) f_38_78 rfl ?_
        refine ev_nx (s1 := (38, 2, [.ref l0, .ref l1, .ref l2, .int (l3 + 1), .int l4, .int l5], [], (sh, M, J))) f_38_81 rfl ?_
        exact (ev_kill hd_38_2).symm
      · refine ev_nx (s1 := (38, 77, [.ref l0, .ref l1, .ref l2, .int l3, .int l4, .int l5], [.int 0], (sh, M, J))) f_38_76 rfl ?_
        exact ev_r1 f_38_77 rfl
    · refine ev_nx (s1 := (38, 39, [.ref l0, .ref l1, .ref l2, .int l3, .int l4, .int l5], [.int l4], (sh, M, J))) f_38_37 rfl ?_
      refine ev_nx (s1 := (38, 40, [.ref l0, .ref l1, .ref l2, .int l3, .int l4, .int l5], [.ref l0, .int l4], (sh, M, J))) f_38_39 rfl ?_
      refine ev_gd (s1 := (38, 43, [.ref l0, .ref l1, .ref l2, .int l3, .int l4, .int l5], [.ref (sh.2.2.2 l0 2), .int l4], (sh, M, J))) f_38_40 rfl ?_
      refine ev_nx (s1 := (38, 45, [.ref l0, .ref l1, .ref l2, .int l3, .int l4, .int l5], [.int l5, .ref (sh.2.2.2 l0 2), .int l4], (sh, M, J))) f_38_43 rfl ?_
      exact ev_c1 (s1 := (129, 0, [.ref (sh.2.2.2 l0 2), .int l5], [], (sh, M, J))) (k := (38, 48, [.ref l0, .ref l1, .ref l2, .int l3, .int l4, .int l5], [.int l4])) f_38_45 rfl
theorem b_Placing_hasEnough_48 (sh : xSh) (M : Nat → Nat → Int32) (J : Nat → Nat → Int64) (l0 : Nat) (l1 : Nat) (l2 : Nat) (l3 : Int32) (l4 : Int32) (l5 : Int32) (k0 : Int32) (k1 : Int32) : ev (38, 48, [.ref l0, .ref l1, .ref l2, .int l3, .int l4, .int l5], [.int k0, .int k1], (sh, M, J)) = (bif !decide (k0 = l3) then ev (38, 23, [.ref l0, .ref l1, .ref l2, .int l3, .int (k1 - 0), .int (l5 + 1)], [], (sh, M, J)) else bif (decide ((sh.2.2.1 l2).1 = 6) && true) then (ev (65, 0, [.ref l2, .int l5], [], (sh, M, J))).bind (fun r => ev (38, 58, [.ref l0, .ref l1, .ref l2, .int l3, .int l4, .int l5], r.1.toList ++ [.int k1], r.2)) else none) := by
  refine ev_nx (s1 := (38, 49, [.ref l0, .ref l1, .ref l2, .int l3, .int l4, .int l5], [.int l3, .int k0, .int k1], (sh, M, J))) f_38_48 rfl ?_
  refine ev_br (s1 := (38, 61, [.ref l0, .ref l1, .ref l2, .int l3, .int l4, .int l5], [.int k1], (sh, M, J))) (s2 := (38, 52, [.ref l0, .ref l1, .ref l2, .int l3, .int l4, .int l5], [.int k1], (sh, M, J))) f_38_49 rfl ?_ ?_
  · refine ev_nx (s1 := (38, 62, [.ref l0, .ref l1, .ref l2, .int l3, .int l4, .int l5], [.int 0, .int k1], (sh, M, J))) f_38_61 rfl ?_
    refine ev_nx (s1 := (38, 63, [.ref l0, .ref l1, .ref l2, .int l3, .int l4, .int l5], [.int (k1 - 0)], (sh, M, J))) f_38_62 rfl ?_
    refine ev_nx (s1 := (38, 65, [.ref l0, .ref l1, .ref l2, .int l3, .int (k1 - 0), .int l5], [], (sh, M, J))) f_38_63 rfl ?_
    refine ev_nx (s1 := (38, 68, [.ref l0, .ref l1, .ref l2, .int l3, .int (k1 - 0), .int (l5 + 1)], [], (sh, M, J))) f_38_65 rfl ?_
    refine ev_nx (s1 := (38, 23, [.ref l0, .ref l1, .ref l2, .int l3, .int (k1 - 0), .int (l5 + 1)], [], (sh, M, J))) f_38_68 rfl ?_
    exact rfl
  · refine ev_nx (s1 := (38, 53, [.ref l0, .ref l1, .ref l2, .int l3, .int l4, .int l5], [.ref l2, .int k1], (sh, M, J))) f_38_52 rfl ?_
    refine ev_nx (s1 := (38, 55, [.ref l0, .ref l1, .ref l2, .int l3, .int l4, .int l5], [.int l5, .ref l2, .int k1], (sh, M, J))) f_38_53 rfl ?_
    exact ev_ca (cc := (decide ((sh.2.2.1 l2).1 = 6) && true)) (s1 := (65, 0, [.ref l2, .int l5], [], (sh, M, J))) (k := (38, 58, [.ref l0, .ref l1, .ref l2, .int l3, .int l4, .int l5], [.int k1])) f_38_55 rfl
theorem b_Placing_hasEnough_58 (sh : xSh) (M : Nat → Nat → Int32) (J : Nat → Nat → Int64) (l0 : Nat) (l1 : Nat) (l2 : Nat) (l3 : Int32) (l4 : Int32) (l5 : Int32) (k0 : Int32) (k1 : Int32) : ev (38, 58, [.ref l0, .ref l1, .ref l2, .int l3, .int l4, .int l5], [.int k0, .int k1], (sh, M, J)) = (ev (38, 23, [.ref l0, .ref l1, .ref l2, .int l3, .int (k1 - k0), .int (l5 + 1)], [], (sh, M, J))) := by
  refine ev_nx (s1 := (38, 62, [.ref l0, .ref l1, .ref l2, .int l3, .int l4, .int l5], [.int k0, .int k1], (sh, M, J))) f_38_58 rfl ?_
  refine ev_nx (s1 := (38, 63, [.ref l0, .ref l1, .ref l2, .int l3, .int l4, .int l5], [.int (k1 - k0)], (sh, M, J))) f_38_62 rfl ?_
  refine ev_nx (s1 := (38, 65, [.ref l0, .ref l1, .ref l2, .int l3, .int (k1 - k0), .int l5], [], (sh, M, J))) f_38_63 rfl ?_
  refine ev_nx (s1 := (38, 68, [.ref l0, .ref l1, .ref l2, .int l3, .int (k1 - k0), .int (l5 + 1)], [], (sh, M, J))) f_38_65 rfl ?_
  refine ev_nx (s1 := (38, 23, [.ref l0, .ref l1, .ref l2, .int l3, .int (k1 - k0), .int (l5 + 1)], [], (sh, M, J))) f_38_68 rfl ?_
  exact rfl
theorem f_39_0 : xfind (xnth xTs 39) 0 = some (0, .aload_n 0, 1, (0, 0, 0, 0), .null, [], 0, 0, []) := rfl
theorem f_39_1 : xfind (xnth xTs 39) 1 = some (1, .getfield 28, 3, (4, 4, 1, 0), .null, [], 260, 0, []) := rfl
theorem f_39_4 : xfind (xnth xTs 39) 4 = some (4, .aload_n 2, 1, (0, 0, 0, 0), .null, [], 0, 0, []) := rfl
theorem f_39_5 : xfind (xnth xTs 39) 5 = some (5, .invokevirtual 92, 3, (58, 1, 6, 2), .null, [], 728, 0, []) := rfl
theorem f_39_8 : xfind (xnth xTs 39) 8 = some (8, .iconst 0, 1, (0, 0, 0, 0), (.int 0), [], 0, 0, []) := rfl
theorem f_39_9 : xfind (xnth xTs 39) 9 = some (9, .istore 5, 2, (0, 0, 0, 0), .null, [], 0, 0, []) := rfl
theorem f_39_11 : xfind (xnth xTs 39) 11 = some (11, .iload 5, 2, (0, 0, 0, 0), .null, [], 0, 1, [2, 6, 7, 8]) := rfl
theorem f_39_13 : xfind (xnth xTs 39) 13 = some (13, .aload_n 1, 1, (0, 0, 0, 0), .null, [], 0, 0, []) := rfl
theorem f_39_14 : xfind (xnth xTs 39) 14 = some (14, .getfield 85, 3, (1, 2, 0, 0), .null, [], 109, 0, []) := rfl
theorem f_39_17 : xfind (xnth xTs 39) 17 = some (17, .if_icmp .ge 27, 3, (0, 0, 0, 0), .null, [], 0, 0, []) := rfl
theorem f_39_20 : xfind (xnth xTs 39) 20 = some (20, .aload_n 0, 1, (0, 0, 0, 0), .null, [], 0, 0, []) := rfl
theorem f_39_21 : xfind (xnth xTs 39) 21 = some (21, .getfield 28, 3, (4, 4, 1, 0), .null, [], 260, 0, []) := rfl
theorem f_39_24 : xfind (xnth xTs 39) 24 = some (24, .iload 5, 2, (0, 0, 0, 0), .null, [], 0, 0, []) := rfl
theorem f_39_26 : xfind (xnth xTs 39) 26 = some (26, .aload_n 0, 1, (0, 0, 0, 0), .null, [], 0, 0, []) := rfl
theorem f_39_27 : xfind (xnth xTs 39) 27 = some (27, .getfield 19, 3, (4, 2, 1, 0), .null, [], 258, 0, []) := rfl
theorem f_39_30 : xfind (xnth xTs 39) 30 = some (30, .iload 5, 2, (0, 0, 0, 0), .null, [], 0, 0, []) := rfl
theorem f_39_32 : xfind (xnth xTs 39) 32 = some (32, .invokestatic 81, 3, (129, 2, 8, 2), .null, [], 722, 0, []) := rfl
theorem f_39_35 : xfind (xnth xTs 39) 35 = some (35, .invokevirtual 96, 3, (70, 2, 6, 3), .null, [], 729, 0, []) := rfl
theorem f_39_38 : xfind (xnth xTs 39) 38 = some (38, .iinc 5 1, 3, (0, 0, 0, 0), .null, [], 0, 0, []) := rfl
theorem f_39_41 : xfind (xnth xTs 39) 41 = some (41, .goto (-30), 3, (0, 0, 0, 0), .null, [], 0, 0, []) := rfl
theorem f_39_44 : xfind (xnth xTs 39) 44 = some (44, .aload_n 0, 1, (0, 0, 0, 0), .null, [], 0, 0, []) := rfl
theorem f_39_45 : xfind (xnth xTs 39) 45 = some (45, .getfield 28, 3, (4, 4, 1, 0), .null, [], 260, 0, []) := rfl
theorem f_39_48 : xfind (xnth xTs 39) 48 = some (48, .invokevirtual 100, 3, (67, 0, 6, 3), .null, [], 730, 0, []) := rfl
theorem f_39_51 : xfind (xnth xTs 39) 51 = some (51, .istore 5, 2, (0, 0, 0, 0), .null, [], 0, 0, []) := rfl
theorem f_39_53 : xfind (xnth xTs 39) 53 = some (53, .aload_n 0, 1, (0, 0, 0, 0), .null, [], 0, 0, []) := rfl
theorem f_39_54 : xfind (xnth xTs 39) 54 = some (54, .getfield 28, 3, (4, 4, 1, 0), .null, [], 260, 0, []) := rfl
theorem f_39_57 : xfind (xnth xTs 39) 57 = some (57, .iload_n 3, 1, (0, 0, 0, 0), .null, [], 0, 0, []) := rfl
theorem f_39_58 : xfind (xnth xTs 39) 58 = some (58, .invokevirtual 103, 3, (66, 1, 6, 2), .null, [], 731, 0, []) := rfl
theorem f_39_61 : xfind (xnth xTs 39) 61 = some (61, .istore 6, 2, (0, 0, 0, 0), .null, [], 0, 0, []) := rfl
theorem f_39_63 : xfind (xnth xTs 39) 63 = some (63, .iconst 0, 1, (0, 0, 0, 0), (.int 0), [], 0, 0, []) := rfl
theorem f_39_64 : xfind (xnth xTs 39) 64 = some (64, .istore 7, 2, (0, 0, 0, 0), .null, [], 0, 0, []) := rfl
theorem f_39_66 : xfind (xnth xTs 39) 66 = some (66, .iload 7, 2, (0, 0, 0, 0), .null, [], 0, 1, [2, 8]) := rfl
theorem f_39_68 : xfind (xnth xTs 39) 68 = some (68, .iload 4, 2, (0, 0, 0, 0), .null, [], 0, 0, []) := rfl
theorem f_39_70 : xfind (xnth xTs 39) 70 = some (70, .if_icmp .ge 64, 3, (0, 0, 0, 0), .null, [], 0, 0, []) := rfl
theorem f_39_73 : xfind (xnth xTs 39) 73 = some (73, .aload_n 0, 1, (0, 0, 0, 0), .null, [], 0, 0, []) := rfl
theorem f_39_74 : xfind (xnth xTs 39) 74 = some (74, .getfield 28, 3, (4, 4, 1, 0), .null, [], 260, 0, []) := rfl
theorem f_39_77 : xfind (xnth xTs 39) 77 = some (77, .invokevirtual 70, 3, (59, 0, 6, 1), .null, [], 711, 0, []) := rfl
theorem f_39_80 : xfind (xnth xTs 39) 80 = some (80, .ifCond .eq 54, 3, (0, 0, 0, 0), .null, [], 0, 0, []) := rfl
theorem f_39_83 : xfind (xnth xTs 39) 83 = some (83, .aload_n 0, 1, (0, 0, 0, 0), .null, [], 0, 0, []) := rfl
theorem f_39_84 : xfind (xnth xTs 39) 84 = some (84, .getfield 28, 3, (4, 4, 1, 0), .null, [], 260, 0, []) := rfl
theorem f_39_87 : xfind (xnth xTs 39) 87 = some (87, .invokevirtual 70, 3, (59, 0, 6, 1), .null, [], 711, 0, []) := rfl
theorem f_39_90 : xfind (xnth xTs 39) 90 = some (90, .istore 8, 2, (0, 0, 0, 0), .null, [], 0, 0, []) := rfl
theorem f_39_92 : xfind (xnth xTs 39) 92 = some (92, .aload_n 0, 1, (0, 0, 0, 0), .null, [], 0, 0, []) := rfl
theorem f_39_93 : xfind (xnth xTs 39) 93 = some (93, .getfield 28, 3, (4, 4, 1, 0), .null, [], 260, 0, []) := rfl
theorem f_39_96 : xfind (xnth xTs 39) 96 = some (96, .aload_n 1, 1, (0, 0, 0, 0), .null, [], 0, 0, []) := rfl
theorem f_39_97 : xfind (xnth xTs 39) 97 = some (97, .invokevirtual 106, 3, (78, 1, 6, 4), .null, [], 732, 0, []) := rfl
theorem f_39_100 : xfind (xnth xTs 39) 100 = some (100, .pop, 1, (0, 0, 0, 0), .null, [], 0, 0, []) := rfl
theorem f_39_101 : xfind (xnth xTs 39) 101 = some (101, .aload_n 0, 1, (0, 0, 0, 0), .null, [], 0, 0, []) := rfl
theorem f_39_102 : xfind (xnth xTs 39) 102 = some (102, .getfield 28, 3, (4, 4, 1, 0), .null, [], 260, 0, []) := rfl
theorem f_39_105 : xfind (xnth xTs 39) 105 = some (105, .invokevirtual 70, 3, (59, 0, 6, 1), .null, [], 711, 0, []) := rfl
theorem f_39_108 : xfind (xnth xTs 39) 108 = some (108, .iload 8, 2, (0, 0, 0, 0), .null, [], 0, 0, []) := rfl
theorem f_39_110 : xfind (xnth xTs 39) 110 = some (110, .if_icmp .eq 16, 3, (0, 0, 0, 0), .null, [], 0, 0, []) := rfl
theorem f_39_113 : xfind (xnth xTs 39) 113 = some (113, .aload_n 0, 1, (0, 0, 0, 0), .null, [], 0, 0, []) := rfl
theorem f_39_114 : xfind (xnth xTs 39) 114 = some (114, .getfield 28, 3, (4, 4, 1, 0), .null, [], 260, 0, []) := rfl
theorem f_39_117 : xfind (xnth xTs 39) 117 = some (117, .iload_n 3, 1, (0, 0, 0, 0), .null, [], 0, 0, []) := rfl
theorem f_39_118 : xfind (xnth xTs 39) 118 = some (118, .invokevirtual 103, 3, (66, 1, 6, 2), .null, [], 731, 0, []) := rfl
theorem f_39_121 : xfind (xnth xTs 39) 121 = some (121, .iload 6, 2, (0, 0, 0, 0), .null, [], 0, 0, []) := rfl
theorem f_39_123 : xfind (xnth xTs 39) 123 = some (123, .if_icmp .eq 5, 3, (0, 0, 0, 0), .null, [], 0, 0, []) := rfl
theorem f_39_126 : xfind (xnth xTs 39) 126 = some (126, .iconst (-1), 1, (0, 0, 0, 0), (.int (-1)), [], 0, 0, []) := rfl
theorem f_39_127 : xfind (xnth xTs 39) 127 = some (127, .ireturn, 1, (0, 0, 0, 0), .null, [], 0, 0, []) := rfl
theorem f_39_128 : xfind (xnth xTs 39) 128 = some (128, .iinc 7 1, 3, (0, 0, 0, 0), .null, [], 0, 0, []) := rfl
theorem f_39_131 : xfind (xnth xTs 39) 131 = some (131, .goto (-65), 3, (0, 0, 0, 0), .null, [], 0, 0, []) := rfl
theorem f_39_134 : xfind (xnth xTs 39) 134 = some (134, .aload_n 0, 1, (0, 0, 0, 0), .null, [], 0, 0, []) := rfl
theorem f_39_135 : xfind (xnth xTs 39) 135 = some (135, .getfield 28, 3, (4, 4, 1, 0), .null, [], 260, 0, []) := rfl
theorem f_39_138 : xfind (xnth xTs 39) 138 = some (138, .invokevirtual 70, 3, (59, 0, 6, 1), .null, [], 711, 0, []) := rfl
theorem f_39_141 : xfind (xnth xTs 39) 141 = some (141, .ifCond .ne 16, 3, (0, 0, 0, 0), .null, [], 0, 0, []) := rfl
theorem f_39_144 : xfind (xnth xTs 39) 144 = some (144, .aload_n 0, 1, (0, 0, 0, 0), .null, [], 0, 0, []) := rfl
theorem f_39_145 : xfind (xnth xTs 39) 145 = some (145, .getfield 28, 3, (4, 4, 1, 0), .null, [], 260, 0, []) := rfl
theorem f_39_148 : xfind (xnth xTs 39) 148 = some (148, .invokevirtual 100, 3, (67, 0, 6, 3), .null, [], 730, 0, []) := rfl
theorem f_39_151 : xfind (xnth xTs 39) 151 = some (151, .iload 5, 2, (0, 0, 0, 0), .null, [], 0, 0, []) := rfl
theorem f_39_153 : xfind (xnth xTs 39) 153 = some (153, .isub, 1, (0, 0, 0, 0), .null, [], 0, 0, []) := rfl
theorem f_39_154 : xfind (xnth xTs 39) 154 = some (154, .goto 4, 3, (0, 0, 0, 0), .null, [], 0, 0, []) := rfl
theorem f_39_157 : xfind (xnth xTs 39) 157 = some (157, .iconst (-1), 1, (0, 0, 0, 0), (.int (-1)), [], 0, 0, []) := rfl
theorem f_39_158 : xfind (xnth xTs 39) 158 = some (158, .ireturn, 1, (0, 0, 0, 0), .null, [], 0, 0, []) := rfl
theorem hd_39_11 : xhead 39 11 = some [2, 6, 7, 8] := rfl
theorem hd_39_66 : xhead 39 66 = some [2, 8] := rfl
theorem b_Placing_baredUntilWhole_0 (sh : xSh) (M : Nat → Nat → Int32) (J : Nat → Nat → Int64) (l0 : Nat) (l1 : Nat) (l2 : Nat) (l3 : Int32) (l4 : Int32) : ev (39, 0, [.ref l0, .ref l1, .ref l2, .int l3, .int l4, .null, .null, .null, .null], [], (sh, M, J)) = (bif decide ((sh.2.2.1 l0).1 = 4) then bif (decide ((sh.2.2.1 (sh.2.2.2 l0 4)).1 = 6) && true) then (ev (58, 0, [.ref (sh.2.2.2 l0 4), .ref l2], [], (sh, M, J))).bind (fun r => ev (39, 8, [.ref l0, .ref l1, .ref l2, .int l3, .int l4, .null, .null, .null, .null], r.1.toList ++ [], r.2)) else none else none) := by
  refine ev_nx (s1 := (39, 1, [.ref l0, .ref l1, .ref l2, .int l3, .int l4, .null, .null, .null, .null], [.ref l0], (sh, M, J))) f_39_0 rfl ?_
  refine ev_gd (s1 := (39, 4, [.ref l0, .ref l1, .ref l2, .int l3, .int l4, .null, .null, .null, .null], [.ref (sh.2.2.2 l0 4)], (sh, M, J))) f_39_1 rfl ?_
  refine ev_nx (s1 := (39, 5, [.ref l0, .ref l1, .ref l2, .int l3, .int l4, .null, .null, .null, .null], [.ref l2, .ref (sh.2.2.2 l0 4)], (sh, M, J))) f_39_4 rfl ?_
  exact ev_ca (cc := (decide ((sh.2.2.1 (sh.2.2.2 l0 4)).1 = 6) && true)) (s1 := (58, 0, [.ref (sh.2.2.2 l0 4), .ref l2], [], (sh, M, J))) (k := (39, 8, [.ref l0, .ref l1, .ref l2, .int l3, .int l4, .null, .null, .null, .null], [])) f_39_5 rfl
theorem b_Placing_baredUntilWhole_8 (sh : xSh) (M : Nat → Nat → Int32) (J : Nat → Nat → Int64) (l0 : Nat) (l1 : Nat) (l2 : Nat) (l3 : Int32) (l4 : Int32) : ev (39, 8, [.ref l0, .ref l1, .ref l2, .int l3, .int l4, .null, .null, .null, .null], [], (sh, M, J)) = (ev (39, 11, [.ref l0, .ref l1, .null, .int l3, .int l4, .int 0, .null, .null, .null], [], (sh, M, J))) := by
  refine ev_nx (s1 := (39, 9, [.ref l0, .ref l1, .ref l2, .int l3, .int l4, .null, .null, .null, .null], [.int 0], (sh, M, J))) f_39_8 rfl ?_
  refine ev_nx (s1 := (39, 11, [.ref l0, .ref l1, .ref l2, .int l3, .int l4, .int 0, .null, .null, .null], [], (sh, M, J))) f_39_9 rfl ?_
  exact (ev_kill hd_39_11).symm
theorem b_Placing_baredUntilWhole_11 (sh : xSh) (M : Nat → Nat → Int32) (J : Nat → Nat → Int64) (l0 : Nat) (l1 : Nat) (l3 : Int32) (l4 : Int32) (l5 : Int32) : ev (39, 11, [.ref l0, .ref l1, .null, .int l3, .int l4, .int l5, .null, .null, .null], [], (sh, M, J)) = (bif decide ((sh.2.2.1 l1).1 = 1) then bif decide ((M l1 2) ≤ l5) then bif decide ((sh.2.2.1 l0).1 = 4) then bif (decide ((sh.2.2.1 (sh.2.2.2 l0 4)).1 = 6) && true) then (ev (67, 0, [.ref (sh.2.2.2 l0 4), .null, .null], [], (sh, M, J))).bind (fun r => ev (39, 51, [.ref l0, .ref l1, .null, .int l3, .int l4, .int l5, .null, .null, .null], r.1.toList ++ [], r.2)) else none else none else bif decide ((sh.2.2.1 l0).1 = 4) then bif decide ((sh.2.2.1 l0).1 = 4) then (ev (129, 0, [.ref (sh.2.2.2 l0 2), .int l5], [], (sh, M, J))).bind (fun r => ev (39, 35, [.ref l0, .ref l1, .null, .int l3, .int l4, .int l5, .null, .null, .null], r.1.toList ++ [.int l5, .ref (sh.2.2.2 l0 4)], r.2)) else none else none else none) := by
  refine ev_nx (s1 := (39, 13, [.ref l0, .ref l1, .null, .int l3, .int l4, .int l5, .null, .null, .null], [.int l5], (sh, M, J))) f_39_11 rfl ?_
  refine ev_nx (s1 := (39, 14, [.ref l0, .ref l1, .null, .int l3, .int l4, .int l5, .null, .null, .null], [.ref l1, .int l5], (sh, M, J))) f_39_13 rfl ?_
  refine ev_gd (s1 := (39, 17, [.ref l0, .ref l1, .null, .int l3, .int l4, .int l5, .null, .null, .null], [.int (M l1 2), .int l5], (sh, M, J))) f_39_14 rfl ?_
  refine ev_br (s1 := (39, 44, [.ref l0, .ref l1, .null, .int l3, .int l4, .int l5, .null, .null, .null], [], (sh, M, J))) (s2 := (39, 20, [.ref l0, .ref l1, .null, .int l3, .int l4, .int l5, .null, .null, .null], [], (sh, M, J))) f_39_17 rfl ?_ ?_
  · refine ev_nx (s1 := (39, 45, [.ref l0, .ref l1, .null, .int l3, .int l4, .int l5, .null, .null, .null], [.ref l0], (sh, M, J))) f_39_44 rfl ?_
    refine ev_gd (s1 := (39, 48, [.ref l0, .ref l1, .null, .int l3, .int l4, .int l5, .null, .null, .null], [.ref (sh.2.2.2 l0 4)], (sh, M, J))) f_39_45 rfl ?_
    exact ev_ca (cc := (decide ((sh.2.2.1 (sh.2.2.2 l0 4)).1 = 6) && true)) (s1 := (67, 0, [.ref (sh.2.2.2 l0 4), .null, .null], [], (sh, M, J))) (k := (39, 51, [.ref l0, .ref l1, .null, .int l3, .int l4, .int l5, .null, .null, .null], [])) f_39_48 rfl
  · refine ev_nx (s1 := (39, 21, [.ref l0, .ref l1, .null, .int l3, .int l4, .int l5, .null, .null, .null], [.ref l0], (sh, M, J))) f_39_20 rfl ?_
    refine ev_gd (s1 := (39, 24, [.ref l0, .ref l1, .null, .int l3, .int l4, .int l5, .null, .null, .null], [.ref (sh.2.2.2 l0 4)], (sh, M, J))) f_39_21 rfl ?_
    refine ev_nx (s1 := (39, 26, [.ref l0, .ref l1, .null, .int l3, .int l4, .int l5, .null, .null, .null], [.int l5, .ref (sh.2.2.2 l0 4)], (sh, M, J))) f_39_24 rfl ?_
    refine ev_nx (s1 := (39, 27, [.ref l0, .ref l1, .null, .int l3, .int l4, .int l5, .null, .null, .null], [.ref l0, .int l5, .ref (sh.2.2.2 l0 4)], (sh, M, J))) f_39_26 rfl ?_
    refine ev_gd (s1 := (39, 30, [.ref l0, .ref l1, .null, .int l3, .int l4, .int l5, .null, .null, .null], [.ref (sh.2.2.2 l0 2), .int l5, .ref (sh.2.2.2 l0 4)], (sh, M, J))) f_39_27 rfl ?_
    refine ev_nx (s1 := (39, 32, [.ref l0, .ref l1, .null, .int l3, .int l4, .int l5, .null, .null, .null], [.int l5, .ref (sh.2.2.2 l0 2), .int l5, .ref (sh.2.2.2 l0 4)], (sh, M, J))) f_39_30 rfl ?_
    exact ev_c1 (s1 := (129, 0, [.ref (sh.2.2.2 l0 2), .int l5], [], (sh, M, J))) (k := (39, 35, [.ref l0, .ref l1, .null, .int l3, .int l4, .int l5, .null, .null, .null], [.int l5, .ref (sh.2.2.2 l0 4)])) f_39_32 rfl
theorem b_Placing_baredUntilWhole_35 (sh : xSh) (M : Nat → Nat → Int32) (J : Nat → Nat → Int64) (l0 : Nat) (l1 : Nat) (l3 : Int32) (l4 : Int32) (l5 : Int32) (k0 : Int32) (k1 : Int32) (k2 : Nat) : ev (39, 35, [.ref l0, .ref l1, .null, .int l3, .int l4, .int l5, .null, .null, .null], [.int k0, .int k1, .ref k2], (sh, M, J)) = (bif (decide ((sh.2.2.1 k2).1 = 6) && true) then (ev (70, 0, [.ref k2, .int k1, .int k0], [], (sh, M, J))).bind (fun r => ev (39, 38, [.ref l0, .ref l1, .null, .int l3, .int l4, .int l5, .null, .null, .null], r.1.toList ++ [], r.2)) else none) := by
  exact ev_ca (cc := (decide ((sh.2.2.1 k2).1 = 6) && true)) (s1 := (70, 0, [.ref k2, .int k1, .int k0], [], (sh, M, J))) (k := (39, 38, [.ref l0, .ref l1, .null, .int l3, .int l4, .int l5, .null, .null, .null], [])) f_39_35 rfl
theorem b_Placing_baredUntilWhole_38 (sh : xSh) (M : Nat → Nat → Int32) (J : Nat → Nat → Int64) (l0 : Nat) (l1 : Nat) (l3 : Int32) (l4 : Int32) (l5 : Int32) : ev (39, 38, [.ref l0, .ref l1, .null, .int l3, .int l4, .int l5, .null, .null, .null], [], (sh, M, J)) = (ev (39, 11, [.ref l0, .ref l1, .null, .int l3, .int l4, .int (l5 + 1), .null, .null, .null], [], (sh, M, J))) := by
  refine ev_nx (s1 := (39, 41, [.ref l0, .ref l1, .null, .int l3, .int l4, .int (l5 + 1), .null, .null, .null], [], (sh, M, J))) f_39_38 rfl ?_
  refine ev_nx (s1 := (39, 11, [.ref l0, .ref l1, .null, .int l3, .int l4, .int (l5 + 1), .null, .null, .null], [], (sh, M, J))) f_39_41 rfl ?_
  exact rfl
theorem b_Placing_baredUntilWhole_51 (sh : xSh) (M : Nat → Nat → Int32) (J : Nat → Nat → Int64) (l0 : Nat) (l1 : Nat) (l3 : Int32) (l4 : Int32) (l5 : Int32) (k0 : Int32) : ev (39, 51, [.ref l0, .ref l1, .null, .int l3, .int l4, .int l5, .null, .null, .null], [.int k0], (sh, M, J)) = (bif decide ((sh.2.2.1 l0).1 = 4) then bif (decide ((sh.2.2.1 (sh.2.2.2 l0 4)).1 = 6) && true) then (ev (66, 0, [.ref (sh.2.2.2 l0 4), .int l3], [], (sh, M, J))).bind (fun r => ev (39, 61, [.ref l0, .ref l1, .null, .int l3, .int l4, .int k0, .null, .null, .null], r.1.toList ++ [], r.2)) else none else none) := by
  refine ev_nx (s1 := (39, 53, [.ref l0, .ref l1, .null, .int l3, .int l4, .int k0, .null, .null, .null], [], (sh, M, J))) f_39_51 rfl ?_
  refine ev_nx (s1 := (39, 54, [.ref l0, .ref l1, .null, .int l3, .int l4, .int k0, .null, .null, .null], [.ref l0], (sh, M, J))) f_39_53 rfl ?_
  refine ev_gd (s1 := (39, 57, [.ref l0, .ref l1, .null, .int l3, .int l4, .int k0, .null, .null, .null], [.ref (sh.2.2.2 l0 4)], (sh, M, J))) f_39_54 rfl ?_
  refine ev_nx (s1 := (39, 58, [.ref l0, .ref l1, .null, .int l3, .int l4, .int k0, .null, .null, .null], [.int l3, .ref (sh.2.2.2 l0 4)], (sh, M, J))) f_39_57 rfl ?_
  exact ev_ca (cc := (decide ((sh.2.2.1 (sh.2.2.2 l0 4)).1 = 6) && true)) (s1 := (66, 0, [.ref (sh.2.2.2 l0 4), .int l3], [], (sh, M, J))) (k := (39, 61, [.ref l0, .ref l1, .null, .int l3, .int l4, .int k0, .null, .null, .null], [])) f_39_58 rfl
theorem b_Placing_baredUntilWhole_61 (sh : xSh) (M : Nat → Nat → Int32) (J : Nat → Nat → Int64) (l0 : Nat) (l1 : Nat) (l3 : Int32) (l4 : Int32) (l5 : Int32) (k0 : Int32) : ev (39, 61, [.ref l0, .ref l1, .null, .int l3, .int l4, .int l5, .null, .null, .null], [.int k0], (sh, M, J)) = (ev (39, 66, [.ref l0, .ref l1, .null, .int l3, .int l4, .int l5, .int k0, .int 0, .null], [], (sh, M, J))) := by
  refine ev_nx (s1 := (39, 63, [.ref l0, .ref l1, .null, .int l3, .int l4, .int l5, .int k0, .null, .null], [], (sh, M, J))) f_39_61 rfl ?_
  refine ev_nx (s1 := (39, 64, [.ref l0, .ref l1, .null, .int l3, .int l4, .int l5, .int k0, .null, .null], [.int 0], (sh, M, J))) f_39_63 rfl ?_
  refine ev_nx (s1 := (39, 66, [.ref l0, .ref l1, .null, .int l3, .int l4, .int l5, .int k0, .int 0, .null], [], (sh, M, J))) f_39_64 rfl ?_
  exact rfl
theorem b_Placing_baredUntilWhole_66 (sh : xSh) (M : Nat → Nat → Int32) (J : Nat → Nat → Int64) (l0 : Nat) (l1 : Nat) (l3 : Int32) (l4 : Int32) (l5 : Int32) (l6 : Int32) (l7 : Int32) : ev (39, 66, [.ref l0, .ref l1, .null, .int l3, .int l4, .int l5, .int l6, .int l7, .null], [], (sh, M, J)) = (bif decide (l4 ≤ l7) then bif decide ((sh.2.2.1 l0).1 = 4) then bif (decide ((sh.2.2.1 (sh.2.2.2 l0 4)).1 = 6) && true) then (ev (59, 0, [.ref (sh.2.2.2 l0 4)], [], (sh, M, J))).bind (fun r => ev (39, 141, [.ref l0, .ref l1, .null, .int l3, .int l4, .int l5, .int l6, .int l7, .null], r.1.toList ++ [], r.2)) else none else none else bif decide ((sh.2.2.1 l0).1 = 4) then bif (decide ((sh.2.2.1 (sh.2.2.2 l0 4)).1 = 6) && true) then (ev (59, 0, [.ref (sh.2.2.2 l0 4)], [], (sh, M, J))).bind (fun r => ev (39, 80, [.ref l0, .ref l1, .null, .int l3, .int l4, .int l5, .int l6, .int l7, .null], r.1.toList ++ [], r.2)) else none else none) := by
  refine ev_nx (s1 := (39, 68, [.ref l0, .ref l1, .null, .int l3, .int l4, .int l5, .int l6, .int l7, .null], [.int l7], (sh, M, J))) f_39_66 rfl ?_
  refine ev_nx (s1 := (39, 70, [.ref l0, .ref l1, .null, .int l3, .int l4, .int l5, .int l6, .int l7, .null], [.int l4, .int l7], (sh, M, J))) f_39_68 rfl ?_
  refine ev_br (s1 := (39, 134, [.ref l0, .ref l1, .null, .int l3, .int l4, .int l5, .int l6, .int l7, .null], [], (sh, M, J))) (s2 := (39, 73, [.ref l0, .ref l1, .null, .int l3, .int l4, .int l5, .int l6, .int l7, .null], [], (sh, M, J))) f_39_70 rfl ?_ ?_
  · refine ev_nx (s1 := (39, 135, [.ref l0, .ref l1, .null, .int l3, .int l4, .int l5, .int l6, .int l7, .null], [.ref l0], (sh, M, J))) f_39_134 rfl ?_
    refine ev_gd (s1 := (39, 138, [.ref l0, .ref l1, .null, .int l3, .int l4, .int l5, .int l6, .int l7, .null], [.ref (sh.2.2.2 l0 4)], (sh, M, J))) f_39_135 rfl ?_
    exact ev_ca (cc := (decide ((sh.2.2.1 (sh.2.2.2 l0 4)).1 = 6) && true)) (s1 := (59, 0, [.ref (sh.2.2.2 l0 4)], [], (sh, M, J))) (k := (39, 141, [.ref l0, .ref l1, .null, .int l3, .int l4, .int l5, .int l6, .int l7, .null], [])) f_39_138 rfl
  · refine ev_nx (s1 := (39, 74, [.ref l0, .ref l1, .null, .int l3, .int l4, .int l5, .int l6, .int l7, .null], [.ref l0], (sh, M, J))) f_39_73 rfl ?_
    refine ev_gd (s1 := (39, 77, [.ref l0, .ref l1, .null, .int l3, .int l4, .int l5, .int l6, .int l7, .null], [.ref (sh.2.2.2 l0 4)], (sh, M, J))) f_39_74 rfl ?_
    exact ev_ca (cc := (decide ((sh.2.2.1 (sh.2.2.2 l0 4)).1 = 6) && true)) (s1 := (59, 0, [.ref (sh.2.2.2 l0 4)], [], (sh, M, J))) (k := (39, 80, [.ref l0, .ref l1, .null, .int l3, .int l4, .int l5, .int l6, .int l7, .null], [])) f_39_77 rfl
theorem b_Placing_baredUntilWhole_80 (sh : xSh) (M : Nat → Nat → Int32) (J : Nat → Nat → Int64) (l0 : Nat) (l1 : Nat) (l3 : Int32) (l4 : Int32) (l5 : Int32) (l6 : Int32) (l7 : Int32) (k0 : Int32) : ev (39, 80, [.ref l0, .ref l1, .null, .int l3, .int l4, .int l5, .int l6, .int l7, .null], [.int k0], (sh, M, J)) = (bif decide (k0 = 0) then bif decide ((sh.2.2.1 l0).1 = 4) then bif (decide ((sh.2.2.1 (sh.2.2.2 l0 4)).1 = 6) && true) then (ev (59, 0, [.ref (sh.2.2.2 l0 4)], [], (sh, M, J))).bind (fun r => ev (39, 141, [.ref l0, .ref l1, .null, .int l3, .int l4, .int l5, .int l6, .int l7, .null], r.1.toList ++ [], r.2)) else none else none else bif decide ((sh.2.2.1 l0).1 = 4) then bif (decide ((sh.2.2.1 (sh.2.2.2 l0 4)).1 = 6) && true) then (ev (59, 0, [.ref (sh.2.2.2 l0 4)], [], (sh, M, J))).bind (fun r => ev (39, 90, [.ref l0, .ref l1, .null, .int l3, .int l4, .int l5, .int l6, .int l7, .null], r.1.toList ++ [], r.2)) else none else none) := by
  refine ev_br (s1 := (39, 134, [.ref l0, .ref l1, .null, .int l3, .int l4, .int l5, .int l6, .int l7, .null], [], (sh, M, J))) (s2 := (39, 83, [.ref l0, .ref l1, .null, .int l3, .int l4, .int l5, .int l6, .int l7, .null], [], (sh, M, J))) f_39_80 rfl ?_ ?_
  · refine ev_nx (s1 := (39, 135, [.ref l0, .ref l1, .null, .int l3, .int l4, .int l5, .int l6, .int l7, .null], [.ref l0], (sh, M, J))) f_39_134 rfl ?_
    refine ev_gd (s1 := (39, 138, [.ref l0, .ref l1, .null, .int l3, .int l4, .int l5, .int l6, .int l7, .null], [.ref (sh.2.2.2 l0 4)], (sh, M, J))) f_39_135 rfl ?_
    exact ev_ca (cc := (decide ((sh.2.2.1 (sh.2.2.2 l0 4)).1 = 6) && true)) (s1 := (59, 0, [.ref (sh.2.2.2 l0 4)], [], (sh, M, J))) (k := (39, 141, [.ref l0, .ref l1, .null, .int l3, .int l4, .int l5, .int l6, .int l7, .null], [])) f_39_138 rfl
  · refine ev_nx (s1 := (39, 84, [.ref l0, .ref l1, .null, .int l3, .int l4, .int l5, .int l6, .int l7, .null], [.ref l0], (sh, M, J))) f_39_83 rfl ?_
    refine ev_gd (s1 := (39, 87, [.ref l0, .ref l1, .null, .int l3, .int l4, .int l5, .int l6, .int l7, .null], [.ref (sh.2.2.2 l0 4)], (sh, M, J))) f_39_84 rfl ?_
    exact ev_ca (cc := (decide ((sh.2.2.1 (sh.2.2.2 l0 4)).1 = 6) && true)) (s1 := (59, 0, [.ref (sh.2.2.2 l0 4)], [], (sh, M, J))) (k := (39, 90, [.ref l0, .ref l1, .null, .int l3, .int l4, .int l5, .int l6, .int l7, .null], [])) f_39_87 rfl
theorem b_Placing_baredUntilWhole_90 (sh : xSh) (M : Nat → Nat → Int32) (J : Nat → Nat → Int64) (l0 : Nat) (l1 : Nat) (l3 : Int32) (l4 : Int32) (l5 : Int32) (l6 : Int32) (l7 : Int32) (k0 : Int32) : ev (39, 90, [.ref l0, .ref l1, .null, .int l3, .int l4, .int l5, .int l6, .int l7, .null], [.int k0], (sh, M, J)) = (bif decide ((sh.2.2.1 l0).1 = 4) then bif (decide ((sh.2.2.1 (sh.2.2.2 l0 4)).1 = 6) && true) then (ev (78, 0, [.ref (sh.2.2.2 l0 4), .ref l1, .null, .null], [], (sh, M, J))).bind (fun r => ev (39, 100, [.ref l0, .ref l1, .null, .int l3, .int l4, .int l5, .int l6, .int l7, .int k0], r.1.toList ++ [], r.2)) else none else none) := by
  refine ev_nx (s1 := (39, 92, [.ref l0, .ref l1, .null, .int l3, .int l4, .int l5, .int l6, .int l7, .int k0], [], (sh, M, J))) f_39_90 rfl ?_
  refine ev_nx (s1 := (39, 93, [.ref l0, .ref l1, .null, .int l3, .int l4, .int l5, .int l6, .int l7, .int k0], [.ref l0], (sh, M, J))) f_39_92 rfl ?_
  refine ev_gd (s1 := (39, 96, [.ref l0, .ref l1, .null, .int l3, .int l4, .int l5, .int l6, .int l7, .int k0], [.ref (sh.2.2.2 l0 4)], (sh, M, J))) f_39_93 rfl ?_
  refine ev_nx (s1 := (39, 97, [.ref l0, .ref l1, .null, .int l3, .int l4, .int l5, .int l6, .int l7, .int k0], [.ref l1, .ref (sh.2.2.2 l0 4)], (sh, M, J))) f_39_96 rfl ?_
  exact ev_ca (cc := (decide ((sh.2.2.1 (sh.2.2.2 l0 4)).1 = 6) && true)) (s1 := (78, 0, [.ref (sh.2.2.2 l0 4), .ref l1, .null, .null], [], (sh, M, J))) (k := (39, 100, [.ref l0, .ref l1, .null, .int l3, .int l4, .int l5, .int l6, .int l7, .int k0], [])) f_39_97 rfl
theorem b_Placing_baredUntilWhole_100 (sh : xSh) (M : Nat → Nat → Int32) (J : Nat → Nat → Int64) (l0 : Nat) (l1 : Nat) (l3 : Int32) (l4 : Int32) (l5 : Int32) (l6 : Int32) (l7 : Int32) (l8 : Int32) (k0 : Int32) : ev (39, 100, [.ref l0, .ref l1, .null, .int l3, .int l4, .int l5, .int l6, .int l7, .int l8], [.int k0], (sh, M, J)) = (bif decide ((sh.2.2.1 l0).1 = 4) then bif (decide ((sh.2.2.1 (sh.2.2.2 l0 4)).1 = 6) && true) then (ev (59, 0, [.ref (sh.2.2.2 l0 4)], [], (sh, M, J))).bind (fun r => ev (39, 108, [.ref l0, .ref l1, .null, .int l3, .int l4, .int l5, .int l6, .int l7, .int l8], r.1.toList ++ [], r.2)) else none else none) := by
  refine ev_nx (s1 := (39, 101, [.ref l0, .ref l1, .null, .int l3, .int l4, .int l5, .int l6, .int l7, .int l8], [], (sh, M, J))) f_39_100 rfl ?_
  refine ev_nx (s1 := (39, 102, [.ref l0, .ref l1, .null, .int l3, .int l4, .int l5, .int l6, .int l7, .int l8], [.ref l0], (sh, M, J))) f_39_101 rfl ?_
  refine ev_gd (s1 := (39, 105, [.ref l0, .ref l1, .null, .int l3, .int l4, .int l5, .int l6, .int l7, .int l8], [.ref (sh.2.2.2 l0 4)], (sh, M, J))) f_39_102 rfl ?_
  exact ev_ca (cc := (decide ((sh.2.2.1 (sh.2.2.2 l0 4)).1 = 6) && true)) (s1 := (59, 0, [.ref (sh.2.2.2 l0 4)], [], (sh, M, J))) (k := (39, 108, [.ref l0, .ref l1, .null, .int l3, .int l4, .int l5, .int l6, .int l7, .int l8], [])) f_39_105 rfl
theorem b_Placing_baredUntilWhole_108 (sh : xSh) (M : Nat → Nat → Int32) (J : Nat → Nat → Int64) (l0 : Nat) (l1 : Nat) (l3 : Int32) (l4 : Int32) (l5 : Int32) (l6 : Int32) (l7 : Int32) (l8 : Int32) (k0 : Int32) : ev (39, 108, [.ref l0, .ref l1, .null, .int l3, .int l4, .int l5, .int l6, .int l7, .int l8], [.int k0], (sh, M, J)) = (bif decide (k0 = l8) then some (some (.int (-1)), (sh, M, J)) else bif decide ((sh.2.2.1 l0).1 = 4) then bif (decide ((sh.2.2.1 (sh.2.2.2 l0 4)).1 = 6) && true) then (ev (66, 0, [.ref (sh.2.2.2 l0 4), .int l3], [], (sh, M, J))).bind (fun r => ev (39, 121, [.ref l0, .ref l1, .null, .int l3, .int l4, .int l5, .int l6, .int l7, .int l8], r.1.toList ++ [], r.2)) else none else none) := by
  refine ev_nx (s1 := (39, 110, [.ref l0, .ref l1, .null, .int l3, .int l4, .int l5, .int l6, .int l7, .int l8], [.int l8, .int k0], (sh, M, J))) f_39_108 rfl ?_
  refine ev_br (s1 := (39, 126, [.ref l0, .ref l1, .null, .int l3, .int l4, .int l5, .int l6, .int l7, .int l8], [], (sh, M, J))) (s2 := (39, 113, [.ref l0, .ref l1, .null, .int l3, .int l4, .int l5, .int l6, .int l7, .int l8], [], (sh, M, J))) f_39_110 rfl ?_ ?_
  · refine ev_nx (s1 := (39, 127, [.ref l0, .ref l1, .null, .int l3, .int l4, .int l5, .int l6, .int l7, .int l8], [.int (-1)], (sh, M, J))) f_39_126 rfl ?_
    exact ev_r1 f_39_127 rfl
  · refine ev_nx (s1 := (39, 114, [.ref l0, .ref l1, .null, .int l3, .int l4, .int l5, .int l6, .int l7, .int l8], [.ref l0], (sh, M, J))) f_39_113 rfl ?_
    refine ev_gd (s1 := (39, 117, [.ref l0, .ref l1, .null, .int l3, .int l4, .int l5, .int l6, .int l7, .int l8], [.ref (sh.2.2.2 l0 4)], (sh, M, J))) f_39_114 rfl ?_
    refine ev_nx (s1 := (39, 118, [.ref l0, .ref l1, .null, .int l3, .int l4, .int l5, .int l6, .int l7, .int l8], [.int l3, .ref (sh.2.2.2 l0 4)], (sh, M, J))) f_39_117 rfl ?_
    exact ev_ca (cc := (decide ((sh.2.2.1 (sh.2.2.2 l0 4)).1 = 6) && true)) (s1 := (66, 0, [.ref (sh.2.2.2 l0 4), .int l3], [], (sh, M, J))) (k := (39, 121, [.ref l0, .ref l1, .null, .int l3, .int l4, .int l5, .int l6, .int l7, .int l8], [])) f_39_118 rfl
theorem b_Placing_baredUntilWhole_121 (sh : xSh) (M : Nat → Nat → Int32) (J : Nat → Nat → Int64) (l0 : Nat) (l1 : Nat) (l3 : Int32) (l4 : Int32) (l5 : Int32) (l6 : Int32) (l7 : Int32) (l8 : Int32) (k0 : Int32) : ev (39, 121, [.ref l0, .ref l1, .null, .int l3, .int l4, .int l5, .int l6, .int l7, .int l8], [.int k0], (sh, M, J)) = (bif decide (k0 = l6) then ev (39, 66, [.ref l0, .ref l1, .null, .int l3, .int l4, .int l5, .int l6, .int (l7 + 1), .null], [], (sh, M, J)) else some (some (.int (-1)), (sh, M, J))) := by
  refine ev_nx (s1 := (39, 123, [.ref l0, .ref l1, .null, .int l3, .int l4, .int l5, .int l6, .int l7, .int l8], [.int l6, .int k0], (sh, M, J))) f_39_121 rfl ?_
  refine ev_br (s1 := (39, 128, [.ref l0, .ref l1, .null, .int l3, .int l4, .int l5, .int l6, .int l7, .int l8], [], (sh, M, J))) (s2 := (39, 126, [.ref l0, .ref l1, .null, .int l3, .int l4, .int l5, .int l6, .int l7, .int l8], [], (sh, M, J))) f_39_123 rfl ?_ ?_
  · refine ev_nx (s1 := (39, 131, [.ref l0, .ref l1, .null, .int l3, .int l4, .int l5, .int l6, .int (l7 + 1), .int l8], [], (sh, M, J))) f_39_128 rfl ?_
    refine ev_nx (s1 := (39, 66, [.ref l0, .ref l1, .null, .int l3, .int l4, .int l5, .int l6, .int (l7 + 1), .int l8], [], (sh, M, J))) f_39_131 rfl ?_
    exact (ev_kill hd_39_66).symm
  · refine ev_nx (s1 := (39, 127, [.ref l0, .ref l1, .null, .int l3, .int l4, .int l5, .int l6, .int l7, .int l8], [.int (-1)], (sh, M, J))) f_39_126 rfl ?_
    exact ev_r1 f_39_127 rfl
theorem b_Placing_baredUntilWhole_141 (sh : xSh) (M : Nat → Nat → Int32) (J : Nat → Nat → Int64) (l0 : Nat) (l1 : Nat) (l3 : Int32) (l4 : Int32) (l5 : Int32) (l6 : Int32) (l7 : Int32) (k0 : Int32) : ev (39, 141, [.ref l0, .ref l1, .null, .int l3, .int l4, .int l5, .int l6, .int l7, .null], [.int k0], (sh, M, J)) = (bif !decide (k0 = 0) then some (some (.int (-1)), (sh, M, J)) else bif decide ((sh.2.2.1 l0).1 = 4) then bif (decide ((sh.2.2.1 (sh.2.2.2 l0 4)).1 = 6) && true) then (ev (67, 0, [.ref (sh.2.2.2 l0 4), .null, .null], [], (sh, M, J))).bind (fun r => ev (39, 151, [.ref l0, .ref l1, .null, .int l3, .int l4, .int l5, .int l6, .int l7, .null], r.1.toList ++ [], r.2)) else none else none) := by
  refine ev_br (s1 := (39, 157, [.ref l0, .ref l1, .null, .int l3, .int l4, .int l5, .int l6, .int l7, .null], [], (sh, M, J))) (s2 := (39, 144, [.ref l0, .ref l1, .null, .int l3, .int l4, .int l5, .int l6, .int l7, .null], [], (sh, M, J))) f_39_141 rfl ?_ ?_
  · refine ev_nx (s1 := (39, 158, [.ref l0, .ref l1, .null, .int l3, .int l4, .int l5, .int l6, .int l7, .null], [.int (-1)], (sh, M, J))) f_39_157 rfl ?_
    exact ev_r1 f_39_158 rfl
  · refine ev_nx (s1 := (39, 145, [.ref l0, .ref l1, .null, .int l3, .int l4, .int l5, .int l6, .int l7, .null], [.ref l0], (sh, M, J))) f_39_144 rfl ?_
    refine ev_gd (s1 := (39, 148, [.ref l0, .ref l1, .null, .int l3, .int l4, .int l5, .int l6, .int l7, .null], [.ref (sh.2.2.2 l0 4)], (sh, M, J))) f_39_145 rfl ?_
    exact ev_ca (cc := (decide ((sh.2.2.1 (sh.2.2.2 l0 4)).1 = 6) && true)) (s1 := (67, 0, [.ref (sh.2.2.2 l0 4), .null, .null], [], (sh, M, J))) (k := (39, 151, [.ref l0, .ref l1, .null, .int l3, .int l4, .int l5, .int l6, .int l7, .null], [])) f_39_148 rfl
theorem b_Placing_baredUntilWhole_151 (sh : xSh) (M : Nat → Nat → Int32) (J : Nat → Nat → Int64) (l0 : Nat) (l1 : Nat) (l3 : Int32) (l4 : Int32) (l5 : Int32) (l6 : Int32) (l7 : Int32) (k0 : Int32) : ev (39, 151, [.ref l0, .ref l1, .null, .int l3, .int l4, .int l5, .int l6, .int l7, .null], [.int k0], (sh, M, J)) = (some (some (.int (k0 - l5)), (sh, M, J))) := by
  refine ev_nx (s1 := (39, 153, [.ref l0, .ref l1, .null, .int l3, .int l4, .int l5, .int l6, .int l7, .null], [.int l5, .int k0], (sh, M, J))) f_39_151 rfl ?_
  refine ev_nx (s1 := (39, 154, [.ref l0, .ref l1, .null, .int l3, .int l4, .int l5, .int l6, .int l7, .null], [.int (k0 - l5)], (sh, M, J))) f_39_153 rfl ?_
  refine ev_nx (s1 := (39, 158, [.ref l0, .ref l1, .null, .int l3, .int l4, .int l5, .int l6, .int l7, .null], [.int (k0 - l5)], (sh, M, J))) f_39_154 rfl ?_
  exact ev_r1 f_39_158 rfl
theorem f_40_0 : xfind (xnth xTs 40) 0 = some (0, .aload_n 1, 1, (0, 0, 0, 0), .null, [], 0, 0, []) := rfl
theorem f_40_1 : xfind (xnth xTs 40) 1 = some (1, .getfield 85, 3, (1, 2, 0, 0), .null, [], 109, 0, []) := rfl
theorem f_40_4 : xfind (xnth xTs 40) 4 = some (4, .iconst 1, 1, (0, 0, 0, 0), (.int 1), [], 0, 0, []) := rfl
theorem f_40_5 : xfind (xnth xTs 40) 5 = some (5, .isub, 1, (0, 0, 0, 0), .null, [], 0, 0, []) := rfl
theorem f_40_6 : xfind (xnth xTs 40) 6 = some (6, .istore_n 2, 1, (0, 0, 0, 0), .null, [], 0, 0, []) := rfl
theorem f_40_7 : xfind (xnth xTs 40) 7 = some (7, .iload_n 2, 1, (0, 0, 0, 0), .null, [], 0, 1, [3]) := rfl
theorem f_40_8 : xfind (xnth xTs 40) 8 = some (8, .ifCond .lt 47, 3, (0, 0, 0, 0), .null, [], 0, 0, []) := rfl
theorem f_40_11 : xfind (xnth xTs 40) 11 = some (11, .aload_n 0, 1, (0, 0, 0, 0), .null, [], 0, 0, []) := rfl
theorem f_40_12 : xfind (xnth xTs 40) 12 = some (12, .getfield 19, 3, (4, 2, 1, 0), .null, [], 258, 0, []) := rfl
theorem f_40_15 : xfind (xnth xTs 40) 15 = some (15, .iload_n 2, 1, (0, 0, 0, 0), .null, [], 0, 0, []) := rfl
theorem f_40_16 : xfind (xnth xTs 40) 16 = some (16, .invokestatic 81, 3, (129, 2, 8, 2), .null, [], 722, 0, []) := rfl
theorem f_40_19 : xfind (xnth xTs 40) 19 = some (19, .iconst 1, 1, (0, 0, 0, 0), (.int 1), [], 0, 0, []) := rfl
theorem f_40_20 : xfind (xnth xTs 40) 20 = some (20, .iadd, 1, (0, 0, 0, 0), .null, [], 0, 0, []) := rfl
theorem f_40_21 : xfind (xnth xTs 40) 21 = some (21, .istore_n 3, 1, (0, 0, 0, 0), .null, [], 0, 0, []) := rfl
theorem f_40_22 : xfind (xnth xTs 40) 22 = some (22, .iload_n 3, 1, (0, 0, 0, 0), .null, [], 0, 0, []) := rfl
theorem f_40_23 : xfind (xnth xTs 40) 23 = some (23, .aload_n 1, 1, (0, 0, 0, 0), .null, [], 0, 0, []) := rfl
theorem f_40_24 : xfind (xnth xTs 40) 24 = some (24, .getfield 64, 3, (1, 0, 0, 0), .null, [], 98, 0, []) := rfl
theorem f_40_27 : xfind (xnth xTs 40) 27 = some (27, .if_icmp .ge 13, 3, (0, 0, 0, 0), .null, [], 0, 0, []) := rfl
theorem f_40_30 : xfind (xnth xTs 40) 30 = some (30, .aload_n 0, 1, (0, 0, 0, 0), .null, [], 0, 0, []) := rfl
theorem f_40_31 : xfind (xnth xTs 40) 31 = some (31, .getfield 19, 3, (4, 2, 1, 0), .null, [], 258, 0, []) := rfl
theorem f_40_34 : xfind (xnth xTs 40) 34 = some (34, .iload_n 2, 1, (0, 0, 0, 0), .null, [], 0, 0, []) := rfl
theorem f_40_35 : xfind (xnth xTs 40) 35 = some (35, .iload_n 3, 1, (0, 0, 0, 0), .null, [], 0, 0, []) := rfl
theorem f_40_36 : xfind (xnth xTs 40) 36 = some (36, .invokestatic 32, 3, (130, 3, 8, 3), .null, [], 706, 0, []) := rfl
theorem f_40_39 : xfind (xnth xTs 40) 39 = some (39, .return_, 1, (0, 0, 0, 0), .null, [], 0, 0, []) := rfl
theorem f_40_40 : xfind (xnth xTs 40) 40 = some (40, .aload_n 0, 1, (0, 0, 0, 0), .null, [], 0, 0, []) := rfl
theorem f_40_41 : xfind (xnth xTs 40) 41 = some (41, .getfield 19, 3, (4, 2, 1, 0), .null, [], 258, 0, []) := rfl
theorem f_40_44 : xfind (xnth xTs 40) 44 = some (44, .iload_n 2, 1, (0, 0, 0, 0), .null, [], 0, 0, []) := rfl
theorem f_40_45 : xfind (xnth xTs 40) 45 = some (45, .iconst 0, 1, (0, 0, 0, 0), (.int 0), [], 0, 0, []) := rfl
theorem f_40_46 : xfind (xnth xTs 40) 46 = some (46, .invokestatic 32, 3, (130, 3, 8, 3), .null, [], 706, 0, []) := rfl
theorem f_40_49 : xfind (xnth xTs 40) 49 = some (49, .iinc 2 (-1), 3, (0, 0, 0, 0), .null, [], 0, 0, []) := rfl
theorem f_40_52 : xfind (xnth xTs 40) 52 = some (52, .goto (-45), 3, (0, 0, 0, 0), .null, [], 0, 0, []) := rfl
theorem f_40_55 : xfind (xnth xTs 40) 55 = some (55, .return_, 1, (0, 0, 0, 0), .null, [], 0, 0, []) := rfl
theorem hd_40_7 : xhead 40 7 = some [3] := rfl
theorem b_Placing_advance_0 (sh : xSh) (M : Nat → Nat → Int32) (J : Nat → Nat → Int64) (l0 : Nat) (l1 : Nat) : ev (40, 0, [.ref l0, .ref l1, .null, .null], [], (sh, M, J)) = (bif decide ((sh.2.2.1 l1).1 = 1) then ev (40, 7, [.ref l0, .ref l1, .int ((M l1 2) - 1), .null], [], (sh, M, J)) else none) := by
  refine ev_nx (s1 := (40, 1, [.ref l0, .ref l1, .null, .null], [.ref l1], (sh, M, J))) f_40_0 rfl ?_
  refine ev_gd (s1 := (40, 4, [.ref l0, .ref l1, .null, .null], [.int (M l1 2)], (sh, M, J))) f_40_1 rfl ?_
  refine ev_nx (s1 := (40, 5, [.ref l0, .ref l1, .null, .null], [.int 1, .int (M l1 2)], (sh, M, J))) f_40_4 rfl ?_
  refine ev_nx (s1 := (40, 6, [.ref l0, .ref l1, .null, .null], [.int ((M l1 2) - 1)], (sh, M, J))) f_40_5 rfl ?_
  refine ev_nx (s1 := (40, 7, [.ref l0, .ref l1, .int ((M l1 2) - 1), .null], [], (sh, M, J))) f_40_6 rfl ?_
  exact rfl
theorem b_Placing_advance_7 (sh : xSh) (M : Nat → Nat → Int32) (J : Nat → Nat → Int64) (l0 : Nat) (l1 : Nat) (l2 : Int32) : ev (40, 7, [.ref l0, .ref l1, .int l2, .null], [], (sh, M, J)) = (bif decide (l2 < 0) then some (none, (sh, M, J)) else bif decide ((sh.2.2.1 l0).1 = 4) then (ev (129, 0, [.ref (sh.2.2.2 l0 2), .int l2], [], (sh, M, J))).bind (fun r => ev (40, 19, [.ref l0, .ref l1, .int l2, .null], r.1.toList ++ [], r.2)) else none) := by
  refine ev_nx (s1 := (40, 8, [.ref l0, .ref l1, .int l2, .null], [.int l2], (sh, M, J))) f_40_7 rfl ?_
  refine ev_br (s1 := (40, 55, [.ref l0, .ref l1, .int l2, .null], [], (sh, M, J))) (s2 := (40, 11, [.ref l0, .ref l1, .int l2, .null], [], (sh, M, J))) f_40_8 rfl ?_ ?_
  · exact ev_r1 f_40_55 rfl
  · refine ev_nx (s1 := (40, 12, [.ref l0, .ref l1, .int l2, .null], [.ref l0], (sh, M, J))) f_40_11 rfl ?_
    refine ev_gd (s1 := (40, 15, [.ref l0, .ref l1, .int l2, .null], [.ref (sh.2.2.2 l0 2)], (sh, M, J))) f_40_12 rfl ?_
    refine ev_nx (s1 := (40, 16, [.ref l0, .ref l1, .int l2, .null], [.int l2, .ref (sh.2.2.2 l0 2)], (sh, M, J))) f_40_15 rfl ?_
    exact ev_c1 (s1 := (129, 0, [.ref (sh.2.2.2 l0 2), .int l2], [], (sh, M, J))) (k := (40, 19, [.ref l0, .ref l1, .int l2, .null], [])) f_40_16 rfl
theorem b_Placing_advance_19 (sh : xSh) (M : Nat → Nat → Int32) (J : Nat → Nat → Int64) (l0 : Nat) (l1 : Nat) (l2 : Int32) (k0 : Int32) : ev (40, 19, [.ref l0, .ref l1, .int l2, .null], [.int k0], (sh, M, J)) = (bif decide ((sh.2.2.1 l1).1 = 1) then bif decide ((M l1 0) ≤ (k0 + 1)) then bif decide ((sh.2.2.1 l0).1 = 4) then (ev (130, 0, [.ref (sh.2.2.2 l0 2), .int l2, .int 0], [], (sh, M, J))).bind (fun r => ev (40, 49, [.ref l0, .ref l1, .int l2, .int (k0 + 1)], r.1.toList ++ [], r.2)) else none else bif decide ((sh.2.2.1 l0).1 = 4) then (ev (130, 0, [.ref (sh.2.2.2 l0 2), .int l2, .int (k0 + 1)], [], (sh, M, J))).bind (fun r => ev (40, 39, [.ref l0, .ref l1, .int l2, .int (k0 + 1)], r.1.toList ++ [], r.2)) else none else none) := by
  refine ev_nx (s1 := (40, 20, [.ref l0, .ref l1, .int l2, .null], [.int 1, .int k0], (sh, M, J))) f_40_19 rfl ?_
  refine ev_nx (s1 := (40, 21, [.ref l0, .ref l1, .int l2, .null], [.int (k0 + 1)], (sh, M, J))) f_40_20 rfl ?_
  refine ev_nx (s1 := (40, 22, [.ref l0, .ref l1, .int l2, .int (k0 + 1)], [], (sh, M, J))) f_40_21 rfl ?_
  refine ev_nx (s1 := (40, 23, [.ref l0, .ref l1, .int l2, .int (k0 + 1)], [.int (k0 + 1)], (sh, M, J))) f_40_22 rfl ?_
  refine ev_nx (s1 := (40, 24, [.ref l0, .ref l1, .int l2, .int (k0 + 1)], [.ref l1, .int (k0 + 1)], (sh, M, J))) f_40_23 rfl ?_
  refine ev_gd (s1 := (40, 27, [.ref l0, .ref l1, .int l2, .int (k0 + 1)], [.int (M l1 0), .int (k0 + 1)], (sh, M, J))) f_40_24 rfl ?_
  refine ev_br (s1 := (40, 40, [.ref l0, .ref l1, .int l2, .int (k0 + 1)], [], (sh, M, J))) (s2 := (40, 30, [.ref l0, .ref l1, .int l2, .int (k0 + 1)], [], (sh, M, J))) f_40_27 rfl ?_ ?_
  · refine ev_nx (s1 := (40, 41, [.ref l0, .ref l1, .int l2, .int (k0 + 1)], [.ref l0], (sh, M, J))) f_40_40 rfl ?_
    refine ev_gd (s1 := (40, 44, [.ref l0, .ref l1, .int l2, .int (k0 + 1)], [.ref (sh.2.2.2 l0 2)], (sh, M, J))) f_40_41 rfl ?_
    refine ev_nx (s1 := (40, 45, [.ref l0, .ref l1, .int l2, .int (k0 + 1)], [.int l2, .ref (sh.2.2.2 l0 2)], (sh, M, J))) f_40_44 rfl ?_
    refine ev_nx (s1 := (40, 46, [.ref l0, .ref l1, .int l2, .int (k0 + 1)], [.int 0, .int l2, .ref (sh.2.2.2 l0 2)], (sh, M, J))) f_40_45 rfl ?_
    exact ev_c1 (s1 := (130, 0, [.ref (sh.2.2.2 l0 2), .int l2, .int 0], [], (sh, M, J))) (k := (40, 49, [.ref l0, .ref l1, .int l2, .int (k0 + 1)], [])) f_40_46 rfl
  · refine ev_nx (s1 := (40, 31, [.ref l0, .ref l1, .int l2, .int (k0 + 1)], [.ref l0], (sh, M, J))) f_40_30 rfl ?_
    refine ev_gd (s1 := (40, 34, [.ref l0, .ref l1, .int l2, .int (k0 + 1)], [.ref (sh.2.2.2 l0 2)], (sh, M, J))) f_40_31 rfl ?_
    refine ev_nx (s1 := (40, 35, [.ref l0, .ref l1, .int l2, .int (k0 + 1)], [.int l2, .ref (sh.2.2.2 l0 2)], (sh, M, J))) f_40_34 rfl ?_
    refine ev_nx (s1 := (40, 36, [.ref l0, .ref l1, .int l2, .int (k0 + 1)], [.int (k0 + 1), .int l2, .ref (sh.2.2.2 l0 2)], (sh, M, J))) f_40_35 rfl ?_
    exact ev_c1 (s1 := (130, 0, [.ref (sh.2.2.2 l0 2), .int l2, .int (k0 + 1)], [], (sh, M, J))) (k := (40, 39, [.ref l0, .ref l1, .int l2, .int (k0 + 1)], [])) f_40_36 rfl
theorem b_Placing_advance_39 (sh : xSh) (M : Nat → Nat → Int32) (J : Nat → Nat → Int64) (l0 : Nat) (l1 : Nat) (l2 : Int32) (l3 : Int32) : ev (40, 39, [.ref l0, .ref l1, .int l2, .int l3], [], (sh, M, J)) = (some (none, (sh, M, J))) := by
  exact ev_r1 f_40_39 rfl
theorem b_Placing_advance_49 (sh : xSh) (M : Nat → Nat → Int32) (J : Nat → Nat → Int64) (l0 : Nat) (l1 : Nat) (l2 : Int32) (l3 : Int32) : ev (40, 49, [.ref l0, .ref l1, .int l2, .int l3], [], (sh, M, J)) = (ev (40, 7, [.ref l0, .ref l1, .int (l2 + (-1)), .null], [], (sh, M, J))) := by
  refine ev_nx (s1 := (40, 52, [.ref l0, .ref l1, .int (l2 + (-1)), .int l3], [], (sh, M, J))) f_40_49 rfl ?_
  refine ev_nx (s1 := (40, 7, [.ref l0, .ref l1, .int (l2 + (-1)), .int l3], [], (sh, M, J))) f_40_52 rfl ?_
  exact (ev_kill hd_40_7).symm
theorem f_42_0 : xfind (xnth xTs 42) 0 = some (0, .aload_n 0, 1, (0, 0, 0, 0), .null, [], 0, 0, []) := rfl
theorem f_42_1 : xfind (xnth xTs 42) 1 = some (1, .getfield 25, 3, (5, 2, 0, 0), .null, [], 158, 0, []) := rfl
theorem f_42_4 : xfind (xnth xTs 42) 4 = some (4, .sipush 240, 3, (0, 0, 0, 0), (.int 240), [], 0, 0, []) := rfl
theorem f_42_7 : xfind (xnth xTs 42) 7 = some (7, .if_icmp .lt 5, 3, (0, 0, 0, 0), .null, [], 0, 0, []) := rfl
theorem f_42_10 : xfind (xnth xTs 42) 10 = some (10, .iconst 0, 1, (0, 0, 0, 0), (.int 0), [], 0, 0, []) := rfl
theorem f_42_11 : xfind (xnth xTs 42) 11 = some (11, .ireturn, 1, (1, 0, 0, 0), .null, [], 0, 0, []) := rfl
theorem f_42_12 : xfind (xnth xTs 42) 12 = some (12, .aload_n 0, 1, (0, 0, 0, 0), .null, [], 0, 0, []) := rfl
theorem f_42_13 : xfind (xnth xTs 42) 13 = some (13, .getfield 32, 3, (5, 4, 1, 0), .null, [], 162, 0, []) := rfl
theorem f_42_16 : xfind (xnth xTs 42) 16 = some (16, .aload_n 0, 1, (0, 0, 0, 0), .null, [], 0, 0, []) := rfl
theorem f_42_17 : xfind (xnth xTs 42) 17 = some (17, .getfield 25, 3, (5, 2, 0, 0), .null, [], 158, 0, []) := rfl
theorem f_42_20 : xfind (xnth xTs 42) 20 = some (20, .iload_n 1, 1, (0, 0, 0, 0), .null, [], 0, 0, []) := rfl
theorem f_42_21 : xfind (xnth xTs 42) 21 = some (21, .invokestatic 48, 3, (130, 3, 8, 3), .null, [], 334, 0, []) := rfl
theorem f_42_24 : xfind (xnth xTs 42) 24 = some (24, .aload_n 0, 1, (0, 0, 0, 0), .null, [], 0, 0, []) := rfl
theorem f_42_25 : xfind (xnth xTs 42) 25 = some (25, .dup, 1, (0, 0, 0, 0), .null, [], 0, 0, []) := rfl
theorem f_42_26 : xfind (xnth xTs 42) 26 = some (26, .getfield 25, 3, (5, 2, 0, 0), .null, [], 158, 0, []) := rfl
theorem f_42_29 : xfind (xnth xTs 42) 29 = some (29, .iconst 1, 1, (0, 0, 0, 0), (.int 1), [], 0, 0, []) := rfl
theorem f_42_30 : xfind (xnth xTs 42) 30 = some (30, .iadd, 1, (0, 0, 0, 0), .null, [], 0, 0, []) := rfl
theorem f_42_31 : xfind (xnth xTs 42) 31 = some (31, .putfield 25, 3, (5, 2, 0, 0), .null, [], 158, 0, []) := rfl
theorem f_42_34 : xfind (xnth xTs 42) 34 = some (34, .iconst 1, 1, (0, 0, 0, 0), (.int 1), [], 0, 0, []) := rfl
theorem f_42_35 : xfind (xnth xTs 42) 35 = some (35, .ireturn, 1, (1, 0, 0, 0), .null, [], 0, 0, []) := rfl
theorem b_Reader_append_0 (sh : xSh) (M : Nat → Nat → Int32) (J : Nat → Nat → Int64) (l0 : Nat) (l1 : Int32) : ev (42, 0, [.ref l0, .int l1], [], (sh, M, J)) = (bif decide ((sh.2.2.1 l0).1 = 5) then bif decide ((M l0 2) < 240) then bif decide ((sh.2.2.1 l0).1 = 5) then bif decide ((sh.2.2.1 l0).1 = 5) then (ev (130, 0, [.ref (sh.2.2.2 l0 4), .int (M l0 2), .int l1], [], (sh, M, J))).bind (fun r => ev (42, 24, [.ref l0, .int l1], r.1.toList ++ [], r.2)) else none else none else some (some (.int 0), (sh, M, J)) else none) := by
  refine ev_nx (s1 := (42, 1, [.ref l0, .int l1], [.ref l0], (sh, M, J))) f_42_0 rfl ?_
  refine ev_gd (s1 := (42, 4, [.ref l0, .int l1], [.int (M l0 2)], (sh, M, J))) f_42_1 rfl ?_
  refine ev_nx (s1 := (42, 7, [.ref l0, .int l1], [.int 240, .int (M l0 2)], (sh, M, J))) f_42_4 rfl ?_
  refine ev_br (s1 := (42, 12, [.ref l0, .int l1], [], (sh, M, J))) (s2 := (42, 10, [.ref l0, .int l1], [], (sh, M, J))) f_42_7 rfl ?_ ?_
  · refine ev_nx (s1 := (42, 13, [.ref l0, .int l1], [.ref l0], (sh, M, J))) f_42_12 rfl ?_
    refine ev_gd (s1 := (42, 16, [.ref l0, .int l1], [.ref (sh.2.2.2 l0 4)], (sh, M, J))) f_42_13 rfl ?_
    refine ev_nx (s1 := (42, 17, [.ref l0, .int l1], [.ref l0, .ref (sh.2.2.2 l0 4)], (sh, M, J))) f_42_16 rfl ?_
    refine ev_gd (s1 := (42, 20, [.ref l0, .int l1], [.int (M l0 2), .ref (sh.2.2.2 l0 4)], (sh, M, J))) f_42_17 rfl ?_
    refine ev_nx (s1 := (42, 21, [.ref l0, .int l1], [.int l1, .int (M l0 2), .ref (sh.2.2.2 l0 4)], (sh, M, J))) f_42_20 rfl ?_
    exact ev_c1 (s1 := (130, 0, [.ref (sh.2.2.2 l0 4), .int (M l0 2), .int l1], [], (sh, M, J))) (k := (42, 24, [.ref l0, .int l1], [])) f_42_21 rfl
  · refine ev_nx (s1 := (42, 11, [.ref l0, .int l1], [.int 0], (sh, M, J))) f_42_10 rfl ?_
    exact ev_r1 f_42_11 rfl
theorem b_Reader_append_24 (sh : xSh) (M : Nat → Nat → Int32) (J : Nat → Nat → Int64) (l0 : Nat) (l1 : Int32) : ev (42, 24, [.ref l0, .int l1], [], (sh, M, J)) = (bif decide ((sh.2.2.1 l0).1 = 5) then bif decide ((sh.2.2.1 l0).1 = 5) then some (some (.int 1), (sh, (xu M l0 2 ((M l0 2) + 1)), J)) else none else none) := by
  refine ev_nx (s1 := (42, 25, [.ref l0, .int l1], [.ref l0], (sh, M, J))) f_42_24 rfl ?_
  refine ev_nx (s1 := (42, 26, [.ref l0, .int l1], [.ref l0, .ref l0], (sh, M, J))) f_42_25 rfl ?_
  refine ev_gd (s1 := (42, 29, [.ref l0, .int l1], [.int (M l0 2), .ref l0], (sh, M, J))) f_42_26 rfl ?_
  refine ev_nx (s1 := (42, 30, [.ref l0, .int l1], [.int 1, .int (M l0 2), .ref l0], (sh, M, J))) f_42_29 rfl ?_
  refine ev_nx (s1 := (42, 31, [.ref l0, .int l1], [.int ((M l0 2) + 1), .ref l0], (sh, M, J))) f_42_30 rfl ?_
  refine ev_gd (s1 := (42, 34, [.ref l0, .int l1], [], (sh, (xu M l0 2 ((M l0 2) + 1)), J))) f_42_31 rfl ?_
  refine ev_nx (s1 := (42, 35, [.ref l0, .int l1], [.int 1], (sh, (xu M l0 2 ((M l0 2) + 1)), J))) f_42_34 rfl ?_
  exact ev_r1 f_42_35 rfl
theorem f_43_0 : xfind (xnth xTs 43) 0 = some (0, .aload_n 0, 1, (0, 0, 0, 0), .null, [], 0, 0, []) := rfl
theorem f_43_1 : xfind (xnth xTs 43) 1 = some (1, .iconst 0, 1, (0, 0, 0, 0), (.int 0), [], 0, 0, []) := rfl
theorem f_43_2 : xfind (xnth xTs 43) 2 = some (2, .putfield 25, 3, (5, 2, 0, 0), .null, [], 158, 0, []) := rfl
theorem f_43_5 : xfind (xnth xTs 43) 5 = some (5, .return_, 1, (0, 0, 0, 0), .null, [], 0, 0, []) := rfl
theorem b_Reader_empty_0 (sh : xSh) (M : Nat → Nat → Int32) (J : Nat → Nat → Int64) (l0 : Nat) : ev (43, 0, [.ref l0], [], (sh, M, J)) = (bif decide ((sh.2.2.1 l0).1 = 5) then some (none, (sh, (xu M l0 2 0), J)) else none) := by
  refine ev_nx (s1 := (43, 1, [.ref l0], [.ref l0], (sh, M, J))) f_43_0 rfl ?_
  refine ev_nx (s1 := (43, 2, [.ref l0], [.int 0, .ref l0], (sh, M, J))) f_43_1 rfl ?_
  refine ev_gd (s1 := (43, 5, [.ref l0], [], (sh, (xu M l0 2 0), J))) f_43_2 rfl ?_
  exact ev_r1 f_43_5 rfl
theorem f_44_0 : xfind (xnth xTs 44) 0 = some (0, .aload_n 0, 1, (0, 0, 0, 0), .null, [], 0, 0, []) := rfl
theorem f_44_1 : xfind (xnth xTs 44) 1 = some (1, .getfield 12, 3, (5, 0, 1, 0), .null, [], 154, 0, []) := rfl
theorem f_44_4 : xfind (xnth xTs 44) 4 = some (4, .invokevirtual 52, 3, (5, 0, 1, 2), .null, [], 344, 0, []) := rfl
theorem f_44_7 : xfind (xnth xTs 44) 7 = some (7, .aload_n 0, 1, (0, 0, 0, 0), .null, [], 0, 0, []) := rfl
theorem f_44_8 : xfind (xnth xTs 44) 8 = some (8, .getfield 21, 3, (5, 1, 1, 0), .null, [], 156, 0, []) := rfl
theorem f_44_11 : xfind (xnth xTs 44) 11 = some (11, .invokevirtual 55, 3, (57, 0, 6, 2), .null, [], 345, 0, []) := rfl
theorem f_44_14 : xfind (xnth xTs 44) 14 = some (14, .aload_n 0, 1, (0, 0, 0, 0), .null, [], 0, 0, []) := rfl
theorem f_44_15 : xfind (xnth xTs 44) 15 = some (15, .iconst 0, 1, (0, 0, 0, 0), (.int 0), [], 0, 0, []) := rfl
theorem f_44_16 : xfind (xnth xTs 44) 16 = some (16, .putfield 36, 3, (5, 5, 0, 0), .null, [], 163, 0, []) := rfl
theorem f_44_19 : xfind (xnth xTs 44) 19 = some (19, .aload_n 0, 1, (0, 0, 0, 0), .null, [], 0, 0, []) := rfl
theorem f_44_20 : xfind (xnth xTs 44) 20 = some (20, .iconst (-1), 1, (0, 0, 0, 0), (.int (-1)), [], 0, 0, []) := rfl
theorem f_44_21 : xfind (xnth xTs 44) 21 = some (21, .putfield 29, 3, (5, 3, 0, 0), .null, [], 160, 0, []) := rfl
theorem f_44_24 : xfind (xnth xTs 44) 24 = some (24, .aload_n 0, 1, (0, 0, 0, 0), .null, [], 0, 0, []) := rfl
theorem f_44_25 : xfind (xnth xTs 44) 25 = some (25, .iconst 0, 1, (0, 0, 0, 0), (.int 0), [], 0, 0, []) := rfl
theorem f_44_26 : xfind (xnth xTs 44) 26 = some (26, .putfield 39, 3, (5, 6, 0, 0), .null, [], 164, 0, []) := rfl
theorem f_44_29 : xfind (xnth xTs 44) 29 = some (29, .aload_n 0, 1, (0, 0, 0, 0), .null, [], 0, 0, []) := rfl
theorem f_44_30 : xfind (xnth xTs 44) 30 = some (30, .iconst 0, 1, (0, 0, 0, 0), (.int 0), [], 0, 0, []) := rfl
theorem f_44_31 : xfind (xnth xTs 44) 31 = some (31, .putfield 42, 3, (5, 7, 0, 0), .null, [], 165, 0, []) := rfl
theorem f_44_34 : xfind (xnth xTs 44) 34 = some (34, .aload_n 0, 1, (0, 0, 0, 0), .null, [], 0, 0, []) := rfl
theorem f_44_35 : xfind (xnth xTs 44) 35 = some (35, .invokevirtual 56, 3, (52, 0, 5, 2), .null, [], 349, 0, []) := rfl
theorem f_44_38 : xfind (xnth xTs 44) 38 = some (38, .iconst 0, 1, (0, 0, 0, 0), (.int 0), [], 0, 0, []) := rfl
theorem f_44_39 : xfind (xnth xTs 44) 39 = some (39, .istore_n 1, 1, (0, 0, 0, 0), .null, [], 0, 0, []) := rfl
theorem f_44_40 : xfind (xnth xTs 44) 40 = some (40, .iload_n 1, 1, (0, 0, 0, 0), .null, [], 0, 1, []) := rfl
theorem f_44_41 : xfind (xnth xTs 44) 41 = some (41, .sipush 240, 3, (0, 0, 0, 0), (.int 240), [], 0, 0, []) := rfl
theorem f_44_44 : xfind (xnth xTs 44) 44 = some (44, .if_icmp .ge 44, 3, (0, 0, 0, 0), .null, [], 0, 0, []) := rfl
theorem f_44_47 : xfind (xnth xTs 44) 47 = some (47, .aload_n 0, 1, (0, 0, 0, 0), .null, [], 0, 0, []) := rfl
theorem f_44_48 : xfind (xnth xTs 44) 48 = some (48, .getfield 36, 3, (5, 5, 0, 0), .null, [], 163, 0, []) := rfl
theorem f_44_51 : xfind (xnth xTs 44) 51 = some (51, .aload_n 0, 1, (0, 0, 0, 0), .null, [], 0, 0, []) := rfl
theorem f_44_52 : xfind (xnth xTs 44) 52 = some (52, .getfield 25, 3, (5, 2, 0, 0), .null, [], 158, 0, []) := rfl
theorem f_44_55 : xfind (xnth xTs 44) 55 = some (55, .if_icmp .ge 33, 3, (0, 0, 0, 0), .null, [], 0, 0, []) := rfl
theorem f_44_58 : xfind (xnth xTs 44) 58 = some (58, .aload_n 0, 1, (0, 0, 0, 0), .null, [], 0, 0, []) := rfl
theorem f_44_59 : xfind (xnth xTs 44) 59 = some (59, .getfield 39, 3, (5, 6, 0, 0), .null, [], 164, 0, []) := rfl
theorem f_44_62 : xfind (xnth xTs 44) 62 = some (62, .ifCond .ne 26, 3, (0, 0, 0, 0), .null, [], 0, 0, []) := rfl
theorem f_44_65 : xfind (xnth xTs 44) 65 = some (65, .aload_n 0, 1, (0, 0, 0, 0), .null, [], 0, 0, []) := rfl
theorem f_44_66 : xfind (xnth xTs 44) 66 = some (66, .iload_n 1, 1, (0, 0, 0, 0), .null, [], 0, 0, []) := rfl
theorem f_44_67 : xfind (xnth xTs 44) 67 = some (67, .ifCond .ne 7, 3, (0, 0, 0, 0), .null, [], 0, 0, []) := rfl
theorem f_44_70 : xfind (xnth xTs 44) 70 = some (70, .iconst 1, 1, (0, 0, 0, 0), (.int 1), [], 0, 0, []) := rfl
theorem f_44_71 : xfind (xnth xTs 44) 71 = some (71, .goto 4, 3, (0, 0, 0, 0), .null, [], 0, 0, []) := rfl
theorem f_44_74 : xfind (xnth xTs 44) 74 = some (74, .iconst 0, 1, (0, 0, 0, 0), (.int 0), [], 0, 0, []) := rfl
theorem f_44_75 : xfind (xnth xTs 44) 75 = some (75, .invokevirtual 59, 3, (45, 1, 5, 3), .null, [], 360, 0, []) := rfl
theorem f_44_78 : xfind (xnth xTs 44) 78 = some (78, .aload_n 0, 1, (0, 0, 0, 0), .null, [], 0, 0, []) := rfl
theorem f_44_79 : xfind (xnth xTs 44) 79 = some (79, .invokevirtual 56, 3, (52, 0, 5, 2), .null, [], 349, 0, []) := rfl
theorem f_44_82 : xfind (xnth xTs 44) 82 = some (82, .iinc 1 1, 3, (0, 0, 0, 0), .null, [], 0, 0, []) := rfl
theorem f_44_85 : xfind (xnth xTs 44) 85 = some (85, .goto (-45), 3, (0, 0, 0, 0), .null, [], 0, 0, []) := rfl
theorem f_44_88 : xfind (xnth xTs 44) 88 = some (88, .aload_n 0, 1, (0, 0, 0, 0), .null, [], 0, 0, []) := rfl
theorem f_44_89 : xfind (xnth xTs 44) 89 = some (89, .getfield 39, 3, (5, 6, 0, 0), .null, [], 164, 0, []) := rfl
theorem f_44_92 : xfind (xnth xTs 44) 92 = some (92, .ireturn, 1, (0, 0, 0, 0), .null, [], 0, 0, []) := rfl
theorem hd_44_40 : xhead 44 40 = some [] := rfl
theorem b_Reader_read_0 (sh : xSh) (M : Nat → Nat → Int32) (J : Nat → Nat → Int64) (l0 : Nat) : ev (44, 0, [.ref l0, .null], [], (sh, M, J)) = (bif decide ((sh.2.2.1 l0).1 = 5) then bif (decide ((sh.2.2.1 (sh.2.2.2 l0 0)).1 = 1) && true) then (ev (5, 0, [.ref (sh.2.2.2 l0 0), .null], [], (sh, M, J))).bind (fun r => ev (44, 7, [.ref l0, .null], r.1.toList ++ [], r.2)) else none else none) := by
  refine ev_nx (s1 := (44, 1, [.ref l0, .null], [.ref l0], (sh, M, J))) f_44_0 rfl ?_
  refine ev_gd (s1 := (44, 4, [.ref l0, .null], [.ref (sh.2.2.2 l0 0)], (sh, M, J))) f_44_1 rfl ?_
  exact ev_ca (cc := (decide ((sh.2.2.1 (sh.2.2.2 l0 0)).1 = 1) && true)) (s1 := (5, 0, [.ref (sh.2.2.2 l0 0), .null], [], (sh, M, J))) (k := (44, 7, [.ref l0, .null], [])) f_44_4 rfl
theorem b_Reader_read_7 (sh : xSh) (M : Nat → Nat → Int32) (J : Nat → Nat → Int64) (l0 : Nat) : ev (44, 7, [.ref l0, .null], [], (sh, M, J)) = (bif decide ((sh.2.2.1 l0).1 = 5) then bif (decide ((sh.2.2.1 (sh.2.2.2 l0 1)).1 = 6) && true) then (ev (57, 0, [.ref (sh.2.2.2 l0 1), .null], [], (sh, M, J))).bind (fun r => ev (44, 14, [.ref l0, .null], r.1.toList ++ [], r.2)) else none else none) := by
  refine ev_nx (s1 := (44, 8, [.ref l0, .null], [.ref l0], (sh, M, J))) f_44_7 rfl ?_
  refine ev_gd (s1 := (44, 11, [.ref l0, .null], [.ref (sh.2.2.2 l0 1)], (sh, M, J))) f_44_8 rfl ?_
  exact ev_ca (cc := (decide ((sh.2.2.1 (sh.2.2.2 l0 1)).1 = 6) && true)) (s1 := (57, 0, [.ref (sh.2.2.2 l0 1), .null], [], (sh, M, J))) (k := (44, 14, [.ref l0, .null], [])) f_44_11 rfl
theorem b_Reader_read_14 (sh : xSh) (M : Nat → Nat → Int32) (J : Nat → Nat → Int64) (l0 : Nat) : ev (44, 14, [.ref l0, .null], [], (sh, M, J)) = (bif decide ((sh.2.2.1 l0).1 = 5) then bif decide ((sh.2.2.1 l0).1 = 5) then bif decide ((sh.2.2.1 l0).1 = 5) then bif decide ((sh.2.2.1 l0).1 = 5) then bif (decide ((sh.2.2.1 l0).1 = 5) && true) then (ev (52, 0, [.ref l0, .null], [], (sh, (xu (xu (xu (xu M l0 5 0) l0 3 (-1)) l0 6 0) l0 7 0), J))).bind (fun r => ev (44, 38, [.ref l0, .null], r.1.toList ++ [], r.2)) else none else none else none else none else none) := by
  refine ev_nx (s1 := (44, 15, [.ref l0, .null], [.ref l0], (sh, M, J))) f_44_14 rfl ?_
  refine ev_nx (s1 := (44, 16, [.ref l0, .null], [.int 0, .ref l0], (sh, M, J))) f_44_15 rfl ?_
  refine ev_gd (s1 := (44, 19, [.ref l0, .null], [], (sh, (xu M l0 5 0), J))) f_44_16 rfl ?_
  refine ev_nx (s1 := (44, 20, [.ref l0, .null], [.ref l0], (sh, (xu M l0 5 0), J))) f_44_19 rfl ?_
  refine ev_nx (s1 := (44, 21, [.ref l0, .null], [.int (-1), .ref l0], (sh, (xu M l0 5 0), J))) f_44_20 rfl ?_
  refine ev_gd (s1 := (44, 24, [.ref l0, .null], [], (sh, (xu (xu M l0 5 0) l0 3 (-1)), J))) f_44_21 rfl ?_
  refine ev_nx (s1 := (44, 25, [.ref l0, .null], [.ref l0], (sh, (xu (xu M l0 5 0) l0 3 (-1)), J))) f_44_24 rfl ?_
  refine ev_nx (s1 := (44, 26, [.ref l0, .null], [.int 0, .ref l0], (sh, (xu (xu M l0 5 0) l0 3 (-1)), J))) f_44_25 rfl ?_
  refine ev_gd (s1 := (44, 29, [.ref l0, .null], [], (sh, (xu (xu (xu M l0 5 0) l0 3 (-1)) l0 6 0), J))) f_44_26 rfl ?_
  refine ev_nx (s1 := (44, 30, [.ref l0, .null], [.ref l0], (sh, (xu (xu (xu M l0 5 0) l0 3 (-1)) l0 6 0), J))) f_44_29 rfl ?_
  refine ev_nx (s1 := (44, 31, [.ref l0, .null], [.int 0, .ref l0], (sh, (xu (xu (xu M l0 5 0) l0 3 (-1)) l0 6 0), J))) f_44_30 rfl ?_
  refine ev_gd (s1 := (44, 34, [.ref l0, .null], [], (sh, (xu (xu (xu (xu M l0 5 0) l0 3 (-1)) l0 6 0) l0 7 0), J))) f_44_31 rfl ?_
  refine ev_nx (s1 := (44, 35, [.ref l0, .null], [.ref l0], (sh, (xu (xu (xu (xu M l0 5 0) l0 3 (-1)) l0 6 0) l0 7 0), J))) f_44_34 rfl ?_
  exact ev_ca (cc := (decide ((sh.2.2.1 l0).1 = 5) && true)) (s1 := (52, 0, [.ref l0, .null], [], (sh, (xu (xu (xu (xu M l0 5 0) l0 3 (-1)) l0 6 0) l0 7 0), J))) (k := (44, 38, [.ref l0, .null], [])) f_44_35 rfl
theorem b_Reader_read_38 (sh : xSh) (M : Nat → Nat → Int32) (J : Nat → Nat → Int64) (l0 : Nat) : ev (44, 38, [.ref l0, .null], [], (sh, M, J)) = (ev (44, 40, [.ref l0, .int 0], [], (sh, M, J))) := by
  refine ev_nx (s1 := (44, 39, [.ref l0, .null], [.int 0], (sh, M, J))) f_44_38 rfl ?_
  refine ev_nx (s1 := (44, 40, [.ref l0, .int 0], [], (sh, M, J))) f_44_39 rfl ?_
  exact rfl
theorem b_Reader_read_40 (sh : xSh) (M : Nat → Nat → Int32) (J : Nat → Nat → Int64) (l0 : Nat) (l1 : Int32) : ev (44, 40, [.ref l0, .int l1], [], (sh, M, J)) = (bif decide (240 ≤ l1) then bif decide ((sh.2.2.1 l0).1 = 5) then some (some (.int (M l0 6)), (sh, M, J)) else none else bif decide ((sh.2.2.1 l0).1 = 5) then bif decide ((sh.2.2.1 l0).1 = 5) then bif decide ((M l0 2) ≤ (M l0 5)) then bif decide ((sh.2.2.1 l0).1 = 5) then some (some (.int (M l0 6)), (sh, M, J)) else none else bif decide ((sh.2.2.1 l0).1 = 5) then bif !decide ((M l0 6) = 0) then bif decide ((sh.2.2.1 l0).1 = 5) then some (some (.int (M l0 6)), (sh, M, J)) else none else bif !decide (l1 = 0) then bif (decide ((sh.2.2.1 l0).1 = 5) && true) then (ev (45, 0, [.ref l0, .int 0, .null], [], (sh, M, J))).bind (fun r => ev (44, 78, [.ref l0, .int l1], r.1.toList ++ [], r.2)) else none else bif (decide ((sh.2.2.1 l0).1 = 5) && true) then (ev (45, 0, [.ref l0, .int 1, .null], [], (sh, M, J))).bind (fun r => ev (44, 78, [.ref l0, .int l1], r.1.toList ++ [], r.2)) else none else none else none else none) := by
  refine ev_nx (s1 := (44, 41, [.ref l0, .int l1], [.int l1], (sh, M, J))) f_44_40 rfl ?_
  refine ev_nx (s1 := (44, 44, [.ref l0, .int l1], [.int 240, .int l1], (sh, M, J))) f_44_41 rfl ?_
  refine ev_br (s1 := (44, 88, [.ref l0, .int l1], [], (sh, M, J))) (s2 := (44, 47, [.ref l0, .int l1], [], (sh, M, J))) f_44_44 rfl ?_ ?_
  · refine ev_nx (s1 := (44, 89, [.ref l0, .int l1], [.ref l0], (sh, M, J))) f_44_88 rfl ?_
    refine ev_gd (s1 := (44, 92, [.ref l0, .int l1], [.int (M l0 6)], (sh, M, J))) f_44_89 rfl ?_
    exact ev_r1 f_44_92 rfl
  · refine ev_nx (s1 := (44, 48, [.ref l0, .int l1], [.ref l0], (sh, M, J))) f_44_47 rfl ?_
    refine ev_gd (s1 := (44, 51, [.ref l0, .int l1], [.int (M l0 5)], (sh, M, J))) f_44_48 rfl ?_
    refine ev_nx (s1 := (44, 52, [.ref l0, .int l1], [.ref l0, .int (M l0 5)], (sh, M, J))) f_44_51 rfl ?_
    refine ev_gd (s1 := (44, 55, [.ref l0, .int l1], [.int (M l0 2), .int (M l0 5)], (sh, M, J))) f_44_52 rfl ?_
    refine ev_br (s1 := (44, 88, [.ref l0, .int l1], [], (sh, M, J))) (s2 := (44, 58, [.ref l0, .int l1], [], (sh, M, J))) f_44_55 rfl ?_ ?_
    · refine ev_nx (s1 := (44, 89, [.ref l0, .int l1], [.ref l0], (sh, M, J))) f_44_88 rfl ?_
      refine ev_gd (s1 := (44, 92, [.ref l0, .int l1], [.int (M l0 6)], (sh, M, J))) f_44_89 rfl ?_
      exact ev_r1 f_44_92 rfl
    · refine ev_nx (s1 := (44, 59, [.ref l0, .int l1], [.ref l0], (sh, M, J))) f_44_58 rfl ?_
      refine ev_gd (s1 := (44, 62, [.ref l0, .int l1], [.int (M l0 6)], (sh, M, J))) f_44_59 rfl ?_
      refine ev_br (s1 := (44, 88, [.ref l0, .int l1], [], (sh, M, J))) (s2 := (44, 65, [.ref l0, .int l1], [], (sh, M, J))) f_44_62 rfl ?_ ?_
      · refine ev_nx (s1 := (44, 89, [.ref l0, .int l1], [.ref l0], (sh, M, J))) f_44_88 rfl ?_
        refine ev_gd (s1 := (44, 92, [.ref l0, .int l1], [.int (M l0 6)], (sh, M, J))) f_44_89 rfl ?_
        exact ev_r1 f_44_92 rfl
      · refine ev_nx (s1 := (44, 66, [.ref l0, .int l1], [.ref l0], (sh, M, J))) f_44_65 rfl ?_
        refine ev_nx (s1 := (44, 67, [.ref l0, .int l1], [.int l1, .ref l0], (sh, M, J))) f_44_66 rfl ?_
        refine ev_br (s1 := (44, 74, [.ref l0, .int l1], [.ref l0], (sh, M, J))) (s2 := (44, 70, [.ref l0, .int l1], [.ref l0], (sh, M, J))) f_44_67 rfl ?_ ?_
        · refine ev_nx (s1 := (44, 75, [.ref l0, .int l1], [.int 0, .ref l0], (sh, M, J))) f_44_74 rfl ?_
          exact ev_ca (cc := (decide ((sh.2.2.1 l0).1 = 5) && true)) (s1 := (45, 0, [.ref l0, .int 0, .null], [], (sh, M, J))) (k := (44, 78, [.ref l0, .int l1], [])) f_44_75 rfl
        · refine ev_nx (s1 := (44, 71, [.ref l0, .int l1], [.int 1, .ref l0], (sh, M, J))) f_44_70 rfl ?_
          refine ev_nx (s1 := (44, 75, [.ref l0, .int l1], [.int 1, .ref l0], (sh, M, J))) f_44_71 rfl ?_
          exact ev_ca (cc := (decide ((sh.2.2.1 l0).1 = 5) && true)) (s1 := (45, 0, [.ref l0, .int 1, .null], [], (sh, M, J))) (k := (44, 78, [.ref l0, .int l1], [])) f_44_75 rfl
theorem b_Reader_read_78 (sh : xSh) (M : Nat → Nat → Int32) (J : Nat → Nat → Int64) (l0 : Nat) (l1 : Int32) : ev (44, 78, [.ref l0, .int l1], [], (sh, M, J)) = (bif (decide ((sh.2.2.1 l0).1 = 5) && true) then (ev (52, 0, [.ref l0, .null], [], (sh, M, J))).bind (fun r => ev (44, 82, [.ref l0, .int l1], r.1.toList ++ [], r.2)) else none) := by
  refine ev_nx (s1 := (44, 79, [.ref l0, .int l1], [.ref l0], (sh, M, J))) f_44_78 rfl ?_
  exact ev_ca (cc := (decide ((sh.2.2.1 l0).1 = 5) && true)) (s1 := (52, 0, [.ref l0, .null], [], (sh, M, J))) (k := (44, 82, [.ref l0, .int l1], [])) f_44_79 rfl
theorem b_Reader_read_82 (sh : xSh) (M : Nat → Nat → Int32) (J : Nat → Nat → Int64) (l0 : Nat) (l1 : Int32) : ev (44, 82, [.ref l0, .int l1], [], (sh, M, J)) = (ev (44, 40, [.ref l0, .int (l1 + 1)], [], (sh, M, J))) := by
  refine ev_nx (s1 := (44, 85, [.ref l0, .int (l1 + 1)], [], (sh, M, J))) f_44_82 rfl ?_
  refine ev_nx (s1 := (44, 40, [.ref l0, .int (l1 + 1)], [], (sh, M, J))) f_44_85 rfl ?_
  exact rfl
theorem f_45_0 : xfind (xnth xTs 45) 0 = some (0, .aload_n 0, 1, (0, 0, 0, 0), .null, [], 0, 0, []) := rfl
theorem f_45_1 : xfind (xnth xTs 45) 1 = some (1, .invokevirtual 63, 3, (53, 0, 5, 1), .null, [], 353, 0, []) := rfl
theorem f_45_4 : xfind (xnth xTs 45) 4 = some (4, .istore_n 2, 1, (0, 0, 0, 0), .null, [], 0, 0, []) := rfl
theorem f_45_5 : xfind (xnth xTs 45) 5 = some (5, .iload_n 1, 1, (0, 0, 0, 0), .null, [], 0, 0, []) := rfl
theorem f_45_6 : xfind (xnth xTs 45) 6 = some (6, .ifCond .eq 19, 3, (0, 0, 0, 0), .null, [], 0, 0, []) := rfl
theorem f_45_9 : xfind (xnth xTs 45) 9 = some (9, .iload_n 2, 1, (0, 0, 0, 0), .null, [], 0, 0, []) := rfl
theorem f_45_10 : xfind (xnth xTs 45) 10 = some (10, .bipush 107, 2, (0, 0, 0, 0), (.int 107), [], 0, 0, []) := rfl
theorem f_45_12 : xfind (xnth xTs 45) 12 = some (12, .if_icmp .eq 13, 3, (0, 0, 0, 0), .null, [], 0, 0, []) := rfl
theorem f_45_15 : xfind (xnth xTs 45) 15 = some (15, .aload_n 0, 1, (0, 0, 0, 0), .null, [], 0, 0, []) := rfl
theorem f_45_16 : xfind (xnth xTs 45) 16 = some (16, .iconst 1, 1, (0, 0, 0, 0), (.int 1), [], 0, 0, []) := rfl
theorem f_45_17 : xfind (xnth xTs 45) 17 = some (17, .aload_n 0, 1, (0, 0, 0, 0), .null, [], 0, 0, []) := rfl
theorem f_45_18 : xfind (xnth xTs 45) 18 = some (18, .getfield 36, 3, (5, 5, 0, 0), .null, [], 163, 0, []) := rfl
theorem f_45_21 : xfind (xnth xTs 45) 21 = some (21, .invokevirtual 67, 3, (55, 2, 5, 3), .null, [], 364, 0, []) := rfl
theorem f_45_24 : xfind (xnth xTs 45) 24 = some (24, .return_, 1, (0, 0, 0, 0), .null, [], 0, 0, []) := rfl
theorem f_45_25 : xfind (xnth xTs 45) 25 = some (25, .iload_n 2, 1, (0, 0, 0, 0), .null, [], 0, 0, []) := rfl
theorem f_45_26 : xfind (xnth xTs 45) 26 = some (26, .lookupswitch 71 #[(97, 64), (99, 50), (104, 57), (107, 42)], 42, (0, 0, 0, 97), .null, [(97, 90), (99, 76), (104, 83), (107, 68)], 0, 0, []) := rfl
theorem f_45_68 : xfind (xnth xTs 45) 68 = some (68, .aload_n 0, 1, (0, 0, 0, 0), .null, [], 0, 0, []) := rfl
theorem f_45_69 : xfind (xnth xTs 45) 69 = some (69, .iload_n 1, 1, (0, 0, 0, 0), .null, [], 0, 0, []) := rfl
theorem f_45_70 : xfind (xnth xTs 45) 70 = some (70, .invokevirtual 71, 3, (46, 1, 5, 5), .null, [], 368, 0, []) := rfl
theorem f_45_73 : xfind (xnth xTs 45) 73 = some (73, .goto 33, 3, (0, 0, 0, 0), .null, [], 0, 0, []) := rfl
theorem f_45_76 : xfind (xnth xTs 45) 76 = some (76, .aload_n 0, 1, (0, 0, 0, 0), .null, [], 0, 0, []) := rfl
theorem f_45_77 : xfind (xnth xTs 45) 77 = some (77, .invokevirtual 74, 3, (47, 0, 5, 5), .null, [], 393, 0, []) := rfl
theorem f_45_80 : xfind (xnth xTs 45) 80 = some (80, .goto 26, 3, (0, 0, 0, 0), .null, [], 0, 0, []) := rfl
theorem f_45_83 : xfind (xnth xTs 45) 83 = some (83, .aload_n 0, 1, (0, 0, 0, 0), .null, [], 0, 0, []) := rfl
theorem f_45_84 : xfind (xnth xTs 45) 84 = some (84, .invokevirtual 77, 3, (48, 0, 5, 2), .null, [], 401, 0, []) := rfl
theorem f_45_87 : xfind (xnth xTs 45) 87 = some (87, .goto 19, 3, (0, 0, 0, 0), .null, [], 0, 0, []) := rfl
theorem f_45_90 : xfind (xnth xTs 45) 90 = some (90, .aload_n 0, 1, (0, 0, 0, 0), .null, [], 0, 0, []) := rfl
theorem f_45_91 : xfind (xnth xTs 45) 91 = some (91, .invokevirtual 80, 3, (49, 0, 5, 6), .null, [], 417, 0, []) := rfl
theorem f_45_94 : xfind (xnth xTs 45) 94 = some (94, .goto 12, 3, (0, 0, 0, 0), .null, [], 0, 0, []) := rfl
theorem f_45_97 : xfind (xnth xTs 45) 97 = some (97, .aload_n 0, 1, (0, 0, 0, 0), .null, [], 0, 0, []) := rfl
theorem f_45_98 : xfind (xnth xTs 45) 98 = some (98, .iconst 1, 1, (0, 0, 0, 0), (.int 1), [], 0, 0, []) := rfl
theorem f_45_99 : xfind (xnth xTs 45) 99 = some (99, .aload_n 0, 1, (0, 0, 0, 0), .null, [], 0, 0, []) := rfl
theorem f_45_100 : xfind (xnth xTs 45) 100 = some (100, .getfield 36, 3, (5, 5, 0, 0), .null, [], 163, 0, []) := rfl
theorem f_45_103 : xfind (xnth xTs 45) 103 = some (103, .invokevirtual 67, 3, (55, 2, 5, 3), .null, [], 364, 0, []) := rfl
theorem f_45_106 : xfind (xnth xTs 45) 106 = some (106, .return_, 1, (0, 0, 0, 0), .null, [], 0, 0, []) := rfl
theorem b_Reader_readClause_0 (sh : xSh) (M : Nat → Nat → Int32) (J : Nat → Nat → Int64) (l0 : Nat) (l1 : Int32) : ev (45, 0, [.ref l0, .int l1, .null], [], (sh, M, J)) = (bif (decide ((sh.2.2.1 l0).1 = 5) && true) then (ev (53, 0, [.ref l0], [], (sh, M, J))).bind (fun r => ev (45, 4, [.ref l0, .int l1, .null], r.1.toList ++ [], r.2)) else none) := by
  refine ev_nx (s1 := (45, 1, [.ref l0, .int l1, .null], [.ref l0], (sh, M, J))) f_45_0 rfl ?_
  exact ev_ca (cc := (decide ((sh.2.2.1 l0).1 = 5) && true)) (s1 := (53, 0, [.ref l0], [], (sh, M, J))) (k := (45, 4, [.ref l0, .int l1, .null], [])) f_45_1 rfl
theorem b_Reader_readClause_4 (sh : xSh) (M : Nat → Nat → Int32) (J : Nat → Nat → Int64) (l0 : Nat) (l1 : Int32) (k0 : Int32) : ev (45, 4, [.ref l0, .int l1, .null], [.int k0], (sh, M, J)) = (bif decide (l1 = 0) then if k0 = 97 then bif (decide ((sh.2.2.1 l0).1 = 5) && true) then (ev (49, 0, [.ref l0, .null, .null, .null, .null, .null], [], (sh, M, J))).bind (fun r => ev (45, 94, [.ref l0, .int l1, .int k0], r.1.toList ++ [], r.2)) else none else if k0 = 99 then bif (decide ((sh.2.2.1 l0).1 = 5) && true) then (ev (47, 0, [.ref l0, .null, .null, .null, .null], [], (sh, M, J))).bind (fun r => ev (45, 80, [.ref l0, .int l1, .int k0], r.1.toList ++ [], r.2)) else none else if k0 = 104 then bif (decide ((sh.2.2.1 l0).1 = 5) && true) then (ev (48, 0, [.ref l0, .null], [], (sh, M, J))).bind (fun r => ev (45, 87, [.ref l0, .int l1, .int k0], r.1.toList ++ [], r.2)) else none else if k0 = 107 then bif (decide ((sh.2.2.1 l0).1 = 5) && true) then (ev (46, 0, [.ref l0, .int l1, .null, .null, .null], [], (sh, M, J))).bind (fun r => ev (45, 73, [.ref l0, .int l1, .int k0], r.1.toList ++ [], r.2)) else none else bif decide ((sh.2.2.1 l0).1 = 5) then bif (decide ((sh.2.2.1 l0).1 = 5) && true) then (ev (55, 0, [.ref l0, .int 1, .int (M l0 5)], [], (sh, M, J))).bind (fun r => ev (45, 106, [.ref l0, .int l1, .int k0], r.1.toList ++ [], r.2)) else none else none else bif decide (k0 = 107) then if k0 = 97 then bif (decide ((sh.2.2.1 l0).1 = 5) && true) then (ev (49, 0, [.ref l0, .null, .null, .null, .null, .null], [], (sh, M, J))).bind (fun r => ev (45, 94, [.ref l0, .int l1, .int k0], r.1.toList ++ [], r.2)) else none else if k0 = 99 then bif (decide ((sh.2.2.1 l0).1 = 5) && true) then (ev (47, 0, [.ref l0, .null, .null, .null, .null], [], (sh, M, J))).bind (fun r => ev (45, 80, [.ref l0, .int l1, .int k0], r.1.toList ++ [], r.2)) else none else if k0 = 104 then bif (decide ((sh.2.2.1 l0).1 = 5) && true) then (ev (48, 0, [.ref l0, .null], [], (sh, M, J))).bind (fun r => ev (45, 87, [.ref l0, .int l1, .int k0], r.1.toList ++ [], r.2)) else none else if k0 = 107 then bif (decide ((sh.2.2.1 l0).1 = 5) && true) then (ev (46, 0, [.ref l0, .int l1, .null, .null, .null], [], (sh, M, J))).bind (fun r => ev (45, 73, [.ref l0, .int l1, .int k0], r.1.toList ++ [], r.2)) else none else bif decide ((sh.2.2.1 l0).1 = 5) then bif (decide ((sh.2.2.1 l0).1 = 5) && true) then (ev (55, 0, [.ref l0, .int 1, .int (M l0 5)], [], (sh, M, J))).bind (fun r => ev (45, 106, [.ref l0, .int l1, .int k0], r.1.toList ++ [], r.2)) else none else none else bif decide ((sh.2.2.1 l0).1 = 5) then bif (decide ((sh.2.2.1 l0).1 = 5) && true) then (ev (55, 0, [.ref l0, .int 1, .int (M l0 5)], [], (sh, M, J))).bind (fun r => ev (45, 24, [.ref l0, .int l1, .int k0], r.1.toList ++ [], r.2)) else none else none) := by
  refine ev_nx (s1 := (45, 5, [.ref l0, .int l1, .int k0], [], (sh, M, J))) f_45_4 rfl ?_
  refine ev_nx (s1 := (45, 6, [.ref l0, .int l1, .int k0], [.int l1], (sh, M, J))) f_45_5 rfl ?_
  refine ev_br (s1 := (45, 25, [.ref l0, .int l1, .int k0], [], (sh, M, J))) (s2 := (45, 9, [.ref l0, .int l1, .int k0], [], (sh, M, J))) f_45_6 rfl ?_ ?_
  · refine ev_nx (s1 := (45, 26, [.ref l0, .int l1, .int k0], [.int k0], (sh, M, J))) f_45_25 rfl ?_
    refine ev_sw f_45_26 rfl ?_
    refine ev_swc ?_ ?_
    · refine ev_nx (s1 := (45, 91, [.ref l0, .int l1, .int k0], [.ref l0], (sh, M, J))) f_45_90 rfl ?_
      exact ev_ca (cc := (decide ((sh.2.2.1 l0).1 = 5) && true)) (s1 := (49, 0, [.ref l0, .null, .null, .null, .null, .null], [], (sh, M, J))) (k := (45, 94, [.ref l0, .int l1, .int k0], [])) f_45_91 rfl
    refine ev_swc ?_ ?_
    · refine ev_nx (s1 := (45, 77, [.ref l0, .int l1, .int k0], [.ref l0], (sh, M, J))) f_45_76 rfl ?_
      exact ev_ca (cc := (decide ((sh.2.2.1 l0).1 = 5) && true)) (s1 := (47, 0, [.ref l0, .null, .null, .null, .null], [], (sh, M, J))) (k := (45, 80, [.ref l0, .int l1, .int k0], [])) f_45_77 rfl
    refine ev_swc ?_ ?_
    · refine ev_nx (s1 := (45, 84, [.ref l0, .int l1, .int k0], [.ref l0], (sh, M, J))) f_45_83 rfl ?_
      exact ev_ca (cc := (decide ((sh.2.2.1 l0).1 = 5) && true)) (s1 := (48, 0, [.ref l0, .null], [], (sh, M, J))) (k := (45, 87, [.ref l0, .int l1, .int k0], [])) f_45_84 rfl
    refine ev_swc ?_ ?_
    · refine ev_nx (s1 := (45, 69, [.ref l0, .int l1, .int k0], [.ref l0], (sh, M, J))) f_45_68 rfl ?_
      refine ev_nx (s1 := (45, 70, [.ref l0, .int l1, .int k0], [.int l1, .ref l0], (sh, M, J))) f_45_69 rfl ?_
      exact ev_ca (cc := (decide ((sh.2.2.1 l0).1 = 5) && true)) (s1 := (46, 0, [.ref l0, .int l1, .null, .null, .null], [], (sh, M, J))) (k := (45, 73, [.ref l0, .int l1, .int k0], [])) f_45_70 rfl
    show ev (45, 97, [.ref l0, .int l1, .int k0], [], (sh, M, J)) = _
    refine ev_nx (s1 := (45, 98, [.ref l0, .int l1, .int k0], [.ref l0], (sh, M, J))) f_45_97 rfl ?_
    refine ev_nx (s1 := (45, 99, [.ref l0, .int l1, .int k0], [.int 1, .ref l0], (sh, M, J))) f_45_98 rfl ?_
    refine ev_nx (s1 := (45, 100, [.ref l0, .int l1, .int k0], [.ref l0, .int 1, .ref l0], (sh, M, J))) f_45_99 rfl ?_
    refine ev_gd (s1 := (45, 103, [.ref l0, .int l1, .int k0], [.int (M l0 5), .int 1, .ref l0], (sh, M, J))) f_45_100 rfl ?_
    exact ev_ca (cc := (decide ((sh.2.2.1 l0).1 = 5) && true)) (s1 := (55, 0, [.ref l0, .int 1, .int (M l0 5)], [], (sh, M, J))) (k := (45, 106, [.ref l0, .int l1, .int k0], [])) f_45_103 rfl
  · refine ev_nx (s1 := (45, 10, [.ref l0, .int l1, .int k0], [.int k0], (sh, M, J))) f_45_9 rfl ?_
    refine ev_nx (s1 := (45, 12, [.ref l0, .int l1, .int k0], [.int 107, .int k0], (sh, M, J))) f_45_10 rfl ?_
    refine ev_br (s1 := (45, 25, [.ref l0, .int l1, .int k0], [], (sh, M, J))) (s2 := (45, 15, [.ref l0, .int l1, .int k0], [], (sh, M, J))) f_45_12 rfl ?_ ?_
    · refine ev_nx (s1 := (45, 26, [.ref l0, .int l1, .int k0], [.int k0], (sh, M, J))) f_45_25 rfl ?_
      refine ev_sw f_45_26 rfl ?_
      refine ev_swc ?_ ?_
      · refine ev_nx (s1 := (45, 91, [.ref l0, .int l1, .int k0], [.ref l0], (sh, M, J))) f_45_90 rfl ?_
        exact ev_ca (cc := (decide ((sh.2.2.1 l0).1 = 5) && true)) (s1 := (49, 0, [.ref l0, .null, .null, .null, .null, .null], [], (sh, M, J))) (k := (45, 94, [.ref l0, .int l1, .int k0], [])) f_45_91 rfl
      refine ev_swc ?_ ?_
      · refine ev_nx (s1 := (45, 77, [.ref l0, .int l1, .int k0], [.ref l0], (sh, M, J))) f_45_76 rfl ?_
        exact ev_ca (cc := (decide ((sh.2.2.1 l0).1 = 5) && true)) (s1 := (47, 0, [.ref l0, .null, .null, .null, .null], [], (sh, M, J))) (k := (45, 80, [.ref l0, .int l1, .int k0], [])) f_45_77 rfl
      refine ev_swc ?_ ?_
      · refine ev_nx (s1 := (45, 84, [.ref l0, .int l1, .int k0], [.ref l0], (sh, M, J))) f_45_83 rfl ?_
        exact ev_ca (cc := (decide ((sh.2.2.1 l0).1 = 5) && true)) (s1 := (48, 0, [.ref l0, .null], [], (sh, M, J))) (k := (45, 87, [.ref l0, .int l1, .int k0], [])) f_45_84 rfl
      refine ev_swc ?_ ?_
      · refine ev_nx (s1 := (45, 69, [.ref l0, .int l1, .int k0], [.ref l0], (sh, M, J))) f_45_68 rfl ?_
        refine ev_nx (s1 := (45, 70, [.ref l0, .int l1, .int k0], [.int l1, .ref l0], (sh, M, J))) f_45_69 rfl ?_
        exact ev_ca (cc := (decide ((sh.2.2.1 l0).1 = 5) && true)) (s1 := (46, 0, [.ref l0, .int l1, .null, .null, .null], [], (sh, M, J))) (k := (45, 73, [.ref l0, .int l1, .int k0], [])) f_45_70 rfl
      show ev (45, 97, [.ref l0, .int l1, .int k0], [], (sh, M, J)) = _
      refine ev_nx (s1 := (45, 98, [.ref l0, .int l1, .int k0], [.ref l0], (sh, M, J))) f_45_97 rfl ?_
      refine ev_nx (s1 := (45, 99, [.ref l0, .int l1, .int k0], [.int 1, .ref l0], (sh, M, J))) f_45_98 rfl ?_
      refine ev_nx (s1 := (45, 100, [.ref l0, .int l1, .int k0], [.ref l0, .int 1, .ref l0], (sh, M, J))) f_45_99 rfl ?_
      refine ev_gd (s1 := (45, 103, [.ref l0, .int l1, .int k0], [.int (M l0 5), .int 1, .ref l0], (sh, M, J))) f_45_100 rfl ?_
      exact ev_ca (cc := (decide ((sh.2.2.1 l0).1 = 5) && true)) (s1 := (55, 0, [.ref l0, .int 1, .int (M l0 5)], [], (sh, M, J))) (k := (45, 106, [.ref l0, .int l1, .int k0], [])) f_45_103 rfl
    · refine ev_nx (s1 := (45, 16, [.ref l0, .int l1, .int k0], [.ref l0], (sh, M, J))) f_45_15 rfl ?_
      refine ev_nx (s1 := (45, 17, [.ref l0, .int l1, .int k0], [.int 1, .ref l0], (sh, M, J))) f_45_16 rfl ?_
      refine ev_nx (s1 := (45, 18, [.ref l0, .int l1, .int k0], [.ref l0, .int 1, .ref l0], (sh, M, J))) f_45_17 rfl ?_
      refine ev_gd (s1 := (45, 21, [.ref l0, .int l1, .int k0], [.int (M l0 5), .int 1, .ref l0], (sh, M, J))) f_45_18 rfl ?_
      exact ev_ca (cc := (decide ((sh.2.2.1 l0).1 = 5) && true)) (s1 := (55, 0, [.ref l0, .int 1, .int (M l0 5)], [], (sh, M, J))) (k := (45, 24, [.ref l0, .int l1, .int k0], [])) f_45_21 rfl
theorem b_Reader_readClause_24 (sh : xSh) (M : Nat → Nat → Int32) (J : Nat → Nat → Int64) (l0 : Nat) (l1 : Int32) (l2 : Int32) : ev (45, 24, [.ref l0, .int l1, .int l2], [], (sh, M, J)) = (some (none, (sh, M, J))) := by
  exact ev_r1 f_45_24 rfl
theorem b_Reader_readClause_73 (sh : xSh) (M : Nat → Nat → Int32) (J : Nat → Nat → Int64) (l0 : Nat) (l1 : Int32) (l2 : Int32) : ev (45, 73, [.ref l0, .int l1, .int l2], [], (sh, M, J)) = (some (none, (sh, M, J))) := by
  refine ev_nx (s1 := (45, 106, [.ref l0, .int l1, .int l2], [], (sh, M, J))) f_45_73 rfl ?_
  exact ev_r1 f_45_106 rfl
theorem b_Reader_readClause_80 (sh : xSh) (M : Nat → Nat → Int32) (J : Nat → Nat → Int64) (l0 : Nat) (l1 : Int32) (l2 : Int32) : ev (45, 80, [.ref l0, .int l1, .int l2], [], (sh, M, J)) = (some (none, (sh, M, J))) := by
  refine ev_nx (s1 := (45, 106, [.ref l0, .int l1, .int l2], [], (sh, M, J))) f_45_80 rfl ?_
  exact ev_r1 f_45_106 rfl
theorem b_Reader_readClause_87 (sh : xSh) (M : Nat → Nat → Int32) (J : Nat → Nat → Int64) (l0 : Nat) (l1 : Int32) (l2 : Int32) : ev (45, 87, [.ref l0, .int l1, .int l2], [], (sh, M, J)) = (some (none, (sh, M, J))) := by
  refine ev_nx (s1 := (45, 106, [.ref l0, .int l1, .int l2], [], (sh, M, J))) f_45_87 rfl ?_
  exact ev_r1 f_45_106 rfl
theorem b_Reader_readClause_94 (sh : xSh) (M : Nat → Nat → Int32) (J : Nat → Nat → Int64) (l0 : Nat) (l1 : Int32) (l2 : Int32) : ev (45, 94, [.ref l0, .int l1, .int l2], [], (sh, M, J)) = (some (none, (sh, M, J))) := by
  refine ev_nx (s1 := (45, 106, [.ref l0, .int l1, .int l2], [], (sh, M, J))) f_45_94 rfl ?_
  exact ev_r1 f_45_106 rfl
theorem b_Reader_readClause_106 (sh : xSh) (M : Nat → Nat → Int32) (J : Nat → Nat → Int64) (l0 : Nat) (l1 : Int32) (l2 : Int32) : ev (45, 106, [.ref l0, .int l1, .int l2], [], (sh, M, J)) = (some (none, (sh, M, J))) := by
  exact ev_r1 f_45_106 rfl
theorem f_46_0 : xfind (xnth xTs 46) 0 = some (0, .iload_n 1, 1, (0, 0, 0, 0), .null, [], 0, 0, []) := rfl
theorem f_46_1 : xfind (xnth xTs 46) 1 = some (1, .ifCond .ne 13, 3, (0, 0, 0, 0), .null, [], 0, 0, []) := rfl
theorem f_46_4 : xfind (xnth xTs 46) 4 = some (4, .aload_n 0, 1, (0, 0, 0, 0), .null, [], 0, 0, []) := rfl
theorem f_46_5 : xfind (xnth xTs 46) 5 = some (5, .iconst 3, 1, (0, 0, 0, 0), (.int 3), [], 0, 0, []) := rfl
theorem f_46_6 : xfind (xnth xTs 46) 6 = some (6, .aload_n 0, 1, (0, 0, 0, 0), .null, [], 0, 0, []) := rfl
theorem f_46_7 : xfind (xnth xTs 46) 7 = some (7, .getfield 36, 3, (5, 5, 0, 0), .null, [], 163, 0, []) := rfl
theorem f_46_10 : xfind (xnth xTs 46) 10 = some (10, .invokevirtual 67, 3, (55, 2, 5, 3), .null, [], 364, 0, []) := rfl
theorem f_46_13 : xfind (xnth xTs 46) 13 = some (13, .return_, 1, (0, 0, 0, 0), .null, [], 0, 0, []) := rfl
theorem f_46_14 : xfind (xnth xTs 46) 14 = some (14, .aload_n 0, 1, (0, 0, 0, 0), .null, [], 0, 0, []) := rfl
theorem f_46_15 : xfind (xnth xTs 46) 15 = some (15, .dup, 1, (0, 0, 0, 0), .null, [], 0, 0, []) := rfl
theorem f_46_16 : xfind (xnth xTs 46) 16 = some (16, .getfield 36, 3, (5, 5, 0, 0), .null, [], 163, 0, []) := rfl
theorem f_46_19 : xfind (xnth xTs 46) 19 = some (19, .iconst 1, 1, (0, 0, 0, 0), (.int 1), [], 0, 0, []) := rfl
theorem f_46_20 : xfind (xnth xTs 46) 20 = some (20, .iadd, 1, (0, 0, 0, 0), .null, [], 0, 0, []) := rfl
theorem f_46_21 : xfind (xnth xTs 46) 21 = some (21, .putfield 36, 3, (5, 5, 0, 0), .null, [], 163, 0, []) := rfl
theorem f_46_24 : xfind (xnth xTs 46) 24 = some (24, .aload_n 0, 1, (0, 0, 0, 0), .null, [], 0, 0, []) := rfl
theorem f_46_25 : xfind (xnth xTs 46) 25 = some (25, .iconst 1, 1, (0, 0, 0, 0), (.int 1), [], 0, 0, []) := rfl
theorem f_46_26 : xfind (xnth xTs 46) 26 = some (26, .iconst 5, 1, (0, 0, 0, 0), (.int 5), [], 0, 0, []) := rfl
theorem f_46_27 : xfind (xnth xTs 46) 27 = some (27, .invokevirtual 83, 3, (50, 2, 5, 5), .null, [], 372, 0, []) := rfl
theorem f_46_30 : xfind (xnth xTs 46) 30 = some (30, .istore_n 2, 1, (0, 0, 0, 0), .null, [], 0, 0, []) := rfl
theorem f_46_31 : xfind (xnth xTs 46) 31 = some (31, .aload_n 0, 1, (0, 0, 0, 0), .null, [], 0, 0, []) := rfl
theorem f_46_32 : xfind (xnth xTs 46) 32 = some (32, .iconst 1, 1, (0, 0, 0, 0), (.int 1), [], 0, 0, []) := rfl
theorem f_46_33 : xfind (xnth xTs 46) 33 = some (33, .iconst 4, 1, (0, 0, 0, 0), (.int 4), [], 0, 0, []) := rfl
theorem f_46_34 : xfind (xnth xTs 46) 34 = some (34, .invokevirtual 83, 3, (50, 2, 5, 5), .null, [], 372, 0, []) := rfl
theorem f_46_37 : xfind (xnth xTs 46) 37 = some (37, .istore_n 3, 1, (0, 0, 0, 0), .null, [], 0, 0, []) := rfl
theorem f_46_38 : xfind (xnth xTs 46) 38 = some (38, .aload_n 0, 1, (0, 0, 0, 0), .null, [], 0, 0, []) := rfl
theorem f_46_39 : xfind (xnth xTs 46) 39 = some (39, .iconst 0, 1, (0, 0, 0, 0), (.int 0), [], 0, 0, []) := rfl
theorem f_46_40 : xfind (xnth xTs 46) 40 = some (40, .iconst 4, 1, (0, 0, 0, 0), (.int 4), [], 0, 0, []) := rfl
theorem f_46_41 : xfind (xnth xTs 46) 41 = some (41, .invokevirtual 83, 3, (50, 2, 5, 5), .null, [], 372, 0, []) := rfl
theorem f_46_44 : xfind (xnth xTs 46) 44 = some (44, .istore 4, 2, (0, 0, 0, 0), .null, [], 0, 0, []) := rfl
theorem f_46_46 : xfind (xnth xTs 46) 46 = some (46, .aload_n 0, 1, (0, 0, 0, 0), .null, [], 0, 0, []) := rfl
theorem f_46_47 : xfind (xnth xTs 46) 47 = some (47, .invokevirtual 87, 3, (51, 0, 5, 1), .null, [], 385, 0, []) := rfl
theorem f_46_50 : xfind (xnth xTs 46) 50 = some (50, .aload_n 0, 1, (0, 0, 0, 0), .null, [], 0, 0, []) := rfl
theorem f_46_51 : xfind (xnth xTs 46) 51 = some (51, .getfield 12, 3, (5, 0, 1, 0), .null, [], 154, 0, []) := rfl
theorem f_46_54 : xfind (xnth xTs 46) 54 = some (54, .iload_n 2, 1, (0, 0, 0, 0), .null, [], 0, 0, []) := rfl
theorem f_46_55 : xfind (xnth xTs 46) 55 = some (55, .putfield 90, 3, (1, 0, 0, 0), .null, [], 100, 0, []) := rfl
theorem f_46_58 : xfind (xnth xTs 46) 58 = some (58, .aload_n 0, 1, (0, 0, 0, 0), .null, [], 0, 0, []) := rfl
theorem f_46_59 : xfind (xnth xTs 46) 59 = some (59, .getfield 12, 3, (5, 0, 1, 0), .null, [], 154, 0, []) := rfl
theorem f_46_62 : xfind (xnth xTs 46) 62 = some (62, .iload_n 3, 1, (0, 0, 0, 0), .null, [], 0, 0, []) := rfl
theorem f_46_63 : xfind (xnth xTs 46) 63 = some (63, .putfield 93, 3, (1, 1, 0, 0), .null, [], 105, 0, []) := rfl
theorem f_46_66 : xfind (xnth xTs 46) 66 = some (66, .aload_n 0, 1, (0, 0, 0, 0), .null, [], 0, 0, []) := rfl
theorem f_46_67 : xfind (xnth xTs 46) 67 = some (67, .getfield 21, 3, (5, 1, 1, 0), .null, [], 156, 0, []) := rfl
theorem f_46_70 : xfind (xnth xTs 46) 70 = some (70, .iload 4, 2, (0, 0, 0, 0), .null, [], 0, 0, []) := rfl
theorem f_46_72 : xfind (xnth xTs 46) 72 = some (72, .invokevirtual 96, 3, (68, 1, 6, 3), .null, [], 389, 0, []) := rfl
theorem f_46_75 : xfind (xnth xTs 46) 75 = some (75, .return_, 1, (0, 0, 0, 0), .null, [], 0, 0, []) := rfl
theorem b_Reader_readCurtain_0 (sh : xSh) (M : Nat → Nat → Int32) (J : Nat → Nat → Int64) (l0 : Nat) (l1 : Int32) : ev (46, 0, [.ref l0, .int l1, .null, .null, .null], [], (sh, M, J)) = (bif !decide (l1 = 0) then bif decide ((sh.2.2.1 l0).1 = 5) then bif decide ((sh.2.2.1 l0).1 = 5) then bif (decide ((sh.2.2.1 l0).1 = 5) && true) then (ev (50, 0, [.ref l0, .int 1, .int 5, .null, .null], [], (sh, (xu M l0 5 ((M l0 5) + 1)), J))).bind (fun r => ev (46, 30, [.ref l0, .int l1, .null, .null, .null], r.1.toList ++ [], r.2)) else none else none else none else bif decide ((sh.2.2.1 l0).1 = 5) then bif (decide ((sh.2.2.1 l0).1 = 5) && true) then (ev (55, 0, [.ref l0, .int 3, .int (M l0 5)], [], (sh, M, J))).bind (fun r => ev (46, 13, [.ref l0, .int l1, .null, .null, .null], r.1.toList ++ [], r.2)) else none else none) := by
  refine ev_nx (s1 := (46, 1, [.ref l0, .int l1, .null, .null, .null], [.int l1], (sh, M, J))) f_46_0 rfl ?_
  refine ev_br (s1 := (46, 14, [.ref l0, .int l1, .null, .null, .null], [], (sh, M, J))) (s2 := (46, 4, [.ref l0, .int l1, .null, .null, .null], [], (sh, M, J))) f_46_1 rfl ?_ ?_
  · refine ev_nx (s1 := (46, 15, [.ref l0, .int l1, .null, .null, .null], [.ref l0], (sh, M, J))) f_46_14 rfl ?_
    refine ev_nx (s1 := (46, 16, [.ref l0, .int l1, .null, .null, .null], [.ref l0, .ref l0], (sh, M, J))) f_46_15 rfl ?_
    refine ev_gd (s1 := (46, 19, [.ref l0, .int l1, .null, .null, .null], [.int (M l0 5), .ref l0], (sh, M, J))) f_46_16 rfl ?_
    refine ev_nx (s1 := (46, 20, [.ref l0, .int l1, .null, .null, .null], [.int 1, .int (M l0 5), .ref l0], (sh, M, J))) f_46_19 rfl ?_
    refine ev_nx (s1 := (46, 21, [.ref l0, .int l1, .null, .null, .null], [.int ((M l0 5) + 1), .ref l0], (sh, M, J))) f_46_20 rfl ?_
    refine ev_gd (s1 := (46, 24, [.ref l0, .int l1, .null, .null, .null], [], (sh, (xu M l0 5 ((M l0 5) + 1)), J))) f_46_21 rfl ?_
    refine ev_nx (s1 := (46, 25, [.ref l0, .int l1, .null, .null, .null], [.ref l0], (sh, (xu M l0 5 ((M l0 5) + 1)), J))) f_46_24 rfl ?_
    refine ev_nx (s1 := (46, 26, [.ref l0, .int l1, .null, .null, .null], [.int 1, .ref l0], (sh, (xu M l0 5 ((M l0 5) + 1)), J))) f_46_25 rfl ?_
    refine ev_nx (s1 := (46, 27, [.ref l0, .int l1, .null, .null, .null], [.int 5, .int 1, .ref l0], (sh, (xu M l0 5 ((M l0 5) + 1)), J))) f_46_26 rfl ?_
    exact ev_ca (cc := (decide ((sh.2.2.1 l0).1 = 5) && true)) (s1 := (50, 0, [.ref l0, .int 1, .int 5, .null, .null], [], (sh, (xu M l0 5 ((M l0 5) + 1)), J))) (k := (46, 30, [.ref l0, .int l1, .null, .null, .null], [])) f_46_27 rfl
  · refine ev_nx (s1 := (46, 5, [.ref l0, .int l1, .null, .null, .null], [.ref l0], (sh, M, J))) f_46_4 rfl ?_
    refine ev_nx (s1 := (46, 6, [.ref l0, .int l1, .null, .null, .null], [.int 3, .ref l0], (sh, M, J))) f_46_5 rfl ?_
    refine ev_nx (s1 := (46, 7, [.ref l0, .int l1, .null, .null, .null], [.ref l0, .int 3, .ref l0], (sh, M, J))) f_46_6 rfl ?_
    refine ev_gd (s1 := (46, 10, [.ref l0, .int l1, .null, .null, .null], [.int (M l0 5), .int 3, .ref l0], (sh, M, J))) f_46_7 rfl ?_
    exact ev_ca (cc := (decide ((sh.2.2.1 l0).1 = 5) && true)) (s1 := (55, 0, [.ref l0, .int 3, .int (M l0 5)], [], (sh, M, J))) (k := (46, 13, [.ref l0, .int l1, .null, .null, .null], [])) f_46_10 rfl
theorem b_Reader_readCurtain_13 (sh : xSh) (M : Nat → Nat → Int32) (J : Nat → Nat → Int64) (l0 : Nat) (l1 : Int32) : ev (46, 13, [.ref l0, .int l1, .null, .null, .null], [], (sh, M, J)) = (some (none, (sh, M, J))) := by
  exact ev_r1 f_46_13 rfl
theorem b_Reader_readCurtain_30 (sh : xSh) (M : Nat → Nat → Int32) (J : Nat → Nat → Int64) (l0 : Nat) (l1 : Int32) (k0 : Int32) : ev (46, 30, [.ref l0, .int l1, .null, .null, .null], [.int k0], (sh, M, J)) = (bif (decide ((sh.2.2.1 l0).1 = 5) && true) then (ev (50, 0, [.ref l0, .int 1, .int 4, .null, .null], [], (sh, M, J))).bind (fun r => ev (46, 37, [.ref l0, .int l1, .int k0, .null, .null], r.1.toList ++ [], r.2)) else none) := by
  refine ev_nx (s1 := (46, 31, [.ref l0, .int l1, .int k0, .null, .null], [], (sh, M, J))) f_46_30 rfl ?_
  refine ev_nx (s1 := (46, 32, [.ref l0, .int l1, .int k0, .null, .null], [.ref l0], (sh, M, J))) f_46_31 rfl ?_
  refine ev_nx (s1 := (46, 33, [.ref l0, .int l1, .int k0, .null, .null], [.int 1, .ref l0], (sh, M, J))) f_46_32 rfl ?_
  refine ev_nx (s1 := (46, 34, [.ref l0, .int l1, .int k0, .null, .null], [.int 4, .int 1, .ref l0], (sh, M, J))) f_46_33 rfl ?_
  exact ev_ca (cc := (decide ((sh.2.2.1 l0).1 = 5) && true)) (s1 := (50, 0, [.ref l0, .int 1, .int 4, .null, .null], [], (sh, M, J))) (k := (46, 37, [.ref l0, .int l1, .int k0, .null, .null], [])) f_46_34 rfl
theorem b_Reader_readCurtain_37 (sh : xSh) (M : Nat → Nat → Int32) (J : Nat → Nat → Int64) (l0 : Nat) (l1 : Int32) (l2 : Int32) (k0 : Int32) : ev (46, 37, [.ref l0, .int l1, .int l2, .null, .null], [.int k0], (sh, M, J)) = (bif (decide ((sh.2.2.1 l0).1 = 5) && true) then (ev (50, 0, [.ref l0, .int 0, .int 4, .null, .null], [], (sh, M, J))).bind (fun r => ev (46, 44, [.ref l0, .int l1, .int l2, .int k0, .null], r.1.toList ++ [], r.2)) else none) := by
  refine ev_nx (s1 := (46, 38, [.ref l0, .int l1, .int l2, .int k0, .null], [], (sh, M, J))) f_46_37 rfl ?_
  refine ev_nx (s1 := (46, 39, [.ref l0, .int l1, .int l2, .int k0, .null], [.ref l0], (sh, M, J))) f_46_38 rfl ?_
  refine ev_nx (s1 := (46, 40, [.ref l0, .int l1, .int l2, .int k0, .null], [.int 0, .ref l0], (sh, M, J))) f_46_39 rfl ?_
  refine ev_nx (s1 := (46, 41, [.ref l0, .int l1, .int l2, .int k0, .null], [.int 4, .int 0, .ref l0], (sh, M, J))) f_46_40 rfl ?_
  exact ev_ca (cc := (decide ((sh.2.2.1 l0).1 = 5) && true)) (s1 := (50, 0, [.ref l0, .int 0, .int 4, .null, .null], [], (sh, M, J))) (k := (46, 44, [.ref l0, .int l1, .int l2, .int k0, .null], [])) f_46_41 rfl
theorem b_Reader_readCurtain_44 (sh : xSh) (M : Nat → Nat → Int32) (J : Nat → Nat → Int64) (l0 : Nat) (l1 : Int32) (l2 : Int32) (l3 : Int32) (k0 : Int32) : ev (46, 44, [.ref l0, .int l1, .int l2, .int l3, .null], [.int k0], (sh, M, J)) = (bif (decide ((sh.2.2.1 l0).1 = 5) && true) then (ev (51, 0, [.ref l0], [], (sh, M, J))).bind (fun r => ev (46, 50, [.ref l0, .int l1, .int l2, .int l3, .int k0], r.1.toList ++ [], r.2)) else none) := by
  refine ev_nx (s1 := (46, 46, [.ref l0, .int l1, .int l2, .int l3, .int k0], [], (sh, M, J))) f_46_44 rfl ?_
  refine ev_nx (s1 := (46, 47, [.ref l0, .int l1, .int l2, .int l3, .int k0], [.ref l0], (sh, M, J))) f_46_46 rfl ?_
  exact ev_ca (cc := (decide ((sh.2.2.1 l0).1 = 5) && true)) (s1 := (51, 0, [.ref l0], [], (sh, M, J))) (k := (46, 50, [.ref l0, .int l1, .int l2, .int l3, .int k0], [])) f_46_47 rfl
theorem b_Reader_readCurtain_50 (sh : xSh) (M : Nat → Nat → Int32) (J : Nat → Nat → Int64) (l0 : Nat) (l1 : Int32) (l2 : Int32) (l3 : Int32) (l4 : Int32) : ev (46, 50, [.ref l0, .int l1, .int l2, .int l3, .int l4], [], (sh, M, J)) = (bif decide ((sh.2.2.1 l0).1 = 5) then bif decide ((sh.2.2.1 (sh.2.2.2 l0 0)).1 = 1) then bif decide ((sh.2.2.1 l0).1 = 5) then bif decide ((sh.2.2.1 (sh.2.2.2 l0 0)).1 = 1) then bif decide ((sh.2.2.1 l0).1 = 5) then bif (decide ((sh.2.2.1 (sh.2.2.2 l0 1)).1 = 6) && true) then (ev (68, 0, [.ref (sh.2.2.2 l0 1), .int l4, .null], [], (sh, (xu (xu M (sh.2.2.2 l0 0) 0 l2) (sh.2.2.2 l0 0) 1 l3), J))).bind (fun r => ev (46, 75, [.ref l0, .int l1, .int l2, .int l3, .int l4], r.1.toList ++ [], r.2)) else none else none else none else none else none else none) := by
  refine ev_nx (s1 := (46, 51, [.ref l0, .int l1, .int l2, .int l3, .int l4], [.ref l0], (sh, M, J))) f_46_50 rfl ?_
  refine ev_gd (s1 := (46, 54, [.ref l0, .int l1, .int l2, .int l3, .int l4], [.ref (sh.2.2.2 l0 0)], (sh, M, J))) f_46_51 rfl ?_
  refine ev_nx (s1 := (46, 55, [.ref l0, .int l1, .int l2, .int l3, .int l4], [.int l2, .ref (sh.2.2.2 l0 0)], (sh, M, J))) f_46_54 rfl ?_
  refine ev_gd (s1 := (46, 58, [.ref l0, .int l1, .int l2, .int l3, .int l4], [], (sh, (xu M (sh.2.2.2 l0 0) 0 l2), J))) f_46_55 rfl ?_
  refine ev_nx (s1 := (46, 59, [.ref l0, .int l1, .int l2, .int l3, .int l4], [.ref l0], (sh, (xu M (sh.2.2.2 l0 0) 0 l2), J))) f_46_58 rfl ?_
  refine ev_gd (s1 := (46, 62, [.ref l0, .int l1, .int l2, .int l3, .int l4], [.ref (sh.2.2.2 l0 0)], (sh, (xu M (sh.2.2.2 l0 0) 0 l2), J))) f_46_59 rfl ?_
  refine ev_nx (s1 := (46, 63, [.ref l0, .int l1, .int l2, .int l3, .int l4], [.int l3, .ref (sh.2.2.2 l0 0)], (sh, (xu M (sh.2.2.2 l0 0) 0 l2), J))) f_46_62 rfl ?_
  refine ev_gd (s1 := (46, 66, [.ref l0, .int l1, .int l2, .int l3, .int l4], [], (sh, (xu (xu M (sh.2.2.2 l0 0) 0 l2) (sh.2.2.2 l0 0) 1 l3), J))) f_46_63 rfl ?_
  refine ev_nx (s1 := (46, 67, [.ref l0, .int l1, .int l2, .int l3, .int l4], [.ref l0], (sh, (xu (xu M (sh.2.2.2 l0 0) 0 l2) (sh.2.2.2 l0 0) 1 l3), J))) f_46_66 rfl ?_
  refine ev_gd (s1 := (46, 70, [.ref l0, .int l1, .int l2, .int l3, .int l4], [.ref (sh.2.2.2 l0 1)], (sh, (xu (xu M (sh.2.2.2 l0 0) 0 l2) (sh.2.2.2 l0 0) 1 l3), J))) f_46_67 rfl ?_
  refine ev_nx (s1 := (46, 72, [.ref l0, .int l1, .int l2, .int l3, .int l4], [.int l4, .ref (sh.2.2.2 l0 1)], (sh, (xu (xu M (sh.2.2.2 l0 0) 0 l2) (sh.2.2.2 l0 0) 1 l3), J))) f_46_70 rfl ?_
  exact ev_ca (cc := (decide ((sh.2.2.1 (sh.2.2.2 l0 1)).1 = 6) && true)) (s1 := (68, 0, [.ref (sh.2.2.2 l0 1), .int l4, .null], [], (sh, (xu (xu M (sh.2.2.2 l0 0) 0 l2) (sh.2.2.2 l0 0) 1 l3), J))) (k := (46, 75, [.ref l0, .int l1, .int l2, .int l3, .int l4], [])) f_46_72 rfl
theorem b_Reader_readCurtain_75 (sh : xSh) (M : Nat → Nat → Int32) (J : Nat → Nat → Int64) (l0 : Nat) (l1 : Int32) (l2 : Int32) (l3 : Int32) (l4 : Int32) : ev (46, 75, [.ref l0, .int l1, .int l2, .int l3, .int l4], [], (sh, M, J)) = (some (none, (sh, M, J))) := by
  exact ev_r1 f_46_75 rfl
theorem f_47_0 : xfind (xnth xTs 47) 0 = some (0, .aload_n 0, 1, (0, 0, 0, 0), .null, [], 0, 0, []) := rfl
theorem f_47_1 : xfind (xnth xTs 47) 1 = some (1, .dup, 1, (0, 0, 0, 0), .null, [], 0, 0, []) := rfl
theorem f_47_2 : xfind (xnth xTs 47) 2 = some (2, .getfield 36, 3, (5, 5, 0, 0), .null, [], 163, 0, []) := rfl
theorem f_47_5 : xfind (xnth xTs 47) 5 = some (5, .iconst 1, 1, (0, 0, 0, 0), (.int 1), [], 0, 0, []) := rfl
theorem f_47_6 : xfind (xnth xTs 47) 6 = some (6, .iadd, 1, (0, 0, 0, 0), .null, [], 0, 0, []) := rfl
theorem f_47_7 : xfind (xnth xTs 47) 7 = some (7, .putfield 36, 3, (5, 5, 0, 0), .null, [], 163, 0, []) := rfl
theorem f_47_10 : xfind (xnth xTs 47) 10 = some (10, .aload_n 0, 1, (0, 0, 0, 0), .null, [], 0, 0, []) := rfl
theorem f_47_11 : xfind (xnth xTs 47) 11 = some (11, .iconst 0, 1, (0, 0, 0, 0), (.int 0), [], 0, 0, []) := rfl
theorem f_47_12 : xfind (xnth xTs 47) 12 = some (12, .iconst 4, 1, (0, 0, 0, 0), (.int 4), [], 0, 0, []) := rfl
theorem f_47_13 : xfind (xnth xTs 47) 13 = some (13, .invokevirtual 83, 3, (50, 2, 5, 5), .null, [], 372, 0, []) := rfl
theorem f_47_16 : xfind (xnth xTs 47) 16 = some (16, .istore_n 1, 1, (0, 0, 0, 0), .null, [], 0, 0, []) := rfl
theorem f_47_17 : xfind (xnth xTs 47) 17 = some (17, .aload_n 0, 1, (0, 0, 0, 0), .null, [], 0, 0, []) := rfl
theorem f_47_18 : xfind (xnth xTs 47) 18 = some (18, .getfield 42, 3, (5, 7, 0, 0), .null, [], 165, 0, []) := rfl
theorem f_47_21 : xfind (xnth xTs 47) 21 = some (21, .iload_n 1, 1, (0, 0, 0, 0), .null, [], 0, 0, []) := rfl
theorem f_47_22 : xfind (xnth xTs 47) 22 = some (22, .invokestatic 100, 3, (127, 2, 8, 2), .null, [], 397, 0, []) := rfl
theorem f_47_25 : xfind (xnth xTs 47) 25 = some (25, .ifCond .eq 12, 3, (0, 0, 0, 0), .null, [], 0, 0, []) := rfl
theorem f_47_28 : xfind (xnth xTs 47) 28 = some (28, .aload_n 0, 1, (0, 0, 0, 0), .null, [], 0, 0, []) := rfl
theorem f_47_29 : xfind (xnth xTs 47) 29 = some (29, .iconst 4, 1, (0, 0, 0, 0), (.int 4), [], 0, 0, []) := rfl
theorem f_47_30 : xfind (xnth xTs 47) 30 = some (30, .aload_n 0, 1, (0, 0, 0, 0), .null, [], 0, 0, []) := rfl
theorem f_47_31 : xfind (xnth xTs 47) 31 = some (31, .getfield 45, 3, (5, 8, 0, 0), .null, [], 166, 0, []) := rfl
theorem f_47_34 : xfind (xnth xTs 47) 34 = some (34, .invokevirtual 67, 3, (55, 2, 5, 3), .null, [], 364, 0, []) := rfl
theorem f_47_37 : xfind (xnth xTs 47) 37 = some (37, .aload_n 0, 1, (0, 0, 0, 0), .null, [], 0, 0, []) := rfl
theorem f_47_38 : xfind (xnth xTs 47) 38 = some (38, .iconst 0, 1, (0, 0, 0, 0), (.int 0), [], 0, 0, []) := rfl
theorem f_47_39 : xfind (xnth xTs 47) 39 = some (39, .bipush 99, 2, (0, 0, 0, 0), (.int 99), [], 0, 0, []) := rfl
theorem f_47_41 : xfind (xnth xTs 47) 41 = some (41, .invokevirtual 83, 3, (50, 2, 5, 5), .null, [], 372, 0, []) := rfl
theorem f_47_44 : xfind (xnth xTs 47) 44 = some (44, .istore_n 2, 1, (0, 0, 0, 0), .null, [], 0, 0, []) := rfl
theorem f_47_45 : xfind (xnth xTs 47) 45 = some (45, .aload_n 0, 1, (0, 0, 0, 0), .null, [], 0, 0, []) := rfl
theorem f_47_46 : xfind (xnth xTs 47) 46 = some (46, .iconst 0, 1, (0, 0, 0, 0), (.int 0), [], 0, 0, []) := rfl
theorem f_47_47 : xfind (xnth xTs 47) 47 = some (47, .bipush 9, 2, (0, 0, 0, 0), (.int 9), [], 0, 0, []) := rfl
theorem f_47_49 : xfind (xnth xTs 47) 49 = some (49, .invokevirtual 83, 3, (50, 2, 5, 5), .null, [], 372, 0, []) := rfl
theorem f_47_52 : xfind (xnth xTs 47) 52 = some (52, .istore_n 3, 1, (0, 0, 0, 0), .null, [], 0, 0, []) := rfl
theorem f_47_53 : xfind (xnth xTs 47) 53 = some (53, .aload_n 0, 1, (0, 0, 0, 0), .null, [], 0, 0, []) := rfl
theorem f_47_54 : xfind (xnth xTs 47) 54 = some (54, .iconst 1, 1, (0, 0, 0, 0), (.int 1), [], 0, 0, []) := rfl
theorem f_47_55 : xfind (xnth xTs 47) 55 = some (55, .bipush 60, 2, (0, 0, 0, 0), (.int 60), [], 0, 0, []) := rfl
theorem f_47_57 : xfind (xnth xTs 47) 57 = some (57, .invokevirtual 83, 3, (50, 2, 5, 5), .null, [], 372, 0, []) := rfl
theorem f_47_60 : xfind (xnth xTs 47) 60 = some (60, .istore 4, 2, (0, 0, 0, 0), .null, [], 0, 0, []) := rfl
theorem f_47_62 : xfind (xnth xTs 47) 62 = some (62, .aload_n 0, 1, (0, 0, 0, 0), .null, [], 0, 0, []) := rfl
theorem f_47_63 : xfind (xnth xTs 47) 63 = some (63, .invokevirtual 87, 3, (51, 0, 5, 1), .null, [], 385, 0, []) := rfl
theorem f_47_66 : xfind (xnth xTs 47) 66 = some (66, .aload_n 0, 1, (0, 0, 0, 0), .null, [], 0, 0, []) := rfl
theorem f_47_67 : xfind (xnth xTs 47) 67 = some (67, .dup, 1, (0, 0, 0, 0), .null, [], 0, 0, []) := rfl
theorem f_47_68 : xfind (xnth xTs 47) 68 = some (68, .getfield 42, 3, (5, 7, 0, 0), .null, [], 165, 0, []) := rfl
theorem f_47_71 : xfind (xnth xTs 47) 71 = some (71, .iconst 1, 1, (0, 0, 0, 0), (.int 1), [], 0, 0, []) := rfl
theorem f_47_72 : xfind (xnth xTs 47) 72 = some (72, .iload_n 1, 1, (0, 0, 0, 0), .null, [], 0, 0, []) := rfl
theorem f_47_73 : xfind (xnth xTs 47) 73 = some (73, .ishl, 1, (0, 0, 0, 0), .null, [], 0, 0, []) := rfl
theorem f_47_74 : xfind (xnth xTs 47) 74 = some (74, .ior, 1, (0, 0, 0, 0), .null, [], 0, 0, []) := rfl
theorem f_47_75 : xfind (xnth xTs 47) 75 = some (75, .putfield 42, 3, (5, 7, 0, 0), .null, [], 165, 0, []) := rfl
theorem f_47_78 : xfind (xnth xTs 47) 78 = some (78, .aload_n 0, 1, (0, 0, 0, 0), .null, [], 0, 0, []) := rfl
theorem f_47_79 : xfind (xnth xTs 47) 79 = some (79, .getfield 12, 3, (5, 0, 1, 0), .null, [], 154, 0, []) := rfl
theorem f_47_82 : xfind (xnth xTs 47) 82 = some (82, .iload_n 1, 1, (0, 0, 0, 0), .null, [], 0, 0, []) := rfl
theorem f_47_83 : xfind (xnth xTs 47) 83 = some (83, .iload_n 2, 1, (0, 0, 0, 0), .null, [], 0, 0, []) := rfl
theorem f_47_84 : xfind (xnth xTs 47) 84 = some (84, .iload_n 3, 1, (0, 0, 0, 0), .null, [], 0, 0, []) := rfl
theorem f_47_85 : xfind (xnth xTs 47) 85 = some (85, .iload 4, 2, (0, 0, 0, 0), .null, [], 0, 0, []) := rfl
theorem f_47_87 : xfind (xnth xTs 47) 87 = some (87, .invokevirtual 104, 3, (7, 4, 1, 5), .null, [], 400, 0, []) := rfl
theorem f_47_90 : xfind (xnth xTs 47) 90 = some (90, .return_, 1, (0, 0, 0, 0), .null, [], 0, 0, []) := rfl
theorem b_Reader_readCloth_0 (sh : xSh) (M : Nat → Nat → Int32) (J : Nat → Nat → Int64) (l0 : Nat) : ev (47, 0, [.ref l0, .null, .null, .null, .null], [], (sh, M, J)) = (bif decide ((sh.2.2.1 l0).1 = 5) then bif decide ((sh.2.2.1 l0).1 = 5) then bif (decide ((sh.2.2.1 l0).1 = 5) && true) then (ev (50, 0, [.ref l0, .int 0, .int 4, .null, .null], [], (sh, (xu M l0 5 ((M l0 5) + 1)), J))).bind (fun r => ev (47, 16, [.ref l0, .null, .null, .null, .null], r.1.toList ++ [], r.2)) else none else none else none) := by
  refine ev_nx (s1 := (47, 1, [.ref l0, .null, .null, .null, .null], [.ref l0], (sh, M, J))) f_47_0 rfl ?_
  refine ev_nx (s1 := (47, 2, [.ref l0, .null, .null, .null, .null], [.ref l0, .ref l0], (sh, M, J))) f_47_1 rfl ?_
  refine ev_gd (s1 := (47, 5, [.ref l0, .null, .null, .null, .null], [.int (M l0 5), .ref l0], (sh, M, J))) f_47_2 rfl ?_
  refine ev_nx (s1 := (47, 6, [.ref l0, .null, .null, .null, .null], [.int 1, .int (M l0 5), .ref l0], (sh, M, J))) f_47_5 rfl ?_
  refine ev_nx (s1 := (47, 7, [.ref l0, .null, .null, .null, .null], [.int ((M l0 5) + 1), .ref l0], (sh, M, J))) f_47_6 rfl ?_
  refine ev_gd (s1 := (47, 10, [.ref l0, .null, .null, .null, .null], [], (sh, (xu M l0 5 ((M l0 5) + 1)), J))) f_47_7 rfl ?_
  refine ev_nx (s1 := (47, 11, [.ref l0, .null, .null, .null, .null], [.ref l0], (sh, (xu M l0 5 ((M l0 5) + 1)), J))) f_47_10 rfl ?_
  refine ev_nx (s1 := (47, 12, [.ref l0, .null, .null, .null, .null], [.int 0, .ref l0], (sh, (xu M l0 5 ((M l0 5) + 1)), J))) f_47_11 rfl ?_
  refine ev_nx (s1 := (47, 13, [.ref l0, .null, .null, .null, .null], [.int 4, .int 0, .ref l0], (sh, (xu M l0 5 ((M l0 5) + 1)), J))) f_47_12 rfl ?_
  exact ev_ca (cc := (decide ((sh.2.2.1 l0).1 = 5) && true)) (s1 := (50, 0, [.ref l0, .int 0, .int 4, .null, .null], [], (sh, (xu M l0 5 ((M l0 5) + 1)), J))) (k := (47, 16, [.ref l0, .null, .null, .null, .null], [])) f_47_13 rfl
theorem b_Reader_readCloth_16 (sh : xSh) (M : Nat → Nat → Int32) (J : Nat → Nat → Int64) (l0 : Nat) (k0 : Int32) : ev (47, 16, [.ref l0, .null, .null, .null, .null], [.int k0], (sh, M, J)) = (bif decide ((sh.2.2.1 l0).1 = 5) then (ev (127, 0, [.int (M l0 7), .int k0], [], (sh, M, J))).bind (fun r => ev (47, 25, [.ref l0, .int k0, .null, .null, .null], r.1.toList ++ [], r.2)) else none) := by
  refine ev_nx (s1 := (47, 17, [.ref l0, .int k0, .null, .null, .null], [], (sh, M, J))) f_47_16 rfl ?_
  refine ev_nx (s1 := (47, 18, [.ref l0, .int k0, .null, .null, .null], [.ref l0], (sh, M, J))) f_47_17 rfl ?_
  refine ev_gd (s1 := (47, 21, [.ref l0, .int k0, .null, .null, .null], [.int (M l0 7)], (sh, M, J))) f_47_18 rfl ?_
  refine ev_nx (s1 := (47, 22, [.ref l0, .int k0, .null, .null, .null], [.int k0, .int (M l0 7)], (sh, M, J))) f_47_21 rfl ?_
  exact ev_c1 (s1 := (127, 0, [.int (M l0 7), .int k0], [], (sh, M, J))) (k := (47, 25, [.ref l0, .int k0, .null, .null, .null], [])) f_47_22 rfl
theorem b_Reader_readCloth_25 (sh : xSh) (M : Nat → Nat → Int32) (J : Nat → Nat → Int64) (l0 : Nat) (l1 : Int32) (k0 : Int32) : ev (47, 25, [.ref l0, .int l1, .null, .null, .null], [.int k0], (sh, M, J)) = (bif decide (k0 = 0) then bif (decide ((sh.2.2.1 l0).1 = 5) && true) then (ev (50, 0, [.ref l0, .int 0, .int 99, .null, .null], [], (sh, M, J))).bind (fun r => ev (47, 44, [.ref l0, .int l1, .null, .null, .null], r.1.toList ++ [], r.2)) else none else bif decide ((sh.2.2.1 l0).1 = 5) then bif (decide ((sh.2.2.1 l0).1 = 5) && true) then (ev (55, 0, [.ref l0, .int 4, .int (M l0 8)], [], (sh, M, J))).bind (fun r => ev (47, 37, [.ref l0, .int l1, .null, .null, .null], r.1.toList ++ [], r.2)) else none else none) := by
  refine ev_br (s1 := (47, 37, [.ref l0, .int l1, .null, .null, .null], [], (sh, M, J))) (s2 := (47, 28, [.ref l0, .int l1, .null, .null, .null], [], (sh, M, J))) f_47_25 rfl ?_ ?_
  · refine ev_nx (s1 := (47, 38, [.ref l0, .int l1, .null, .null, .null], [.ref l0], (sh, M, J))) f_47_37 rfl ?_
    refine ev_nx (s1 := (47, 39, [.ref l0, .int l1, .null, .null, .null], [.int 0, .ref l0], (sh, M, J))) f_47_38 rfl ?_
    refine ev_nx (s1 := (47, 41, [.ref l0, .int l1, .null, .null, .null], [.int 99, .int 0, .ref l0], (sh, M, J))) f_47_39 rfl ?_
    exact ev_ca (cc := (decide ((sh.2.2.1 l0).1 = 5) && true)) (s1 := (50, 0, [.ref l0, .int 0, .int 99, .null, .null], [], (sh, M, J))) (k := (47, 44, [.ref l0, .int l1, .null, .null, .null], [])) f_47_41 rfl
  · refine ev_nx (s1 := (47, 29, [.ref l0, .int l1, .null, .null, .null], [.ref l0], (sh, M, J))) f_47_28 rfl ?_
    refine ev_nx (s1 := (47, 30, [.ref l0, .int l1, .null, .null, .null], [.int 4, .ref l0], (sh, M, J))) f_47_29 rfl ?_
    refine ev_nx (s1 := (47, 31, [.ref l0, .int l1, .null, .null, .null], [.ref l0, .int 4, .ref l0], (sh, M, J))) f_47_30 rfl ?_
    refine ev_gd (s1 := (47, 34, [.ref l0, .int l1, .null, .null, .null], [.int (M l0 8), .int 4, .ref l0], (sh, M, J))) f_47_31 rfl ?_
    exact ev_ca (cc := (decide ((sh.2.2.1 l0).1 = 5) && true)) (s1 := (55, 0, [.ref l0, .int 4, .int (M l0 8)], [], (sh, M, J))) (k := (47, 37, [.ref l0, .int l1, .null, .null, .null], [])) f_47_34 rfl
theorem b_Reader_readCloth_37 (sh : xSh) (M : Nat → Nat → Int32) (J : Nat → Nat → Int64) (l0 : Nat) (l1 : Int32) : ev (47, 37, [.ref l0, .int l1, .null, .null, .null], [], (sh, M, J)) = (bif (decide ((sh.2.2.1 l0).1 = 5) && true) then (ev (50, 0, [.ref l0, .int 0, .int 99, .null, .null], [], (sh, M, J))).bind (fun r => ev (47, 44, [.ref l0, .int l1, .null, .null, .null], r.1.toList ++ [], r.2)) else none) := by
  refine ev_nx (s1 := (47, 38, [.ref l0, .int l1, .null, .null, .null], [.ref l0], (sh, M, J))) f_47_37 rfl ?_
  refine ev_nx (s1 := (47, 39, [.ref l0, .int l1, .null, .null, .null], [.int 0, .ref l0], (sh, M, J))) f_47_38 rfl ?_
  refine ev_nx (s1 := (47, 41, [.ref l0, .int l1, .null, .null, .null], [.int 99, .int 0, .ref l0], (sh, M, J))) f_47_39 rfl ?_
  exact ev_ca (cc := (decide ((sh.2.2.1 l0).1 = 5) && true)) (s1 := (50, 0, [.ref l0, .int 0, .int 99, .null, .null], [], (sh, M, J))) (k := (47, 44, [.ref l0, .int l1, .null, .null, .null], [])) f_47_41 rfl
theorem b_Reader_readCloth_44 (sh : xSh) (M : Nat → Nat → Int32) (J : Nat → Nat → Int64) (l0 : Nat) (l1 : Int32) (k0 : Int32) : ev (47, 44, [.ref l0, .int l1, .null, .null, .null], [.int k0], (sh, M, J)) = (bif (decide ((sh.2.2.1 l0).1 = 5) && true) then (ev (50, 0, [.ref l0, .int 0, .int 9, .null, .null], [], (sh, M, J))).bind (fun r => ev (47, 52, [.ref l0, .int l1, .int k0, .null, .null], r.1.toList ++ [], r.2)) else none) := by
  refine ev_nx (s1 := (47, 45, [.ref l0, .int l1, .int k0, .null, .null], [], (sh, M, J))) f_47_44 rfl ?_
  refine ev_nx (s1 := (47, 46, [.ref l0, .int l1, .int k0, .null, .null], [.ref l0], (sh, M, J))) f_47_45 rfl ?_
  refine ev_nx (s1 := (47, 47, [.ref l0, .int l1, .int k0, .null, .null], [.int 0, .ref l0], (sh, M, J))) f_47_46 rfl ?_
  refine ev_nx (s1 := (47, 49, [.ref l0, .int l1, .int k0, .null, .null], [.int 9, .int 0, .ref l0], (sh, M, J))) f_47_47 rfl ?_
  exact ev_ca (cc := (decide ((sh.2.2.1 l0).1 = 5) && true)) (s1 := (50, 0, [.ref l0, .int 0, .int 9, .null, .null], [], (sh, M, J))) (k := (47, 52, [.ref l0, .int l1, .int k0, .null, .null], [])) f_47_49 rfl
theorem b_Reader_readCloth_52 (sh : xSh) (M : Nat → Nat → Int32) (J : Nat → Nat → Int64) (l0 : Nat) (l1 : Int32) (l2 : Int32) (k0 : Int32) : ev (47, 52, [.ref l0, .int l1, .int l2, .null, .null], [.int k0], (sh, M, J)) = (bif (decide ((sh.2.2.1 l0).1 = 5) && true) then (ev (50, 0, [.ref l0, .int 1, .int 60, .null, .null], [], (sh, M, J))).bind (fun r => ev (47, 60, [.ref l0, .int l1, .int l2, .int k0, .null], r.1.toList ++ [], r.2)) else none) := by
  refine ev_nx (s1 := (47, 53, [.ref l0, .int l1, .int l2, .int k0, .null], [], (sh, M, J))) f_47_52 rfl ?_
  refine ev_nx (s1 := (47, 54, [.ref l0, .int l1, .int l2, .int k0, .null], [.ref l0], (sh, M, J))) f_47_53 rfl ?_
  refine ev_nx (s1 := (47, 55, [.ref l0, .int l1, .int l2, .int k0, .null], [.int 1, .ref l0], (sh, M, J))) f_47_54 rfl ?_
  refine ev_nx (s1 := (47, 57, [.ref l0, .int l1, .int l2, .int k0, .null], [.int 60, .int 1, .ref l0], (sh, M, J))) f_47_55 rfl ?_
  exact ev_ca (cc := (decide ((sh.2.2.1 l0).1 = 5) && true)) (s1 := (50, 0, [.ref l0, .int 1, .int 60, .null, .null], [], (sh, M, J))) (k := (47, 60, [.ref l0, .int l1, .int l2, .int k0, .null], [])) f_47_57 rfl
theorem b_Reader_readCloth_60 (sh : xSh) (M : Nat → Nat → Int32) (J : Nat → Nat → Int64) (l0 : Nat) (l1 : Int32) (l2 : Int32) (l3 : Int32) (k0 : Int32) : ev (47, 60, [.ref l0, .int l1, .int l2, .int l3, .null], [.int k0], (sh, M, J)) = (bif (decide ((sh.2.2.1 l0).1 = 5) && true) then (ev (51, 0, [.ref l0], [], (sh, M, J))).bind (fun r => ev (47, 66, [.ref l0, .int l1, .int l2, .int l3, .int k0], r.1.toList ++ [], r.2)) else none) := by
  refine ev_nx (s1 := (47, 62, [.ref l0, .int l1, .int l2, .int l3, .int k0], [], (sh, M, J))) f_47_60 rfl ?_
  refine ev_nx (s1 := (47, 63, [.ref l0, .int l1, .int l2, .int l3, .int k0], [.ref l0], (sh, M, J))) f_47_62 rfl ?_
  exact ev_ca (cc := (decide ((sh.2.2.1 l0).1 = 5) && true)) (s1 := (51, 0, [.ref l0], [], (sh, M, J))) (k := (47, 66, [.ref l0, .int l1, .int l2, .int l3, .int k0], [])) f_47_63 rfl
theorem b_Reader_readCloth_66 (sh : xSh) (M : Nat → Nat → Int32) (J : Nat → Nat → Int64) (l0 : Nat) (l1 : Int32) (l2 : Int32) (l3 : Int32) (l4 : Int32) : ev (47, 66, [.ref l0, .int l1, .int l2, .int l3, .int l4], [], (sh, M, J)) = (bif decide ((sh.2.2.1 l0).1 = 5) then bif decide ((sh.2.2.1 l0).1 = 5) then bif decide ((sh.2.2.1 l0).1 = 5) then bif (decide ((sh.2.2.1 (sh.2.2.2 l0 0)).1 = 1) && true) then (ev (7, 0, [.ref (sh.2.2.2 l0 0), .int l1, .int l2, .int l3, .int l4], [], (sh, (xu M l0 7 ((M l0 7) ||| ((1 : Int32) <<< (l1 &&& 31)))), J))).bind (fun r => ev (47, 90, [.ref l0, .int l1, .int l2, .int l3, .int l4], r.1.toList ++ [], r.2)) else none else none else none else none) := by
  refine ev_nx (s1 := (47, 67, [.ref l0, .int l1, .int l2, .int l3, .int l4], [.ref l0], (sh, M, J))) f_47_66 rfl ?_
  refine ev_nx (s1 := (47, 68, [.ref l0, .int l1, .int l2, .int l3, .int l4], [.ref l0, .ref l0], (sh, M, J))) f_47_67 rfl ?_
  refine ev_gd (s1 := (47, 71, [.ref l0, .int l1, .int l2, .int l3, .int l4], [.int (M l0 7), .ref l0], (sh, M, J))) f_47_68 rfl ?_
  refine ev_nx (s1 := (47, 72, [.ref l0, .int l1, .int l2, .int l3, .int l4], [.int 1, .int (M l0 7), .ref l0], (sh, M, J))) f_47_71 rfl ?_
  refine ev_nx (s1 := (47, 73, [.ref l0, .int l1, .int l2, .int l3, .int l4], [.int l1, .int 1, .int (M l0 7), .ref l0], (sh, M, J))) f_47_72 rfl ?_
  refine ev_nx (s1 := (47, 74, [.ref l0, .int l1, .int l2, .int l3, .int l4], [.int ((1 : Int32) <<< (l1 &&& 31)), .int (M l0 7), .ref l0], (sh, M, J))) f_47_73 rfl ?_
  refine ev_nx (s1 := (47, 75, [.ref l0, .int l1, .int l2, .int l3, .int l4], [.int ((M l0 7) ||| ((1 : Int32) <<< (l1 &&& 31))), .ref l0], (sh, M, J))) f_47_74 rfl ?_
  refine ev_gd (s1 := (47, 78, [.ref l0, .int l1, .int l2, .int l3, .int l4], [], (sh, (xu M l0 7 ((M l0 7) ||| ((1 : Int32) <<< (l1 &&& 31)))), J))) f_47_75 rfl ?_
  refine ev_nx (s1 := (47, 79, [.ref l0, .int l1, .int l2, .int l3, .int l4], [.ref l0], (sh, (xu M l0 7 ((M l0 7) ||| ((1 : Int32) <<< (l1 &&& 31)))), J))) f_47_78 rfl ?_
  refine ev_gd (s1 := (47, 82, [.ref l0, .int l1, .int l2, .int l3, .int l4], [.ref (sh.2.2.2 l0 0)], (sh, (xu M l0 7 ((M l0 7) ||| ((1 : Int32) <<< (l1 &&& 31)))), J))) f_47_79 rfl ?_
  refine ev_nx (s1 := (47, 83, [.ref l0, .int l1, .int l2, .int l3, .int l4], [.int l1, .ref (sh.2.2.2 l0 0)], (sh, (xu M l0 7 ((M l0 7) ||| ((1 : Int32) <<< (l1 &&& 31)))), J))) f_47_82 rfl ?_
  refine ev_nx (s1 := (47, 84, [.ref l0, .int l1, .int l2, .int l3, .int l4], [.int l2, .int l1, .ref (sh.2.2.2 l0 0)], (sh, (xu M l0 7 ((M l0 7) ||| ((1 : Int32) <<< (l1 &&& 31)))), J))) f_47_83 rfl ?_
  refine ev_nx (s1 := (47, 85, [.ref l0, .int l1, .int l2, .int l3, .int l4], [.int l3, .int l2, .int l1, .ref (sh.2.2.2 l0 0)], (sh, (xu M l0 7 ((M l0 7) ||| ((1 : Int32) <<< (l1 &&& 31)))), J))) f_47_84 rfl ?_
  refine ev_nx (s1 := (47, 87, [.ref l0, .int l1, .int l2, .int l3, .int l4], [.int l4, .int l3, .int l2, .int l1, .ref (sh.2.2.2 l0 0)], (sh, (xu M l0 7 ((M l0 7) ||| ((1 : Int32) <<< (l1 &&& 31)))), J))) f_47_85 rfl ?_
  exact ev_ca (cc := (decide ((sh.2.2.1 (sh.2.2.2 l0 0)).1 = 1) && true)) (s1 := (7, 0, [.ref (sh.2.2.2 l0 0), .int l1, .int l2, .int l3, .int l4], [], (sh, (xu M l0 7 ((M l0 7) ||| ((1 : Int32) <<< (l1 &&& 31)))), J))) (k := (47, 90, [.ref l0, .int l1, .int l2, .int l3, .int l4], [])) f_47_87 rfl
theorem b_Reader_readCloth_90 (sh : xSh) (M : Nat → Nat → Int32) (J : Nat → Nat → Int64) (l0 : Nat) (l1 : Int32) (l2 : Int32) (l3 : Int32) (l4 : Int32) : ev (47, 90, [.ref l0, .int l1, .int l2, .int l3, .int l4], [], (sh, M, J)) = (some (none, (sh, M, J))) := by
  exact ev_r1 f_47_90 rfl
theorem f_48_0 : xfind (xnth xTs 48) 0 = some (0, .aload_n 0, 1, (0, 0, 0, 0), .null, [], 0, 0, []) := rfl
theorem f_48_1 : xfind (xnth xTs 48) 1 = some (1, .dup, 1, (0, 0, 0, 0), .null, [], 0, 0, []) := rfl
theorem f_48_2 : xfind (xnth xTs 48) 2 = some (2, .getfield 36, 3, (5, 5, 0, 0), .null, [], 163, 0, []) := rfl
theorem f_48_5 : xfind (xnth xTs 48) 5 = some (5, .iconst 1, 1, (0, 0, 0, 0), (.int 1), [], 0, 0, []) := rfl
theorem f_48_6 : xfind (xnth xTs 48) 6 = some (6, .iadd, 1, (0, 0, 0, 0), .null, [], 0, 0, []) := rfl
theorem f_48_7 : xfind (xnth xTs 48) 7 = some (7, .putfield 36, 3, (5, 5, 0, 0), .null, [], 163, 0, []) := rfl
theorem f_48_10 : xfind (xnth xTs 48) 10 = some (10, .aload_n 0, 1, (0, 0, 0, 0), .null, [], 0, 0, []) := rfl
theorem f_48_11 : xfind (xnth xTs 48) 11 = some (11, .iconst 0, 1, (0, 0, 0, 0), (.int 0), [], 0, 0, []) := rfl
theorem f_48_12 : xfind (xnth xTs 48) 12 = some (12, .aload_n 0, 1, (0, 0, 0, 0), .null, [], 0, 0, []) := rfl
theorem f_48_13 : xfind (xnth xTs 48) 13 = some (13, .getfield 12, 3, (5, 0, 1, 0), .null, [], 154, 0, []) := rfl
theorem f_48_16 : xfind (xnth xTs 48) 16 = some (16, .invokevirtual 108, 3, (13, 0, 1, 1), .null, [], 405, 0, []) := rfl
theorem f_48_19 : xfind (xnth xTs 48) 19 = some (19, .iconst 1, 1, (0, 0, 0, 0), (.int 1), [], 0, 0, []) := rfl
theorem f_48_20 : xfind (xnth xTs 48) 20 = some (20, .isub, 1, (0, 0, 0, 0), .null, [], 0, 0, []) := rfl
theorem f_48_21 : xfind (xnth xTs 48) 21 = some (21, .invokevirtual 83, 3, (50, 2, 5, 5), .null, [], 372, 0, []) := rfl
theorem f_48_24 : xfind (xnth xTs 48) 24 = some (24, .istore_n 1, 1, (0, 0, 0, 0), .null, [], 0, 0, []) := rfl
theorem f_48_25 : xfind (xnth xTs 48) 25 = some (25, .aload_n 0, 1, (0, 0, 0, 0), .null, [], 0, 0, []) := rfl
theorem f_48_26 : xfind (xnth xTs 48) 26 = some (26, .getfield 21, 3, (5, 1, 1, 0), .null, [], 156, 0, []) := rfl
theorem f_48_29 : xfind (xnth xTs 48) 29 = some (29, .invokevirtual 111, 3, (59, 0, 6, 1), .null, [], 409, 0, []) := rfl
theorem f_48_32 : xfind (xnth xTs 48) 32 = some (32, .iload_n 1, 1, (0, 0, 0, 0), .null, [], 0, 0, []) := rfl
theorem f_48_33 : xfind (xnth xTs 48) 33 = some (33, .invokestatic 100, 3, (127, 2, 8, 2), .null, [], 397, 0, []) := rfl
theorem f_48_36 : xfind (xnth xTs 48) 36 = some (36, .ifCond .eq 12, 3, (0, 0, 0, 0), .null, [], 0, 0, []) := rfl
theorem f_48_39 : xfind (xnth xTs 48) 39 = some (39, .aload_n 0, 1, (0, 0, 0, 0), .null, [], 0, 0, []) := rfl
theorem f_48_40 : xfind (xnth xTs 48) 40 = some (40, .iconst 4, 1, (0, 0, 0, 0), (.int 4), [], 0, 0, []) := rfl
theorem f_48_41 : xfind (xnth xTs 48) 41 = some (41, .aload_n 0, 1, (0, 0, 0, 0), .null, [], 0, 0, []) := rfl
theorem f_48_42 : xfind (xnth xTs 48) 42 = some (42, .getfield 45, 3, (5, 8, 0, 0), .null, [], 166, 0, []) := rfl
theorem f_48_45 : xfind (xnth xTs 48) 45 = some (45, .invokevirtual 67, 3, (55, 2, 5, 3), .null, [], 364, 0, []) := rfl
theorem f_48_48 : xfind (xnth xTs 48) 48 = some (48, .aload_n 0, 1, (0, 0, 0, 0), .null, [], 0, 0, []) := rfl
theorem f_48_49 : xfind (xnth xTs 48) 49 = some (49, .invokevirtual 87, 3, (51, 0, 5, 1), .null, [], 385, 0, []) := rfl
theorem f_48_52 : xfind (xnth xTs 48) 52 = some (52, .aload_n 0, 1, (0, 0, 0, 0), .null, [], 0, 0, []) := rfl
theorem f_48_53 : xfind (xnth xTs 48) 53 = some (53, .getfield 21, 3, (5, 1, 1, 0), .null, [], 156, 0, []) := rfl
theorem f_48_56 : xfind (xnth xTs 48) 56 = some (56, .iload_n 1, 1, (0, 0, 0, 0), .null, [], 0, 0, []) := rfl
theorem f_48_57 : xfind (xnth xTs 48) 57 = some (57, .invokevirtual 114, 3, (69, 1, 6, 2), .null, [], 413, 0, []) := rfl
theorem f_48_60 : xfind (xnth xTs 48) 60 = some (60, .return_, 1, (0, 0, 0, 0), .null, [], 0, 0, []) := rfl
theorem b_Reader_readHole_0 (sh : xSh) (M : Nat → Nat → Int32) (J : Nat → Nat → Int64) (l0 : Nat) : ev (48, 0, [.ref l0, .null], [], (sh, M, J)) = (bif decide ((sh.2.2.1 l0).1 = 5) then bif decide ((sh.2.2.1 l0).1 = 5) then bif decide ((sh.2.2.1 l0).1 = 5) then bif (decide ((sh.2.2.1 (sh.2.2.2 l0 0)).1 = 1) && true) then (ev (13, 0, [.ref (sh.2.2.2 l0 0)], [], (sh, (xu M l0 5 ((M l0 5) + 1)), J))).bind (fun r => ev (48, 19, [.ref l0, .null], r.1.toList ++ [.int 0, .ref l0], r.2)) else none else none else none else none) := by
  refine ev_nx (s1 := (48, 1, [.ref l0, .null], [.ref l0], (sh, M, J))) f_48_0 rfl ?_
  refine ev_nx (s1 := (48, 2, [.ref l0, .null], [.ref l0, .ref l0], (sh, M, J))) f_48_1 rfl ?_
  refine ev_gd (s1 := (48, 5, [.ref l0, .null], [.int (M l0 5), .ref l0], (sh, M, J))) f_48_2 rfl ?_
  refine ev_nx (s1 := (48, 6, [.ref l0, .null], [.int 1, .int (M l0 5), .ref l0], (sh, M, J))) f_48_5 rfl ?_
  refine ev_nx (s1 := (48, 7, [.ref l0, .null], [.int ((M l0 5) + 1), .ref l0], (sh, M, J))) f_48_6 rfl ?_
  refine ev_gd (s1 := (48, 10, [.ref l0, .null], [], (sh, (xu M l0 5 ((M l0 5) + 1)), J))) f_48_7 rfl ?_
  refine ev_nx (s1 := (48, 11, [.ref l0, .null], [.ref l0], (sh, (xu M l0 5 ((M l0 5) + 1)), J))) f_48_10 rfl ?_
  refine ev_nx (s1 := (48, 12, [.ref l0, .null], [.int 0, .ref l0], (sh, (xu M l0 5 ((M l0 5) + 1)), J))) f_48_11 rfl ?_
  refine ev_nx (s1 := (48, 13, [.ref l0, .null], [.ref l0, .int 0, .ref l0], (sh, (xu M l0 5 ((M l0 5) + 1)), J))) f_48_12 rfl ?_
  refine ev_gd (s1 := (48, 16, [.ref l0, .null], [.ref (sh.2.2.2 l0 0), .int 0, .ref l0], (sh, (xu M l0 5 ((M l0 5) + 1)), J))) f_48_13 rfl ?_
  exact ev_ca (cc := (decide ((sh.2.2.1 (sh.2.2.2 l0 0)).1 = 1) && true)) (s1 := (13, 0, [.ref (sh.2.2.2 l0 0)], [], (sh, (xu M l0 5 ((M l0 5) + 1)), J))) (k := (48, 19, [.ref l0, .null], [.int 0, .ref l0])) f_48_16 rfl
theorem b_Reader_readHole_19 (sh : xSh) (M : Nat → Nat → Int32) (J : Nat → Nat → Int64) (l0 : Nat) (k0 : Int32) (k1 : Int32) (k2 : Nat) : ev (48, 19, [.ref l0, .null], [.int k0, .int k1, .ref k2], (sh, M, J)) = (bif (decide ((sh.2.2.1 k2).1 = 5) && true) then (ev (50, 0, [.ref k2, .int k1, .int (k0 - 1), .null, .null], [], (sh, M, J))).bind (fun r => ev (48, 24, [.ref l0, .null], r.1.toList ++ [], r.2)) else none) := by
  refine ev_nx (s1 := (48, 20, [.ref l0, .null], [.int 1, .int k0, .int k1, .ref k2], (sh, M, J))) f_48_19 rfl ?_
  refine ev_nx (s1 := (48, 21, [.ref l0, .null], [.int (k0 - 1), .int k1, .ref k2], (sh, M, J))) f_48_20 rfl ?_
  exact ev_ca (cc := (decide ((sh.2.2.1 k2).1 = 5) && true)) (s1 := (50, 0, [.ref k2, .int k1, .int (k0 - 1), .null, .null], [], (sh, M, J))) (k := (48, 24, [.ref l0, .null], [])) f_48_21 rfl
theorem b_Reader_readHole_24 (sh : xSh) (M : Nat → Nat → Int32) (J : Nat → Nat → Int64) (l0 : Nat) (k0 : Int32) : ev (48, 24, [.ref l0, .null], [.int k0], (sh, M, J)) = (bif decide ((sh.2.2.1 l0).1 = 5) then bif (decide ((sh.2.2.1 (sh.2.2.2 l0 1)).1 = 6) && true) then (ev (59, 0, [.ref (sh.2.2.2 l0 1)], [], (sh, M, J))).bind (fun r => ev (48, 32, [.ref l0, .int k0], r.1.toList ++ [], r.2)) else none else none) := by
  refine ev_nx (s1 := (48, 25, [.ref l0, .int k0], [], (sh, M, J))) f_48_24 rfl ?_
  refine ev_nx (s1 := (48, 26, [.ref l0, .int k0], [.ref l0], (sh, M, J))) f_48_25 rfl ?_
  refine ev_gd (s1 := (48, 29, [.ref l0, .int k0], [.ref (sh.2.2.2 l0 1)], (sh, M, J))) f_48_26 rfl ?_
  exact ev_ca (cc := (decide ((sh.2.2.1 (sh.2.2.2 l0 1)).1 = 6) && true)) (s1 := (59, 0, [.ref (sh.2.2.2 l0 1)], [], (sh, M, J))) (k := (48, 32, [.ref l0, .int k0], [])) f_48_29 rfl
theorem b_Reader_readHole_32 (sh : xSh) (M : Nat → Nat → Int32) (J : Nat → Nat → Int64) (l0 : Nat) (l1 : Int32) (k0 : Int32) : ev (48, 32, [.ref l0, .int l1], [.int k0], (sh, M, J)) = ((ev (127, 0, [.int k0, .int l1], [], (sh, M, J))).bind (fun r => ev (48, 36, [.ref l0, .int l1], r.1.toList ++ [], r.2))) := by
  refine ev_nx (s1 := (48, 33, [.ref l0, .int l1], [.int l1, .int k0], (sh, M, J))) f_48_32 rfl ?_
  exact ev_c1 (s1 := (127, 0, [.int k0, .int l1], [], (sh, M, J))) (k := (48, 36, [.ref l0, .int l1], [])) f_48_33 rfl
theorem b_Reader_readHole_36 (sh : xSh) (M : Nat → Nat → Int32) (J : Nat → Nat → Int64) (l0 : Nat) (l1 : Int32) (k0 : Int32) : ev (48, 36, [.ref l0, .int l1], [.int k0], (sh, M, J)) = (bif decide (k0 = 0) then bif (decide ((sh.2.2.1 l0).1 = 5) && true) then (ev (51, 0, [.ref l0], [], (sh, M, J))).bind (fun r => ev (48, 52, [.ref l0, .int l1], r.1.toList ++ [], r.2)) else none else bif decide ((sh.2.2.1 l0).1 = 5) then bif (decide ((sh.2.2.1 l0).1 = 5) && true) then (ev (55, 0, [.ref l0, .int 4, .int (M l0 8)], [], (sh, M, J))).bind (fun r => ev (48, 48, [.ref l0, .int l1], r.1.toList ++ [], r.2)) else none else none) := by
  refine ev_br (s1 := (48, 48, [.ref l0, .int l1], [], (sh, M, J))) (s2 := (48, 39, [.ref l0, .int l1], [], (sh, M, J))) f_48_36 rfl ?_ ?_
  · refine ev_nx (s1 := (48, 49, [.ref l0, .int l1], [.ref l0], (sh, M, J))) f_48_48 rfl ?_
    exact ev_ca (cc := (decide ((sh.2.2.1 l0).1 = 5) && true)) (s1 := (51, 0, [.ref l0], [], (sh, M, J))) (k := (48, 52, [.ref l0, .int l1], [])) f_48_49 rfl
  · refine ev_nx (s1 := (48, 40, [.ref l0, .int l1], [.ref l0], (sh, M, J))) f_48_39 rfl ?_
    refine ev_nx (s1 := (48, 41, [.ref l0, .int l1], [.int 4, .ref l0], (sh, M, J))) f_48_40 rfl ?_
    refine ev_nx (s1 := (48, 42, [.ref l0, .int l1], [.ref l0, .int 4, .ref l0], (sh, M, J))) f_48_41 rfl ?_
    refine ev_gd (s1 := (48, 45, [.ref l0, .int l1], [.int (M l0 8), .int 4, .ref l0], (sh, M, J))) f_48_42 rfl ?_
    exact ev_ca (cc := (decide ((sh.2.2.1 l0).1 = 5) && true)) (s1 := (55, 0, [.ref l0, .int 4, .int (M l0 8)], [], (sh, M, J))) (k := (48, 48, [.ref l0, .int l1], [])) f_48_45 rfl
theorem b_Reader_readHole_48 (sh : xSh) (M : Nat → Nat → Int32) (J : Nat → Nat → Int64) (l0 : Nat) (l1 : Int32) : ev (48, 48, [.ref l0, .int l1], [], (sh, M, J)) = (bif (decide ((sh.2.2.1 l0).1 = 5) && true) then (ev (51, 0, [.ref l0], [], (sh, M, J))).bind (fun r => ev (48, 52, [.ref l0, .int l1], r.1.toList ++ [], r.2)) else none) := by
  refine ev_nx (s1 := (48, 49, [.ref l0, .int l1], [.ref l0], (sh, M, J))) f_48_48 rfl ?_
  exact ev_ca (cc := (decide ((sh.2.2.1 l0).1 = 5) && true)) (s1 := (51, 0, [.ref l0], [], (sh, M, J))) (k := (48, 52, [.ref l0, .int l1], [])) f_48_49 rfl
theorem b_Reader_readHole_52 (sh : xSh) (M : Nat → Nat → Int32) (J : Nat → Nat → Int64) (l0 : Nat) (l1 : Int32) : ev (48, 52, [.ref l0, .int l1], [], (sh, M, J)) = (bif decide ((sh.2.2.1 l0).1 = 5) then bif (decide ((sh.2.2.1 (sh.2.2.2 l0 1)).1 = 6) && true) then (ev (69, 0, [.ref (sh.2.2.2 l0 1), .int l1], [], (sh, M, J))).bind (fun r => ev (48, 60, [.ref l0, .int l1], r.1.toList ++ [], r.2)) else none else none) := by
  refine ev_nx (s1 := (48, 53, [.ref l0, .int l1], [.ref l0], (sh, M, J))) f_48_52 rfl ?_
  refine ev_gd (s1 := (48, 56, [.ref l0, .int l1], [.ref (sh.2.2.2 l0 1)], (sh, M, J))) f_48_53 rfl ?_
  refine ev_nx (s1 := (48, 57, [.ref l0, .int l1], [.int l1, .ref (sh.2.2.2 l0 1)], (sh, M, J))) f_48_56 rfl ?_
  exact ev_ca (cc := (decide ((sh.2.2.1 (sh.2.2.2 l0 1)).1 = 6) && true)) (s1 := (69, 0, [.ref (sh.2.2.2 l0 1), .int l1], [], (sh, M, J))) (k := (48, 60, [.ref l0, .int l1], [])) f_48_57 rfl
theorem b_Reader_readHole_60 (sh : xSh) (M : Nat → Nat → Int32) (J : Nat → Nat → Int64) (l0 : Nat) (l1 : Int32) : ev (48, 60, [.ref l0, .int l1], [], (sh, M, J)) = (some (none, (sh, M, J))) := by
  exact ev_r1 f_48_60 rfl
theorem f_49_0 : xfind (xnth xTs 49) 0 = some (0, .aload_n 0, 1, (0, 0, 0, 0), .null, [], 0, 0, []) := rfl
theorem f_49_1 : xfind (xnth xTs 49) 1 = some (1, .getfield 12, 3, (5, 0, 1, 0), .null, [], 154, 0, []) := rfl
theorem f_49_4 : xfind (xnth xTs 49) 4 = some (4, .getfield 117, 3, (1, 2, 0, 0), .null, [], 110, 0, []) := rfl
theorem f_49_7 : xfind (xnth xTs 49) 7 = some (7, .istore_n 1, 1, (0, 0, 0, 0), .null, [], 0, 0, []) := rfl
theorem f_49_8 : xfind (xnth xTs 49) 8 = some (8, .iload_n 1, 1, (0, 0, 0, 0), .null, [], 0, 0, []) := rfl
theorem f_49_9 : xfind (xnth xTs 49) 9 = some (9, .iconst 5, 1, (0, 0, 0, 0), (.int 5), [], 0, 0, []) := rfl
theorem f_49_10 : xfind (xnth xTs 49) 10 = some (10, .if_icmp .lt 13, 3, (0, 0, 0, 0), .null, [], 0, 0, []) := rfl
theorem f_49_13 : xfind (xnth xTs 49) 13 = some (13, .aload_n 0, 1, (0, 0, 0, 0), .null, [], 0, 0, []) := rfl
theorem f_49_14 : xfind (xnth xTs 49) 14 = some (14, .iconst 3, 1, (0, 0, 0, 0), (.int 3), [], 0, 0, []) := rfl
theorem f_49_15 : xfind (xnth xTs 49) 15 = some (15, .aload_n 0, 1, (0, 0, 0, 0), .null, [], 0, 0, []) := rfl
theorem f_49_16 : xfind (xnth xTs 49) 16 = some (16, .getfield 36, 3, (5, 5, 0, 0), .null, [], 163, 0, []) := rfl
theorem f_49_19 : xfind (xnth xTs 49) 19 = some (19, .invokevirtual 67, 3, (55, 2, 5, 3), .null, [], 364, 0, []) := rfl
theorem f_49_22 : xfind (xnth xTs 49) 22 = some (22, .return_, 1, (0, 0, 0, 0), .null, [], 0, 0, []) := rfl
theorem f_49_23 : xfind (xnth xTs 49) 23 = some (23, .aload_n 0, 1, (0, 0, 0, 0), .null, [], 0, 0, []) := rfl
theorem f_49_24 : xfind (xnth xTs 49) 24 = some (24, .dup, 1, (0, 0, 0, 0), .null, [], 0, 0, []) := rfl
theorem f_49_25 : xfind (xnth xTs 49) 25 = some (25, .getfield 36, 3, (5, 5, 0, 0), .null, [], 163, 0, []) := rfl
theorem f_49_28 : xfind (xnth xTs 49) 28 = some (28, .iconst 1, 1, (0, 0, 0, 0), (.int 1), [], 0, 0, []) := rfl
theorem f_49_29 : xfind (xnth xTs 49) 29 = some (29, .iadd, 1, (0, 0, 0, 0), .null, [], 0, 0, []) := rfl
theorem f_49_30 : xfind (xnth xTs 49) 30 = some (30, .putfield 36, 3, (5, 5, 0, 0), .null, [], 163, 0, []) := rfl
theorem f_49_33 : xfind (xnth xTs 49) 33 = some (33, .aload_n 0, 1, (0, 0, 0, 0), .null, [], 0, 0, []) := rfl
theorem f_49_34 : xfind (xnth xTs 49) 34 = some (34, .iconst 0, 1, (0, 0, 0, 0), (.int 0), [], 0, 0, []) := rfl
theorem f_49_35 : xfind (xnth xTs 49) 35 = some (35, .aload_n 0, 1, (0, 0, 0, 0), .null, [], 0, 0, []) := rfl
theorem f_49_36 : xfind (xnth xTs 49) 36 = some (36, .getfield 12, 3, (5, 0, 1, 0), .null, [], 154, 0, []) := rfl
theorem f_49_39 : xfind (xnth xTs 49) 39 = some (39, .getfield 90, 3, (1, 0, 0, 0), .null, [], 100, 0, []) := rfl
theorem f_49_42 : xfind (xnth xTs 49) 42 = some (42, .iconst 1, 1, (0, 0, 0, 0), (.int 1), [], 0, 0, []) := rfl
theorem f_49_43 : xfind (xnth xTs 49) 43 = some (43, .isub, 1, (0, 0, 0, 0), .null, [], 0, 0, []) := rfl
theorem f_49_44 : xfind (xnth xTs 49) 44 = some (44, .invokevirtual 83, 3, (50, 2, 5, 5), .null, [], 372, 0, []) := rfl
theorem f_49_47 : xfind (xnth xTs 49) 47 = some (47, .istore_n 2, 1, (0, 0, 0, 0), .null, [], 0, 0, []) := rfl
theorem f_49_48 : xfind (xnth xTs 49) 48 = some (48, .aload_n 0, 1, (0, 0, 0, 0), .null, [], 0, 0, []) := rfl
theorem f_49_49 : xfind (xnth xTs 49) 49 = some (49, .iconst 1, 1, (0, 0, 0, 0), (.int 1), [], 0, 0, []) := rfl
theorem f_49_50 : xfind (xnth xTs 49) 50 = some (50, .iconst 4, 1, (0, 0, 0, 0), (.int 4), [], 0, 0, []) := rfl
theorem f_49_51 : xfind (xnth xTs 49) 51 = some (51, .invokevirtual 83, 3, (50, 2, 5, 5), .null, [], 372, 0, []) := rfl
theorem f_49_54 : xfind (xnth xTs 49) 54 = some (54, .istore_n 3, 1, (0, 0, 0, 0), .null, [], 0, 0, []) := rfl
theorem f_49_55 : xfind (xnth xTs 49) 55 = some (55, .aload_n 0, 1, (0, 0, 0, 0), .null, [], 0, 0, []) := rfl
theorem f_49_56 : xfind (xnth xTs 49) 56 = some (56, .iconst 0, 1, (0, 0, 0, 0), (.int 0), [], 0, 0, []) := rfl
theorem f_49_57 : xfind (xnth xTs 49) 57 = some (57, .iconst 4, 1, (0, 0, 0, 0), (.int 4), [], 0, 0, []) := rfl
theorem f_49_58 : xfind (xnth xTs 49) 58 = some (58, .invokevirtual 83, 3, (50, 2, 5, 5), .null, [], 372, 0, []) := rfl
theorem f_49_61 : xfind (xnth xTs 49) 61 = some (61, .istore 4, 2, (0, 0, 0, 0), .null, [], 0, 0, []) := rfl
theorem f_49_63 : xfind (xnth xTs 49) 63 = some (63, .aload_n 0, 1, (0, 0, 0, 0), .null, [], 0, 0, []) := rfl
theorem f_49_64 : xfind (xnth xTs 49) 64 = some (64, .iconst 0, 1, (0, 0, 0, 0), (.int 0), [], 0, 0, []) := rfl
theorem f_49_65 : xfind (xnth xTs 49) 65 = some (65, .bipush 9, 2, (0, 0, 0, 0), (.int 9), [], 0, 0, []) := rfl
theorem f_49_67 : xfind (xnth xTs 49) 67 = some (67, .invokevirtual 83, 3, (50, 2, 5, 5), .null, [], 372, 0, []) := rfl
theorem f_49_70 : xfind (xnth xTs 49) 70 = some (70, .istore 5, 2, (0, 0, 0, 0), .null, [], 0, 0, []) := rfl
theorem f_49_72 : xfind (xnth xTs 49) 72 = some (72, .aload_n 0, 1, (0, 0, 0, 0), .null, [], 0, 0, []) := rfl
theorem f_49_73 : xfind (xnth xTs 49) 73 = some (73, .invokevirtual 87, 3, (51, 0, 5, 1), .null, [], 385, 0, []) := rfl
theorem f_49_76 : xfind (xnth xTs 49) 76 = some (76, .aload_n 0, 1, (0, 0, 0, 0), .null, [], 0, 0, []) := rfl
theorem f_49_77 : xfind (xnth xTs 49) 77 = some (77, .getfield 12, 3, (5, 0, 1, 0), .null, [], 154, 0, []) := rfl
theorem f_49_80 : xfind (xnth xTs 49) 80 = some (80, .iload_n 1, 1, (0, 0, 0, 0), .null, [], 0, 0, []) := rfl
theorem f_49_81 : xfind (xnth xTs 49) 81 = some (81, .iconst 1, 1, (0, 0, 0, 0), (.int 1), [], 0, 0, []) := rfl
theorem f_49_82 : xfind (xnth xTs 49) 82 = some (82, .iadd, 1, (0, 0, 0, 0), .null, [], 0, 0, []) := rfl
theorem f_49_83 : xfind (xnth xTs 49) 83 = some (83, .putfield 117, 3, (1, 2, 0, 0), .null, [], 110, 0, []) := rfl
theorem f_49_86 : xfind (xnth xTs 49) 86 = some (86, .aload_n 0, 1, (0, 0, 0, 0), .null, [], 0, 0, []) := rfl
theorem f_49_87 : xfind (xnth xTs 49) 87 = some (87, .getfield 12, 3, (5, 0, 1, 0), .null, [], 154, 0, []) := rfl
theorem f_49_90 : xfind (xnth xTs 49) 90 = some (90, .iload_n 1, 1, (0, 0, 0, 0), .null, [], 0, 0, []) := rfl
theorem f_49_91 : xfind (xnth xTs 49) 91 = some (91, .iload_n 3, 1, (0, 0, 0, 0), .null, [], 0, 0, []) := rfl
theorem f_49_92 : xfind (xnth xTs 49) 92 = some (92, .invokevirtual 120, 3, (8, 2, 1, 3), .null, [], 421, 0, []) := rfl
theorem f_49_95 : xfind (xnth xTs 49) 95 = some (95, .aload_n 0, 1, (0, 0, 0, 0), .null, [], 0, 0, []) := rfl
theorem f_49_96 : xfind (xnth xTs 49) 96 = some (96, .getfield 21, 3, (5, 1, 1, 0), .null, [], 156, 0, []) := rfl
theorem f_49_99 : xfind (xnth xTs 49) 99 = some (99, .iload_n 1, 1, (0, 0, 0, 0), .null, [], 0, 0, []) := rfl
theorem f_49_100 : xfind (xnth xTs 49) 100 = some (100, .iload_n 2, 1, (0, 0, 0, 0), .null, [], 0, 0, []) := rfl
theorem f_49_101 : xfind (xnth xTs 49) 101 = some (101, .invokevirtual 123, 3, (70, 2, 6, 3), .null, [], 422, 0, []) := rfl
theorem f_49_104 : xfind (xnth xTs 49) 104 = some (104, .aload_n 0, 1, (0, 0, 0, 0), .null, [], 0, 0, []) := rfl
theorem f_49_105 : xfind (xnth xTs 49) 105 = some (105, .getfield 21, 3, (5, 1, 1, 0), .null, [], 156, 0, []) := rfl
theorem f_49_108 : xfind (xnth xTs 49) 108 = some (108, .iload_n 1, 1, (0, 0, 0, 0), .null, [], 0, 0, []) := rfl
theorem f_49_109 : xfind (xnth xTs 49) 109 = some (109, .iload 4, 2, (0, 0, 0, 0), .null, [], 0, 0, []) := rfl
theorem f_49_111 : xfind (xnth xTs 49) 111 = some (111, .iload 5, 2, (0, 0, 0, 0), .null, [], 0, 0, []) := rfl
theorem f_49_113 : xfind (xnth xTs 49) 113 = some (113, .invokevirtual 126, 3, (71, 3, 6, 4), .null, [], 426, 0, []) := rfl
theorem f_49_116 : xfind (xnth xTs 49) 116 = some (116, .return_, 1, (0, 0, 0, 0), .null, [], 0, 0, []) := rfl
theorem b_Reader_readActor_0 (sh : xSh) (M : Nat → Nat → Int32) (J : Nat → Nat → Int64) (l0 : Nat) : ev (49, 0, [.ref l0, .null, .null, .null, .null, .null], [], (sh, M, J)) = (bif decide ((sh.2.2.1 l0).1 = 5) then bif decide ((sh.2.2.1 (sh.2.2.2 l0 0)).1 = 1) then bif decide ((M (sh.2.2.2 l0 0) 2) < 5) then bif decide ((sh.2.2.1 l0).1 = 5) then bif decide ((sh.2.2.1 l0).1 = 5) then bif decide ((sh.2.2.1 l0).1 = 5) then bif decide ((sh.2.2.1 (sh.2.2.2 l0 0)).1 = 1) then bif (decide ((sh.2.2.1 l0).1 = 5) && true) then (ev (50, 0, [.ref l0, .int 0, .int (((xu M l0 5 ((M l0 5) + 1)) (sh.2.2.2 l0 0) 0) - 1), .null, .null], [], (sh, (xu M l0 5 ((M l0 5) + 1)), J))).bind (fun r => ev (49, 47, [.ref l0, .int (M (sh.2.2.2 l0 0) 2), .null, .null, .null, .null], r.1.toList ++ [], r.2)) else none else none else none else none else none else bif decide ((sh.2.2.1 l0).1 = 5) then bif (decide ((sh.2.2.1 l0).1 = 5) && true) then (ev (55, 0, [.ref l0, .int 3, .int (M l0 5)], [], (sh, M, J))).bind (fun r => ev (49, 22, [.ref l0, .int (M (sh.2.2.2 l0 0) 2), .null, .null, .null, .null], r.1.toList ++ [], r.2)) else none else none else none else none) := by
  refine ev_nx (s1 := (49, 1, [.ref l0, .null, .null, .null, .null, .null], [.ref l0], (sh, M, J))) f_49_0 rfl ?_
  refine ev_gd (s1 := (49, 4, [.ref l0, .null, .null, .null, .null, .null], [.ref (sh.2.2.2 l0 0)], (sh, M, J))) f_49_1 rfl ?_
  refine ev_gd (s1 := (49, 7, [.ref l0, .null, .null, .null, .null, .null], [.int (M (sh.2.2.2 l0 0) 2)], (sh, M, J))) f_49_4 rfl ?_
  refine ev_nx (s1 := (49, 8, [.ref l0, .int (M (sh.2.2.2 l0 0) 2), .null, .null, .null, .null], [], (sh, M, J))) f_49_7 rfl ?_
  refine ev_nx (s1 := (49, 9, [.ref l0, .int (M (sh.2.2.2 l0 0) 2), .null, .null, .null, .null], [.int (M (sh.2.2.2 l0 0) 2)], (sh, M, J))) f_49_8 rfl ?_
  refine ev_nx (s1 := (49, 10, [.ref l0, .int (M (sh.2.2.2 l0 0) 2), .null, .null, .null, .null], [.int 5, .int (M (sh.2.2.2 l0 0) 2)], (sh, M, J))) f_49_9 rfl ?_
  refine ev_br (s1 := (49, 23, [.ref l0, .int (M (sh.2.2.2 l0 0) 2), .null, .null, .null, .null], [], (sh, M, J))) (s2 := (49, 13, [.ref l0, .int (M (sh.2.2.2 l0 0) 2), .null, .null, .null, .null], [], (sh, M, J))) f_49_10 rfl ?_ ?_
  · refine ev_nx (s1 := (49, 24, [.ref l0, .int (M (sh.2.2.2 l0 0) 2), .null, .null, .null, .null], [.ref l0], (sh, M, J))) f_49_23 rfl ?_
    refine ev_nx (s1 := (49, 25, [.ref l0, .int (M (sh.2.2.2 l0 0) 2), .null, .null, .null, .null], [.ref l0, .ref l0], (sh, M, J))) f_49_24 rfl ?_
    refine ev_gd (s1 := (49, 28, [.ref l0, .int (M (sh.2.2.2 l0 0) 2), .null, .null, .null, .null], [.int (M l0 5), .ref l0], (sh, M, J))) f_49_25 rfl ?_
    refine ev_nx (s1 := (49, 29, [.ref l0, .int (M (sh.2.2.2 l0 0) 2), .null, .null, .null, .null], [.int 1, .int (M l0 5), .ref l0], (sh, M, J))) f_49_28 rfl ?_
    refine ev_nx (s1 := (49, 30, [.ref l0, .int (M (sh.2.2.2 l0 0) 2), .null, .null, .null, .null], [.int ((M l0 5) + 1), .ref l0], (sh, M, J))) f_49_29 rfl ?_
    refine ev_gd (s1 := (49, 33, [.ref l0, .int (M (sh.2.2.2 l0 0) 2), .null, .null, .null, .null], [], (sh, (xu M l0 5 ((M l0 5) + 1)), J))) f_49_30 rfl ?_
    refine ev_nx (s1 := (49, 34, [.ref l0, .int (M (sh.2.2.2 l0 0) 2), .null, .null, .null, .null], [.ref l0], (sh, (xu M l0 5 ((M l0 5) + 1)), J))) f_49_33 rfl ?_
    refine ev_nx (s1 := (49, 35, [.ref l0, .int (M (sh.2.2.2 l0 0) 2), .null, .null, .null, .null], [.int 0, .ref l0], (sh, (xu M l0 5 ((M l0 5) + 1)), J))) f_49_34 rfl ?_
    refine ev_nx (s1 := (49, 36, [.ref l0, .int (M (sh.2.2.2 l0 0) 2), .null, .null, .null, .null], [.ref l0, .int 0, .ref l0], (sh, (xu M l0 5 ((M l0 5) + 1)), J))) f_49_35 rfl ?_
    refine ev_gd (s1 := (49, 39, [.ref l0, .int (M (sh.2.2.2 l0 0) 2), .null, .null, .null, .null], [.ref (sh.2.2.2 l0 0), .int 0, .ref l0], (sh, (xu M l0 5 ((M l0 5) + 1)), J))) f_49_36 rfl ?_
    refine ev_gd (s1 := (49, 42, [.ref l0, .int (M (sh.2.2.2 l0 0) 2), .null, .null, .null, .null], [.int ((xu M l0 5 ((M l0 5) + 1)) (sh.2.2.2 l0 0) 0), .int 0, .ref l0], (sh, (xu M l0 5 ((M l0 5) + 1)), J))) f_49_39 rfl ?_
    refine ev_nx (s1 := (49, 43, [.ref l0, .int (M (sh.2.2.2 l0 0) 2), .null, .null, .null, .null], [.int 1, .int ((xu M l0 5 ((M l0 5) + 1)) (sh.2.2.2 l0 0) 0), .int 0, .ref l0], (sh, (xu M l0 5 ((M l0 5) + 1)), J))) f_49_42 rfl ?_
    refine ev_nx (s1 := (49, 44, [.ref l0, .int (M (sh.2.2.2 l0 0) 2), .null, .null, .null, .null], [.int (((xu M l0 5 ((M l0 5) + 1)) (sh.2.2.2 l0 0) 0) - 1), .int 0, .ref l0], (sh, (xu M l0 5 ((M l0 5) + 1)), J))) f_49_43 rfl ?_
    exact ev_ca (cc := (decide ((sh.2.2.1 l0).1 = 5) && true)) (s1 := (50, 0, [.ref l0, .int 0, .int (((xu M l0 5 ((M l0 5) + 1)) (sh.2.2.2 l0 0) 0) - 1), .null, .null], [], (sh, (xu M l0 5 ((M l0 5) + 1)), J))) (k := (49, 47, [.ref l0, .int (M (sh.2.2.2 l0 0) 2), .null, .null, .null, .null], [])) f_49_44 rfl
  · refine ev_nx (s1 := (49, 14, [.ref l0, .int (M (sh.2.2.2 l0 0) 2), .null, .null, .null, .null], [.ref l0], (sh, M, J))) f_49_13 rfl ?_
    refine ev_nx (s1 := (49, 15, [.ref l0, .int (M (sh.2.2.2 l0 0) 2), .null, .null, .null, .null], [.int 3, .ref l0], (sh, M, J))) f_49_14 rfl ?_
    refine ev_nx (s1 := (49, 16, [.ref l0, .int (M (sh.2.2.2 l0 0) 2), .null, .null, .null, .null], [.ref l0, .int 3, .ref l0], (sh, M, J))) f_49_15 rfl ?_
    refine ev_gd (s1 := (49, 19, [.ref l0, .int (M (sh.2.2.2 l0 0) 2), .null, .null, .null, .null], [.int (M l0 5), .int 3, .ref l0], (sh, M, J))) f_49_16 rfl ?_
    exact ev_ca (cc := (decide ((sh.2.2.1 l0).1 = 5) && true)) (s1 := (55, 0, [.ref l0, .int 3, .int (M l0 5)], [], (sh, M, J))) (k := (49, 22, [.ref l0, .int (M (sh.2.2.2 l0 0) 2), .null, .null, .null, .null], [])) f_49_19 rfl
theorem b_Reader_readActor_22 (sh : xSh) (M : Nat → Nat → Int32) (J : Nat → Nat → Int64) (l0 : Nat) (l1 : Int32) : ev (49, 22, [.ref l0, .int l1, .null, .null, .null, .null], [], (sh, M, J)) = (some (none, (sh, M, J))) := by
  exact ev_r1 f_49_22 rfl
theorem b_Reader_readActor_47 (sh : xSh) (M : Nat → Nat → Int32) (J : Nat → Nat → Int64) (l0 : Nat) (l1 : Int32) (k0 : Int32) : ev (49, 47, [.ref l0, .int l1, .null, .null, .null, .null], [.int k0], (sh, M, J)) = (bif (decide ((sh.2.2.1 l0).1 = 5) && true) then (ev (50, 0, [.ref l0, .int 1, .int 4, .null, .null], [], (sh, M, J))).bind (fun r => ev (49, 54, [.ref l0, .int l1, .int k0, .null, .null, .null], r.1.toList ++ [], r.2)) else none) := by
  refine ev_nx (s1 := (49, 48, [.ref l0, .int l1, .int k0, .null, .null, .null], [], (sh, M, J))) f_49_47 rfl ?_
  refine ev_nx (s1 := (49, 49, [.ref l0, .int l1, .int k0, .null, .null, .null], [.ref l0], (sh, M, J))) f_49_48 rfl ?_
  refine ev_nx (s1 := (49, 50, [.ref l0, .int l1, .int k0, .null, .null, .null], [.int 1, .ref l0], (sh, M, J))) f_49_49 rfl ?_
  refine ev_nx (s1 := (49, 51, [.ref l0, .int l1, .int k0, .null, .null, .null], [.int 4, .int 1, .ref l0], (sh, M, J))) f_49_50 rfl ?_
  exact ev_ca (cc := (decide ((sh.2.2.1 l0).1 = 5) && true)) (s1 := (50, 0, [.ref l0, .int 1, .int 4, .null, .null], [], (sh, M, J))) (k := (49, 54, [.ref l0, .int l1, .int k0, .null, .null, .null], [])) f_49_51 rfl
theorem b_Reader_readActor_54 (sh : xSh) (M : Nat → Nat → Int32) (J : Nat → Nat → Int64) (l0 : Nat) (l1 : Int32) (l2 : Int32) (k0 : Int32) : ev (49, 54, [.ref l0, .int l1, .int l2, .null, .null, .null], [.int k0], (sh, M, J)) = (bif (decide ((sh.2.2.1 l0).1 = 5) && true) then (ev (50, 0, [.ref l0, .int 0, .int 4, .null, .null], [], (sh, M, J))).bind (fun r => ev (49, 61, [.ref l0, .int l1, .int l2, .int k0, .null, .null], r.1.toList ++ [], r.2)) else none) := by
  refine ev_nx (s1 := (49, 55, [.ref l0, .int l1, .int l2, .int k0, .null, .null], [], (sh, M, J))) f_49_54 rfl ?_
  refine ev_nx (s1 := (49, 56, [.ref l0, .int l1, .int l2, .int k0, .null, .null], [.ref l0], (sh, M, J))) f_49_55 rfl ?_
  refine ev_nx (s1 := (49, 57, [.ref l0, .int l1, .int l2, .int k0, .null, .null], [.int 0, .ref l0], (sh, M, J))) f_49_56 rfl ?_
  refine ev_nx (s1 := (49, 58, [.ref l0, .int l1, .int l2, .int k0, .null, .null], [.int 4, .int 0, .ref l0], (sh, M, J))) f_49_57 rfl ?_
  exact ev_ca (cc := (decide ((sh.2.2.1 l0).1 = 5) && true)) (s1 := (50, 0, [.ref l0, .int 0, .int 4, .null, .null], [], (sh, M, J))) (k := (49, 61, [.ref l0, .int l1, .int l2, .int k0, .null, .null], [])) f_49_58 rfl
theorem b_Reader_readActor_61 (sh : xSh) (M : Nat → Nat → Int32) (J : Nat → Nat → Int64) (l0 : Nat) (l1 : Int32) (l2 : Int32) (l3 : Int32) (k0 : Int32) : ev (49, 61, [.ref l0, .int l1, .int l2, .int l3, .null, .null], [.int k0], (sh, M, J)) = (bif (decide ((sh.2.2.1 l0).1 = 5) && true) then (ev (50, 0, [.ref l0, .int 0, .int 9, .null, .null], [], (sh, M, J))).bind (fun r => ev (49, 70, [.ref l0, .int l1, .int l2, .int l3, .int k0, .null], r.1.toList ++ [], r.2)) else none) := by
  refine ev_nx (s1 := (49, 63, [.ref l0, .int l1, .int l2, .int l3, .int k0, .null], [], (sh, M, J))) f_49_61 rfl ?_
  refine ev_nx (s1 := (49, 64, [.ref l0, .int l1, .int l2, .int l3, .int k0, .null], [.ref l0], (sh, M, J))) f_49_63 rfl ?_
  refine ev_nx (s1 := (49, 65, [.ref l0, .int l1, .int l2, .int l3, .int k0, .null], [.int 0, .ref l0], (sh, M, J))) f_49_64 rfl ?_
  refine ev_nx (s1 := (49, 67, [.ref l0, .int l1, .int l2, .int l3, .int k0, .null], [.int 9, .int 0, .ref l0], (sh, M, J))) f_49_65 rfl ?_
  exact ev_ca (cc := (decide ((sh.2.2.1 l0).1 = 5) && true)) (s1 := (50, 0, [.ref l0, .int 0, .int 9, .null, .null], [], (sh, M, J))) (k := (49, 70, [.ref l0, .int l1, .int l2, .int l3, .int k0, .null], [])) f_49_67 rfl
theorem b_Reader_readActor_70 (sh : xSh) (M : Nat → Nat → Int32) (J : Nat → Nat → Int64) (l0 : Nat) (l1 : Int32) (l2 : Int32) (l3 : Int32) (l4 : Int32) (k0 : Int32) : ev (49, 70, [.ref l0, .int l1, .int l2, .int l3, .int l4, .null], [.int k0], (sh, M, J)) = (bif (decide ((sh.2.2.1 l0).1 = 5) && true) then (ev (51, 0, [.ref l0], [], (sh, M, J))).bind (fun r => ev (49, 76, [.ref l0, .int l1, .int l2, .int l3, .int l4, .int k0], r.1.toList ++ [], r.2)) else none) := by
  refine ev_nx (s1 := (49, 72, [.ref l0, .int l1, .int l2, .int l3, .int l4, .int k0], [], (sh, M, J))) f_49_70 rfl ?_
  refine ev_nx (s1 := (49, 73, [.ref l0, .int l1, .int l2, .int l3, .int l4, .int k0], [.ref l0], (sh, M, J))) f_49_72 rfl ?_
  exact ev_ca (cc := (decide ((sh.2.2.1 l0).1 = 5) && true)) (s1 := (51, 0, [.ref l0], [], (sh, M, J))) (k := (49, 76, [.ref l0, .int l1, .int l2, .int l3, .int l4, .int k0], [])) f_49_73 rfl
theorem b_Reader_readActor_76 (sh : xSh) (M : Nat → Nat → Int32) (J : Nat → Nat → Int64) (l0 : Nat) (l1 : Int32) (l2 : Int32) (l3 : Int32) (l4 : Int32) (l5 : Int32) : ev (49, 76, [.ref l0, .int l1, .int l2, .int l3, .int l4, .int l5], [], (sh, M, J)) = (bif decide ((sh.2.2.1 l0).1 = 5) then bif decide ((sh.2.2.1 (sh.2.2.2 l0 0)).1 = 1) then bif decide ((sh.2.2.1 l0).1 = 5) then bif (decide ((sh.2.2.1 (sh.2.2.2 l0 0)).1 = 1) && true) then (ev (8, 0, [.ref (sh.2.2.2 l0 0), .int l1, .int l3], [], (sh, (xu M (sh.2.2.2 l0 0) 2 (l1 + 1)), J))).bind (fun r => ev (49, 95, [.ref l0, .int l1, .int l2, .int l3, .int l4, .int l5], r.1.toList ++ [], r.2)) else none else none else none else none) := by
  refine ev_nx (s1 := (49, 77, [.ref l0, .int l1, .int l2, .int l3, .int l4, .int l5], [.ref l0], (sh, M, J))) f_49_76 rfl ?_
  refine ev_gd (s1 := (49, 80, [.ref l0, .int l1, .int l2, .int l3, .int l4, .int l5], [.ref (sh.2.2.2 l0 0)], (sh, M, J))) f_49_77 rfl ?_
  refine ev_nx (s1 := (49, 81, [.ref l0, .int l1, .int l2, .int l3, .int l4, .int l5], [.int l1, .ref (sh.2.2.2 l0 0)], (sh, M, J))) f_49_80 rfl ?_
  refine ev_nx (s1 := (49, 82, [.ref l0, .int l1, .int l2, .int l3, .int l4, .int l5], [.int 1, .int l1, .ref (sh.2.2.2 l0 0)], (sh, M, J))) f_49_81 rfl ?_
  refine ev_nx (s1 := (49, 83, [.ref l0, .int l1, .int l2, .int l3, .int l4, .int l5], [.int (l1 + 1), .ref (sh.2.2.2 l0 0)], (sh, M, J))) f_49_82 rfl ?_
  refine ev_gd (s1 := (49, 86, [.ref l0, .int l1, .int l2, .int l3, .int l4, .int l5], [], (sh, (xu M (sh.2.2.2 l0 0) 2 (l1 + 1)), J))) f_49_83 rfl ?_
  refine ev_nx (s1 := (49, 87, [.ref l0, .int l1, .int l2, .int l3, .int l4, .int l5], [.ref l0], (sh, (xu M (sh.2.2.2 l0 0) 2 (l1 + 1)), J))) f_49_86 rfl ?_
  refine ev_gd (s1 := (49, 90, [.ref l0, .int l1, .int l2, .int l3, .int l4, .int l5], [.ref (sh.2.2.2 l0 0)], (sh, (xu M (sh.2.2.2 l0 0) 2 (l1 + 1)), J))) f_49_87 rfl ?_
  refine ev_nx (s1 := (49, 91, [.ref l0, .int l1, .int l2, .int l3, .int l4, .int l5], [.int l1, .ref (sh.2.2.2 l0 0)], (sh, (xu M (sh.2.2.2 l0 0) 2 (l1 + 1)), J))) f_49_90 rfl ?_
  refine ev_nx (s1 := (49, 92, [.ref l0, .int l1, .int l2, .int l3, .int l4, .int l5], [.int l3, .int l1, .ref (sh.2.2.2 l0 0)], (sh, (xu M (sh.2.2.2 l0 0) 2 (l1 + 1)), J))) f_49_91 rfl ?_
  exact ev_ca (cc := (decide ((sh.2.2.1 (sh.2.2.2 l0 0)).1 = 1) && true)) (s1 := (8, 0, [.ref (sh.2.2.2 l0 0), .int l1, .int l3], [], (sh, (xu M (sh.2.2.2 l0 0) 2 (l1 + 1)), J))) (k := (49, 95, [.ref l0, .int l1, .int l2, .int l3, .int l4, .int l5], [])) f_49_92 rfl
theorem b_Reader_readActor_95 (sh : xSh) (M : Nat → Nat → Int32) (J : Nat → Nat → Int64) (l0 : Nat) (l1 : Int32) (l2 : Int32) (l3 : Int32) (l4 : Int32) (l5 : Int32) : ev (49, 95, [.ref l0, .int l1, .int l2, .int l3, .int l4, .int l5], [], (sh, M, J)) = (bif decide ((sh.2.2.1 l0).1 = 5) then bif (decide ((sh.2.2.1 (sh.2.2.2 l0 1)).1 = 6) && true) then (ev (70, 0, [.ref (sh.2.2.2 l0 1), .int l1, .int l2], [], (sh, M, J))).bind (fun r => ev (49, 104, [.ref l0, .int l1, .int l2, .int l3, .int l4, .int l5], r.1.toList ++ [], r.2)) else none else none) := by
  refine ev_nx (s1 := (49, 96, [.ref l0, .int l1, .int l2, .int l3, .int l4, .int l5], [.ref l0], (sh, M, J))) f_49_95 rfl ?_
  refine ev_gd (s1 := (49, 99, [.ref l0, .int l1, .int l2, .int l3, .int l4, .int l5], [.ref (sh.2.2.2 l0 1)], (sh, M, J))) f_49_96 rfl ?_
  refine ev_nx (s1 := (49, 100, [.ref l0, .int l1, .int l2, .int l3, .int l4, .int l5], [.int l1, .ref (sh.2.2.2 l0 1)], (sh, M, J))) f_49_99 rfl ?_
  refine ev_nx (s1 := (49, 101, [.ref l0, .int l1, .int l2, .int l3, .int l4, .int l5], [.int l2, .int l1, .ref (sh.2.2.2 l0 1)], (sh, M, J))) f_49_100 rfl ?_
  exact ev_ca (cc := (decide ((sh.2.2.1 (sh.2.2.2 l0 1)).1 = 6) && true)) (s1 := (70, 0, [.ref (sh.2.2.2 l0 1), .int l1, .int l2], [], (sh, M, J))) (k := (49, 104, [.ref l0, .int l1, .int l2, .int l3, .int l4, .int l5], [])) f_49_101 rfl
theorem b_Reader_readActor_104 (sh : xSh) (M : Nat → Nat → Int32) (J : Nat → Nat → Int64) (l0 : Nat) (l1 : Int32) (l2 : Int32) (l3 : Int32) (l4 : Int32) (l5 : Int32) : ev (49, 104, [.ref l0, .int l1, .int l2, .int l3, .int l4, .int l5], [], (sh, M, J)) = (bif decide ((sh.2.2.1 l0).1 = 5) then bif (decide ((sh.2.2.1 (sh.2.2.2 l0 1)).1 = 6) && true) then (ev (71, 0, [.ref (sh.2.2.2 l0 1), .int l1, .int l4, .int l5], [], (sh, M, J))).bind (fun r => ev (49, 116, [.ref l0, .int l1, .int l2, .int l3, .int l4, .int l5], r.1.toList ++ [], r.2)) else none else none) := by
  refine ev_nx (s1 := (49, 105, [.ref l0, .int l1, .int l2, .int l3, .int l4, .int l5], [.ref l0], (sh, M, J))) f_49_104 rfl ?_
  refine ev_gd (s1 := (49, 108, [.ref l0, .int l1, .int l2, .int l3, .int l4, .int l5], [.ref (sh.2.2.2 l0 1)], (sh, M, J))) f_49_105 rfl ?_
  refine ev_nx (s1 := (49, 109, [.ref l0, .int l1, .int l2, .int l3, .int l4, .int l5], [.int l1, .ref (sh.2.2.2 l0 1)], (sh, M, J))) f_49_108 rfl ?_
  refine ev_nx (s1 := (49, 111, [.ref l0, .int l1, .int l2, .int l3, .int l4, .int l5], [.int l4, .int l1, .ref (sh.2.2.2 l0 1)], (sh, M, J))) f_49_109 rfl ?_
  refine ev_nx (s1 := (49, 113, [.ref l0, .int l1, .int l2, .int l3, .int l4, .int l5], [.int l5, .int l4, .int l1, .ref (sh.2.2.2 l0 1)], (sh, M, J))) f_49_111 rfl ?_
  exact ev_ca (cc := (decide ((sh.2.2.1 (sh.2.2.2 l0 1)).1 = 6) && true)) (s1 := (71, 0, [.ref (sh.2.2.2 l0 1), .int l1, .int l4, .int l5], [], (sh, M, J))) (k := (49, 116, [.ref l0, .int l1, .int l2, .int l3, .int l4, .int l5], [])) f_49_113 rfl
theorem b_Reader_readActor_116 (sh : xSh) (M : Nat → Nat → Int32) (J : Nat → Nat → Int64) (l0 : Nat) (l1 : Int32) (l2 : Int32) (l3 : Int32) (l4 : Int32) (l5 : Int32) : ev (49, 116, [.ref l0, .int l1, .int l2, .int l3, .int l4, .int l5], [], (sh, M, J)) = (some (none, (sh, M, J))) := by
  exact ev_r1 f_49_116 rfl
theorem f_50_0 : xfind (xnth xTs 50) 0 = some (0, .aload_n 0, 1, (0, 0, 0, 0), .null, [], 0, 0, []) := rfl
theorem f_50_1 : xfind (xnth xTs 50) 1 = some (1, .invokevirtual 56, 3, (52, 0, 5, 2), .null, [], 349, 0, []) := rfl
theorem f_50_4 : xfind (xnth xTs 50) 4 = some (4, .aload_n 0, 1, (0, 0, 0, 0), .null, [], 0, 0, []) := rfl
theorem f_50_5 : xfind (xnth xTs 50) 5 = some (5, .aload_n 0, 1, (0, 0, 0, 0), .null, [], 0, 0, []) := rfl
theorem f_50_6 : xfind (xnth xTs 50) 6 = some (6, .getfield 36, 3, (5, 5, 0, 0), .null, [], 163, 0, []) := rfl
theorem f_50_9 : xfind (xnth xTs 50) 9 = some (9, .putfield 45, 3, (5, 8, 0, 0), .null, [], 166, 0, []) := rfl
theorem f_50_12 : xfind (xnth xTs 50) 12 = some (12, .aload_n 0, 1, (0, 0, 0, 0), .null, [], 0, 0, []) := rfl
theorem f_50_13 : xfind (xnth xTs 50) 13 = some (13, .invokevirtual 63, 3, (53, 0, 5, 1), .null, [], 353, 0, []) := rfl
theorem f_50_16 : xfind (xnth xTs 50) 16 = some (16, .invokestatic 130, 3, (54, 1, 5, 1), .null, [], 376, 0, []) := rfl
theorem f_50_19 : xfind (xnth xTs 50) 19 = some (19, .ifCond .ne 14, 3, (0, 0, 0, 0), .null, [], 0, 0, []) := rfl
theorem f_50_22 : xfind (xnth xTs 50) 22 = some (22, .aload_n 0, 1, (0, 0, 0, 0), .null, [], 0, 0, []) := rfl
theorem f_50_23 : xfind (xnth xTs 50) 23 = some (23, .iconst 1, 1, (0, 0, 0, 0), (.int 1), [], 0, 0, []) := rfl
theorem f_50_24 : xfind (xnth xTs 50) 24 = some (24, .aload_n 0, 1, (0, 0, 0, 0), .null, [], 0, 0, []) := rfl
theorem f_50_25 : xfind (xnth xTs 50) 25 = some (25, .getfield 36, 3, (5, 5, 0, 0), .null, [], 163, 0, []) := rfl
theorem f_50_28 : xfind (xnth xTs 50) 28 = some (28, .invokevirtual 67, 3, (55, 2, 5, 3), .null, [], 364, 0, []) := rfl
theorem f_50_31 : xfind (xnth xTs 50) 31 = some (31, .iload_n 1, 1, (0, 0, 0, 0), .null, [], 0, 0, []) := rfl
theorem f_50_32 : xfind (xnth xTs 50) 32 = some (32, .ireturn, 1, (0, 0, 0, 0), .null, [], 0, 0, []) := rfl
theorem f_50_33 : xfind (xnth xTs 50) 33 = some (33, .iconst 0, 1, (0, 0, 0, 0), (.int 0), [], 0, 0, []) := rfl
theorem f_50_34 : xfind (xnth xTs 50) 34 = some (34, .istore_n 3, 1, (0, 0, 0, 0), .null, [], 0, 0, []) := rfl
theorem f_50_35 : xfind (xnth xTs 50) 35 = some (35, .aload_n 0, 1, (0, 0, 0, 0), .null, [], 0, 0, []) := rfl
theorem f_50_36 : xfind (xnth xTs 50) 36 = some (36, .getfield 36, 3, (5, 5, 0, 0), .null, [], 163, 0, []) := rfl
theorem f_50_39 : xfind (xnth xTs 50) 39 = some (39, .istore 4, 2, (0, 0, 0, 0), .null, [], 0, 0, []) := rfl
theorem f_50_41 : xfind (xnth xTs 50) 41 = some (41, .iload 4, 2, (0, 0, 0, 0), .null, [], 0, 1, []) := rfl
theorem f_50_43 : xfind (xnth xTs 50) 43 = some (43, .aload_n 0, 1, (0, 0, 0, 0), .null, [], 0, 0, []) := rfl
theorem f_50_44 : xfind (xnth xTs 50) 44 = some (44, .getfield 25, 3, (5, 2, 0, 0), .null, [], 158, 0, []) := rfl
theorem f_50_47 : xfind (xnth xTs 50) 47 = some (47, .if_icmp .ge 48, 3, (0, 0, 0, 0), .null, [], 0, 0, []) := rfl
theorem f_50_50 : xfind (xnth xTs 50) 50 = some (50, .aload_n 0, 1, (0, 0, 0, 0), .null, [], 0, 0, []) := rfl
theorem f_50_51 : xfind (xnth xTs 50) 51 = some (51, .invokevirtual 63, 3, (53, 0, 5, 1), .null, [], 353, 0, []) := rfl
theorem f_50_54 : xfind (xnth xTs 50) 54 = some (54, .invokestatic 130, 3, (54, 1, 5, 1), .null, [], 376, 0, []) := rfl
theorem f_50_57 : xfind (xnth xTs 50) 57 = some (57, .ifCond .eq 38, 3, (0, 0, 0, 0), .null, [], 0, 0, []) := rfl
theorem f_50_60 : xfind (xnth xTs 50) 60 = some (60, .iload_n 3, 1, (0, 0, 0, 0), .null, [], 0, 0, []) := rfl
theorem f_50_61 : xfind (xnth xTs 50) 61 = some (61, .bipush 10, 2, (0, 0, 0, 0), (.int 10), [], 0, 0, []) := rfl
theorem f_50_63 : xfind (xnth xTs 50) 63 = some (63, .imul, 1, (0, 0, 0, 0), .null, [], 0, 0, []) := rfl
theorem f_50_64 : xfind (xnth xTs 50) 64 = some (64, .aload_n 0, 1, (0, 0, 0, 0), .null, [], 0, 0, []) := rfl
theorem f_50_65 : xfind (xnth xTs 50) 65 = some (65, .invokevirtual 63, 3, (53, 0, 5, 1), .null, [], 353, 0, []) := rfl
theorem f_50_68 : xfind (xnth xTs 50) 68 = some (68, .iadd, 1, (0, 0, 0, 0), .null, [], 0, 0, []) := rfl
theorem f_50_69 : xfind (xnth xTs 50) 69 = some (69, .bipush 48, 2, (0, 0, 0, 0), (.int 48), [], 0, 0, []) := rfl
theorem f_50_71 : xfind (xnth xTs 50) 71 = some (71, .isub, 1, (0, 0, 0, 0), .null, [], 0, 0, []) := rfl
theorem f_50_72 : xfind (xnth xTs 50) 72 = some (72, .sipush 1000, 3, (0, 0, 0, 0), (.int 1000), [], 0, 0, []) := rfl
theorem f_50_75 : xfind (xnth xTs 50) 75 = some (75, .invokestatic 134, 3, (998, 0, 0, 0), .null, [], 379, 0, []) := rfl
theorem f_50_78 : xfind (xnth xTs 50) 78 = some (78, .istore_n 3, 1, (0, 0, 0, 0), .null, [], 0, 0, []) := rfl
theorem f_50_79 : xfind (xnth xTs 50) 79 = some (79, .aload_n 0, 1, (0, 0, 0, 0), .null, [], 0, 0, []) := rfl
theorem f_50_80 : xfind (xnth xTs 50) 80 = some (80, .dup, 1, (0, 0, 0, 0), .null, [], 0, 0, []) := rfl
theorem f_50_81 : xfind (xnth xTs 50) 81 = some (81, .getfield 36, 3, (5, 5, 0, 0), .null, [], 163, 0, []) := rfl
theorem f_50_84 : xfind (xnth xTs 50) 84 = some (84, .iconst 1, 1, (0, 0, 0, 0), (.int 1), [], 0, 0, []) := rfl
theorem f_50_85 : xfind (xnth xTs 50) 85 = some (85, .iadd, 1, (0, 0, 0, 0), .null, [], 0, 0, []) := rfl
theorem f_50_86 : xfind (xnth xTs 50) 86 = some (86, .putfield 36, 3, (5, 5, 0, 0), .null, [], 163, 0, []) := rfl
theorem f_50_89 : xfind (xnth xTs 50) 89 = some (89, .iinc 4 1, 3, (0, 0, 0, 0), .null, [], 0, 0, []) := rfl
theorem f_50_92 : xfind (xnth xTs 50) 92 = some (92, .goto (-51), 3, (0, 0, 0, 0), .null, [], 0, 0, []) := rfl
theorem f_50_95 : xfind (xnth xTs 50) 95 = some (95, .aload_n 0, 1, (0, 0, 0, 0), .null, [], 0, 0, []) := rfl
theorem f_50_96 : xfind (xnth xTs 50) 96 = some (96, .getfield 36, 3, (5, 5, 0, 0), .null, [], 163, 0, []) := rfl
theorem f_50_99 : xfind (xnth xTs 50) 99 = some (99, .aload_n 0, 1, (0, 0, 0, 0), .null, [], 0, 0, []) := rfl
theorem f_50_100 : xfind (xnth xTs 50) 100 = some (100, .getfield 45, 3, (5, 8, 0, 0), .null, [], 166, 0, []) := rfl
theorem f_50_103 : xfind (xnth xTs 50) 103 = some (103, .isub, 1, (0, 0, 0, 0), .null, [], 0, 0, []) := rfl
theorem f_50_104 : xfind (xnth xTs 50) 104 = some (104, .iconst 3, 1, (0, 0, 0, 0), (.int 3), [], 0, 0, []) := rfl
theorem f_50_105 : xfind (xnth xTs 50) 105 = some (105, .if_icmp .gt 12, 3, (0, 0, 0, 0), .null, [], 0, 0, []) := rfl
theorem f_50_108 : xfind (xnth xTs 50) 108 = some (108, .iload_n 3, 1, (0, 0, 0, 0), .null, [], 0, 0, []) := rfl
theorem f_50_109 : xfind (xnth xTs 50) 109 = some (109, .iload_n 1, 1, (0, 0, 0, 0), .null, [], 0, 0, []) := rfl
theorem f_50_110 : xfind (xnth xTs 50) 110 = some (110, .iload_n 2, 1, (0, 0, 0, 0), .null, [], 0, 0, []) := rfl
theorem f_50_111 : xfind (xnth xTs 50) 111 = some (111, .invokestatic 139, 3, (125, 3, 8, 3), .null, [], 382, 0, []) := rfl
theorem f_50_114 : xfind (xnth xTs 50) 114 = some (114, .ifCond .ne 14, 3, (0, 0, 0, 0), .null, [], 0, 0, []) := rfl
theorem f_50_117 : xfind (xnth xTs 50) 117 = some (117, .aload_n 0, 1, (0, 0, 0, 0), .null, [], 0, 0, []) := rfl
theorem f_50_118 : xfind (xnth xTs 50) 118 = some (118, .iconst 2, 1, (0, 0, 0, 0), (.int 2), [], 0, 0, []) := rfl
theorem f_50_119 : xfind (xnth xTs 50) 119 = some (119, .aload_n 0, 1, (0, 0, 0, 0), .null, [], 0, 0, []) := rfl
theorem f_50_120 : xfind (xnth xTs 50) 120 = some (120, .getfield 45, 3, (5, 8, 0, 0), .null, [], 166, 0, []) := rfl
theorem f_50_123 : xfind (xnth xTs 50) 123 = some (123, .invokevirtual 67, 3, (55, 2, 5, 3), .null, [], 364, 0, []) := rfl
theorem f_50_126 : xfind (xnth xTs 50) 126 = some (126, .iload_n 1, 1, (0, 0, 0, 0), .null, [], 0, 0, []) := rfl
theorem f_50_127 : xfind (xnth xTs 50) 127 = some (127, .ireturn, 1, (0, 0, 0, 0), .null, [], 0, 0, []) := rfl
theorem f_50_128 : xfind (xnth xTs 50) 128 = some (128, .iload_n 3, 1, (0, 0, 0, 0), .null, [], 0, 0, []) := rfl
theorem f_50_129 : xfind (xnth xTs 50) 129 = some (129, .ireturn, 1, (0, 0, 0, 0), .null, [], 0, 0, []) := rfl
theorem hd_50_41 : xhead 50 41 = some [] := rfl
theorem b_Reader_number_0 (sh : xSh) (M : Nat → Nat → Int32) (J : Nat → Nat → Int64) (l0 : Nat) (l1 : Int32) (l2 : Int32) : ev (50, 0, [.ref l0, .int l1, .int l2, .null, .null], [], (sh, M, J)) = (bif (decide ((sh.2.2.1 l0).1 = 5) && true) then (ev (52, 0, [.ref l0, .null], [], (sh, M, J))).bind (fun r => ev (50, 4, [.ref l0, .int l1, .int l2, .null, .null], r.1.toList ++ [], r.2)) else none) := by
  refine ev_nx (s1 := (50, 1, [.ref l0, .int l1, .int l2, .null, .null], [.ref l0], (sh, M, J))) f_50_0 rfl ?_
  exact ev_ca (cc := (decide ((sh.2.2.1 l0).1 = 5) && true)) (s1 := (52, 0, [.ref l0, .null], [], (sh, M, J))) (k := (50, 4, [.ref l0, .int l1, .int l2, .null, .null], [])) f_50_1 rfl
theorem b_Reader_number_4 (sh : xSh) (M : Nat → Nat → Int32) (J : Nat → Nat → Int64) (l0 : Nat) (l1 : Int32) (l2 : Int32) : ev (50, 4, [.ref l0, .int l1, .int l2, .null, .null], [], (sh, M, J)) = (bif decide ((sh.2.2.1 l0).1 = 5) then bif decide ((sh.2.2.1 l0).1 = 5) then bif (decide ((sh.2.2.1 l0).1 = 5) && true) then (ev (53, 0, [.ref l0], [], (sh, (xu M l0 8 (M l0 5)), J))).bind (fun r => ev (50, 16, [.ref l0, .int l1, .int l2, .null, .null], r.1.toList ++ [], r.2)) else none else none else none) := by
  refine ev_nx (s1 := (50, 5, [.ref l0, .int l1, .int l2, .null, .null], [.ref l0], (sh, M, J))) f_50_4 rfl ?_
  refine ev_nx (s1 := (50, 6, [.ref l0, .int l1, .int l2, .null, .null], [.ref l0, .ref l0], (sh, M, J))) f_50_5 rfl ?_
  refine ev_gd (s1 := (50, 9, [.ref l0, .int l1, .int l2, .null, .null], [.int (M l0 5), .ref l0], (sh, M, J))) f_50_6 rfl ?_
  refine ev_gd (s1 := (50, 12, [.ref l0, .int l1, .int l2, .null, .null], [], (sh, (xu M l0 8 (M l0 5)), J))) f_50_9 rfl ?_
  refine ev_nx (s1 := (50, 13, [.ref l0, .int l1, .int l2, .null, .null], [.ref l0], (sh, (xu M l0 8 (M l0 5)), J))) f_50_12 rfl ?_
  exact ev_ca (cc := (decide ((sh.2.2.1 l0).1 = 5) && true)) (s1 := (53, 0, [.ref l0], [], (sh, (xu M l0 8 (M l0 5)), J))) (k := (50, 16, [.ref l0, .int l1, .int l2, .null, .null], [])) f_50_13 rfl
theorem b_Reader_number_16 (sh : xSh) (M : Nat → Nat → Int32) (J : Nat → Nat → Int64) (l0 : Nat) (l1 : Int32) (l2 : Int32) (k0 : Int32) : ev (50, 16, [.ref l0, .int l1, .int l2, .null, .null], [.int k0], (sh, M, J)) = ((ev (54, 0, [.int k0], [], (sh, M, J))).bind (fun r => ev (50, 19, [.ref l0, .int l1, .int l2, .null, .null], r.1.toList ++ [], r.2))) := by
  exact ev_c1 (s1 := (54, 0, [.int k0], [], (sh, M, J))) (k := (50, 19, [.ref l0, .int l1, .int l2, .null, .null], [])) f_50_16 rfl
theorem b_Reader_number_19 (sh : xSh) (M : Nat → Nat → Int32) (J : Nat → Nat → Int64) (l0 : Nat) (l1 : Int32) (l2 : Int32) (k0 : Int32) : ev (50, 19, [.ref l0, .int l1, .int l2, .null, .null], [.int k0], (sh, M, J)) = (bif !decide (k0 = 0) then bif decide ((sh.2.2.1 l0).1 = 5) then ev (50, 41, [.ref l0, .int l1, .int l2, .int 0, .int (M l0 5)], [], (sh, M, J)) else none else bif decide ((sh.2.2.1 l0).1 = 5) then bif (decide ((sh.2.2.1 l0).1 = 5) && true) then (ev (55, 0, [.ref l0, .int 1, .int (M l0 5)], [], (sh, M, J))).bind (fun r => ev (50, 31, [.ref l0, .int l1, .int l2, .null, .null], r.1.toList ++ [], r.2)) else none else none) := by
  refine ev_br (s1 := (50, 33, [.ref l0, .int l1, .int l2, .null, .null], [], (sh, M, J))) (s2 := (50, 22, [.ref l0, .int l1, .int l2, .null, .null], [], (sh, M, J))) f_50_19 rfl ?_ ?_
  · refine ev_nx (s1 := (50, 34, [.ref l0, .int l1, .int l2, .null, .null], [.int 0], (sh, M, J))) f_50_33 rfl ?_
    refine ev_nx (s1 := (50, 35, [.ref l0, .int l1, .int l2, .int 0, .null], [], (sh, M, J))) f_50_34 rfl ?_
    refine ev_nx (s1 := (50, 36, [.ref l0, .int l1, .int l2, .int 0, .null], [.ref l0], (sh, M, J))) f_50_35 rfl ?_
    refine ev_gd (s1 := (50, 39, [.ref l0, .int l1, .int l2, .int 0, .null], [.int (M l0 5)], (sh, M, J))) f_50_36 rfl ?_
    refine ev_nx (s1 := (50, 41, [.ref l0, .int l1, .int l2, .int 0, .int (M l0 5)], [], (sh, M, J))) f_50_39 rfl ?_
    exact rfl
  · refine ev_nx (s1 := (50, 23, [.ref l0, .int l1, .int l2, .null, .null], [.ref l0], (sh, M, J))) f_50_22 rfl ?_
    refine ev_nx (s1 := (50, 24, [.ref l0, .int l1, .int l2, .null, .null], [.int 1, .ref l0], (sh, M, J))) f_50_23 rfl ?_
    refine ev_nx (s1 := (50, 25, [.ref l0, .int l1, .int l2, .null, .null], [.ref l0, .int 1, .ref l0], (sh, M, J))) f_50_24 rfl ?_
    refine ev_gd (s1 := (50, 28, [.ref l0, .int l1, .int l2, .null, .null], [.int (M l0 5), .int 1, .ref l0], (sh, M, J))) f_50_25 rfl ?_
    exact ev_ca (cc := (decide ((sh.2.2.1 l0).1 = 5) && true)) (s1 := (55, 0, [.ref l0, .int 1, .int (M l0 5)], [], (sh, M, J))) (k := (50, 31, [.ref l0, .int l1, .int l2, .null, .null], [])) f_50_28 rfl
theorem b_Reader_number_31 (sh : xSh) (M : Nat → Nat → Int32) (J : Nat → Nat → Int64) (l0 : Nat) (l1 : Int32) (l2 : Int32) : ev (50, 31, [.ref l0, .int l1, .int l2, .null, .null], [], (sh, M, J)) = (some (some (.int l1), (sh, M, J))) := by
  refine ev_nx (s1 := (50, 32, [.ref l0, .int l1, .int l2, .null, .null], [.int l1], (sh, M, J))) f_50_31 rfl ?_
  exact ev_r1 f_50_32 rfl
theorem b_Reader_number_41 (sh : xSh) (M : Nat → Nat → Int32) (J : Nat → Nat → Int64) (l0 : Nat) (l1 : Int32) (l2 : Int32) (l3 : Int32) (l4 : Int32) : ev (50, 41, [.ref l0, .int l1, .int l2, .int l3, .int l4], [], (sh, M, J)) = (bif decide ((sh.2.2.1 l0).1 = 5) then bif decide ((M l0 2) ≤ l4) then bif decide ((sh.2.2.1 l0).1 = 5) then bif decide ((sh.2.2.1 l0).1 = 5) then bif decide (3 < ((M l0 5) - (M l0 8))) then bif decide ((sh.2.2.1 l0).1 = 5) then bif (decide ((sh.2.2.1 l0).1 = 5) && true) then (ev (55, 0, [.ref l0, .int 2, .int (M l0 8)], [], (sh, M, J))).bind (fun r => ev (50, 126, [.ref l0, .int l1, .int l2, .int l3, .int l4], r.1.toList ++ [], r.2)) else none else none else (ev (125, 0, [.int l3, .int l1, .int l2], [], (sh, M, J))).bind (fun r => ev (50, 114, [.ref l0, .int l1, .int l2, .int l3, .int l4], r.1.toList ++ [], r.2)) else none else none else bif (decide ((sh.2.2.1 l0).1 = 5) && true) then (ev (53, 0, [.ref l0], [], (sh, M, J))).bind (fun r => ev (50, 54, [.ref l0, .int l1, .int l2, .int l3, .int l4], r.1.toList ++ [], r.2)) else none else none) := by
  refine ev_nx (s1 := (50, 43, [.ref l0, .int l1, .int l2, .int l3, .int l4], [.int l4], (sh, M, J))) f_50_41 rfl ?_
  refine ev_nx (s1 := (50, 44, [.ref l0, .int l1, .int l2, .int l3, .int l4], [.ref l0, .int l4], (sh, M, J))) f_50_43 rfl ?_
  refine ev_gd (s1 := (50, 47, [.ref l0, .int l1, .int l2, .int l3, .int l4], [.int (M l0 2), .int l4], (sh, M, J))) f_50_44 rfl ?_
  refine ev_br (s1 := (50, 95, [.ref l0, .int l1, .int l2, .int l3, .int l4], [], (sh, M, J))) (s2 := (50, 50, [.ref l0, .int l1, .int l2, .int l3, .int l4], [], (sh, M, J))) f_50_47 rfl ?_ ?_
  · refine ev_nx (s1 := (50, 96, [.ref l0, .int l1, .int l2, .int l3, .int l4], [.ref l0], (sh, M, J))) f_50_95 rfl ?_
    refine ev_gd (s1 := (50, 99, [.ref l0, .int l1, .int l2, .int l3, .int l4], [.int (M l0 5)], (sh, M, J))) f_50_96 rfl ?_
    refine ev_nx (s1 := (50, 100, [.ref l0, .int l1, .int l2, .int l3, .int l4], [.ref l0, .int (M l0 5)], (sh, M, J))) f_50_99 rfl ?_
    refine ev_gd (s1 := (50, 103, [.ref l0, .int l1, .int l2, .int l3, .int l4], [.int (M l0 8), .int (M l0 5)], (sh, M, J))) f_50_100 rfl ?_
    refine ev_nx (s1 := (50, 104, [.ref l0, .int l1, .int l2, .int l3, .int l4], [.int ((M l0 5) - (M l0 8))], (sh, M, J))) f_50_103 rfl ?_
    refine ev_nx (s1 := (50, 105, [.ref l0, .int l1, .int l2, .int l3, .int l4], [.int 3, .int ((M l0 5) - (M l0 8))], (sh, M, J))) f_50_104 rfl ?_
    refine ev_br (s1 := (50, 117, [.ref l0, .int l1, .int l2, .int l3, .int l4], [], (sh, M, J))) (s2 := (50, 108, [.ref l0, .int l1, .int l2, .int l3, .int l4], [], (sh, M, J))) f_50_105 rfl ?_ ?_
    · refine ev_nx (s1 := (50, 118, [.ref l0, .int l1, .int l2, .int l3, .int l4], [.ref l0], (sh, M, J))) f_50_117 rfl ?_
      refine ev_nx (s1 := (50, 119, [.ref l0, .int l1, .int l2, .int l3, .int l4], [.int 2, .ref l0], (sh, M, J))) f_50_118 rfl ?_
      refine ev_nx (s1 := (50, 120, [.ref l0, .int l1, .int l2, .int l3, .int l4], [.ref l0, .int 2, .ref l0], (sh, M, J))) f_50_119 rfl ?_
      refine ev_gd (s1 := (50, 123, [.ref l0, .int l1, .int l2, .int l3, .int l4], [.int (M l0 8), .int 2, .ref l0], (sh, M, J))) f_50_120 rfl ?_
      exact ev_ca (cc := (decide ((sh.2.2.1 l0).1 = 5) && true)) (s1 := (55, 0, [.ref l0, .int 2, .int (M l0 8)], [], (sh, M, J))) (k := (50, 126, [.ref l0, .int l1, .int l2, .int l3, .int l4], [])) f_50_123 rfl
    · refine ev_nx (s1 := (50, 109, [.ref l0, .int l1, .int l2, .int l3, .int l4], [.int l3], (sh, M, J))) f_50_108 rfl ?_
      refine ev_nx (s1 := (50, 110, [.ref l0, .int l1, .int l2, .int l3, .int l4], [.int l1, .int l3], (sh, M, J))) f_50_109 rfl ?_
      refine ev_nx (s1 := (50, 111, [.ref l0, .int l1, .int l2, .int l3, .int l4], [.int l2, .int l1, .int l3], (sh, M, J))) f_50_110 rfl ?_
      exact ev_c1 (s1 := (125, 0, [.int l3, .int l1, .int l2], [], (sh, M, J))) (k := (50, 114, [.ref l0, .int l1, .int l2, .int l3, .int l4], [])) f_50_111 rfl
  · refine ev_nx (s1 := (50, 51, [.ref l0, .int l1, .int l2, .int l3, .int l4], [.ref l0], (sh, M, J))) f_50_50 rfl ?_
    exact ev_ca (cc := (decide ((sh.2.2.1 l0).1 = 5) && true)) (s1 := (53, 0, [.ref l0], [], (sh, M, J))) (k := (50, 54, [.ref l0, .int l1, .int l2, .int l3, .int l4], [])) f_50_51 rfl
theorem b_Reader_number_54 (sh : xSh) (M : Nat → Nat → Int32) (J : Nat → Nat → Int64) (l0 : Nat) (l1 : Int32) (l2 : Int32) (l3 : Int32) (l4 : Int32) (k0 : Int32) : ev (50, 54, [.ref l0, .int l1, .int l2, .int l3, .int l4], [.int k0], (sh, M, J)) = ((ev (54, 0, [.int k0], [], (sh, M, J))).bind (fun r => ev (50, 57, [.ref l0, .int l1, .int l2, .int l3, .int l4], r.1.toList ++ [], r.2))) := by
  exact ev_c1 (s1 := (54, 0, [.int k0], [], (sh, M, J))) (k := (50, 57, [.ref l0, .int l1, .int l2, .int l3, .int l4], [])) f_50_54 rfl
theorem b_Reader_number_57 (sh : xSh) (M : Nat → Nat → Int32) (J : Nat → Nat → Int64) (l0 : Nat) (l1 : Int32) (l2 : Int32) (l3 : Int32) (l4 : Int32) (k0 : Int32) : ev (50, 57, [.ref l0, .int l1, .int l2, .int l3, .int l4], [.int k0], (sh, M, J)) = (bif decide (k0 = 0) then bif decide ((sh.2.2.1 l0).1 = 5) then bif decide ((sh.2.2.1 l0).1 = 5) then bif decide (3 < ((M l0 5) - (M l0 8))) then bif decide ((sh.2.2.1 l0).1 = 5) then bif (decide ((sh.2.2.1 l0).1 = 5) && true) then (ev (55, 0, [.ref l0, .int 2, .int (M l0 8)], [], (sh, M, J))).bind (fun r => ev (50, 126, [.ref l0, .int l1, .int l2, .int l3, .int l4], r.1.toList ++ [], r.2)) else none else none else (ev (125, 0, [.int l3, .int l1, .int l2], [], (sh, M, J))).bind (fun r => ev (50, 114, [.ref l0, .int l1, .int l2, .int l3, .int l4], r.1.toList ++ [], r.2)) else none else none else bif (decide ((sh.2.2.1 l0).1 = 5) && true) then (ev (53, 0, [.ref l0], [], (sh, M, J))).bind (fun r => ev (50, 68, [.ref l0, .int l1, .int l2, .int l3, .int l4], r.1.toList ++ [.int (l3 * 10)], r.2)) else none) := by
  refine ev_br (s1 := (50, 95, [.ref l0, .int l1, .int l2, .int l3, .int l4], [], (sh, M, J))) (s2 := (50, 60, [.ref l0, .int l1, .int l2, .int l3, .int l4], [], (sh, M, J))) f_50_57 rfl ?_ ?_
  · refine ev_nx (s1 := (50, 96, [.ref l0, .int l1, .int l2, .int l3, .int l4], [.ref l0], (sh, M, J))) f_50_95 rfl ?_
    refine ev_gd (s1 := (50, 99, [.ref l0, .int l1, .int l2, .int l3, .int l4], [.int (M l0 5)], (sh, M, J))) f_50_96 rfl ?_
    refine ev_nx (s1 := (50, 100, [.ref l0, .int l1, .int l2, .int l3, .int l4], [.ref l0, .int (M l0 5)], (sh, M, J))) f_50_99 rfl ?_
    refine ev_gd (s1 := (50, 103, [.ref l0, .int l1, .int l2, .int l3, .int l4], [.int (M l0 8), .int (M l0 5)], (sh, M, J))) f_50_100 rfl ?_
    refine ev_nx (s1 := (50, 104, [.ref l0, .int l1, .int l2, .int l3, .int l4], [.int ((M l0 5) - (M l0 8))], (sh, M, J))) f_50_103 rfl ?_
    refine ev_nx (s1 := (50, 105, [.ref l0, .int l1, .int l2, .int l3, .int l4], [.int 3, .int ((M l0 5) - (M l0 8))], (sh, M, J))) f_50_104 rfl ?_
    refine ev_br (s1 := (50, 117, [.ref l0, .int l1, .int l2, .int l3, .int l4], [], (sh, M, J))) (s2 := (50, 108, [.ref l0, .int l1, .int l2, .int l3, .int l4], [], (sh, M, J))) f_50_105 rfl ?_ ?_
    · refine ev_nx (s1 := (50, 118, [.ref l0, .int l1, .int l2, .int l3, .int l4], [.ref l0], (sh, M, J))) f_50_117 rfl ?_
      refine ev_nx (s1 := (50, 119, [.ref l0, .int l1, .int l2, .int l3, .int l4], [.int 2, .ref l0], (sh, M, J))) f_50_118 rfl ?_
      refine ev_nx (s1 := (50, 120, [.ref l0, .int l1, .int l2, .int l3, .int l4], [.ref l0, .int 2, .ref l0], (sh, M, J))) f_50_119 rfl ?_
      refine ev_gd (s1 := (50, 123, [.ref l0, .int l1, .int l2, .int l3, .int l4], [.int (M l0 8), .int 2, .ref l0], (sh, M, J))) f_50_120 rfl ?_
      exact ev_ca (cc := (decide ((sh.2.2.1 l0).1 = 5) && true)) (s1 := (55, 0, [.ref l0, .int 2, .int (M l0 8)], [], (sh, M, J))) (k := (50, 126, [.ref l0, .int l1, .int l2, .int l3, .int l4], [])) f_50_123 rfl
    · refine ev_nx (s1 := (50, 109, [.ref l0, .int l1, .int l2, .int l3, .int l4], [.int l3], (sh, M, J))) f_50_108 rfl ?_
      refine ev_nx (s1 := (50, 110, [.ref l0, .int l1, .int l2, .int l3, .int l4], [.int l1, .int l3], (sh, M, J))) f_50_109 rfl ?_
      refine ev_nx (s1 := (50, 111, [.ref l0, .int l1, .int l2, .int l3, .int l4], [.int l2, .int l1, .int l3], (sh, M, J))) f_50_110 rfl ?_
      exact ev_c1 (s1 := (125, 0, [.int l3, .int l1, .int l2], [], (sh, M, J))) (k := (50, 114, [.ref l0, .int l1, .int l2, .int l3, .int l4], [])) f_50_111 rfl
  · refine ev_nx (s1 := (50, 61, [.ref l0, .int l1, .int l2, .int l3, .int l4], [.int l3], (sh, M, J))) f_50_60 rfl ?_
    refine ev_nx (s1 := (50, 63, [.ref l0, .int l1, .int l2, .int l3, .int l4], [.int 10, .int l3], (sh, M, J))) f_50_61 rfl ?_
    refine ev_nx (s1 := (50, 64, [.ref l0, .int l1, .int l2, .int l3, .int l4], [.int (l3 * 10)], (sh, M, J))) f_50_63 rfl ?_
    refine ev_nx (s1 := (50, 65, [.ref l0, .int l1, .int l2, .int l3, .int l4], [.ref l0, .int (l3 * 10)], (sh, M, J))) f_50_64 rfl ?_
    exact ev_ca (cc := (decide ((sh.2.2.1 l0).1 = 5) && true)) (s1 := (53, 0, [.ref l0], [], (sh, M, J))) (k := (50, 68, [.ref l0, .int l1, .int l2, .int l3, .int l4], [.int (l3 * 10)])) f_50_65 rfl
theorem b_Reader_number_68 (sh : xSh) (M : Nat → Nat → Int32) (J : Nat → Nat → Int64) (l0 : Nat) (l1 : Int32) (l2 : Int32) (l3 : Int32) (l4 : Int32) (k0 : Int32) (k1 : Int32) : ev (50, 68, [.ref l0, .int l1, .int l2, .int l3, .int l4], [.int k0, .int k1], (sh, M, J)) = (bif decide ((sh.2.2.1 l0).1 = 5) then bif decide ((sh.2.2.1 l0).1 = 5) then ev (50, 41, [.ref l0, .int l1, .int l2, .int (xmin ((k1 + k0) - 48) 1000), .int (l4 + 1)], [], (sh, (xu M l0 5 ((M l0 5) + 1)), J)) else none else none) := by
  refine ev_nx (s1 := (50, 69, [.ref l0, .int l1, .int l2, .int l3, .int l4], [.int (k1 + k0)], (sh, M, J))) f_50_68 rfl ?_
  refine ev_nx (s1 := (50, 71, [.ref l0, .int l1, .int l2, .int l3, .int l4], [.int 48, .int (k1 + k0)], (sh, M, J))) f_50_69 rfl ?_
  refine ev_nx (s1 := (50, 72, [.ref l0, .int l1, .int l2, .int l3, .int l4], [.int ((k1 + k0) - 48)], (sh, M, J))) f_50_71 rfl ?_
  refine ev_nx (s1 := (50, 75, [.ref l0, .int l1, .int l2, .int l3, .int l4], [.int 1000, .int ((k1 + k0) - 48)], (sh, M, J))) f_50_72 rfl ?_
  refine ev_nx (s1 := (50, 78, [.ref l0, .int l1, .int l2, .int l3, .int l4], [.int (xmin ((k1 + k0) - 48) 1000)], (sh, M, J))) f_50_75 rfl ?_
  refine ev_nx (s1 := (50, 79, [.ref l0, .int l1, .int l2, .int (xmin ((k1 + k0) - 48) 1000), .int l4], [], (sh, M, J))) f_50_78 rfl ?_
  refine ev_nx (s1 := (50, 80, [.ref l0, .int l1, .int l2, .int (xmin ((k1 + k0) - 48) 1000), .int l4], [.ref l0], (sh, M, J))) f_50_79 rfl ?_
  refine ev_nx (s1 := (50, 81, [.ref l0, .int l1, .int l2, .int (xmin ((k1 + k0) - 48) 1000), .int l4], [.ref l0, .ref l0], (sh, M, J))) f_50_80 rfl ?_
  refine ev_gd (s1 := (50, 84, [.ref l0, .int l1, .int l2, .int (xmin ((k1 + k0) - 48) 1000), .int l4], [.int (M l0 5), .ref l0], (sh, M, J))) f_50_81 rfl ?_
  refine ev_nx (s1 := (50, 85, [.ref l0, .int l1, .int l2, .int (xmin ((k1 + k0) - 48) 1000), .int l4], [.int 1, .int (M l0 5), .ref l0], (sh, M, J))) f_50_84 rfl ?_
  refine ev_nx (s1 := (50, 86, [.ref l0, .int l1, .int l2, .int (xmin ((k1 + k0) - 48) 1000), .int l4], [.int ((M l0 5) + 1), .ref l0], (sh, M, J))) f_50_85 rfl ?_
  refine ev_gd (s1 := (50, 89, [.ref l0, .int l1, .int l2, .int (xmin ((k1 + k0) - 48) 1000), .int l4], [], (sh, (xu M l0 5 ((M l0 5) + 1)), J))) f_50_86 rfl ?_
  refine ev_nx (s1 := (50, 92, [.ref l0, .int l1, .int l2, .int (xmin ((k1 + k0) - 48) 1000), .int (l4 + 1)], [], (sh, (xu M l0 5 ((M l0 5) + 1)), J))) f_50_89 rfl ?_
  refine ev_nx (s1 := (50, 41, [.ref l0, .int l1, .int l2, .int (xmin ((k1 + k0) - 48) 1000), .int (l4 + 1)], [], (sh, (xu M l0 5 ((M l0 5) + 1)), J))) f_50_92 rfl ?_
  exact rfl
theorem b_Reader_number_114 (sh : xSh) (M : Nat → Nat → Int32) (J : Nat → Nat → Int64) (l0 : Nat) (l1 : Int32) (l2 : Int32) (l3 : Int32) (l4 : Int32) (k0 : Int32) : ev (50, 114, [.ref l0, .int l1, .int l2, .int l3, .int l4], [.int k0], (sh, M, J)) = (bif !decide (k0 = 0) then some (some (.int l3), (sh, M, J)) else bif decide ((sh.2.2.1 l0).1 = 5) then bif (decide ((sh.2.2.1 l0).1 = 5) && true) then (ev (55, 0, [.ref l0, .int 2, .int (M l0 8)], [], (sh, M, J))).bind (fun r => ev (50, 126, [.ref l0, .int l1, .int l2, .int l3, .int l4], r.1.toList ++ [], r.2)) else none else none) := by
  refine ev_br (s1 := (50, 128, [.ref l0, .int l1, .int l2, .int l3, .int l4], [], (sh, M, J))) (s2 := (50, 117, [.ref l0, .int l1, .int l2, .int l3, .int l4], [], (sh, M, J))) f_50_114 rfl ?_ ?_
  · refine ev_nx (s1 := (50, 129, [.ref l0, .int l1, .int l2, .int l3, .int l4], [.int l3], (sh, M, J))) f_50_128 rfl ?_
    exact ev_r1 f_50_129 rfl
  · refine ev_nx (s1 := (50, 118, [.ref l0, .int l1, .int l2, .int l3, .int l4], [.ref l0], (sh, M, J))) f_50_117 rfl ?_
    refine ev_nx (s1 := (50, 119, [.ref l0, .int l1, .int l2, .int l3, .int l4], [.int 2, .ref l0], (sh, M, J))) f_50_118 rfl ?_
    refine ev_nx (s1 := (50, 120, [.ref l0, .int l1, .int l2, .int l3, .int l4], [.ref l0, .int 2, .ref l0], (sh, M, J))) f_50_119 rfl ?_
    refine ev_gd (s1 := (50, 123, [.ref l0, .int l1, .int l2, .int l3, .int l4], [.int (M l0 8), .int 2, .ref l0], (sh, M, J))) f_50_120 rfl ?_
    exact ev_ca (cc := (decide ((sh.2.2.1 l0).1 = 5) && true)) (s1 := (55, 0, [.ref l0, .int 2, .int (M l0 8)], [], (sh, M, J))) (k := (50, 126, [.ref l0, .int l1, .int l2, .int l3, .int l4], [])) f_50_123 rfl
theorem b_Reader_number_126 (sh : xSh) (M : Nat → Nat → Int32) (J : Nat → Nat → Int64) (l0 : Nat) (l1 : Int32) (l2 : Int32) (l3 : Int32) (l4 : Int32) : ev (50, 126, [.ref l0, .int l1, .int l2, .int l3, .int l4], [], (sh, M, J)) = (some (some (.int l1), (sh, M, J))) := by
  refine ev_nx (s1 := (50, 127, [.ref l0, .int l1, .int l2, .int l3, .int l4], [.int l1], (sh, M, J))) f_50_126 rfl ?_
  exact ev_r1 f_50_127 rfl
theorem f_51_0 : xfind (xnth xTs 51) 0 = some (0, .aload_n 0, 1, (0, 0, 0, 0), .null, [], 0, 0, []) := rfl
theorem f_51_1 : xfind (xnth xTs 51) 1 = some (1, .invokevirtual 56, 3, (52, 0, 5, 2), .null, [], 349, 0, []) := rfl
theorem f_51_4 : xfind (xnth xTs 51) 4 = some (4, .aload_n 0, 1, (0, 0, 0, 0), .null, [], 0, 0, []) := rfl
theorem f_51_5 : xfind (xnth xTs 51) 5 = some (5, .invokevirtual 63, 3, (53, 0, 5, 1), .null, [], 353, 0, []) := rfl
theorem f_51_8 : xfind (xnth xTs 51) 8 = some (8, .bipush 59, 2, (0, 0, 0, 0), (.int 59), [], 0, 0, []) := rfl
theorem f_51_10 : xfind (xnth xTs 51) 10 = some (10, .if_icmp .ne 16, 3, (0, 0, 0, 0), .null, [], 0, 0, []) := rfl
theorem f_51_13 : xfind (xnth xTs 51) 13 = some (13, .aload_n 0, 1, (0, 0, 0, 0), .null, [], 0, 0, []) := rfl
theorem f_51_14 : xfind (xnth xTs 51) 14 = some (14, .dup, 1, (0, 0, 0, 0), .null, [], 0, 0, []) := rfl
theorem f_51_15 : xfind (xnth xTs 51) 15 = some (15, .getfield 36, 3, (5, 5, 0, 0), .null, [], 163, 0, []) := rfl
theorem f_51_18 : xfind (xnth xTs 51) 18 = some (18, .iconst 1, 1, (0, 0, 0, 0), (.int 1), [], 0, 0, []) := rfl
theorem f_51_19 : xfind (xnth xTs 51) 19 = some (19, .iadd, 1, (0, 0, 0, 0), .null, [], 0, 0, []) := rfl
theorem f_51_20 : xfind (xnth xTs 51) 20 = some (20, .putfield 36, 3, (5, 5, 0, 0), .null, [], 163, 0, []) := rfl
theorem f_51_23 : xfind (xnth xTs 51) 23 = some (23, .goto 12, 3, (0, 0, 0, 0), .null, [], 0, 0, []) := rfl
theorem f_51_26 : xfind (xnth xTs 51) 26 = some (26, .aload_n 0, 1, (0, 0, 0, 0), .null, [], 0, 0, []) := rfl
theorem f_51_27 : xfind (xnth xTs 51) 27 = some (27, .iconst 1, 1, (0, 0, 0, 0), (.int 1), [], 0, 0, []) := rfl
theorem f_51_28 : xfind (xnth xTs 51) 28 = some (28, .aload_n 0, 1, (0, 0, 0, 0), .null, [], 0, 0, []) := rfl
theorem f_51_29 : xfind (xnth xTs 51) 29 = some (29, .getfield 36, 3, (5, 5, 0, 0), .null, [], 163, 0, []) := rfl
theorem f_51_32 : xfind (xnth xTs 51) 32 = some (32, .invokevirtual 67, 3, (55, 2, 5, 3), .null, [], 364, 0, []) := rfl
theorem f_51_35 : xfind (xnth xTs 51) 35 = some (35, .return_, 1, (0, 0, 0, 0), .null, [], 0, 0, []) := rfl
theorem b_Reader_readEnd_0 (sh : xSh) (M : Nat → Nat → Int32) (J : Nat → Nat → Int64) (l0 : Nat) : ev (51, 0, [.ref l0], [], (sh, M, J)) = (bif (decide ((sh.2.2.1 l0).1 = 5) && true) then (ev (52, 0, [.ref l0, .null], [], (sh, M, J))).bind (fun r => ev (51, 4, [.ref l0], r.1.toList ++ [], r.2)) else none) := by
  refine ev_nx (s1 := (51, 1, [.ref l0], [.ref l0], (sh, M, J))) f_51_0 rfl ?_
  exact ev_ca (cc := (decide ((sh.2.2.1 l0).1 = 5) && true)) (s1 := (52, 0, [.ref l0, .null], [], (sh, M, J))) (k := (51, 4, [.ref l0], [])) f_51_1 rfl
theorem b_Reader_readEnd_4 (sh : xSh) (M : Nat → Nat → Int32) (J : Nat → Nat → Int64) (l0 : Nat) : ev (51, 4, [.ref l0], [], (sh, M, J)) = (bif (decide ((sh.2.2.1 l0).1 = 5) && true) then (ev (53, 0, [.ref l0], [], (sh, M, J))).bind (fun r => ev (51, 8, [.ref l0], r.1.toList ++ [], r.2)) else none) := by
  refine ev_nx (s1 := (51, 5, [.ref l0], [.ref l0], (sh, M, J))) f_51_4 rfl ?_
  exact ev_ca (cc := (decide ((sh.2.2.1 l0).1 = 5) && true)) (s1 := (53, 0, [.ref l0], [], (sh, M, J))) (k := (51, 8, [.ref l0], [])) f_51_5 rfl
theorem b_Reader_readEnd_8 (sh : xSh) (M : Nat → Nat → Int32) (J : Nat → Nat → Int64) (l0 : Nat) (k0 : Int32) : ev (51, 8, [.ref l0], [.int k0], (sh, M, J)) = (bif !decide (k0 = 59) then bif decide ((sh.2.2.1 l0).1 = 5) then bif (decide ((sh.2.2.1 l0).1 = 5) && true) then (ev (55, 0, [.ref l0, .int 1, .int (M l0 5)], [], (sh, M, J))).bind (fun r => ev (51, 35, [.ref l0], r.1.toList ++ [], r.2)) else none else none else bif decide ((sh.2.2.1 l0).1 = 5) then bif decide ((sh.2.2.1 l0).1 = 5) then some (none, (sh, (xu M l0 5 ((M l0 5) + 1)), J)) else none else none) := by
  refine ev_nx (s1 := (51, 10, [.ref l0], [.int 59, .int k0], (sh, M, J))) f_51_8 rfl ?_
  refine ev_br (s1 := (51, 26, [.ref l0], [], (sh, M, J))) (s2 := (51, 13, [.ref l0], [], (sh, M, J))) f_51_10 rfl ?_ ?_
  · refine ev_nx (s1 := (51, 27, [.ref l0], [.ref l0], (sh, M, J))) f_51_26 rfl ?_
    refine ev_nx (s1 := (51, 28, [.ref l0], [.int 1, .ref l0], (sh, M, J))) f_51_27 rfl ?_
    refine ev_nx (s1 := (51, 29, [.ref l0], [.ref l0, .int 1, .ref l0], (sh, M, J))) f_51_28 rfl ?_
    refine ev_gd (s1 := (51, 32, [.ref l0], [.int (M l0 5), .int 1, .ref l0], (sh, M, J))) f_51_29 rfl ?_
    exact ev_ca (cc := (decide ((sh.2.2.1 l0).1 = 5) && true)) (s1 := (55, 0, [.ref l0, .int 1, .int (M l0 5)], [], (sh, M, J))) (k := (51, 35, [.ref l0], [])) f_51_32 rfl
  · refine ev_nx (s1 := (51, 14, [.ref l0], [.ref l0], (sh, M, J))) f_51_13 rfl ?_
    refine ev_nx (s1 := (51, 15, [.ref l0], [.ref l0, .ref l0], (sh, M, J))) f_51_14 rfl ?_
    refine ev_gd (s1 := (51, 18, [.ref l0], [.int (M l0 5), .ref l0], (sh, M, J))) f_51_15 rfl ?_
    refine ev_nx (s1 := (51, 19, [.ref l0], [.int 1, .int (M l0 5), .ref l0], (sh, M, J))) f_51_18 rfl ?_
    refine ev_nx (s1 := (51, 20, [.ref l0], [.int ((M l0 5) + 1), .ref l0], (sh, M, J))) f_51_19 rfl ?_
    refine ev_gd (s1 := (51, 23, [.ref l0], [], (sh, (xu M l0 5 ((M l0 5) + 1)), J))) f_51_20 rfl ?_
    refine ev_nx (s1 := (51, 35, [.ref l0], [], (sh, (xu M l0 5 ((M l0 5) + 1)), J))) f_51_23 rfl ?_
    exact ev_r1 f_51_35 rfl
theorem b_Reader_readEnd_35 (sh : xSh) (M : Nat → Nat → Int32) (J : Nat → Nat → Int64) (l0 : Nat) : ev (51, 35, [.ref l0], [], (sh, M, J)) = (some (none, (sh, M, J))) := by
  exact ev_r1 f_51_35 rfl
theorem f_52_0 : xfind (xnth xTs 52) 0 = some (0, .aload_n 0, 1, (0, 0, 0, 0), .null, [], 0, 0, []) := rfl
theorem f_52_1 : xfind (xnth xTs 52) 1 = some (1, .getfield 36, 3, (5, 5, 0, 0), .null, [], 163, 0, []) := rfl
theorem f_52_4 : xfind (xnth xTs 52) 4 = some (4, .istore_n 1, 1, (0, 0, 0, 0), .null, [], 0, 0, []) := rfl
theorem f_52_5 : xfind (xnth xTs 52) 5 = some (5, .iload_n 1, 1, (0, 0, 0, 0), .null, [], 0, 1, []) := rfl
theorem f_52_6 : xfind (xnth xTs 52) 6 = some (6, .aload_n 0, 1, (0, 0, 0, 0), .null, [], 0, 0, []) := rfl
theorem f_52_7 : xfind (xnth xTs 52) 7 = some (7, .getfield 25, 3, (5, 2, 0, 0), .null, [], 158, 0, []) := rfl
theorem f_52_10 : xfind (xnth xTs 52) 10 = some (10, .if_icmp .ge 28, 3, (0, 0, 0, 0), .null, [], 0, 0, []) := rfl
theorem f_52_13 : xfind (xnth xTs 52) 13 = some (13, .aload_n 0, 1, (0, 0, 0, 0), .null, [], 0, 0, []) := rfl
theorem f_52_14 : xfind (xnth xTs 52) 14 = some (14, .invokevirtual 63, 3, (53, 0, 5, 1), .null, [], 353, 0, []) := rfl
theorem f_52_17 : xfind (xnth xTs 52) 17 = some (17, .bipush 32, 2, (0, 0, 0, 0), (.int 32), [], 0, 0, []) := rfl
theorem f_52_19 : xfind (xnth xTs 52) 19 = some (19, .if_icmp .ne 19, 3, (0, 0, 0, 0), .null, [], 0, 0, []) := rfl
theorem f_52_22 : xfind (xnth xTs 52) 22 = some (22, .aload_n 0, 1, (0, 0, 0, 0), .null, [], 0, 0, []) := rfl
theorem f_52_23 : xfind (xnth xTs 52) 23 = some (23, .dup, 1, (0, 0, 0, 0), .null, [], 0, 0, []) := rfl
theorem f_52_24 : xfind (xnth xTs 52) 24 = some (24, .getfield 36, 3, (5, 5, 0, 0), .null, [], 163, 0, []) := rfl
theorem f_52_27 : xfind (xnth xTs 52) 27 = some (27, .iconst 1, 1, (0, 0, 0, 0), (.int 1), [], 0, 0, []) := rfl
theorem f_52_28 : xfind (xnth xTs 52) 28 = some (28, .iadd, 1, (0, 0, 0, 0), .null, [], 0, 0, []) := rfl
theorem f_52_29 : xfind (xnth xTs 52) 29 = some (29, .putfield 36, 3, (5, 5, 0, 0), .null, [], 163, 0, []) := rfl
theorem f_52_32 : xfind (xnth xTs 52) 32 = some (32, .iinc 1 1, 3, (0, 0, 0, 0), .null, [], 0, 0, []) := rfl
theorem f_52_35 : xfind (xnth xTs 52) 35 = some (35, .goto (-30), 3, (0, 0, 0, 0), .null, [], 0, 0, []) := rfl
theorem f_52_38 : xfind (xnth xTs 52) 38 = some (38, .return_, 1, (0, 0, 0, 0), .null, [], 0, 0, []) := rfl
theorem hd_52_5 : xhead 52 5 = some [] := rfl
theorem b_Reader_skipBlanks_0 (sh : xSh) (M : Nat → Nat → Int32) (J : Nat → Nat → Int64) (l0 : Nat) : ev (52, 0, [.ref l0, .null], [], (sh, M, J)) = (bif decide ((sh.2.2.1 l0).1 = 5) then ev (52, 5, [.ref l0, .int (M l0 5)], [], (sh, M, J)) else none) := by
  refine ev_nx (s1 := (52, 1, [.ref l0, .null], [.ref l0], (sh, M, J))) f_52_0 rfl ?_
  refine ev_gd (s1 := (52, 4, [.ref l0, .null], [.int (M l0 5)], (sh, M, J))) f_52_1 rfl ?_
  refine ev_nx (s1 := (52, 5, [.ref l0, .int (M l0 5)], [], (sh, M, J))) f_52_4 rfl ?_
  exact rfl
theorem b_Reader_skipBlanks_5 (sh : xSh) (M : Nat → Nat → Int32) (J : Nat → Nat → Int64) (l0 : Nat) (l1 : Int32) : ev (52, 5, [.ref l0, .int l1], [], (sh, M, J)) = (bif decide ((sh.2.2.1 l0).1 = 5) then bif decide ((M l0 2) ≤ l1) then some (none, (sh, M, J)) else bif (decide ((sh.2.2.1 l0).1 = 5) && true) then (ev (53, 0, [.ref l0], [], (sh, M, J))).bind (fun r => ev (52, 17, [.ref l0, .int l1], r.1.toList ++ [], r.2)) else none else none) := by
  refine ev_nx (s1 := (52, 6, [.ref l0, .int l1], [.int l1], (sh, M, J))) f_52_5 rfl ?_
  refine ev_nx (s1 := (52, 7, [.ref l0, .int l1], [.ref l0, .int l1], (sh, M, J))) f_52_6 rfl ?_
  refine ev_gd (s1 := (52, 10, [.ref l0, .int l1], [.int (M l0 2), .int l1], (sh, M, J))) f_52_7 rfl ?_
  refine ev_br (s1 := (52, 38, [.ref l0, .int l1], [], (sh, M, J))) (s2 := (52, 13, [.ref l0, .int l1], [], (sh, M, J))) f_52_10 rfl ?_ ?_
  · exact ev_r1 f_52_38 rfl
  · refine ev_nx (s1 := (52, 14, [.ref l0, .int l1], [.ref l0], (sh, M, J))) f_52_13 rfl ?_
    exact ev_ca (cc := (decide ((sh.2.2.1 l0).1 = 5) && true)) (s1 := (53, 0, [.ref l0], [], (sh, M, J))) (k := (52, 17, [.ref l0, .int l1], [])) f_52_14 rfl
theorem b_Reader_skipBlanks_17 (sh : xSh) (M : Nat → Nat → Int32) (J : Nat → Nat → Int64) (l0 : Nat) (l1 : Int32) (k0 : Int32) : ev (52, 17, [.ref l0, .int l1], [.int k0], (sh, M, J)) = (bif !decide (k0 = 32) then some (none, (sh, M, J)) else bif decide ((sh.2.2.1 l0).1 = 5) then bif decide ((sh.2.2.1 l0).1 = 5) then ev (52, 5, [.ref l0, .int (l1 + 1)], [], (sh, (xu M l0 5 ((M l0 5) + 1)), J)) else none else none) := by
  refine ev_nx (s1 := (52, 19, [.ref l0, .int l1], [.int 32, .int k0], (sh, M, J))) f_52_17 rfl ?_
  refine ev_br (s1 := (52, 38, [.ref l0, .int l1], [], (sh, M, J))) (s2 := (52, 22, [.ref l0, .int l1], [], (sh, M, J))) f_52_19 rfl ?_ ?_
  · exact ev_r1 f_52_38 rfl
  · refine ev_nx (s1 := (52, 23, [.ref l0, .int l1], [.ref l0], (sh, M, J))) f_52_22 rfl ?_
    refine ev_nx (s1 := (52, 24, [.ref l0, .int l1], [.ref l0, .ref l0], (sh, M, J))) f_52_23 rfl ?_
    refine ev_gd (s1 := (52, 27, [.ref l0, .int l1], [.int (M l0 5), .ref l0], (sh, M, J))) f_52_24 rfl ?_
    refine ev_nx (s1 := (52, 28, [.ref l0, .int l1], [.int 1, .int (M l0 5), .ref l0], (sh, M, J))) f_52_27 rfl ?_
    refine ev_nx (s1 := (52, 29, [.ref l0, .int l1], [.int ((M l0 5) + 1), .ref l0], (sh, M, J))) f_52_28 rfl ?_
    refine ev_gd (s1 := (52, 32, [.ref l0, .int l1], [], (sh, (xu M l0 5 ((M l0 5) + 1)), J))) f_52_29 rfl ?_
    refine ev_nx (s1 := (52, 35, [.ref l0, .int (l1 + 1)], [], (sh, (xu M l0 5 ((M l0 5) + 1)), J))) f_52_32 rfl ?_
    refine ev_nx (s1 := (52, 5, [.ref l0, .int (l1 + 1)], [], (sh, (xu M l0 5 ((M l0 5) + 1)), J))) f_52_35 rfl ?_
    exact rfl
theorem f_53_0 : xfind (xnth xTs 53) 0 = some (0, .aload_n 0, 1, (0, 0, 0, 0), .null, [], 0, 0, []) := rfl
theorem f_53_1 : xfind (xnth xTs 53) 1 = some (1, .getfield 36, 3, (5, 5, 0, 0), .null, [], 163, 0, []) := rfl
theorem f_53_4 : xfind (xnth xTs 53) 4 = some (4, .aload_n 0, 1, (0, 0, 0, 0), .null, [], 0, 0, []) := rfl
theorem f_53_5 : xfind (xnth xTs 53) 5 = some (5, .getfield 25, 3, (5, 2, 0, 0), .null, [], 158, 0, []) := rfl
theorem f_53_8 : xfind (xnth xTs 53) 8 = some (8, .if_icmp .ge 17, 3, (0, 0, 0, 0), .null, [], 0, 0, []) := rfl
theorem f_53_11 : xfind (xnth xTs 53) 11 = some (11, .aload_n 0, 1, (0, 0, 0, 0), .null, [], 0, 0, []) := rfl
theorem f_53_12 : xfind (xnth xTs 53) 12 = some (12, .getfield 32, 3, (5, 4, 1, 0), .null, [], 162, 0, []) := rfl
theorem f_53_15 : xfind (xnth xTs 53) 15 = some (15, .aload_n 0, 1, (0, 0, 0, 0), .null, [], 0, 0, []) := rfl
theorem f_53_16 : xfind (xnth xTs 53) 16 = some (16, .getfield 36, 3, (5, 5, 0, 0), .null, [], 163, 0, []) := rfl
theorem f_53_19 : xfind (xnth xTs 53) 19 = some (19, .invokestatic 143, 3, (129, 2, 8, 2), .null, [], 357, 0, []) := rfl
theorem f_53_22 : xfind (xnth xTs 53) 22 = some (22, .goto 4, 3, (0, 0, 0, 0), .null, [], 0, 0, []) := rfl
theorem f_53_25 : xfind (xnth xTs 53) 25 = some (25, .iconst (-1), 1, (0, 0, 0, 0), (.int (-1)), [], 0, 0, []) := rfl
theorem f_53_26 : xfind (xnth xTs 53) 26 = some (26, .ireturn, 1, (0, 0, 0, 0), .null, [], 0, 0, []) := rfl
theorem b_Reader_letter_0 (sh : xSh) (M : Nat → Nat → Int32) (J : Nat → Nat → Int64) (l0 : Nat) : ev (53, 0, [.ref l0], [], (sh, M, J)) = (bif decide ((sh.2.2.1 l0).1 = 5) then bif decide ((sh.2.2.1 l0).1 = 5) then bif decide ((M l0 2) ≤ (M l0 5)) then some (some (.int (-1)), (sh, M, J)) else bif decide ((sh.2.2.1 l0).1 = 5) then bif decide ((sh.2.2.1 l0).1 = 5) then (ev (129, 0, [.ref (sh.2.2.2 l0 4), .int (M l0 5)], [], (sh, M, J))).bind (fun r => ev (53, 22, [.ref l0], r.1.toList ++ [], r.2)) else none else none else none else none) := by
  refine ev_nx (s1 := (53, 1, [.ref l0], [.ref l0], (sh, M, J))) f_53_0 rfl ?_
  refine ev_gd (s1 := (53, 4, [.ref l0], [.int (M l0 5)], (sh, M, J))) f_53_1 rfl ?_
  refine ev_nx (s1 := (53, 5, [.ref l0], [.ref l0, .int (M l0 5)], (sh, M, J))) f_53_4 rfl ?_
  refine ev_gd (s1 := (53, 8, [.ref l0], [.int (M l0 2), .int (M l0 5)], (sh, M, J))) f_53_5 rfl ?_
  refine ev_br (s1 := (53, 25, [.ref l0], [], (sh, M, J))) (s2 := (53, 11, [.ref l0], [], (sh, M, J))) f_53_8 rfl ?_ ?_
  · refine ev_nx (s1 := (53, 26, [.ref l0], [.int (-1)], (sh, M, J))) f_53_25 rfl ?_
    exact ev_r1 f_53_26 rfl
  · refine ev_nx (s1 := (53, 12, [.ref l0], [.ref l0], (sh, M, J))) f_53_11 rfl ?_
    refine ev_gd (s1 := (53, 15, [.ref l0], [.ref (sh.2.2.2 l0 4)], (sh, M, J))) f_53_12 rfl ?_
    refine ev_nx (s1 := (53, 16, [.ref l0], [.ref l0, .ref (sh.2.2.2 l0 4)], (sh, M, J))) f_53_15 rfl ?_
    refine ev_gd (s1 := (53, 19, [.ref l0], [.int (M l0 5), .ref (sh.2.2.2 l0 4)], (sh, M, J))) f_53_16 rfl ?_
    exact ev_c1 (s1 := (129, 0, [.ref (sh.2.2.2 l0 4), .int (M l0 5)], [], (sh, M, J))) (k := (53, 22, [.ref l0], [])) f_53_19 rfl
theorem b_Reader_letter_22 (sh : xSh) (M : Nat → Nat → Int32) (J : Nat → Nat → Int64) (l0 : Nat) (k0 : Int32) : ev (53, 22, [.ref l0], [.int k0], (sh, M, J)) = (some (some (.int k0), (sh, M, J))) := by
  refine ev_nx (s1 := (53, 26, [.ref l0], [.int k0], (sh, M, J))) f_53_22 rfl ?_
  exact ev_r1 f_53_26 rfl
theorem f_54_0 : xfind (xnth xTs 54) 0 = some (0, .iload_n 0, 1, (0, 0, 0, 0), .null, [], 0, 0, []) := rfl
theorem f_54_1 : xfind (xnth xTs 54) 1 = some (1, .bipush 48, 2, (0, 0, 0, 0), (.int 48), [], 0, 0, []) := rfl
theorem f_54_3 : xfind (xnth xTs 54) 3 = some (3, .if_icmp .lt 13, 3, (0, 0, 0, 0), .null, [], 0, 0, []) := rfl
theorem f_54_6 : xfind (xnth xTs 54) 6 = some (6, .iload_n 0, 1, (0, 0, 0, 0), .null, [], 0, 0, []) := rfl
theorem f_54_7 : xfind (xnth xTs 54) 7 = some (7, .bipush 57, 2, (0, 0, 0, 0), (.int 57), [], 0, 0, []) := rfl
theorem f_54_9 : xfind (xnth xTs 54) 9 = some (9, .if_icmp .gt 7, 3, (0, 0, 0, 0), .null, [], 0, 0, []) := rfl
theorem f_54_12 : xfind (xnth xTs 54) 12 = some (12, .iconst 1, 1, (0, 0, 0, 0), (.int 1), [], 0, 0, []) := rfl
theorem f_54_13 : xfind (xnth xTs 54) 13 = some (13, .goto 4, 3, (0, 0, 0, 0), .null, [], 0, 0, []) := rfl
theorem f_54_16 : xfind (xnth xTs 54) 16 = some (16, .iconst 0, 1, (0, 0, 0, 0), (.int 0), [], 0, 0, []) := rfl
theorem f_54_17 : xfind (xnth xTs 54) 17 = some (17, .ireturn, 1, (1, 0, 0, 0), .null, [], 0, 0, []) := rfl
theorem b_Reader_isFigure_0 (sh : xSh) (M : Nat → Nat → Int32) (J : Nat → Nat → Int64) (l0 : Int32) : ev (54, 0, [.int l0], [], (sh, M, J)) = (bif decide (l0 < 48) then some (some (.int 0), (sh, M, J)) else bif decide (57 < l0) then some (some (.int 0), (sh, M, J)) else some (some (.int 1), (sh, M, J))) := by
  refine ev_nx (s1 := (54, 1, [.int l0], [.int l0], (sh, M, J))) f_54_0 rfl ?_
  refine ev_nx (s1 := (54, 3, [.int l0], [.int 48, .int l0], (sh, M, J))) f_54_1 rfl ?_
  refine ev_br (s1 := (54, 16, [.int l0], [], (sh, M, J))) (s2 := (54, 6, [.int l0], [], (sh, M, J))) f_54_3 rfl ?_ ?_
  · refine ev_nx (s1 := (54, 17, [.int l0], [.int 0], (sh, M, J))) f_54_16 rfl ?_
    exact ev_r1 f_54_17 rfl
  · refine ev_nx (s1 := (54, 7, [.int l0], [.int l0], (sh, M, J))) f_54_6 rfl ?_
    refine ev_nx (s1 := (54, 9, [.int l0], [.int 57, .int l0], (sh, M, J))) f_54_7 rfl ?_
    refine ev_br (s1 := (54, 16, [.int l0], [], (sh, M, J))) (s2 := (54, 12, [.int l0], [], (sh, M, J))) f_54_9 rfl ?_ ?_
    · refine ev_nx (s1 := (54, 17, [.int l0], [.int 0], (sh, M, J))) f_54_16 rfl ?_
      exact ev_r1 f_54_17 rfl
    · refine ev_nx (s1 := (54, 13, [.int l0], [.int 1], (sh, M, J))) f_54_12 rfl ?_
      refine ev_nx (s1 := (54, 17, [.int l0], [.int 1], (sh, M, J))) f_54_13 rfl ?_
      exact ev_r1 f_54_17 rfl
theorem f_55_0 : xfind (xnth xTs 55) 0 = some (0, .aload_n 0, 1, (0, 0, 0, 0), .null, [], 0, 0, []) := rfl
theorem f_55_1 : xfind (xnth xTs 55) 1 = some (1, .getfield 39, 3, (5, 6, 0, 0), .null, [], 164, 0, []) := rfl
theorem f_55_4 : xfind (xnth xTs 55) 4 = some (4, .ifCond .ne 13, 3, (0, 0, 0, 0), .null, [], 0, 0, []) := rfl
theorem f_55_7 : xfind (xnth xTs 55) 7 = some (7, .aload_n 0, 1, (0, 0, 0, 0), .null, [], 0, 0, []) := rfl
theorem f_55_8 : xfind (xnth xTs 55) 8 = some (8, .iload_n 1, 1, (0, 0, 0, 0), .null, [], 0, 0, []) := rfl
theorem f_55_9 : xfind (xnth xTs 55) 9 = some (9, .putfield 39, 3, (5, 6, 0, 0), .null, [], 164, 0, []) := rfl
theorem f_55_12 : xfind (xnth xTs 55) 12 = some (12, .aload_n 0, 1, (0, 0, 0, 0), .null, [], 0, 0, []) := rfl
theorem f_55_13 : xfind (xnth xTs 55) 13 = some (13, .iload_n 2, 1, (0, 0, 0, 0), .null, [], 0, 0, []) := rfl
theorem f_55_14 : xfind (xnth xTs 55) 14 = some (14, .putfield 29, 3, (5, 3, 0, 0), .null, [], 160, 0, []) := rfl
theorem f_55_17 : xfind (xnth xTs 55) 17 = some (17, .return_, 1, (0, 0, 0, 0), .null, [], 0, 0, []) := rfl
theorem b_Reader_fail_0 (sh : xSh) (M : Nat → Nat → Int32) (J : Nat → Nat → Int64) (l0 : Nat) (l1 : Int32) (l2 : Int32) : ev (55, 0, [.ref l0, .int l1, .int l2], [], (sh, M, J)) = (bif decide ((sh.2.2.1 l0).1 = 5) then bif !decide ((M l0 6) = 0) then some (none, (sh, M, J)) else bif decide ((sh.2.2.1 l0).1 = 5) then bif decide ((sh.2.2.1 l0).1 = 5) then some (none, (sh, (xu (xu M l0 6 l1) l0 3 l2), J)) else none else none else none) := by
  refine ev_nx (s1 := (55, 1, [.ref l0, .int l1, .int l2], [.ref l0], (sh, M, J))) f_55_0 rfl ?_
  refine ev_gd (s1 := (55, 4, [.ref l0, .int l1, .int l2], [.int (M l0 6)], (sh, M, J))) f_55_1 rfl ?_
  refine ev_br (s1 := (55, 17, [.ref l0, .int l1, .int l2], [], (sh, M, J))) (s2 := (55, 7, [.ref l0, .int l1, .int l2], [], (sh, M, J))) f_55_4 rfl ?_ ?_
  · exact ev_r1 f_55_17 rfl
  · refine ev_nx (s1 := (55, 8, [.ref l0, .int l1, .int l2], [.ref l0], (sh, M, J))) f_55_7 rfl ?_
    refine ev_nx (s1 := (55, 9, [.ref l0, .int l1, .int l2], [.int l1, .ref l0], (sh, M, J))) f_55_8 rfl ?_
    refine ev_gd (s1 := (55, 12, [.ref l0, .int l1, .int l2], [], (sh, (xu M l0 6 l1), J))) f_55_9 rfl ?_
    refine ev_nx (s1 := (55, 13, [.ref l0, .int l1, .int l2], [.ref l0], (sh, (xu M l0 6 l1), J))) f_55_12 rfl ?_
    refine ev_nx (s1 := (55, 14, [.ref l0, .int l1, .int l2], [.int l2, .ref l0], (sh, (xu M l0 6 l1), J))) f_55_13 rfl ?_
    refine ev_gd (s1 := (55, 17, [.ref l0, .int l1, .int l2], [], (sh, (xu (xu M l0 6 l1) l0 3 l2), J))) f_55_14 rfl ?_
    exact ev_r1 f_55_17 rfl
theorem f_57_0 : xfind (xnth xTs 57) 0 = some (0, .iconst 0, 1, (0, 0, 0, 0), (.int 0), [], 0, 0, []) := rfl
theorem f_57_1 : xfind (xnth xTs 57) 1 = some (1, .istore_n 1, 1, (0, 0, 0, 0), .null, [], 0, 0, []) := rfl
theorem f_57_2 : xfind (xnth xTs 57) 2 = some (2, .iload_n 1, 1, (0, 0, 0, 0), .null, [], 0, 1, []) := rfl
theorem f_57_3 : xfind (xnth xTs 57) 3 = some (3, .aload_n 0, 1, (0, 0, 0, 0), .null, [], 0, 0, []) := rfl
theorem f_57_4 : xfind (xnth xTs 57) 4 = some (4, .getfield 11, 3, (6, 0, 1, 0), .null, [], 138, 0, []) := rfl
theorem f_57_7 : xfind (xnth xTs 57) 7 = some (7, .arraylength, 1, (0, 0, 0, 0), .null, [], 0, 0, []) := rfl
theorem f_57_8 : xfind (xnth xTs 57) 8 = some (8, .if_icmp .ge 16, 3, (0, 0, 0, 0), .null, [], 0, 0, []) := rfl
theorem f_57_11 : xfind (xnth xTs 57) 11 = some (11, .aload_n 0, 1, (0, 0, 0, 0), .null, [], 0, 0, []) := rfl
theorem f_57_12 : xfind (xnth xTs 57) 12 = some (12, .getfield 11, 3, (6, 0, 1, 0), .null, [], 138, 0, []) := rfl
theorem f_57_15 : xfind (xnth xTs 57) 15 = some (15, .iload_n 1, 1, (0, 0, 0, 0), .null, [], 0, 0, []) := rfl
theorem f_57_16 : xfind (xnth xTs 57) 16 = some (16, .iconst 0, 1, (0, 0, 0, 0), (.int 0), [], 0, 0, []) := rfl
theorem f_57_17 : xfind (xnth xTs 57) 17 = some (17, .iastore, 1, (0, 0, 0, 0), .null, [], 0, 0, []) := rfl
theorem f_57_18 : xfind (xnth xTs 57) 18 = some (18, .iinc 1 1, 3, (0, 0, 0, 0), .null, [], 0, 0, []) := rfl
theorem f_57_21 : xfind (xnth xTs 57) 21 = some (21, .goto (-19), 3, (0, 0, 0, 0), .null, [], 0, 0, []) := rfl
theorem f_57_24 : xfind (xnth xTs 57) 24 = some (24, .return_, 1, (0, 0, 0, 0), .null, [], 0, 0, []) := rfl
theorem hd_57_2 : xhead 57 2 = some [] := rfl
theorem b_Scene_clear_0 (sh : xSh) (M : Nat → Nat → Int32) (J : Nat → Nat → Int64) (l0 : Nat) : ev (57, 0, [.ref l0, .null], [], (sh, M, J)) = (ev (57, 2, [.ref l0, .int 0], [], (sh, M, J))) := by
  refine ev_nx (s1 := (57, 1, [.ref l0, .null], [.int 0], (sh, M, J))) f_57_0 rfl ?_
  refine ev_nx (s1 := (57, 2, [.ref l0, .int 0], [], (sh, M, J))) f_57_1 rfl ?_
  exact rfl
theorem b_Scene_clear_2 (sh : xSh) (M : Nat → Nat → Int32) (J : Nat → Nat → Int64) (l0 : Nat) (l1 : Int32) : ev (57, 2, [.ref l0, .int l1], [], (sh, M, J)) = (bif decide ((sh.2.2.1 l0).1 = 6) then bif decide ((sh.2.2.1 (sh.2.2.2 l0 0)).1 = 11) then bif decide ((Int32.ofNat (sh.2.2.1 (sh.2.2.2 l0 0)).2) ≤ l1) then some (none, (sh, M, J)) else bif decide ((sh.2.2.1 l0).1 = 6) then bif (decide ((sh.2.2.1 (sh.2.2.2 l0 0)).1 = 11) && xin l1 (sh.2.2.1 (sh.2.2.2 l0 0)).2) then ev (57, 2, [.ref l0, .int (l1 + 1)], [], (sh, (xu M (sh.2.2.2 l0 0) (l1 : Int32).toNatClampNeg 0), J)) else none else none else none else none) := by
  refine ev_nx (s1 := (57, 3, [.ref l0, .int l1], [.int l1], (sh, M, J))) f_57_2 rfl ?_
  refine ev_nx (s1 := (57, 4, [.ref l0, .int l1], [.ref l0, .int l1], (sh, M, J))) f_57_3 rfl ?_
  refine ev_gd (s1 := (57, 7, [.ref l0, .int l1], [.ref (sh.2.2.2 l0 0), .int l1], (sh, M, J))) f_57_4 rfl ?_
  refine ev_gd (s1 := (57, 8, [.ref l0, .int l1], [.int (Int32.ofNat (sh.2.2.1 (sh.2.2.2 l0 0)).2), .int l1], (sh, M, J))) f_57_7 rfl ?_
  refine ev_br (s1 := (57, 24, [.ref l0, .int l1], [], (sh, M, J))) (s2 := (57, 11, [.ref l0, .int l1], [], (sh, M, J))) f_57_8 rfl ?_ ?_
  · exact ev_r1 f_57_24 rfl
  · refine ev_nx (s1 := (57, 12, [.ref l0, .int l1], [.ref l0], (sh, M, J))) f_57_11 rfl ?_
    refine ev_gd (s1 := (57, 15, [.ref l0, .int l1], [.ref (sh.2.2.2 l0 0)], (sh, M, J))) f_57_12 rfl ?_
    refine ev_nx (s1 := (57, 16, [.ref l0, .int l1], [.int l1, .ref (sh.2.2.2 l0 0)], (sh, M, J))) f_57_15 rfl ?_
    refine ev_nx (s1 := (57, 17, [.ref l0, .int l1], [.int 0, .int l1, .ref (sh.2.2.2 l0 0)], (sh, M, J))) f_57_16 rfl ?_
    refine ev_gd (s1 := (57, 18, [.ref l0, .int l1], [], (sh, (xu M (sh.2.2.2 l0 0) (l1 : Int32).toNatClampNeg 0), J))) f_57_17 rfl ?_
    refine ev_nx (s1 := (57, 21, [.ref l0, .int (l1 + 1)], [], (sh, (xu M (sh.2.2.2 l0 0) (l1 : Int32).toNatClampNeg 0), J))) f_57_18 rfl ?_
    refine ev_nx (s1 := (57, 2, [.ref l0, .int (l1 + 1)], [], (sh, (xu M (sh.2.2.2 l0 0) (l1 : Int32).toNatClampNeg 0), J))) f_57_21 rfl ?_
    exact rfl
theorem f_58_0 : xfind (xnth xTs 58) 0 = some (0, .aload_n 1, 1, (0, 0, 0, 0), .null, [], 0, 0, []) := rfl
theorem f_58_1 : xfind (xnth xTs 58) 1 = some (1, .getfield 11, 3, (6, 0, 1, 0), .null, [], 138, 0, []) := rfl
theorem f_58_4 : xfind (xnth xTs 58) 4 = some (4, .iconst 0, 1, (0, 0, 0, 0), (.int 0), [], 0, 0, []) := rfl
theorem f_58_5 : xfind (xnth xTs 58) 5 = some (5, .aload_n 0, 1, (0, 0, 0, 0), .null, [], 0, 0, []) := rfl
theorem f_58_6 : xfind (xnth xTs 58) 6 = some (6, .getfield 11, 3, (6, 0, 1, 0), .null, [], 138, 0, []) := rfl
theorem f_58_9 : xfind (xnth xTs 58) 9 = some (9, .iconst 0, 1, (0, 0, 0, 0), (.int 0), [], 0, 0, []) := rfl
theorem f_58_10 : xfind (xnth xTs 58) 10 = some (10, .bipush 62, 2, (0, 0, 0, 0), (.int 62), [], 0, 0, []) := rfl
theorem f_58_12 : xfind (xnth xTs 58) 12 = some (12, .invokestatic 15, 3, (999, 0, 0, 0), .null, [], 458, 0, []) := rfl
theorem f_58_15 : xfind (xnth xTs 58) 15 = some (15, .return_, 1, (0, 0, 0, 0), .null, [], 0, 0, []) := rfl
theorem b_Scene_become_0 (sh : xSh) (M : Nat → Nat → Int32) (J : Nat → Nat → Int64) (l0 : Nat) (l1 : Nat) : ev (58, 0, [.ref l0, .ref l1], [], (sh, M, J)) = (bif decide ((sh.2.2.1 l1).1 = 6) then bif decide ((sh.2.2.1 l0).1 = 6) then bif (decide ((sh.2.2.1 (sh.2.2.2 l1 0)).1 = 11) && (decide ((sh.2.2.1 (sh.2.2.2 l0 0)).1 = 11) && (!decide ((0 : Int32) < 0) && (!decide ((0 : Int32) < 0) && (!decide ((62 : Int32) < 0) && (decide ((0 : Int32).toNatClampNeg + (62 : Int32).toNatClampNeg ≤ (sh.2.2.1 (sh.2.2.2 l1 0)).2) && (decide ((0 : Int32).toNatClampNeg + (62 : Int32).toNatClampNeg ≤ (sh.2.2.1 (sh.2.2.2 l0 0)).2) && true))))))) then some (none, (sh, (xcp M (sh.2.2.2 l1 0) ((0 : Int32).toNatClampNeg) (sh.2.2.2 l0 0) ((0 : Int32).toNatClampNeg) ((62 : Int32).toNatClampNeg)), J)) else none else none else none) := by
  refine ev_nx (s1 := (58, 1, [.ref l0, .ref l1], [.ref l1], (sh, M, J))) f_58_0 rfl ?_
  refine ev_gd (s1 := (58, 4, [.ref l0, .ref l1], [.ref (sh.2.2.2 l1 0)], (sh, M, J))) f_58_1 rfl ?_
  refine ev_nx (s1 := (58, 5, [.ref l0, .ref l1], [.int 0, .ref (sh.2.2.2 l1 0)], (sh, M, J))) f_58_4 rfl ?_
  refine ev_nx (s1 := (58, 6, [.ref l0, .ref l1], [.ref l0, .int 0, .ref (sh.2.2.2 l1 0)], (sh, M, J))) f_58_5 rfl ?_
  refine ev_gd (s1 := (58, 9, [.ref l0, .ref l1], [.ref (sh.2.2.2 l0 0), .int 0, .ref (sh.2.2.2 l1 0)], (sh, M, J))) f_58_6 rfl ?_
  refine ev_nx (s1 := (58, 10, [.ref l0, .ref l1], [.int 0, .ref (sh.2.2.2 l0 0), .int 0, .ref (sh.2.2.2 l1 0)], (sh, M, J))) f_58_9 rfl ?_
  refine ev_nx (s1 := (58, 12, [.ref l0, .ref l1], [.int 62, .int 0, .ref (sh.2.2.2 l0 0), .int 0, .ref (sh.2.2.2 l1 0)], (sh, M, J))) f_58_10 rfl ?_
  refine ev_gd (s1 := (58, 15, [.ref l0, .ref l1], [], (sh, (xcp M (sh.2.2.2 l1 0) ((0 : Int32).toNatClampNeg) (sh.2.2.2 l0 0) ((0 : Int32).toNatClampNeg) ((62 : Int32).toNatClampNeg)), J))) f_58_12 rfl ?_
  exact ev_r1 f_58_15 rfl
theorem f_59_0 : xfind (xnth xTs 59) 0 = some (0, .aload_n 0, 1, (0, 0, 0, 0), .null, [], 0, 0, []) := rfl
theorem f_59_1 : xfind (xnth xTs 59) 1 = some (1, .getfield 11, 3, (6, 0, 1, 0), .null, [], 138, 0, []) := rfl
theorem f_59_4 : xfind (xnth xTs 59) 4 = some (4, .iconst 0, 1, (0, 0, 0, 0), (.int 0), [], 0, 0, []) := rfl
theorem f_59_5 : xfind (xnth xTs 59) 5 = some (5, .iaload, 1, (0, 0, 0, 0), .null, [], 0, 0, []) := rfl
theorem f_59_6 : xfind (xnth xTs 59) 6 = some (6, .ireturn, 1, (0, 0, 0, 0), .null, [], 0, 0, []) := rfl
theorem b_Scene_holes_0 (sh : xSh) (M : Nat → Nat → Int32) (J : Nat → Nat → Int64) (l0 : Nat) : ev (59, 0, [.ref l0], [], (sh, M, J)) = (bif decide ((sh.2.2.1 l0).1 = 6) then bif (decide ((sh.2.2.1 (sh.2.2.2 l0 0)).1 = 11) && xin 0 (sh.2.2.1 (sh.2.2.2 l0 0)).2) then some (some (.int (M (sh.2.2.2 l0 0) (0 : Int32).toNatClampNeg)), (sh, M, J)) else none else none) := by
  refine ev_nx (s1 := (59, 1, [.ref l0], [.ref l0], (sh, M, J))) f_59_0 rfl ?_
  refine ev_gd (s1 := (59, 4, [.ref l0], [.ref (sh.2.2.2 l0 0)], (sh, M, J))) f_59_1 rfl ?_
  refine ev_nx (s1 := (59, 5, [.ref l0], [.int 0, .ref (sh.2.2.2 l0 0)], (sh, M, J))) f_59_4 rfl ?_
  refine ev_gd (s1 := (59, 6, [.ref l0], [.int (M (sh.2.2.2 l0 0) (0 : Int32).toNatClampNeg)], (sh, M, J))) f_59_5 rfl ?_
  exact ev_r1 f_59_6 rfl
theorem f_60_0 : xfind (xnth xTs 60) 0 = some (0, .aload_n 0, 1, (0, 0, 0, 0), .null, [], 0, 0, []) := rfl
theorem f_60_1 : xfind (xnth xTs 60) 1 = some (1, .getfield 11, 3, (6, 0, 1, 0), .null, [], 138, 0, []) := rfl
theorem f_60_4 : xfind (xnth xTs 60) 4 = some (4, .iconst 1, 1, (0, 0, 0, 0), (.int 1), [], 0, 0, []) := rfl
theorem f_60_5 : xfind (xnth xTs 60) 5 = some (5, .iaload, 1, (0, 0, 0, 0), .null, [], 0, 0, []) := rfl
theorem f_60_6 : xfind (xnth xTs 60) 6 = some (6, .ireturn, 1, (0, 0, 0, 0), .null, [], 0, 0, []) := rfl
theorem b_Scene_nights_0 (sh : xSh) (M : Nat → Nat → Int32) (J : Nat → Nat → Int64) (l0 : Nat) : ev (60, 0, [.ref l0], [], (sh, M, J)) = (bif decide ((sh.2.2.1 l0).1 = 6) then bif (decide ((sh.2.2.1 (sh.2.2.2 l0 0)).1 = 11) && xin 1 (sh.2.2.1 (sh.2.2.2 l0 0)).2) then some (some (.int (M (sh.2.2.2 l0 0) (1 : Int32).toNatClampNeg)), (sh, M, J)) else none else none) := by
  refine ev_nx (s1 := (60, 1, [.ref l0], [.ref l0], (sh, M, J))) f_60_0 rfl ?_
  refine ev_gd (s1 := (60, 4, [.ref l0], [.ref (sh.2.2.2 l0 0)], (sh, M, J))) f_60_1 rfl ?_
  refine ev_nx (s1 := (60, 5, [.ref l0], [.int 1, .ref (sh.2.2.2 l0 0)], (sh, M, J))) f_60_4 rfl ?_
  refine ev_gd (s1 := (60, 6, [.ref l0], [.int (M (sh.2.2.2 l0 0) (1 : Int32).toNatClampNeg)], (sh, M, J))) f_60_5 rfl ?_
  exact ev_r1 f_60_6 rfl
theorem f_61_0 : xfind (xnth xTs 61) 0 = some (0, .iload_n 1, 1, (0, 0, 0, 0), .null, [], 0, 0, []) := rfl
theorem f_61_1 : xfind (xnth xTs 61) 1 = some (1, .ifCond .lt 20, 3, (0, 0, 0, 0), .null, [], 0, 0, []) := rfl
theorem f_61_4 : xfind (xnth xTs 61) 4 = some (4, .iload_n 1, 1, (0, 0, 0, 0), .null, [], 0, 0, []) := rfl
theorem f_61_5 : xfind (xnth xTs 61) 5 = some (5, .bipush 20, 2, (0, 0, 0, 0), (.int 20), [], 0, 0, []) := rfl
theorem f_61_7 : xfind (xnth xTs 61) 7 = some (7, .if_icmp .ge 14, 3, (0, 0, 0, 0), .null, [], 0, 0, []) := rfl
theorem f_61_10 : xfind (xnth xTs 61) 10 = some (10, .aload_n 0, 1, (0, 0, 0, 0), .null, [], 0, 0, []) := rfl
theorem f_61_11 : xfind (xnth xTs 61) 11 = some (11, .getfield 11, 3, (6, 0, 1, 0), .null, [], 138, 0, []) := rfl
theorem f_61_14 : xfind (xnth xTs 61) 14 = some (14, .iconst 2, 1, (0, 0, 0, 0), (.int 2), [], 0, 0, []) := rfl
theorem f_61_15 : xfind (xnth xTs 61) 15 = some (15, .iload_n 1, 1, (0, 0, 0, 0), .null, [], 0, 0, []) := rfl
theorem f_61_16 : xfind (xnth xTs 61) 16 = some (16, .iadd, 1, (0, 0, 0, 0), .null, [], 0, 0, []) := rfl
theorem f_61_17 : xfind (xnth xTs 61) 17 = some (17, .iaload, 1, (0, 0, 0, 0), .null, [], 0, 0, []) := rfl
theorem f_61_18 : xfind (xnth xTs 61) 18 = some (18, .goto 4, 3, (0, 0, 0, 0), .null, [], 0, 0, []) := rfl
theorem f_61_21 : xfind (xnth xTs 61) 21 = some (21, .iconst 0, 1, (0, 0, 0, 0), (.int 0), [], 0, 0, []) := rfl
theorem f_61_22 : xfind (xnth xTs 61) 22 = some (22, .ireturn, 1, (0, 0, 0, 0), .null, [], 0, 0, []) := rfl
theorem b_Scene_clothAt_0 (sh : xSh) (M : Nat → Nat → Int32) (J : Nat → Nat → Int64) (l0 : Nat) (l1 : Int32) : ev (61, 0, [.ref l0, .int l1], [], (sh, M, J)) = (bif decide (l1 < 0) then some (some (.int 0), (sh, M, J)) else bif decide (20 ≤ l1) then some (some (.int 0), (sh, M, J)) else bif decide ((sh.2.2.1 l0).1 = 6) then bif (decide ((sh.2.2.1 (sh.2.2.2 l0 0)).1 = 11) && xin ((2 : Int32) + l1) (sh.2.2.1 (sh.2.2.2 l0 0)).2) then some (some (.int (M (sh.2.2.2 l0 0) (((2 : Int32) + l1) : Int32).toNatClampNeg)), (sh, M, J)) else none else none) := by
  refine ev_nx (s1 := (61, 1, [.ref l0, .int l1], [.int l1], (sh, M, J))) f_61_0 rfl ?_
  refine ev_br (s1 := (61, 21, [.ref l0, .int l1], [], (sh, M, J))) (s2 := (61, 4, [.ref l0, .int l1], [], (sh, M, J))) f_61_1 rfl ?_ ?_
  · refine ev_nx (s1 := (61, 22, [.ref l0, .int l1], [.int 0], (sh, M, J))) f_61_21 rfl ?_
    exact ev_r1 f_61_22 rfl
  · refine ev_nx (s1 := (61, 5, [.ref l0, .int l1], [.int l1], (sh, M, J))) f_61_4 rfl ?_
    refine ev_nx (s1 := (61, 7, [.ref l0, .int l1], [.int 20, .int l1], (sh, M, J))) f_61_5 rfl ?_
    refine ev_br (s1 := (61, 21, [.ref l0, .int l1], [], (sh, M, J))) (s2 := (61, 10, [.ref l0, .int l1], [], (sh, M, J))) f_61_7 rfl ?_ ?_
    · refine ev_nx (s1 := (61, 22, [.ref l0, .int l1], [.int 0], (sh, M, J))) f_61_21 rfl ?_
      exact ev_r1 f_61_22 rfl
    · refine ev_nx (s1 := (61, 11, [.ref l0, .int l1], [.ref l0], (sh, M, J))) f_61_10 rfl ?_
      refine ev_gd (s1 := (61, 14, [.ref l0, .int l1], [.ref (sh.2.2.2 l0 0)], (sh, M, J))) f_61_11 rfl ?_
      refine ev_nx (s1 := (61, 15, [.ref l0, .int l1], [.int 2, .ref (sh.2.2.2 l0 0)], (sh, M, J))) f_61_14 rfl ?_
      refine ev_nx (s1 := (61, 16, [.ref l0, .int l1], [.int l1, .int 2, .ref (sh.2.2.2 l0 0)], (sh, M, J))) f_61_15 rfl ?_
      refine ev_nx (s1 := (61, 17, [.ref l0, .int l1], [.int ((2 : Int32) + l1), .ref (sh.2.2.2 l0 0)], (sh, M, J))) f_61_16 rfl ?_
      refine ev_gd (s1 := (61, 18, [.ref l0, .int l1], [.int (M (sh.2.2.2 l0 0) (((2 : Int32) + l1) : Int32).toNatClampNeg)], (sh, M, J))) f_61_17 rfl ?_
      refine ev_nx (s1 := (61, 22, [.ref l0, .int l1], [.int (M (sh.2.2.2 l0 0) (((2 : Int32) + l1) : Int32).toNatClampNeg)], (sh, M, J))) f_61_18 rfl ?_
      exact ev_r1 f_61_22 rfl
theorem f_62_0 : xfind (xnth xTs 62) 0 = some (0, .iload_n 1, 1, (0, 0, 0, 0), .null, [], 0, 0, []) := rfl
theorem f_62_1 : xfind (xnth xTs 62) 1 = some (1, .ifCond .lt 21, 3, (0, 0, 0, 0), .null, [], 0, 0, []) := rfl
theorem f_62_4 : xfind (xnth xTs 62) 4 = some (4, .iload_n 1, 1, (0, 0, 0, 0), .null, [], 0, 0, []) := rfl
theorem f_62_5 : xfind (xnth xTs 62) 5 = some (5, .bipush 20, 2, (0, 0, 0, 0), (.int 20), [], 0, 0, []) := rfl
theorem f_62_7 : xfind (xnth xTs 62) 7 = some (7, .if_icmp .ge 15, 3, (0, 0, 0, 0), .null, [], 0, 0, []) := rfl
theorem f_62_10 : xfind (xnth xTs 62) 10 = some (10, .aload_n 0, 1, (0, 0, 0, 0), .null, [], 0, 0, []) := rfl
theorem f_62_11 : xfind (xnth xTs 62) 11 = some (11, .getfield 11, 3, (6, 0, 1, 0), .null, [], 138, 0, []) := rfl
theorem f_62_14 : xfind (xnth xTs 62) 14 = some (14, .bipush 22, 2, (0, 0, 0, 0), (.int 22), [], 0, 0, []) := rfl
theorem f_62_16 : xfind (xnth xTs 62) 16 = some (16, .iload_n 1, 1, (0, 0, 0, 0), .null, [], 0, 0, []) := rfl
theorem f_62_17 : xfind (xnth xTs 62) 17 = some (17, .iadd, 1, (0, 0, 0, 0), .null, [], 0, 0, []) := rfl
theorem f_62_18 : xfind (xnth xTs 62) 18 = some (18, .iaload, 1, (0, 0, 0, 0), .null, [], 0, 0, []) := rfl
theorem f_62_19 : xfind (xnth xTs 62) 19 = some (19, .goto 4, 3, (0, 0, 0, 0), .null, [], 0, 0, []) := rfl
theorem f_62_22 : xfind (xnth xTs 62) 22 = some (22, .iconst 0, 1, (0, 0, 0, 0), (.int 0), [], 0, 0, []) := rfl
theorem f_62_23 : xfind (xnth xTs 62) 23 = some (23, .ireturn, 1, (0, 0, 0, 0), .null, [], 0, 0, []) := rfl
theorem b_Scene_patchesAt_0 (sh : xSh) (M : Nat → Nat → Int32) (J : Nat → Nat → Int64) (l0 : Nat) (l1 : Int32) : ev (62, 0, [.ref l0, .int l1], [], (sh, M, J)) = (bif decide (l1 < 0) then some (some (.int 0), (sh, M, J)) else bif decide (20 ≤ l1) then some (some (.int 0), (sh, M, J)) else bif decide ((sh.2.2.1 l0).1 = 6) then bif (decide ((sh.2.2.1 (sh.2.2.2 l0 0)).1 = 11) && xin ((22 : Int32) + l1) (sh.2.2.1 (sh.2.2.2 l0 0)).2) then some (some (.int (M (sh.2.2.2 l0 0) (((22 : Int32) + l1) : Int32).toNatClampNeg)), (sh, M, J)) else none else none) := by
  refine ev_nx (s1 := (62, 1, [.ref l0, .int l1], [.int l1], (sh, M, J))) f_62_0 rfl ?_
  refine ev_br (s1 := (62, 22, [.ref l0, .int l1], [], (sh, M, J))) (s2 := (62, 4, [.ref l0, .int l1], [], (sh, M, J))) f_62_1 rfl ?_ ?_
  · refine ev_nx (s1 := (62, 23, [.ref l0, .int l1], [.int 0], (sh, M, J))) f_62_22 rfl ?_
    exact ev_r1 f_62_23 rfl
  · refine ev_nx (s1 := (62, 5, [.ref l0, .int l1], [.int l1], (sh, M, J))) f_62_4 rfl ?_
    refine ev_nx (s1 := (62, 7, [.ref l0, .int l1], [.int 20, .int l1], (sh, M, J))) f_62_5 rfl ?_
    refine ev_br (s1 := (62, 22, [.ref l0, .int l1], [], (sh, M, J))) (s2 := (62, 10, [.ref l0, .int l1], [], (sh, M, J))) f_62_7 rfl ?_ ?_
    · refine ev_nx (s1 := (62, 23, [.ref l0, .int l1], [.int 0], (sh, M, J))) f_62_22 rfl ?_
      exact ev_r1 f_62_23 rfl
    · refine ev_nx (s1 := (62, 11, [.ref l0, .int l1], [.ref l0], (sh, M, J))) f_62_10 rfl ?_
      refine ev_gd (s1 := (62, 14, [.ref l0, .int l1], [.ref (sh.2.2.2 l0 0)], (sh, M, J))) f_62_11 rfl ?_
      refine ev_nx (s1 := (62, 16, [.ref l0, .int l1], [.int 22, .ref (sh.2.2.2 l0 0)], (sh, M, J))) f_62_14 rfl ?_
      refine ev_nx (s1 := (62, 17, [.ref l0, .int l1], [.int l1, .int 22, .ref (sh.2.2.2 l0 0)], (sh, M, J))) f_62_16 rfl ?_
      refine ev_nx (s1 := (62, 18, [.ref l0, .int l1], [.int ((22 : Int32) + l1), .ref (sh.2.2.2 l0 0)], (sh, M, J))) f_62_17 rfl ?_
      refine ev_gd (s1 := (62, 19, [.ref l0, .int l1], [.int (M (sh.2.2.2 l0 0) (((22 : Int32) + l1) : Int32).toNatClampNeg)], (sh, M, J))) f_62_18 rfl ?_
      refine ev_nx (s1 := (62, 23, [.ref l0, .int l1], [.int (M (sh.2.2.2 l0 0) (((22 : Int32) + l1) : Int32).toNatClampNeg)], (sh, M, J))) f_62_19 rfl ?_
      exact ev_r1 f_62_23 rfl
theorem f_63_0 : xfind (xnth xTs 63) 0 = some (0, .iload_n 1, 1, (0, 0, 0, 0), .null, [], 0, 0, []) := rfl
theorem f_63_1 : xfind (xnth xTs 63) 1 = some (1, .ifCond .lt 20, 3, (0, 0, 0, 0), .null, [], 0, 0, []) := rfl
theorem f_63_4 : xfind (xnth xTs 63) 4 = some (4, .iload_n 1, 1, (0, 0, 0, 0), .null, [], 0, 0, []) := rfl
theorem f_63_5 : xfind (xnth xTs 63) 5 = some (5, .iconst 5, 1, (0, 0, 0, 0), (.int 5), [], 0, 0, []) := rfl
theorem f_63_6 : xfind (xnth xTs 63) 6 = some (6, .if_icmp .ge 15, 3, (0, 0, 0, 0), .null, [], 0, 0, []) := rfl
theorem f_63_9 : xfind (xnth xTs 63) 9 = some (9, .aload_n 0, 1, (0, 0, 0, 0), .null, [], 0, 0, []) := rfl
theorem f_63_10 : xfind (xnth xTs 63) 10 = some (10, .getfield 11, 3, (6, 0, 1, 0), .null, [], 138, 0, []) := rfl
theorem f_63_13 : xfind (xnth xTs 63) 13 = some (13, .bipush 42, 2, (0, 0, 0, 0), (.int 42), [], 0, 0, []) := rfl
theorem f_63_15 : xfind (xnth xTs 63) 15 = some (15, .iload_n 1, 1, (0, 0, 0, 0), .null, [], 0, 0, []) := rfl
theorem f_63_16 : xfind (xnth xTs 63) 16 = some (16, .iadd, 1, (0, 0, 0, 0), .null, [], 0, 0, []) := rfl
theorem f_63_17 : xfind (xnth xTs 63) 17 = some (17, .iaload, 1, (0, 0, 0, 0), .null, [], 0, 0, []) := rfl
theorem f_63_18 : xfind (xnth xTs 63) 18 = some (18, .goto 4, 3, (0, 0, 0, 0), .null, [], 0, 0, []) := rfl
theorem f_63_21 : xfind (xnth xTs 63) 21 = some (21, .iconst 0, 1, (0, 0, 0, 0), (.int 0), [], 0, 0, []) := rfl
theorem f_63_22 : xfind (xnth xTs 63) 22 = some (22, .ireturn, 1, (0, 0, 0, 0), .null, [], 0, 0, []) := rfl
theorem b_Scene_columnOf_0 (sh : xSh) (M : Nat → Nat → Int32) (J : Nat → Nat → Int64) (l0 : Nat) (l1 : Int32) : ev (63, 0, [.ref l0, .int l1], [], (sh, M, J)) = (bif decide (l1 < 0) then some (some (.int 0), (sh, M, J)) else bif decide (5 ≤ l1) then some (some (.int 0), (sh, M, J)) else bif decide ((sh.2.2.1 l0).1 = 6) then bif (decide ((sh.2.2.1 (sh.2.2.2 l0 0)).1 = 11) && xin ((42 : Int32) + l1) (sh.2.2.1 (sh.2.2.2 l0 0)).2) then some (some (.int (M (sh.2.2.2 l0 0) (((42 : Int32) + l1) : Int32).toNatClampNeg)), (sh, M, J)) else none else none) := by
  refine ev_nx (s1 := (63, 1, [.ref l0, .int l1], [.int l1], (sh, M, J))) f_63_0 rfl ?_
  refine ev_br (s1 := (63, 21, [.ref l0, .int l1], [], (sh, M, J))) (s2 := (63, 4, [.ref l0, .int l1], [], (sh, M, J))) f_63_1 rfl ?_ ?_
  · refine ev_nx (s1 := (63, 22, [.ref l0, .int l1], [.int 0], (sh, M, J))) f_63_21 rfl ?_
    exact ev_r1 f_63_22 rfl
  · refine ev_nx (s1 := (63, 5, [.ref l0, .int l1], [.int l1], (sh, M, J))) f_63_4 rfl ?_
    refine ev_nx (s1 := (63, 6, [.ref l0, .int l1], [.int 5, .int l1], (sh, M, J))) f_63_5 rfl ?_
    refine ev_br (s1 := (63, 21, [.ref l0, .int l1], [], (sh, M, J))) (s2 := (63, 9, [.ref l0, .int l1], [], (sh, M, J))) f_63_6 rfl ?_ ?_
    · refine ev_nx (s1 := (63, 22, [.ref l0, .int l1], [.int 0], (sh, M, J))) f_63_21 rfl ?_
      exact ev_r1 f_63_22 rfl
    · refine ev_nx (s1 := (63, 10, [.ref l0, .int l1], [.ref l0], (sh, M, J))) f_63_9 rfl ?_
      refine ev_gd (s1 := (63, 13, [.ref l0, .int l1], [.ref (sh.2.2.2 l0 0)], (sh, M, J))) f_63_10 rfl ?_
      refine ev_nx (s1 := (63, 15, [.ref l0, .int l1], [.int 42, .ref (sh.2.2.2 l0 0)], (sh, M, J))) f_63_13 rfl ?_
      refine ev_nx (s1 := (63, 16, [.ref l0, .int l1], [.int l1, .int 42, .ref (sh.2.2.2 l0 0)], (sh, M, J))) f_63_15 rfl ?_
      refine ev_nx (s1 := (63, 17, [.ref l0, .int l1], [.int ((42 : Int32) + l1), .ref (sh.2.2.2 l0 0)], (sh, M, J))) f_63_16 rfl ?_
      refine ev_gd (s1 := (63, 18, [.ref l0, .int l1], [.int (M (sh.2.2.2 l0 0) (((42 : Int32) + l1) : Int32).toNatClampNeg)], (sh, M, J))) f_63_17 rfl ?_
      refine ev_nx (s1 := (63, 22, [.ref l0, .int l1], [.int (M (sh.2.2.2 l0 0) (((42 : Int32) + l1) : Int32).toNatClampNeg)], (sh, M, J))) f_63_18 rfl ?_
      exact ev_r1 f_63_22 rfl
theorem f_64_0 : xfind (xnth xTs 64) 0 = some (0, .iload_n 1, 1, (0, 0, 0, 0), .null, [], 0, 0, []) := rfl
theorem f_64_1 : xfind (xnth xTs 64) 1 = some (1, .ifCond .lt 20, 3, (0, 0, 0, 0), .null, [], 0, 0, []) := rfl
theorem f_64_4 : xfind (xnth xTs 64) 4 = some (4, .iload_n 1, 1, (0, 0, 0, 0), .null, [], 0, 0, []) := rfl
theorem f_64_5 : xfind (xnth xTs 64) 5 = some (5, .iconst 5, 1, (0, 0, 0, 0), (.int 5), [], 0, 0, []) := rfl
theorem f_64_6 : xfind (xnth xTs 64) 6 = some (6, .if_icmp .ge 15, 3, (0, 0, 0, 0), .null, [], 0, 0, []) := rfl
theorem f_64_9 : xfind (xnth xTs 64) 9 = some (9, .aload_n 0, 1, (0, 0, 0, 0), .null, [], 0, 0, []) := rfl
theorem f_64_10 : xfind (xnth xTs 64) 10 = some (10, .getfield 11, 3, (6, 0, 1, 0), .null, [], 138, 0, []) := rfl
theorem f_64_13 : xfind (xnth xTs 64) 13 = some (13, .bipush 47, 2, (0, 0, 0, 0), (.int 47), [], 0, 0, []) := rfl
theorem f_64_15 : xfind (xnth xTs 64) 15 = some (15, .iload_n 1, 1, (0, 0, 0, 0), .null, [], 0, 0, []) := rfl
theorem f_64_16 : xfind (xnth xTs 64) 16 = some (16, .iadd, 1, (0, 0, 0, 0), .null, [], 0, 0, []) := rfl
theorem f_64_17 : xfind (xnth xTs 64) 17 = some (17, .iaload, 1, (0, 0, 0, 0), .null, [], 0, 0, []) := rfl
theorem f_64_18 : xfind (xnth xTs 64) 18 = some (18, .goto 4, 3, (0, 0, 0, 0), .null, [], 0, 0, []) := rfl
theorem f_64_21 : xfind (xnth xTs 64) 21 = some (21, .iconst 0, 1, (0, 0, 0, 0), (.int 0), [], 0, 0, []) := rfl
theorem f_64_22 : xfind (xnth xTs 64) 22 = some (22, .ireturn, 1, (0, 0, 0, 0), .null, [], 0, 0, []) := rfl
theorem b_Scene_wornBy_0 (sh : xSh) (M : Nat → Nat → Int32) (J : Nat → Nat → Int64) (l0 : Nat) (l1 : Int32) : ev (64, 0, [.ref l0, .int l1], [], (sh, M, J)) = (bif decide (l1 < 0) then some (some (.int 0), (sh, M, J)) else bif decide (5 ≤ l1) then some (some (.int 0), (sh, M, J)) else bif decide ((sh.2.2.1 l0).1 = 6) then bif (decide ((sh.2.2.1 (sh.2.2.2 l0 0)).1 = 11) && xin ((47 : Int32) + l1) (sh.2.2.1 (sh.2.2.2 l0 0)).2) then some (some (.int (M (sh.2.2.2 l0 0) (((47 : Int32) + l1) : Int32).toNatClampNeg)), (sh, M, J)) else none else none) := by
  refine ev_nx (s1 := (64, 1, [.ref l0, .int l1], [.int l1], (sh, M, J))) f_64_0 rfl ?_
  refine ev_br (s1 := (64, 21, [.ref l0, .int l1], [], (sh, M, J))) (s2 := (64, 4, [.ref l0, .int l1], [], (sh, M, J))) f_64_1 rfl ?_ ?_
  · refine ev_nx (s1 := (64, 22, [.ref l0, .int l1], [.int 0], (sh, M, J))) f_64_21 rfl ?_
    exact ev_r1 f_64_22 rfl
  · refine ev_nx (s1 := (64, 5, [.ref l0, .int l1], [.int l1], (sh, M, J))) f_64_4 rfl ?_
    refine ev_nx (s1 := (64, 6, [.ref l0, .int l1], [.int 5, .int l1], (sh, M, J))) f_64_5 rfl ?_
    refine ev_br (s1 := (64, 21, [.ref l0, .int l1], [], (sh, M, J))) (s2 := (64, 9, [.ref l0, .int l1], [], (sh, M, J))) f_64_6 rfl ?_ ?_
    · refine ev_nx (s1 := (64, 22, [.ref l0, .int l1], [.int 0], (sh, M, J))) f_64_21 rfl ?_
      exact ev_r1 f_64_22 rfl
    · refine ev_nx (s1 := (64, 10, [.ref l0, .int l1], [.ref l0], (sh, M, J))) f_64_9 rfl ?_
      refine ev_gd (s1 := (64, 13, [.ref l0, .int l1], [.ref (sh.2.2.2 l0 0)], (sh, M, J))) f_64_10 rfl ?_
      refine ev_nx (s1 := (64, 15, [.ref l0, .int l1], [.int 47, .ref (sh.2.2.2 l0 0)], (sh, M, J))) f_64_13 rfl ?_
      refine ev_nx (s1 := (64, 16, [.ref l0, .int l1], [.int l1, .int 47, .ref (sh.2.2.2 l0 0)], (sh, M, J))) f_64_15 rfl ?_
      refine ev_nx (s1 := (64, 17, [.ref l0, .int l1], [.int ((47 : Int32) + l1), .ref (sh.2.2.2 l0 0)], (sh, M, J))) f_64_16 rfl ?_
      refine ev_gd (s1 := (64, 18, [.ref l0, .int l1], [.int (M (sh.2.2.2 l0 0) (((47 : Int32) + l1) : Int32).toNatClampNeg)], (sh, M, J))) f_64_17 rfl ?_
      refine ev_nx (s1 := (64, 22, [.ref l0, .int l1], [.int (M (sh.2.2.2 l0 0) (((47 : Int32) + l1) : Int32).toNatClampNeg)], (sh, M, J))) f_64_18 rfl ?_
      exact ev_r1 f_64_22 rfl
theorem f_65_0 : xfind (xnth xTs 65) 0 = some (0, .iload_n 1, 1, (0, 0, 0, 0), .null, [], 0, 0, []) := rfl
theorem f_65_1 : xfind (xnth xTs 65) 1 = some (1, .ifCond .lt 20, 3, (0, 0, 0, 0), .null, [], 0, 0, []) := rfl
theorem f_65_4 : xfind (xnth xTs 65) 4 = some (4, .iload_n 1, 1, (0, 0, 0, 0), .null, [], 0, 0, []) := rfl
theorem f_65_5 : xfind (xnth xTs 65) 5 = some (5, .iconst 5, 1, (0, 0, 0, 0), (.int 5), [], 0, 0, []) := rfl
theorem f_65_6 : xfind (xnth xTs 65) 6 = some (6, .if_icmp .ge 15, 3, (0, 0, 0, 0), .null, [], 0, 0, []) := rfl
theorem f_65_9 : xfind (xnth xTs 65) 9 = some (9, .aload_n 0, 1, (0, 0, 0, 0), .null, [], 0, 0, []) := rfl
theorem f_65_10 : xfind (xnth xTs 65) 10 = some (10, .getfield 11, 3, (6, 0, 1, 0), .null, [], 138, 0, []) := rfl
theorem f_65_13 : xfind (xnth xTs 65) 13 = some (13, .bipush 52, 2, (0, 0, 0, 0), (.int 52), [], 0, 0, []) := rfl
theorem f_65_15 : xfind (xnth xTs 65) 15 = some (15, .iload_n 1, 1, (0, 0, 0, 0), .null, [], 0, 0, []) := rfl
theorem f_65_16 : xfind (xnth xTs 65) 16 = some (16, .iadd, 1, (0, 0, 0, 0), .null, [], 0, 0, []) := rfl
theorem f_65_17 : xfind (xnth xTs 65) 17 = some (17, .iaload, 1, (0, 0, 0, 0), .null, [], 0, 0, []) := rfl
theorem f_65_18 : xfind (xnth xTs 65) 18 = some (18, .goto 4, 3, (0, 0, 0, 0), .null, [], 0, 0, []) := rfl
theorem f_65_21 : xfind (xnth xTs 65) 21 = some (21, .iconst 0, 1, (0, 0, 0, 0), (.int 0), [], 0, 0, []) := rfl
theorem f_65_22 : xfind (xnth xTs 65) 22 = some (22, .ireturn, 1, (0, 0, 0, 0), .null, [], 0, 0, []) := rfl
theorem b_Scene_piecesOf_0 (sh : xSh) (M : Nat → Nat → Int32) (J : Nat → Nat → Int64) (l0 : Nat) (l1 : Int32) : ev (65, 0, [.ref l0, .int l1], [], (sh, M, J)) = (bif decide (l1 < 0) then some (some (.int 0), (sh, M, J)) else bif decide (5 ≤ l1) then some (some (.int 0), (sh, M, J)) else bif decide ((sh.2.2.1 l0).1 = 6) then bif (decide ((sh.2.2.1 (sh.2.2.2 l0 0)).1 = 11) && xin ((52 : Int32) + l1) (sh.2.2.1 (sh.2.2.2 l0 0)).2) then some (some (.int (M (sh.2.2.2 l0 0) (((52 : Int32) + l1) : Int32).toNatClampNeg)), (sh, M, J)) else none else none) := by
  refine ev_nx (s1 := (65, 1, [.ref l0, .int l1], [.int l1], (sh, M, J))) f_65_0 rfl ?_
  refine ev_br (s1 := (65, 21, [.ref l0, .int l1], [], (sh, M, J))) (s2 := (65, 4, [.ref l0, .int l1], [], (sh, M, J))) f_65_1 rfl ?_ ?_
  · refine ev_nx (s1 := (65, 22, [.ref l0, .int l1], [.int 0], (sh, M, J))) f_65_21 rfl ?_
    exact ev_r1 f_65_22 rfl
  · refine ev_nx (s1 := (65, 5, [.ref l0, .int l1], [.int l1], (sh, M, J))) f_65_4 rfl ?_
    refine ev_nx (s1 := (65, 6, [.ref l0, .int l1], [.int 5, .int l1], (sh, M, J))) f_65_5 rfl ?_
    refine ev_br (s1 := (65, 21, [.ref l0, .int l1], [], (sh, M, J))) (s2 := (65, 9, [.ref l0, .int l1], [], (sh, M, J))) f_65_6 rfl ?_ ?_
    · refine ev_nx (s1 := (65, 22, [.ref l0, .int l1], [.int 0], (sh, M, J))) f_65_21 rfl ?_
      exact ev_r1 f_65_22 rfl
    · refine ev_nx (s1 := (65, 10, [.ref l0, .int l1], [.ref l0], (sh, M, J))) f_65_9 rfl ?_
      refine ev_gd (s1 := (65, 13, [.ref l0, .int l1], [.ref (sh.2.2.2 l0 0)], (sh, M, J))) f_65_10 rfl ?_
      refine ev_nx (s1 := (65, 15, [.ref l0, .int l1], [.int 52, .ref (sh.2.2.2 l0 0)], (sh, M, J))) f_65_13 rfl ?_
      refine ev_nx (s1 := (65, 16, [.ref l0, .int l1], [.int l1, .int 52, .ref (sh.2.2.2 l0 0)], (sh, M, J))) f_65_15 rfl ?_
      refine ev_nx (s1 := (65, 17, [.ref l0, .int l1], [.int ((52 : Int32) + l1), .ref (sh.2.2.2 l0 0)], (sh, M, J))) f_65_16 rfl ?_
      refine ev_gd (s1 := (65, 18, [.ref l0, .int l1], [.int (M (sh.2.2.2 l0 0) (((52 : Int32) + l1) : Int32).toNatClampNeg)], (sh, M, J))) f_65_17 rfl ?_
      refine ev_nx (s1 := (65, 22, [.ref l0, .int l1], [.int (M (sh.2.2.2 l0 0) (((52 : Int32) + l1) : Int32).toNatClampNeg)], (sh, M, J))) f_65_18 rfl ?_
      exact ev_r1 f_65_22 rfl
theorem f_66_0 : xfind (xnth xTs 66) 0 = some (0, .iload_n 1, 1, (0, 0, 0, 0), .null, [], 0, 0, []) := rfl
theorem f_66_1 : xfind (xnth xTs 66) 1 = some (1, .ifCond .lt 20, 3, (0, 0, 0, 0), .null, [], 0, 0, []) := rfl
theorem f_66_4 : xfind (xnth xTs 66) 4 = some (4, .iload_n 1, 1, (0, 0, 0, 0), .null, [], 0, 0, []) := rfl
theorem f_66_5 : xfind (xnth xTs 66) 5 = some (5, .iconst 5, 1, (0, 0, 0, 0), (.int 5), [], 0, 0, []) := rfl
theorem f_66_6 : xfind (xnth xTs 66) 6 = some (6, .if_icmp .ge 15, 3, (0, 0, 0, 0), .null, [], 0, 0, []) := rfl
theorem f_66_9 : xfind (xnth xTs 66) 9 = some (9, .aload_n 0, 1, (0, 0, 0, 0), .null, [], 0, 0, []) := rfl
theorem f_66_10 : xfind (xnth xTs 66) 10 = some (10, .getfield 11, 3, (6, 0, 1, 0), .null, [], 138, 0, []) := rfl
theorem f_66_13 : xfind (xnth xTs 66) 13 = some (13, .bipush 57, 2, (0, 0, 0, 0), (.int 57), [], 0, 0, []) := rfl
theorem f_66_15 : xfind (xnth xTs 66) 15 = some (15, .iload_n 1, 1, (0, 0, 0, 0), .null, [], 0, 0, []) := rfl
theorem f_66_16 : xfind (xnth xTs 66) 16 = some (16, .iadd, 1, (0, 0, 0, 0), .null, [], 0, 0, []) := rfl
theorem f_66_17 : xfind (xnth xTs 66) 17 = some (17, .iaload, 1, (0, 0, 0, 0), .null, [], 0, 0, []) := rfl
theorem f_66_18 : xfind (xnth xTs 66) 18 = some (18, .goto 4, 3, (0, 0, 0, 0), .null, [], 0, 0, []) := rfl
theorem f_66_21 : xfind (xnth xTs 66) 21 = some (21, .iconst 0, 1, (0, 0, 0, 0), (.int 0), [], 0, 0, []) := rfl
theorem f_66_22 : xfind (xnth xTs 66) 22 = some (22, .ireturn, 1, (0, 0, 0, 0), .null, [], 0, 0, []) := rfl
theorem b_Scene_baredOf_0 (sh : xSh) (M : Nat → Nat → Int32) (J : Nat → Nat → Int64) (l0 : Nat) (l1 : Int32) : ev (66, 0, [.ref l0, .int l1], [], (sh, M, J)) = (bif decide (l1 < 0) then some (some (.int 0), (sh, M, J)) else bif decide (5 ≤ l1) then some (some (.int 0), (sh, M, J)) else bif decide ((sh.2.2.1 l0).1 = 6) then bif (decide ((sh.2.2.1 (sh.2.2.2 l0 0)).1 = 11) && xin ((57 : Int32) + l1) (sh.2.2.1 (sh.2.2.2 l0 0)).2) then some (some (.int (M (sh.2.2.2 l0 0) (((57 : Int32) + l1) : Int32).toNatClampNeg)), (sh, M, J)) else none else none) := by
  refine ev_nx (s1 := (66, 1, [.ref l0, .int l1], [.int l1], (sh, M, J))) f_66_0 rfl ?_
  refine ev_br (s1 := (66, 21, [.ref l0, .int l1], [], (sh, M, J))) (s2 := (66, 4, [.ref l0, .int l1], [], (sh, M, J))) f_66_1 rfl ?_ ?_
  · refine ev_nx (s1 := (66, 22, [.ref l0, .int l1], [.int 0], (sh, M, J))) f_66_21 rfl ?_
    exact ev_r1 f_66_22 rfl
  · refine ev_nx (s1 := (66, 5, [.ref l0, .int l1], [.int l1], (sh, M, J))) f_66_4 rfl ?_
    refine ev_nx (s1 := (66, 6, [.ref l0, .int l1], [.int 5, .int l1], (sh, M, J))) f_66_5 rfl ?_
    refine ev_br (s1 := (66, 21, [.ref l0, .int l1], [], (sh, M, J))) (s2 := (66, 9, [.ref l0, .int l1], [], (sh, M, J))) f_66_6 rfl ?_ ?_
    · refine ev_nx (s1 := (66, 22, [.ref l0, .int l1], [.int 0], (sh, M, J))) f_66_21 rfl ?_
      exact ev_r1 f_66_22 rfl
    · refine ev_nx (s1 := (66, 10, [.ref l0, .int l1], [.ref l0], (sh, M, J))) f_66_9 rfl ?_
      refine ev_gd (s1 := (66, 13, [.ref l0, .int l1], [.ref (sh.2.2.2 l0 0)], (sh, M, J))) f_66_10 rfl ?_
      refine ev_nx (s1 := (66, 15, [.ref l0, .int l1], [.int 57, .ref (sh.2.2.2 l0 0)], (sh, M, J))) f_66_13 rfl ?_
      refine ev_nx (s1 := (66, 16, [.ref l0, .int l1], [.int l1, .int 57, .ref (sh.2.2.2 l0 0)], (sh, M, J))) f_66_15 rfl ?_
      refine ev_nx (s1 := (66, 17, [.ref l0, .int l1], [.int ((57 : Int32) + l1), .ref (sh.2.2.2 l0 0)], (sh, M, J))) f_66_16 rfl ?_
      refine ev_gd (s1 := (66, 18, [.ref l0, .int l1], [.int (M (sh.2.2.2 l0 0) (((57 : Int32) + l1) : Int32).toNatClampNeg)], (sh, M, J))) f_66_17 rfl ?_
      refine ev_nx (s1 := (66, 22, [.ref l0, .int l1], [.int (M (sh.2.2.2 l0 0) (((57 : Int32) + l1) : Int32).toNatClampNeg)], (sh, M, J))) f_66_18 rfl ?_
      exact ev_r1 f_66_22 rfl
theorem f_67_0 : xfind (xnth xTs 67) 0 = some (0, .iconst 0, 1, (0, 0, 0, 0), (.int 0), [], 0, 0, []) := rfl
theorem f_67_1 : xfind (xnth xTs 67) 1 = some (1, .istore_n 1, 1, (0, 0, 0, 0), .null, [], 0, 0, []) := rfl
theorem f_67_2 : xfind (xnth xTs 67) 2 = some (2, .iconst 0, 1, (0, 0, 0, 0), (.int 0), [], 0, 0, []) := rfl
theorem f_67_3 : xfind (xnth xTs 67) 3 = some (3, .istore_n 2, 1, (0, 0, 0, 0), .null, [], 0, 0, []) := rfl
theorem f_67_4 : xfind (xnth xTs 67) 4 = some (4, .iload_n 2, 1, (0, 0, 0, 0), .null, [], 0, 1, []) := rfl
theorem f_67_5 : xfind (xnth xTs 67) 5 = some (5, .iconst 5, 1, (0, 0, 0, 0), (.int 5), [], 0, 0, []) := rfl
theorem f_67_6 : xfind (xnth xTs 67) 6 = some (6, .if_icmp .ge 17, 3, (0, 0, 0, 0), .null, [], 0, 0, []) := rfl
theorem f_67_9 : xfind (xnth xTs 67) 9 = some (9, .iload_n 1, 1, (0, 0, 0, 0), .null, [], 0, 0, []) := rfl
theorem f_67_10 : xfind (xnth xTs 67) 10 = some (10, .aload_n 0, 1, (0, 0, 0, 0), .null, [], 0, 0, []) := rfl
theorem f_67_11 : xfind (xnth xTs 67) 11 = some (11, .iload_n 2, 1, (0, 0, 0, 0), .null, [], 0, 0, []) := rfl
theorem f_67_12 : xfind (xnth xTs 67) 12 = some (12, .invokevirtual 21, 3, (66, 1, 6, 2), .null, [], 526, 0, []) := rfl
theorem f_67_15 : xfind (xnth xTs 67) 15 = some (15, .iadd, 1, (0, 0, 0, 0), .null, [], 0, 0, []) := rfl
theorem f_67_16 : xfind (xnth xTs 67) 16 = some (16, .istore_n 1, 1, (0, 0, 0, 0), .null, [], 0, 0, []) := rfl
theorem f_67_17 : xfind (xnth xTs 67) 17 = some (17, .iinc 2 1, 3, (0, 0, 0, 0), .null, [], 0, 0, []) := rfl
theorem f_67_20 : xfind (xnth xTs 67) 20 = some (20, .goto (-16), 3, (0, 0, 0, 0), .null, [], 0, 0, []) := rfl
theorem f_67_23 : xfind (xnth xTs 67) 23 = some (23, .iload_n 1, 1, (0, 0, 0, 0), .null, [], 0, 0, []) := rfl
theorem f_67_24 : xfind (xnth xTs 67) 24 = some (24, .ireturn, 1, (0, 0, 0, 0), .null, [], 0, 0, []) := rfl
theorem hd_67_4 : xhead 67 4 = some [] := rfl
theorem b_Scene_baredInAll_0 (sh : xSh) (M : Nat → Nat → Int32) (J : Nat → Nat → Int64) (l0 : Nat) : ev (67, 0, [.ref l0, .null, .null], [], (sh, M, J)) = (ev (67, 4, [.ref l0, .int 0, .int 0], [], (sh, M, J))) := by
  refine ev_nx (s1 := (67, 1, [.ref l0, .null, .null], [.int 0], (sh, M, J))) f_67_0 rfl ?_
  refine ev_nx (s1 := (67, 2, [.ref l0, .int 0, .null], [], (sh, M, J))) f_67_1 rfl ?_
  refine ev_nx (s1 := (67, 3, [.ref l0, .int 0, .null], [.int 0], (sh, M, J))) f_67_2 rfl ?_
  refine ev_nx (s1 := (67, 4, [.ref l0, .int 0, .int 0], [], (sh, M, J))) f_67_3 rfl ?_
  exact rfl
theorem b_Scene_baredInAll_4 (sh : xSh) (M : Nat → Nat → Int32) (J : Nat → Nat → Int64) (l0 : Nat) (l1 : Int32) (l2 : Int32) : ev (67, 4, [.ref l0, .int l1, .int l2], [], (sh, M, J)) = (bif decide (5 ≤ l2) then some (some (.int l1), (sh, M, J)) else bif (decide ((sh.2.2.1 l0).1 = 6) && true) then (ev (66, 0, [.ref l0, .int l2], [], (sh, M, J))).bind (fun r => ev (67, 15, [.ref l0, .int l1, .int l2], r.1.toList ++ [.int l1], r.2)) else none) := by
  refine ev_nx (s1 := (67, 5, [.ref l0, .int l1, .int l2], [.int l2], (sh, M, J))) f_67_4 rfl ?_
  refine ev_nx (s1 := (67, 6, [.ref l0, .int l1, .int l2], [.int 5, .int l2], (sh, M, J))) f_67_5 rfl ?_
  refine ev_br (s1 := (67, 23, [.ref l0, .int l1, .int l2], [], (sh, M, J))) (s2 := (67, 9, [.ref l0, .int l1, .int l2], [], (sh, M, J))) f_67_6 rfl ?_ ?_
  · refine ev_nx (s1 := (67, 24, [.ref l0, .int l1, .int l2], [.int l1], (sh, M, J))) f_67_23 rfl ?_
    exact ev_r1 f_67_24 rfl
  · refine ev_nx (s1 := (67, 10, [.ref l0, .int l1, .int l2], [.int l1], (sh, M, J))) f_67_9 rfl ?_
    refine ev_nx (s1 := (67, 11, [.ref l0, .int l1, .int l2], [.ref l0, .int l1], (sh, M, J))) f_67_10 rfl ?_
    refine ev_nx (s1 := (67, 12, [.ref l0, .int l1, .int l2], [.int l2, .ref l0, .int l1], (sh, M, J))) f_67_11 rfl ?_
    exact ev_ca (cc := (decide ((sh.2.2.1 l0).1 = 6) && true)) (s1 := (66, 0, [.ref l0, .int l2], [], (sh, M, J))) (k := (67, 15, [.ref l0, .int l1, .int l2], [.int l1])) f_67_12 rfl
theorem b_Scene_baredInAll_15 (sh : xSh) (M : Nat → Nat → Int32) (J : Nat → Nat → Int64) (l0 : Nat) (l1 : Int32) (l2 : Int32) (k0 : Int32) (k1 : Int32) : ev (67, 15, [.ref l0, .int l1, .int l2], [.int k0, .int k1], (sh, M, J)) = (ev (67, 4, [.ref l0, .int (k1 + k0), .int (l2 + 1)], [], (sh, M, J))) := by
  refine ev_nx (s1 := (67, 16, [.ref l0, .int l1, .int l2], [.int (k1 + k0)], (sh, M, J))) f_67_15 rfl ?_
  refine ev_nx (s1 := (67, 17, [.ref l0, .int (k1 + k0), .int l2], [], (sh, M, J))) f_67_16 rfl ?_
  refine ev_nx (s1 := (67, 20, [.ref l0, .int (k1 + k0), .int (l2 + 1)], [], (sh, M, J))) f_67_17 rfl ?_
  refine ev_nx (s1 := (67, 4, [.ref l0, .int (k1 + k0), .int (l2 + 1)], [], (sh, M, J))) f_67_20 rfl ?_
  exact rfl
theorem f_68_0 : xfind (xnth xTs 68) 0 = some (0, .iconst 0, 1, (0, 0, 0, 0), (.int 0), [], 0, 0, []) := rfl
theorem f_68_1 : xfind (xnth xTs 68) 1 = some (1, .istore_n 2, 1, (0, 0, 0, 0), .null, [], 0, 0, []) := rfl
theorem f_68_2 : xfind (xnth xTs 68) 2 = some (2, .iload_n 2, 1, (0, 0, 0, 0), .null, [], 0, 1, []) := rfl
theorem f_68_3 : xfind (xnth xTs 68) 3 = some (3, .bipush 20, 2, (0, 0, 0, 0), (.int 20), [], 0, 0, []) := rfl
theorem f_68_5 : xfind (xnth xTs 68) 5 = some (5, .if_icmp .ge 18, 3, (0, 0, 0, 0), .null, [], 0, 0, []) := rfl
theorem f_68_8 : xfind (xnth xTs 68) 8 = some (8, .aload_n 0, 1, (0, 0, 0, 0), .null, [], 0, 0, []) := rfl
theorem f_68_9 : xfind (xnth xTs 68) 9 = some (9, .getfield 11, 3, (6, 0, 1, 0), .null, [], 138, 0, []) := rfl
theorem f_68_12 : xfind (xnth xTs 68) 12 = some (12, .iconst 2, 1, (0, 0, 0, 0), (.int 2), [], 0, 0, []) := rfl
theorem f_68_13 : xfind (xnth xTs 68) 13 = some (13, .iload_n 2, 1, (0, 0, 0, 0), .null, [], 0, 0, []) := rfl
theorem f_68_14 : xfind (xnth xTs 68) 14 = some (14, .iadd, 1, (0, 0, 0, 0), .null, [], 0, 0, []) := rfl
theorem f_68_15 : xfind (xnth xTs 68) 15 = some (15, .iload_n 1, 1, (0, 0, 0, 0), .null, [], 0, 0, []) := rfl
theorem f_68_16 : xfind (xnth xTs 68) 16 = some (16, .iastore, 1, (0, 0, 0, 0), .null, [], 0, 0, []) := rfl
theorem f_68_17 : xfind (xnth xTs 68) 17 = some (17, .iinc 2 1, 3, (0, 0, 0, 0), .null, [], 0, 0, []) := rfl
theorem f_68_20 : xfind (xnth xTs 68) 20 = some (20, .goto (-18), 3, (0, 0, 0, 0), .null, [], 0, 0, []) := rfl
theorem f_68_23 : xfind (xnth xTs 68) 23 = some (23, .return_, 1, (0, 0, 0, 0), .null, [], 0, 0, []) := rfl
theorem hd_68_2 : xhead 68 2 = some [] := rfl
theorem b_Scene_hangAllOf_0 (sh : xSh) (M : Nat → Nat → Int32) (J : Nat → Nat → Int64) (l0 : Nat) (l1 : Int32) : ev (68, 0, [.ref l0, .int l1, .null], [], (sh, M, J)) = (ev (68, 2, [.ref l0, .int l1, .int 0], [], (sh, M, J))) := by
  refine ev_nx (s1 := (68, 1, [.ref l0, .int l1, .null], [.int 0], (sh, M, J))) f_68_0 rfl ?_
  refine ev_nx (s1 := (68, 2, [.ref l0, .int l1, .int 0], [], (sh, M, J))) f_68_1 rfl ?_
  exact rfl
theorem b_Scene_hangAllOf_2 (sh : xSh) (M : Nat → Nat → Int32) (J : Nat → Nat → Int64) (l0 : Nat) (l1 : Int32) (l2 : Int32) : ev (68, 2, [.ref l0, .int l1, .int l2], [], (sh, M, J)) = (bif decide (20 ≤ l2) then some (none, (sh, M, J)) else bif decide ((sh.2.2.1 l0).1 = 6) then bif (decide ((sh.2.2.1 (sh.2.2.2 l0 0)).1 = 11) && xin ((2 : Int32) + l2) (sh.2.2.1 (sh.2.2.2 l0 0)).2) then ev (68, 2, [.ref l0, .int l1, .int (l2 + 1)], [], (sh, (xu M (sh.2.2.2 l0 0) (((2 : Int32) + l2) : Int32).toNatClampNeg l1), J)) else none else none) := by
  refine ev_nx (s1 := (68, 3, [.ref l0, .int l1, .int l2], [.int l2], (sh, M, J))) f_68_2 rfl ?_
  refine ev_nx (s1 := (68, 5, [.ref l0, .int l1, .int l2], [.int 20, .int l2], (sh, M, J))) f_68_3 rfl ?_
  refine ev_br (s1 := (68, 23, [.ref l0, .int l1, .int l2], [], (sh, M, J))) (s2 := (68, 8, [.ref l0, .int l1, .int l2], [], (sh, M, J))) f_68_5 rfl ?_ ?_
  · exact ev_r1 f_68_23 rfl
  · refine ev_nx (s1 := (68, 9, [.ref l0, .int l1, .int l2], [.ref l0], (sh, M, J))) f_68_8 rfl ?_
    refine ev_gd (s1 := (68, 12, [.ref l0, .int l1, .int l2], [.ref (sh.2.2.2 l0 0)], (sh, M, J))) f_68_9 rfl ?_
    refine ev_nx (s1 := (68, 13, [.ref l0, .int l1, .int l2], [.int 2, .ref (sh.2.2.2 l0 0)], (sh, M, J))) f_68_12 rfl ?_
    refine ev_nx (s1 := (68, 14, [.ref l0, .int l1, .int l2], [.int l2, .int 2, .ref (sh.2.2.2 l0 0)], (sh, M, J))) f_68_13 rfl ?_
    refine ev_nx (s1 := (68, 15, [.ref l0, .int l1, .int l2], [.int ((2 : Int32) + l2), .ref (sh.2.2.2 l0 0)], (sh, M, J))) f_68_14 rfl ?_
    refine ev_nx (s1 := (68, 16, [.ref l0, .int l1, .int l2], [.int l1, .int ((2 : Int32) + l2), .ref (sh.2.2.2 l0 0)], (sh, M, J))) f_68_15 rfl ?_
    refine ev_gd (s1 := (68, 17, [.ref l0, .int l1, .int l2], [], (sh, (xu M (sh.2.2.2 l0 0) (((2 : Int32) + l2) : Int32).toNatClampNeg l1), J))) f_68_16 rfl ?_
    refine ev_nx (s1 := (68, 20, [.ref l0, .int l1, .int (l2 + 1)], [], (sh, (xu M (sh.2.2.2 l0 0) (((2 : Int32) + l2) : Int32).toNatClampNeg l1), J))) f_68_17 rfl ?_
    refine ev_nx (s1 := (68, 2, [.ref l0, .int l1, .int (l2 + 1)], [], (sh, (xu M (sh.2.2.2 l0 0) (((2 : Int32) + l2) : Int32).toNatClampNeg l1), J))) f_68_20 rfl ?_
    exact rfl
theorem f_69_0 : xfind (xnth xTs 69) 0 = some (0, .iload_n 1, 1, (0, 0, 0, 0), .null, [], 0, 0, []) := rfl
theorem f_69_1 : xfind (xnth xTs 69) 1 = some (1, .ifCond .lt 21, 3, (0, 0, 0, 0), .null, [], 0, 0, []) := rfl
theorem f_69_4 : xfind (xnth xTs 69) 4 = some (4, .iload_n 1, 1, (0, 0, 0, 0), .null, [], 0, 0, []) := rfl
theorem f_69_5 : xfind (xnth xTs 69) 5 = some (5, .bipush 20, 2, (0, 0, 0, 0), (.int 20), [], 0, 0, []) := rfl
theorem f_69_7 : xfind (xnth xTs 69) 7 = some (7, .if_icmp .ge 15, 3, (0, 0, 0, 0), .null, [], 0, 0, []) := rfl
theorem f_69_10 : xfind (xnth xTs 69) 10 = some (10, .aload_n 0, 1, (0, 0, 0, 0), .null, [], 0, 0, []) := rfl
theorem f_69_11 : xfind (xnth xTs 69) 11 = some (11, .getfield 11, 3, (6, 0, 1, 0), .null, [], 138, 0, []) := rfl
theorem f_69_14 : xfind (xnth xTs 69) 14 = some (14, .iconst 0, 1, (0, 0, 0, 0), (.int 0), [], 0, 0, []) := rfl
theorem f_69_15 : xfind (xnth xTs 69) 15 = some (15, .dup2, 1, (0, 0, 0, 0), .null, [], 0, 0, []) := rfl
theorem f_69_16 : xfind (xnth xTs 69) 16 = some (16, .iaload, 1, (0, 0, 0, 0), .null, [], 0, 0, []) := rfl
theorem f_69_17 : xfind (xnth xTs 69) 17 = some (17, .iconst 1, 1, (0, 0, 0, 0), (.int 1), [], 0, 0, []) := rfl
theorem f_69_18 : xfind (xnth xTs 69) 18 = some (18, .iload_n 1, 1, (0, 0, 0, 0), .null, [], 0, 0, []) := rfl
theorem f_69_19 : xfind (xnth xTs 69) 19 = some (19, .ishl, 1, (0, 0, 0, 0), .null, [], 0, 0, []) := rfl
theorem f_69_20 : xfind (xnth xTs 69) 20 = some (20, .ior, 1, (0, 0, 0, 0), .null, [], 0, 0, []) := rfl
theorem f_69_21 : xfind (xnth xTs 69) 21 = some (21, .iastore, 1, (0, 0, 0, 0), .null, [], 0, 0, []) := rfl
theorem f_69_22 : xfind (xnth xTs 69) 22 = some (22, .return_, 1, (0, 0, 0, 0), .null, [], 0, 0, []) := rfl
theorem b_Scene_open_0 (sh : xSh) (M : Nat → Nat → Int32) (J : Nat → Nat → Int64) (l0 : Nat) (l1 : Int32) : ev (69, 0, [.ref l0, .int l1], [], (sh, M, J)) = (bif decide (l1 < 0) then some (none, (sh, M, J)) else bif decide (20 ≤ l1) then some (none, (sh, M, J)) else bif decide ((sh.2.2.1 l0).1 = 6) then bif (decide ((sh.2.2.1 (sh.2.2.2 l0 0)).1 = 11) && xin 0 (sh.2.2.1 (sh.2.2.2 l0 0)).2) then bif (decide ((sh.2.2.1 (sh.2.2.2 l0 0)).1 = 11) && xin 0 (sh.2.2.1 (sh.2.2.2 l0 0)).2) then some (none, (sh, (xu M (sh.2.2.2 l0 0) (0 : Int32).toNatClampNeg ((M (sh.2.2.2 l0 0) (0 : Int32).toNatClampNeg) ||| ((1 : Int32) <<< (l1 &&& 31)))), J)) else none else none else none) := by
  refine ev_nx (s1 := (69, 1, [.ref l0, .int l1], [.int l1], (sh, M, J))) f_69_0 rfl ?_
  refine ev_br (s1 := (69, 22, [.ref l0, .int l1], [], (sh, M, J))) (s2 := (69, 4, [.ref l0, .int l1], [], (sh, M, J))) f_69_1 rfl ?_ ?_
  · exact ev_r1 f_69_22 rfl
  · refine ev_nx (s1 := (69, 5, [.ref l0, .int l1], [.int l1], (sh, M, J))) f_69_4 rfl ?_
    refine ev_nx (s1 := (69, 7, [.ref l0, .int l1], [.int 20, .int l1], (sh, M, J))) f_69_5 rfl ?_
    refine ev_br (s1 := (69, 22, [.ref l0, .int l1], [], (sh, M, J))) (s2 := (69, 10, [.ref l0, .int l1], [], (sh, M, J))) f_69_7 rfl ?_ ?_
    · exact ev_r1 f_69_22 rfl
    · refine ev_nx (s1 := (69, 11, [.ref l0, .int l1], [.ref l0], (sh, M, J))) f_69_10 rfl ?_
      refine ev_gd (s1 := (69, 14, [.ref l0, .int l1], [.ref (sh.2.2.2 l0 0)], (sh, M, J))) f_69_11 rfl ?_
      refine ev_nx (s1 := (69, 15, [.ref l0, .int l1], [.int 0, .ref (sh.2.2.2 l0 0)], (sh, M, J))) f_69_14 rfl ?_
      refine ev_nx (s1 := (69, 16, [.ref l0, .int l1], [.int 0, .ref (sh.2.2.2 l0 0), .int 0, .ref (sh.2.2.2 l0 0)], (sh, M, J))) f_69_15 rfl ?_
      refine ev_gd (s1 := (69, 17, [.ref l0, .int l1], [.int (M (sh.2.2.2 l0 0) (0 : Int32).toNatClampNeg), .int 0, .ref (sh.2.2.2 l0 0)], (sh, M, J))) f_69_16 rfl ?_
      refine ev_nx (s1 := (69, 18, [.ref l0, .int l1], [.int 1, .int (M (sh.2.2.2 l0 0) (0 : Int32).toNatClampNeg), .int 0, .ref (sh.2.2.2 l0 0)], (sh, M, J))) f_69_17 rfl ?_
      refine ev_nx (s1 := (69, 19, [.ref l0, .int l1], [.int l1, .int 1, .int (M (sh.2.2.2 l0 0) (0 : Int32).toNatClampNeg), .int 0, .ref (sh.2.2.2 l0 0)], (sh, M, J))) f_69_18 rfl ?_
      refine ev_nx (s1 := (69, 20, [.ref l0, .int l1], [.int ((1 : Int32) <<< (l1 &&& 31)), .int (M (sh.2.2.2 l0 0) (0 : Int32).toNatClampNeg), .int 0, .ref (sh.2.2.2 l0 0)], (sh, M, J))) f_69_19 rfl ?_
      refine ev_nx (s1 := (69, 21, [.ref l0, .int l1], [.int ((M (sh.2.2.2 l0 0) (0 : Int32).toNatClampNeg) ||| ((1 : Int32) <<< (l1 &&& 31))), .int 0, .ref (sh.2.2.2 l0 0)], (sh, M, J))) f_69_20 rfl ?_
      refine ev_gd (s1 := (69, 22, [.ref l0, .int l1], [], (sh, (xu M (sh.2.2.2 l0 0) (0 : Int32).toNatClampNeg ((M (sh.2.2.2 l0 0) (0 : Int32).toNatClampNeg) ||| ((1 : Int32) <<< (l1 &&& 31)))), J))) f_69_21 rfl ?_
      exact ev_r1 f_69_22 rfl
theorem f_70_0 : xfind (xnth xTs 70) 0 = some (0, .iload_n 1, 1, (0, 0, 0, 0), .null, [], 0, 0, []) := rfl
theorem f_70_1 : xfind (xnth xTs 70) 1 = some (1, .ifCond .lt 18, 3, (0, 0, 0, 0), .null, [], 0, 0, []) := rfl
theorem f_70_4 : xfind (xnth xTs 70) 4 = some (4, .iload_n 1, 1, (0, 0, 0, 0), .null, [], 0, 0, []) := rfl
theorem f_70_5 : xfind (xnth xTs 70) 5 = some (5, .iconst 5, 1, (0, 0, 0, 0), (.int 5), [], 0, 0, []) := rfl
theorem f_70_6 : xfind (xnth xTs 70) 6 = some (6, .if_icmp .ge 13, 3, (0, 0, 0, 0), .null, [], 0, 0, []) := rfl
theorem f_70_9 : xfind (xnth xTs 70) 9 = some (9, .aload_n 0, 1, (0, 0, 0, 0), .null, [], 0, 0, []) := rfl
theorem f_70_10 : xfind (xnth xTs 70) 10 = some (10, .getfield 11, 3, (6, 0, 1, 0), .null, [], 138, 0, []) := rfl
theorem f_70_13 : xfind (xnth xTs 70) 13 = some (13, .bipush 42, 2, (0, 0, 0, 0), (.int 42), [], 0, 0, []) := rfl
theorem f_70_15 : xfind (xnth xTs 70) 15 = some (15, .iload_n 1, 1, (0, 0, 0, 0), .null, [], 0, 0, []) := rfl
theorem f_70_16 : xfind (xnth xTs 70) 16 = some (16, .iadd, 1, (0, 0, 0, 0), .null, [], 0, 0, []) := rfl
theorem f_70_17 : xfind (xnth xTs 70) 17 = some (17, .iload_n 2, 1, (0, 0, 0, 0), .null, [], 0, 0, []) := rfl
theorem f_70_18 : xfind (xnth xTs 70) 18 = some (18, .iastore, 1, (0, 0, 0, 0), .null, [], 0, 0, []) := rfl
theorem f_70_19 : xfind (xnth xTs 70) 19 = some (19, .return_, 1, (0, 0, 0, 0), .null, [], 0, 0, []) := rfl
theorem b_Scene_place_0 (sh : xSh) (M : Nat → Nat → Int32) (J : Nat → Nat → Int64) (l0 : Nat) (l1 : Int32) (l2 : Int32) : ev (70, 0, [.ref l0, .int l1, .int l2], [], (sh, M, J)) = (bif decide (l1 < 0) then some (none, (sh, M, J)) else bif decide (5 ≤ l1) then some (none, (sh, M, J)) else bif decide ((sh.2.2.1 l0).1 = 6) then bif (decide ((sh.2.2.1 (sh.2.2.2 l0 0)).1 = 11) && xin ((42 : Int32) + l1) (sh.2.2.1 (sh.2.2.2 l0 0)).2) then some (none, (sh, (xu M (sh.2.2.2 l0 0) (((42 : Int32) + l1) : Int32).toNatClampNeg l2), J)) else none else none) := by
  refine ev_nx (s1 := (70, 1, [.ref l0, .int l1, .int l2], [.int l1], (sh, M, J))) f_70_0 rfl ?_
  refine ev_br (s1 := (70, 19, [.ref l0, .int l1, .int l2], [], (sh, M, J))) (s2 := (70, 4, [.ref l0, .int l1, .int l2], [], (sh, M, J))) f_70_1 rfl ?_ ?_
  · exact ev_r1 f_70_19 rfl
  · refine ev_nx (s1 := (70, 5, [.ref l0, .int l1, .int l2], [.int l1], (sh, M, J))) f_70_4 rfl ?_
    refine ev_nx (s1 := (70, 6, [.ref l0, .int l1, .int l2], [.int 5, .int l1], (sh, M, J))) f_70_5 rfl ?_
    refine ev_br (s1 := (70, 19, [.ref l0, .int l1, .int l2], [], (sh, M, J))) (s2 := (70, 9, [.ref l0, .int l1, .int l2], [], (sh, M, J))) f_70_6 rfl ?_ ?_
    · exact ev_r1 f_70_19 rfl
    · refine ev_nx (s1 := (70, 10, [.ref l0, .int l1, .int l2], [.ref l0], (sh, M, J))) f_70_9 rfl ?_
      refine ev_gd (s1 := (70, 13, [.ref l0, .int l1, .int l2], [.ref (sh.2.2.2 l0 0)], (sh, M, J))) f_70_10 rfl ?_
      refine ev_nx (s1 := (70, 15, [.ref l0, .int l1, .int l2], [.int 42, .ref (sh.2.2.2 l0 0)], (sh, M, J))) f_70_13 rfl ?_
      refine ev_nx (s1 := (70, 16, [.ref l0, .int l1, .int l2], [.int l1, .int 42, .ref (sh.2.2.2 l0 0)], (sh, M, J))) f_70_15 rfl ?_
      refine ev_nx (s1 := (70, 17, [.ref l0, .int l1, .int l2], [.int ((42 : Int32) + l1), .ref (sh.2.2.2 l0 0)], (sh, M, J))) f_70_16 rfl ?_
      refine ev_nx (s1 := (70, 18, [.ref l0, .int l1, .int l2], [.int l2, .int ((42 : Int32) + l1), .ref (sh.2.2.2 l0 0)], (sh, M, J))) f_70_17 rfl ?_
      refine ev_gd (s1 := (70, 19, [.ref l0, .int l1, .int l2], [], (sh, (xu M (sh.2.2.2 l0 0) (((42 : Int32) + l1) : Int32).toNatClampNeg l2), J))) f_70_18 rfl ?_
      exact ev_r1 f_70_19 rfl
theorem f_71_0 : xfind (xnth xTs 71) 0 = some (0, .iload_n 1, 1, (0, 0, 0, 0), .null, [], 0, 0, []) := rfl
theorem f_71_1 : xfind (xnth xTs 71) 1 = some (1, .ifCond .lt 28, 3, (0, 0, 0, 0), .null, [], 0, 0, []) := rfl
theorem f_71_4 : xfind (xnth xTs 71) 4 = some (4, .iload_n 1, 1, (0, 0, 0, 0), .null, [], 0, 0, []) := rfl
theorem f_71_5 : xfind (xnth xTs 71) 5 = some (5, .iconst 5, 1, (0, 0, 0, 0), (.int 5), [], 0, 0, []) := rfl
theorem f_71_6 : xfind (xnth xTs 71) 6 = some (6, .if_icmp .ge 23, 3, (0, 0, 0, 0), .null, [], 0, 0, []) := rfl
theorem f_71_9 : xfind (xnth xTs 71) 9 = some (9, .aload_n 0, 1, (0, 0, 0, 0), .null, [], 0, 0, []) := rfl
theorem f_71_10 : xfind (xnth xTs 71) 10 = some (10, .getfield 11, 3, (6, 0, 1, 0), .null, [], 138, 0, []) := rfl
theorem f_71_13 : xfind (xnth xTs 71) 13 = some (13, .bipush 47, 2, (0, 0, 0, 0), (.int 47), [], 0, 0, []) := rfl
theorem f_71_15 : xfind (xnth xTs 71) 15 = some (15, .iload_n 1, 1, (0, 0, 0, 0), .null, [], 0, 0, []) := rfl
theorem f_71_16 : xfind (xnth xTs 71) 16 = some (16, .iadd, 1, (0, 0, 0, 0), .null, [], 0, 0, []) := rfl
theorem f_71_17 : xfind (xnth xTs 71) 17 = some (17, .iload_n 2, 1, (0, 0, 0, 0), .null, [], 0, 0, []) := rfl
theorem f_71_18 : xfind (xnth xTs 71) 18 = some (18, .iastore, 1, (0, 0, 0, 0), .null, [], 0, 0, []) := rfl
theorem f_71_19 : xfind (xnth xTs 71) 19 = some (19, .aload_n 0, 1, (0, 0, 0, 0), .null, [], 0, 0, []) := rfl
theorem f_71_20 : xfind (xnth xTs 71) 20 = some (20, .getfield 11, 3, (6, 0, 1, 0), .null, [], 138, 0, []) := rfl
theorem f_71_23 : xfind (xnth xTs 71) 23 = some (23, .bipush 52, 2, (0, 0, 0, 0), (.int 52), [], 0, 0, []) := rfl
theorem f_71_25 : xfind (xnth xTs 71) 25 = some (25, .iload_n 1, 1, (0, 0, 0, 0), .null, [], 0, 0, []) := rfl
theorem f_71_26 : xfind (xnth xTs 71) 26 = some (26, .iadd, 1, (0, 0, 0, 0), .null, [], 0, 0, []) := rfl
theorem f_71_27 : xfind (xnth xTs 71) 27 = some (27, .iload_n 3, 1, (0, 0, 0, 0), .null, [], 0, 0, []) := rfl
theorem f_71_28 : xfind (xnth xTs 71) 28 = some (28, .iastore, 1, (0, 0, 0, 0), .null, [], 0, 0, []) := rfl
theorem f_71_29 : xfind (xnth xTs 71) 29 = some (29, .return_, 1, (0, 0, 0, 0), .null, [], 0, 0, []) := rfl
theorem b_Scene_clothe_0 (sh : xSh) (M : Nat → Nat → Int32) (J : Nat → Nat → Int64) (l0 : Nat) (l1 : Int32) (l2 : Int32) (l3 : Int32) : ev (71, 0, [.ref l0, .int l1, .int l2, .int l3], [], (sh, M, J)) = (bif decide (l1 < 0) then some (none, (sh, M, J)) else bif decide (5 ≤ l1) then some (none, (sh, M, J)) else bif decide ((sh.2.2.1 l0).1 = 6) then bif (decide ((sh.2.2.1 (sh.2.2.2 l0 0)).1 = 11) && xin ((47 : Int32) + l1) (sh.2.2.1 (sh.2.2.2 l0 0)).2) then bif decide ((sh.2.2.1 l0).1 = 6) then bif (decide ((sh.2.2.1 (sh.2.2.2 l0 0)).1 = 11) && xin ((52 : Int32) + l1) (sh.2.2.1 (sh.2.2.2 l0 0)).2) then some (none, (sh, (xu (xu M (sh.2.2.2 l0 0) (((47 : Int32) + l1) : Int32).toNatClampNeg l2) (sh.2.2.2 l0 0) (((52 : Int32) + l1) : Int32).toNatClampNeg l3), J)) else none else none else none else none) := by
  refine ev_nx (s1 := (71, 1, [.ref l0, .int l1, .int l2, .int l3], [.int l1], (sh, M, J))) f_71_0 rfl ?_
  refine ev_br (s1 := (71, 29, [.ref l0, .int l1, .int l2, .int l3], [], (sh, M, J))) (s2 := (71, 4, [.ref l0, .int l1, .int l2, .int l3], [], (sh, M, J))) f_71_1 rfl ?_ ?_
  · exact ev_r1 f_71_29 rfl
  · refine ev_nx (s1 := (71, 5, [.ref l0, .int l1, .int l2, .int l3], [.int l1], (sh, M, J))) f_71_4 rfl ?_
    refine ev_nx (s1 := (71, 6, [.ref l0, .int l1, .int l2, .int l3], [.int 5, .int l1], (sh, M, J))) f_71_5 rfl ?_
    refine ev_br (s1 := (71, 29, [.ref l0, .int l1, .int l2, .int l3], [], (sh, M, J))) (s2 := (71, 9, [.ref l0, .int l1, .int l2, .int l3], [], (sh, M, J))) f_71_6 rfl ?_ ?_
    · exact ev_r1 f_71_29 rfl
    · refine ev_nx (s1 := (71, 10, [.ref l0, .int l1, .int l2, .int l3], [.ref l0], (sh, M, J))) f_71_9 rfl ?_
      refine ev_gd (s1 := (71, 13, [.ref l0, .int l1, .int l2, .int l3], [.ref (sh.2.2.2 l0 0)], (sh, M, J))) f_71_10 rfl ?_
      refine ev_nx (s1 := (71, 15, [.ref l0, .int l1, .int l2, .int l3], [.int 47, .ref (sh.2.2.2 l0 0)], (sh, M, J))) f_71_13 rfl ?_
      refine ev_nx (s1 := (71, 16, [.ref l0, .int l1, .int l2, .int l3], [.int l1, .int 47, .ref (sh.2.2.2 l0 0)], (sh, M, J))) f_71_15 rfl ?_
      refine ev_nx (s1 := (71, 17, [.ref l0, .int l1, .int l2, .int l3], [.int ((47 : Int32) + l1), .ref (sh.2.2.2 l0 0)], (sh, M, J))) f_71_16 rfl ?_
      refine ev_nx (s1 := (71, 18, [.ref l0, .int l1, .int l2, .int l3], [.int l2, .int ((47 : Int32) + l1), .ref (sh.2.2.2 l0 0)], (sh, M, J))) f_71_17 rfl ?_
      refine ev_gd (s1 := (71, 19, [.ref l0, .int l1, .int l2, .int l3], [], (sh, (xu M (sh.2.2.2 l0 0) (((47 : Int32) + l1) : Int32).toNatClampNeg l2), J))) f_71_18 rfl ?_
      refine ev_nx (s1 := (71, 20, [.ref l0, .int l1, .int l2, .int l3], [.ref l0], (sh, (xu M (sh.2.2.2 l0 0) (((47 : Int32) + l1) : Int32).toNatClampNeg l2), J))) f_71_19 rfl ?_
      refine ev_gd (s1 := (71, 23, [.ref l0, .int l1, .int l2, .int l3], [.ref (sh.2.2.2 l0 0)], (sh, (xu M (sh.2.2.2 l0 0) (((47 : Int32) + l1) : Int32).toNatClampNeg l2), J))) f_71_20 rfl ?_
      refine ev_nx (s1 := (71, 25, [.ref l0, .int l1, .int l2, .int l3], [.int 52, .ref (sh.2.2.2 l0 0)], (sh, (xu M (sh.2.2.2 l0 0) (((47 : Int32) + l1) : Int32).toNatClampNeg l2), J))) f_71_23 rfl ?_
      refine ev_nx (s1 := (71, 26, [.ref l0, .int l1, .int l2, .int l3], [.int l1, .int 52, .ref (sh.2.2.2 l0 0)], (sh, (xu M (sh.2.2.2 l0 0) (((47 : Int32) + l1) : Int32).toNatClampNeg l2), J))) f_71_25 rfl ?_
      refine ev_nx (s1 := (71, 27, [.ref l0, .int l1, .int l2, .int l3], [.int ((52 : Int32) + l1), .ref (sh.2.2.2 l0 0)], (sh, (xu M (sh.2.2.2 l0 0) (((47 : Int32) + l1) : Int32).toNatClampNeg l2), J))) f_71_26 rfl ?_
      refine ev_nx (s1 := (71, 28, [.ref l0, .int l1, .int l2, .int l3], [.int l3, .int ((52 : Int32) + l1), .ref (sh.2.2.2 l0 0)], (sh, (xu M (sh.2.2.2 l0 0) (((47 : Int32) + l1) : Int32).toNatClampNeg l2), J))) f_71_27 rfl ?_
      refine ev_gd (s1 := (71, 29, [.ref l0, .int l1, .int l2, .int l3], [], (sh, (xu (xu M (sh.2.2.2 l0 0) (((47 : Int32) + l1) : Int32).toNatClampNeg l2) (sh.2.2.2 l0 0) (((52 : Int32) + l1) : Int32).toNatClampNeg l3), J))) f_71_28 rfl ?_
      exact ev_r1 f_71_29 rfl
theorem f_72_0 : xfind (xnth xTs 72) 0 = some (0, .iconst 0, 1, (0, 0, 0, 0), (.int 0), [], 0, 0, []) := rfl
theorem f_72_1 : xfind (xnth xTs 72) 1 = some (1, .istore_n 2, 1, (0, 0, 0, 0), .null, [], 0, 0, []) := rfl
theorem f_72_2 : xfind (xnth xTs 72) 2 = some (2, .iconst 0, 1, (0, 0, 0, 0), (.int 0), [], 0, 0, []) := rfl
theorem f_72_3 : xfind (xnth xTs 72) 3 = some (3, .istore_n 3, 1, (0, 0, 0, 0), .null, [], 0, 0, []) := rfl
theorem f_72_4 : xfind (xnth xTs 72) 4 = some (4, .iload_n 3, 1, (0, 0, 0, 0), .null, [], 0, 1, []) := rfl
theorem f_72_5 : xfind (xnth xTs 72) 5 = some (5, .aload_n 1, 1, (0, 0, 0, 0), .null, [], 0, 0, []) := rfl
theorem f_72_6 : xfind (xnth xTs 72) 6 = some (6, .invokevirtual 25, 3, (13, 0, 1, 1), .null, [], 538, 0, []) := rfl
theorem f_72_9 : xfind (xnth xTs 72) 9 = some (9, .if_icmp .ge 36, 3, (0, 0, 0, 0), .null, [], 0, 0, []) := rfl
theorem f_72_12 : xfind (xnth xTs 72) 12 = some (12, .iload_n 2, 1, (0, 0, 0, 0), .null, [], 0, 0, []) := rfl
theorem f_72_13 : xfind (xnth xTs 72) 13 = some (13, .aload_n 0, 1, (0, 0, 0, 0), .null, [], 0, 0, []) := rfl
theorem f_72_14 : xfind (xnth xTs 72) 14 = some (14, .invokevirtual 31, 3, (59, 0, 6, 1), .null, [], 490, 0, []) := rfl
theorem f_72_17 : xfind (xnth xTs 72) 17 = some (17, .iload_n 3, 1, (0, 0, 0, 0), .null, [], 0, 0, []) := rfl
theorem f_72_18 : xfind (xnth xTs 72) 18 = some (18, .invokestatic 34, 3, (127, 2, 8, 2), .null, [], 499, 0, []) := rfl
theorem f_72_21 : xfind (xnth xTs 72) 21 = some (21, .ifCond .eq 7, 3, (0, 0, 0, 0), .null, [], 0, 0, []) := rfl
theorem f_72_24 : xfind (xnth xTs 72) 24 = some (24, .iconst 0, 1, (0, 0, 0, 0), (.int 0), [], 0, 0, []) := rfl
theorem f_72_25 : xfind (xnth xTs 72) 25 = some (25, .goto 12, 3, (0, 0, 0, 0), .null, [], 0, 0, []) := rfl
theorem f_72_28 : xfind (xnth xTs 72) 28 = some (28, .aload_n 1, 1, (0, 0, 0, 0), .null, [], 0, 0, []) := rfl
theorem f_72_29 : xfind (xnth xTs 72) 29 = some (29, .aload_n 0, 1, (0, 0, 0, 0), .null, [], 0, 0, []) := rfl
theorem f_72_30 : xfind (xnth xTs 72) 30 = some (30, .iload_n 3, 1, (0, 0, 0, 0), .null, [], 0, 0, []) := rfl
theorem f_72_31 : xfind (xnth xTs 72) 31 = some (31, .invokevirtual 38, 3, (61, 1, 6, 2), .null, [], 500, 0, []) := rfl
theorem f_72_34 : xfind (xnth xTs 72) 34 = some (34, .invokevirtual 41, 3, (9, 1, 1, 2), .null, [], 504, 0, []) := rfl
theorem f_72_37 : xfind (xnth xTs 72) 37 = some (37, .iadd, 1, (0, 0, 0, 0), .null, [], 0, 0, []) := rfl
theorem f_72_38 : xfind (xnth xTs 72) 38 = some (38, .istore_n 2, 1, (0, 0, 0, 0), .null, [], 0, 0, []) := rfl
theorem f_72_39 : xfind (xnth xTs 72) 39 = some (39, .iinc 3 1, 3, (0, 0, 0, 0), .null, [], 0, 0, []) := rfl
theorem f_72_42 : xfind (xnth xTs 72) 42 = some (42, .goto (-38), 3, (0, 0, 0, 0), .null, [], 0, 0, []) := rfl
theorem f_72_45 : xfind (xnth xTs 72) 45 = some (45, .iload_n 2, 1, (0, 0, 0, 0), .null, [], 0, 0, []) := rfl
theorem f_72_46 : xfind (xnth xTs 72) 46 = some (46, .ireturn, 1, (0, 0, 0, 0), .null, [], 0, 0, []) := rfl
theorem hd_72_4 : xhead 72 4 = some [] := rfl
theorem b_Scene_weight_0 (sh : xSh) (M : Nat → Nat → Int32) (J : Nat → Nat → Int64) (l0 : Nat) (l1 : Nat) : ev (72, 0, [.ref l0, .ref l1, .null, .null], [], (sh, M, J)) = (ev (72, 4, [.ref l0, .ref l1, .int 0, .int 0], [], (sh, M, J))) := by
  refine ev_nx (s1 := (72, 1, [.ref l0, .ref l1, .null, .null], [.int 0], (sh, M, J))) f_72_0 rfl ?_
  refine ev_nx (s1 := (72, 2, [.ref l0, .ref l1, .int 0, .null], [], (sh, M, J))) f_72_1 rfl ?_
  refine ev_nx (s1 := (72, 3, [.ref l0, .ref l1, .int 0, .null], [.int 0], (sh, M, J))) f_72_2 rfl ?_
  refine ev_nx (s1 := (72, 4, [.ref l0, .ref l1, .int 0, .int 0], [], (sh, M, J))) f_72_3 rfl ?_
  exact rfl
theorem b_Scene_weight_4 (sh : xSh) (M : Nat → Nat → Int32) (J : Nat → Nat → Int64) (l0 : Nat) (l1 : Nat) (l2 : Int32) (l3 : Int32) : ev (72, 4, [.ref l0, .ref l1, .int l2, .int l3], [], (sh, M, J)) = (bif (decide ((sh.2.2.1 l1).1 = 1) && true) then (ev (13, 0, [.ref l1], [], (sh, M, J))).bind (fun r => ev (72, 9, [.ref l0, .ref l1, .int l2, .int l3], r.1.toList ++ [.int l3], r.2)) else none) := by
  refine ev_nx (s1 := (72, 5, [.ref l0, .ref l1, .int l2, .int l3], [.int l3], (sh, M, J))) f_72_4 rfl ?_
  refine ev_nx (s1 := (72, 6, [.ref l0, .ref l1, .int l2, .int l3], [.ref l1, .int l3], (sh, M, J))) f_72_5 rfl ?_
  exact ev_ca (cc := (decide ((sh.2.2.1 l1).1 = 1) && true)) (s1 := (13, 0, [.ref l1], [], (sh, M, J))) (k := (72, 9, [.ref l0, .ref l1, .int l2, .int l3], [.int l3])) f_72_6 rfl
theorem b_Scene_weight_9 (sh : xSh) (M : Nat → Nat → Int32) (J : Nat → Nat → Int64) (l0 : Nat) (l1 : Nat) (l2 : Int32) (l3 : Int32) (k0 : Int32) (k1 : Int32) : ev (72, 9, [.ref l0, .ref l1, .int l2, .int l3], [.int k0, .int k1], (sh, M, J)) = (bif decide (k0 ≤ k1) then some (some (.int l2), (sh, M, J)) else bif (decide ((sh.2.2.1 l0).1 = 6) && true) then (ev (59, 0, [.ref l0], [], (sh, M, J))).bind (fun r => ev (72, 17, [.ref l0, .ref l1, .int l2, .int l3], r.1.toList ++ [.int l2], r.2)) else none) := by
  refine ev_br (s1 := (72, 45, [.ref l0, .ref l1, .int l2, .int l3], [], (sh, M, J))) (s2 := (72, 12, [.ref l0, .ref l1, .int l2, .int l3], [], (sh, M, J))) f_72_9 rfl ?_ ?_
  · refine ev_nx (s1 := (72, 46, [.ref l0, .ref l1, .int l2, .int l3], [.int l2], (sh, M, J))) f_72_45 rfl ?_
    exact ev_r1 f_72_46 rfl
  · refine ev_nx (s1 := (72, 13, [.ref l0, .ref l1, .int l2, .int l3], [.int l2], (sh, M, J))) f_72_12 rfl ?_
    refine ev_nx (s1 := (72, 14, [.ref l0, .ref l1, .int l2, .int l3], [.ref l0, .int l2], (sh, M, J))) f_72_13 rfl ?_
    exact ev_ca (cc := (decide ((sh.2.2.1 l0).1 = 6) && true)) (s1 := (59, 0, [.ref l0], [], (sh, M, J))) (k := (72, 17, [.ref l0, .ref l1, .int l2, .int l3], [.int l2])) f_72_14 rfl
theorem b_Scene_weight_17 (sh : xSh) (M : Nat → Nat → Int32) (J : Nat → Nat → Int64) (l0 : Nat) (l1 : Nat) (l2 : Int32) (l3 : Int32) (k0 : Int32) (k1 : Int32) : ev (72, 17, [.ref l0, .ref l1, .int l2, .int l3], [.int k0, .int k1], (sh, M, J)) = ((ev (127, 0, [.int k0, .int l3], [], (sh, M, J))).bind (fun r => ev (72, 21, [.ref l0, .ref l1, .int l2, .int l3], r.1.toList ++ [.int k1], r.2))) := by
  refine ev_nx (s1 := (72, 18, [.ref l0, .ref l1, .int l2, .int l3], [.int l3, .int k0, .int k1], (sh, M, J))) f_72_17 rfl ?_
  exact ev_c1 (s1 := (127, 0, [.int k0, .int l3], [], (sh, M, J))) (k := (72, 21, [.ref l0, .ref l1, .int l2, .int l3], [.int k1])) f_72_18 rfl
theorem b_Scene_weight_21 (sh : xSh) (M : Nat → Nat → Int32) (J : Nat → Nat → Int64) (l0 : Nat) (l1 : Nat) (l2 : Int32) (l3 : Int32) (k0 : Int32) (k1 : Int32) : ev (72, 21, [.ref l0, .ref l1, .int l2, .int l3], [.int k0, .int k1], (sh, M, J)) = (bif decide (k0 = 0) then bif (decide ((sh.2.2.1 l0).1 = 6) && true) then (ev (61, 0, [.ref l0, .int l3], [], (sh, M, J))).bind (fun r => ev (72, 34, [.ref l0, .ref l1, .int l2, .int l3], r.1.toList ++ [.ref l1, .int k1], r.2)) else none else ev (72, 4, [.ref l0, .ref l1, .int (k1 + 0), .int (l3 + 1)], [], (sh, M, J))) := by
  refine ev_br (s1 := (72, 28, [.ref l0, .ref l1, .int l2, .int l3], [.int k1], (sh, M, J))) (s2 := (72, 24, [.ref l0, .ref l1, .int l2, .int l3], [.int k1], (sh, M, J))) f_72_21 rfl ?_ ?_
  · refine ev_nx (s1 := (72, 29, [.ref l0, .ref l1, .int l2, .int l3], [.ref l1, .int k1], (sh, M, J))) f_72_28 rfl ?_
    refine ev_nx (s1 := (72, 30, [.ref l0, .ref l1, .int l2, .int l3], [.ref l0, .ref l1, .int k1], (sh, M, J))) f_72_29 rfl ?_
    refine ev_nx (s1 := (72, 31, [.ref l0, .ref l1, .int l2, .int l3], [.int l3, .ref l0, .ref l1, .int k1], (sh, M, J))) f_72_30 rfl ?_
    exact ev_ca (cc := (decide ((sh.2.2.1 l0).1 = 6) && true)) (s1 := (61, 0, [.ref l0, .int l3], [], (sh, M, J))) (k := (72, 34, [.ref l0, .ref l1, .int l2, .int l3], [.ref l1, .int k1])) f_72_31 rfl
  · refine ev_nx (s1 := (72, 25, [.ref l0, .ref l1, .int l2, .int l3], [.int 0, .int k1], (sh, M, J))) f_72_24 rfl ?_
    refine ev_nx (s1 := (72, 37, [.ref l0, .ref l1, .int l2, .int l3], [.int 0, .int k1], (sh, M, J))) f_72_25 rfl ?_
    refine ev_nx (s1 := (72, 38, [.ref l0, .ref l1, .int l2, .int l3], [.int (k1 + 0)], (sh, M, J))) f_72_37 rfl ?_
    refine ev_nx (s1 := (72, 39, [.ref l0, .ref l1, .int (k1 + 0), .int l3], [], (sh, M, J))) f_72_38 rfl ?_
    refine ev_nx (s1 := (72, 42, [.ref l0, .ref l1, .int (k1 + 0), .int (l3 + 1)], [], (sh, M, J))) f_72_39 rfl ?_
    refine ev_nx (s1 := (72, 4, [.ref l0, .ref l1, .int (k1 + 0), .int (l3 + 1)], [], (sh, M, J))) f_72_42 rfl ?_
    exact rfl
theorem b_Scene_weight_34 (sh : xSh) (M : Nat → Nat → Int32) (J : Nat → Nat → Int64) (l0 : Nat) (l1 : Nat) (l2 : Int32) (l3 : Int32) (k0 : Int32) (k1 : Nat) (k2 : Int32) : ev (72, 34, [.ref l0, .ref l1, .int l2, .int l3], [.int k0, .ref k1, .int k2], (sh, M, J)) = (bif (decide ((sh.2.2.1 k1).1 = 1) && true) then (ev (9, 0, [.ref k1, .int k0], [], (sh, M, J))).bind (fun r => ev (72, 37, [.ref l0, .ref l1, .int l2, .int l3], r.1.toList ++ [.int k2], r.2)) else none) := by
  exact ev_ca (cc := (decide ((sh.2.2.1 k1).1 = 1) && true)) (s1 := (9, 0, [.ref k1, .int k0], [], (sh, M, J))) (k := (72, 37, [.ref l0, .ref l1, .int l2, .int l3], [.int k2])) f_72_34 rfl
theorem b_Scene_weight_37 (sh : xSh) (M : Nat → Nat → Int32) (J : Nat → Nat → Int64) (l0 : Nat) (l1 : Nat) (l2 : Int32) (l3 : Int32) (k0 : Int32) (k1 : Int32) : ev (72, 37, [.ref l0, .ref l1, .int l2, .int l3], [.int k0, .int k1], (sh, M, J)) = (ev (72, 4, [.ref l0, .ref l1, .int (k1 + k0), .int (l3 + 1)], [], (sh, M, J))) := by
  refine ev_nx (s1 := (72, 38, [.ref l0, .ref l1, .int l2, .int l3], [.int (k1 + k0)], (sh, M, J))) f_72_37 rfl ?_
  refine ev_nx (s1 := (72, 39, [.ref l0, .ref l1, .int (k1 + k0), .int l3], [], (sh, M, J))) f_72_38 rfl ?_
  refine ev_nx (s1 := (72, 42, [.ref l0, .ref l1, .int (k1 + k0), .int (l3 + 1)], [], (sh, M, J))) f_72_39 rfl ?_
  refine ev_nx (s1 := (72, 4, [.ref l0, .ref l1, .int (k1 + k0), .int (l3 + 1)], [], (sh, M, J))) f_72_42 rfl ?_
  exact rfl
theorem f_73_0 : xfind (xnth xTs 73) 0 = some (0, .aload_n 0, 1, (0, 0, 0, 0), .null, [], 0, 0, []) := rfl
theorem f_73_1 : xfind (xnth xTs 73) 1 = some (1, .aload_n 1, 1, (0, 0, 0, 0), .null, [], 0, 0, []) := rfl
theorem f_73_2 : xfind (xnth xTs 73) 2 = some (2, .invokevirtual 44, 3, (72, 1, 6, 4), .null, [], 534, 0, []) := rfl
theorem f_73_5 : xfind (xnth xTs 73) 5 = some (5, .invokestatic 48, 3, (128, 1, 8, 1), .null, [], 539, 0, []) := rfl
theorem f_73_8 : xfind (xnth xTs 73) 8 = some (8, .ireturn, 1, (0, 0, 0, 0), .null, [], 0, 0, []) := rfl
theorem b_Scene_late_0 (sh : xSh) (M : Nat → Nat → Int32) (J : Nat → Nat → Int64) (l0 : Nat) (l1 : Nat) : ev (73, 0, [.ref l0, .ref l1], [], (sh, M, J)) = (bif (decide ((sh.2.2.1 l0).1 = 6) && true) then (ev (72, 0, [.ref l0, .ref l1, .null, .null], [], (sh, M, J))).bind (fun r => ev (73, 5, [.ref l0, .ref l1], r.1.toList ++ [], r.2)) else none) := by
  refine ev_nx (s1 := (73, 1, [.ref l0, .ref l1], [.ref l0], (sh, M, J))) f_73_0 rfl ?_
  refine ev_nx (s1 := (73, 2, [.ref l0, .ref l1], [.ref l1, .ref l0], (sh, M, J))) f_73_1 rfl ?_
  exact ev_ca (cc := (decide ((sh.2.2.1 l0).1 = 6) && true)) (s1 := (72, 0, [.ref l0, .ref l1, .null, .null], [], (sh, M, J))) (k := (73, 5, [.ref l0, .ref l1], [])) f_73_2 rfl
theorem b_Scene_late_5 (sh : xSh) (M : Nat → Nat → Int32) (J : Nat → Nat → Int64) (l0 : Nat) (l1 : Nat) (k0 : Int32) : ev (73, 5, [.ref l0, .ref l1], [.int k0], (sh, M, J)) = ((ev (128, 0, [.int k0], [], (sh, M, J))).bind (fun r => ev (73, 8, [.ref l0, .ref l1], r.1.toList ++ [], r.2))) := by
  exact ev_c1 (s1 := (128, 0, [.int k0], [], (sh, M, J))) (k := (73, 8, [.ref l0, .ref l1], [])) f_73_5 rfl
theorem b_Scene_late_8 (sh : xSh) (M : Nat → Nat → Int32) (J : Nat → Nat → Int64) (l0 : Nat) (l1 : Nat) (k0 : Int32) : ev (73, 8, [.ref l0, .ref l1], [.int k0], (sh, M, J)) = (some (some (.int k0), (sh, M, J))) := by
  exact ev_r1 f_73_8 rfl
theorem f_74_0 : xfind (xnth xTs 74) 0 = some (0, .iconst 0, 1, (0, 0, 0, 0), (.int 0), [], 0, 0, []) := rfl
theorem f_74_1 : xfind (xnth xTs 74) 1 = some (1, .istore_n 3, 1, (0, 0, 0, 0), .null, [], 0, 0, []) := rfl
theorem f_74_2 : xfind (xnth xTs 74) 2 = some (2, .iconst 0, 1, (0, 0, 0, 0), (.int 0), [], 0, 0, []) := rfl
theorem f_74_3 : xfind (xnth xTs 74) 3 = some (3, .istore 4, 2, (0, 0, 0, 0), .null, [], 0, 0, []) := rfl
theorem f_74_5 : xfind (xnth xTs 74) 5 = some (5, .iload 4, 2, (0, 0, 0, 0), .null, [], 0, 1, [5, 6, 7]) := rfl
theorem f_74_7 : xfind (xnth xTs 74) 7 = some (7, .aload_n 1, 1, (0, 0, 0, 0), .null, [], 0, 0, []) := rfl
theorem f_74_8 : xfind (xnth xTs 74) 8 = some (8, .getfield 51, 3, (1, 0, 0, 0), .null, [], 101, 0, []) := rfl
theorem f_74_11 : xfind (xnth xTs 74) 11 = some (11, .if_icmp .ge 80, 3, (0, 0, 0, 0), .null, [], 0, 0, []) := rfl
theorem f_74_14 : xfind (xnth xTs 74) 14 = some (14, .iconst 0, 1, (0, 0, 0, 0), (.int 0), [], 0, 0, []) := rfl
theorem f_74_15 : xfind (xnth xTs 74) 15 = some (15, .istore 5, 2, (0, 0, 0, 0), .null, [], 0, 0, []) := rfl
theorem f_74_17 : xfind (xnth xTs 74) 17 = some (17, .iconst 0, 1, (0, 0, 0, 0), (.int 0), [], 0, 0, []) := rfl
theorem f_74_18 : xfind (xnth xTs 74) 18 = some (18, .istore 6, 2, (0, 0, 0, 0), .null, [], 0, 0, []) := rfl
theorem f_74_20 : xfind (xnth xTs 74) 20 = some (20, .iload 6, 2, (0, 0, 0, 0), .null, [], 0, 1, [7]) := rfl
theorem f_74_22 : xfind (xnth xTs 74) 22 = some (22, .aload_n 1, 1, (0, 0, 0, 0), .null, [], 0, 0, []) := rfl
theorem f_74_23 : xfind (xnth xTs 74) 23 = some (23, .getfield 55, 3, (1, 1, 0, 0), .null, [], 106, 0, []) := rfl
theorem f_74_26 : xfind (xnth xTs 74) 26 = some (26, .if_icmp .ge 47, 3, (0, 0, 0, 0), .null, [], 0, 0, []) := rfl
theorem f_74_29 : xfind (xnth xTs 74) 29 = some (29, .aload_n 1, 1, (0, 0, 0, 0), .null, [], 0, 0, []) := rfl
theorem f_74_30 : xfind (xnth xTs 74) 30 = some (30, .iload 4, 2, (0, 0, 0, 0), .null, [], 0, 0, []) := rfl
theorem f_74_32 : xfind (xnth xTs 74) 32 = some (32, .iload 6, 2, (0, 0, 0, 0), .null, [], 0, 0, []) := rfl
theorem f_74_34 : xfind (xnth xTs 74) 34 = some (34, .invokevirtual 58, 3, (17, 2, 1, 3), .null, [], 495, 0, []) := rfl
theorem f_74_37 : xfind (xnth xTs 74) 37 = some (37, .istore 7, 2, (0, 0, 0, 0), .null, [], 0, 0, []) := rfl
theorem f_74_39 : xfind (xnth xTs 74) 39 = some (39, .iload 5, 2, (0, 0, 0, 0), .null, [], 0, 0, []) := rfl
theorem f_74_41 : xfind (xnth xTs 74) 41 = some (41, .iload_n 2, 1, (0, 0, 0, 0), .null, [], 0, 0, []) := rfl
theorem f_74_42 : xfind (xnth xTs 74) 42 = some (42, .iload 7, 2, (0, 0, 0, 0), .null, [], 0, 0, []) := rfl
theorem f_74_44 : xfind (xnth xTs 74) 44 = some (44, .invokestatic 34, 3, (127, 2, 8, 2), .null, [], 499, 0, []) := rfl
theorem f_74_47 : xfind (xnth xTs 74) 47 = some (47, .ifCond .eq 7, 3, (0, 0, 0, 0), .null, [], 0, 0, []) := rfl
theorem f_74_50 : xfind (xnth xTs 74) 50 = some (50, .iconst 0, 1, (0, 0, 0, 0), (.int 0), [], 0, 0, []) := rfl
theorem f_74_51 : xfind (xnth xTs 74) 51 = some (51, .goto 13, 3, (0, 0, 0, 0), .null, [], 0, 0, []) := rfl
theorem f_74_54 : xfind (xnth xTs 74) 54 = some (54, .aload_n 1, 1, (0, 0, 0, 0), .null, [], 0, 0, []) := rfl
theorem f_74_55 : xfind (xnth xTs 74) 55 = some (55, .aload_n 0, 1, (0, 0, 0, 0), .null, [], 0, 0, []) := rfl
theorem f_74_56 : xfind (xnth xTs 74) 56 = some (56, .iload 7, 2, (0, 0, 0, 0), .null, [], 0, 0, []) := rfl
theorem f_74_58 : xfind (xnth xTs 74) 58 = some (58, .invokevirtual 38, 3, (61, 1, 6, 2), .null, [], 500, 0, []) := rfl
theorem f_74_61 : xfind (xnth xTs 74) 61 = some (61, .invokevirtual 41, 3, (9, 1, 1, 2), .null, [], 504, 0, []) := rfl
theorem f_74_64 : xfind (xnth xTs 74) 64 = some (64, .iadd, 1, (0, 0, 0, 0), .null, [], 0, 0, []) := rfl
theorem f_74_65 : xfind (xnth xTs 74) 65 = some (65, .istore 5, 2, (0, 0, 0, 0), .null, [], 0, 0, []) := rfl
theorem f_74_67 : xfind (xnth xTs 74) 67 = some (67, .iinc 6 1, 3, (0, 0, 0, 0), .null, [], 0, 0, []) := rfl
theorem f_74_70 : xfind (xnth xTs 74) 70 = some (70, .goto (-50), 3, (0, 0, 0, 0), .null, [], 0, 0, []) := rfl
theorem f_74_73 : xfind (xnth xTs 74) 73 = some (73, .iload_n 3, 1, (0, 0, 0, 0), .null, [], 0, 0, []) := rfl
theorem f_74_74 : xfind (xnth xTs 74) 74 = some (74, .aload_n 1, 1, (0, 0, 0, 0), .null, [], 0, 0, []) := rfl
theorem f_74_75 : xfind (xnth xTs 74) 75 = some (75, .iload 4, 2, (0, 0, 0, 0), .null, [], 0, 0, []) := rfl
theorem f_74_77 : xfind (xnth xTs 74) 77 = some (77, .invokevirtual 62, 3, (20, 1, 1, 2), .null, [], 505, 0, []) := rfl
theorem f_74_80 : xfind (xnth xTs 74) 80 = some (80, .iload 5, 2, (0, 0, 0, 0), .null, [], 0, 0, []) := rfl
theorem f_74_82 : xfind (xnth xTs 74) 82 = some (82, .imul, 1, (0, 0, 0, 0), .null, [], 0, 0, []) := rfl
theorem f_74_83 : xfind (xnth xTs 74) 83 = some (83, .isub, 1, (0, 0, 0, 0), .null, [], 0, 0, []) := rfl
theorem f_74_84 : xfind (xnth xTs 74) 84 = some (84, .istore_n 3, 1, (0, 0, 0, 0), .null, [], 0, 0, []) := rfl
theorem f_74_85 : xfind (xnth xTs 74) 85 = some (85, .iinc 4 1, 3, (0, 0, 0, 0), .null, [], 0, 0, []) := rfl
theorem f_74_88 : xfind (xnth xTs 74) 88 = some (88, .goto (-83), 3, (0, 0, 0, 0), .null, [], 0, 0, []) := rfl
theorem f_74_91 : xfind (xnth xTs 74) 91 = some (91, .iload_n 3, 1, (0, 0, 0, 0), .null, [], 0, 0, []) := rfl
theorem f_74_92 : xfind (xnth xTs 74) 92 = some (92, .bipush 100, 2, (0, 0, 0, 0), (.int 100), [], 0, 0, []) := rfl
theorem f_74_94 : xfind (xnth xTs 74) 94 = some (94, .idiv, 1, (0, 0, 0, 0), .null, [], 0, 0, []) := rfl
theorem f_74_95 : xfind (xnth xTs 74) 95 = some (95, .ireturn, 1, (0, 0, 0, 0), .null, [], 0, 0, []) := rfl
theorem hd_74_5 : xhead 74 5 = some [5, 6, 7] := rfl
theorem hd_74_20 : xhead 74 20 = some [7] := rfl
theorem b_Scene_leansWith_0 (sh : xSh) (M : Nat → Nat → Int32) (J : Nat → Nat → Int64) (l0 : Nat) (l1 : Nat) (l2 : Int32) : ev (74, 0, [.ref l0, .ref l1, .int l2, .null, .null, .null, .null, .null], [], (sh, M, J)) = (ev (74, 5, [.ref l0, .ref l1, .int l2, .int 0, .int 0, .null, .null, .null], [], (sh, M, J))) := by
  refine ev_nx (s1 := (74, 1, [.ref l0, .ref l1, .int l2, .null, .null, .null, .null, .null], [.int 0], (sh, M, J))) f_74_0 rfl ?_
  refine ev_nx (s1 := (74, 2, [.ref l0, .ref l1, .int l2, .int 0, .null, .null, .null, .null], [], (sh, M, J))) f_74_1 rfl ?_
  refine ev_nx (s1 := (74, 3, [.ref l0, .ref l1, .int l2, .int 0, .null, .null, .null, .null], [.int 0], (sh, M, J))) f_74_2 rfl ?_
  refine ev_nx (s1 := (74, 5, [.ref l0, .ref l1, .int l2, .int 0, .int 0, .null, .null, .null], [], (sh, M, J))) f_74_3 rfl ?_
  exact rfl
theorem b_Scene_leansWith_5 (sh : xSh) (M : Nat → Nat → Int32) (J : Nat → Nat → Int64) (l0 : Nat) (l1 : Nat) (l2 : Int32) (l3 : Int32) (l4 : Int32) : ev (74, 5, [.ref l0, .ref l1, .int l2, .int l3, .int l4, .null, .null, .null], [], (sh, M, J)) = (bif decide ((sh.2.2.1 l1).1 = 1) then bif decide ((M l1 0) ≤ l4) then some (some (.int (l3 / 100)), (sh, M, J)) else ev (74, 20, [.ref l0, .ref l1, .int l2, .int l3, .int l4, .int 0, .int 0, .null], [], (sh, M, J)) else none) := by
  refine ev_nx (s1 := (74, 7, [.ref l0, .ref l1, .int l2, .int l3, .int l4, .null, .null, .null], [.int l4], (sh, M, J))) f_74_5 rfl ?_
  refine ev_nx (s1 := (74, 8, [.ref l0, .ref l1, .int l2, .int l3, .int l4, .null, .null, .null], [.ref l1, .int l4], (sh, M, J))) f_74_7 rfl ?_
  refine ev_gd (s1 := (74, 11, [.ref l0, .ref l1, .int l2, .int l3, .int l4, .null, .null, .null], [.int (M l1 0), .int l4], (sh, M, J))) f_74_8 rfl ?_
  refine ev_br (s1 := (74, 91, [.ref l0, .ref l1, .int l2, .int l3, .int l4, .null, .null, .null], [], (sh, M, J))) (s2 := (74, 14, [.ref l0, .ref l1, .int l2, .int l3, .int l4, .null, .null, .null], [], (sh, M, J))) f_74_11 rfl ?_ ?_
  · refine ev_nx (s1 := (74, 92, [.ref l0, .ref l1, .int l2, .int l3, .int l4, .null, .null, .null], [.int l3], (sh, M, J))) f_74_91 rfl ?_
    refine ev_nx (s1 := (74, 94, [.ref l0, .ref l1, .int l2, .int l3, .int l4, .null, .null, .null], [.int 100, .int l3], (sh, M, J))) f_74_92 rfl ?_
    refine ev_nx (s1 := (74, 95, [.ref l0, .ref l1, .int l2, .int l3, .int l4, .null, .null, .null], [.int (l3 / 100)], (sh, M, J))) f_74_94 rfl ?_
    exact ev_r1 f_74_95 rfl
  · refine ev_nx (s1 := (74, 15, [.ref l0, .ref l1, .int l2, .int l3, .int l4, .null, .null, .null], [.int 0], (sh, M, J))) f_74_14 rfl ?_
    refine ev_nx (s1 := (74, 17, [.ref l0, .ref l1, .int l2, .int l3, .int l4, .int 0, .null, .null], [], (sh, M, J))) f_74_15 rfl ?_
    refine ev_nx (s1 := (74, 18, [.ref l0, .ref l1, .int l2, .int l3, .int l4, .int 0, .null, .null], [.int 0], (sh, M, J))) f_74_17 rfl ?_
    refine ev_nx (s1 := (74, 20, [.ref l0, .ref l1, .int l2, .int l3, .int l4, .int 0, .int 0, .null], [], (sh, M, J))) f_74_18 rfl ?_
    exact rfl
theorem b_Scene_leansWith_20 (sh : xSh) (M : Nat → Nat → Int32) (J : Nat → Nat → Int64) (l0 : Nat) (l1 : Nat) (l2 : Int32) (l3 : Int32) (l4 : Int32) (l5 : Int32) (l6 : Int32) : ev (74, 20, [.ref l0, .ref l1, .int l2, .int l3, .int l4, .int l5, .int l6, .null], [], (sh, M, J)) = (bif decide ((sh.2.2.1 l1).1 = 1) then bif decide ((M l1 1) ≤ l6) then bif (decide ((sh.2.2.1 l1).1 = 1) && true) then (ev (20, 0, [.ref l1, .int l4], [], (sh, M, J))).bind (fun r => ev (74, 80, [.ref l0, .ref l1, .int l2, .int l3, .int l4, .int l5, .int l6, .null], r.1.toList ++ [.int l3], r.2)) else none else bif (decide ((sh.2.2.1 l1).1 = 1) && true) then (ev (17, 0, [.ref l1, .int l4, .int l6], [], (sh, M, J))).bind (fun r => ev (74, 37, [.ref l0, .ref l1, .int l2, .int l3, .int l4, .int l5, .int l6, .null], r.1.toList ++ [], r.2)) else none else none) := by
  refine ev_nx (s1 := (74, 22, [.ref l0, .ref l1, .int l2, .int l3, .int l4, .int l5, .int l6, .null], [.int l6], (sh, M, J))) f_74_20 rfl ?_
  refine ev_nx (s1 := (74, 23, [.ref l0, .ref l1, .int l2, .int l3, .int l4, .int l5, .int l6, .null], [.ref l1, .int l6], (sh, M, J))) f_74_22 rfl ?_
  refine ev_gd (s1 := (74, 26, [.ref l0, .ref l1, .int l2, .int l3, .int l4, .int l5, .int l6, .null], [.int (M l1 1), .int l6], (sh, M, J))) f_74_23 rfl ?_
  refine ev_br (s1 := (74, 73, [.ref l0, .ref l1, .int l2, .int l3, .int l4, .int l5, .int l6, .null], [], (sh, M, J))) (s2 := (74, 29, [.ref l0, .ref l1, .int l2, .int l3, .int l4, .int l5, .int l6, .null], [], (sh, M, J))) f_74_26 rfl ?_ ?_
  · refine ev_nx (s1 := (74, 74, [.ref l0, .ref l1, .int l2, .int l3, .int l4, .int l5, .int l6, .null], [.int l3], (sh, M, J))) f_74_73 rfl ?_
    refine ev_nx (s1 := (74, 75, [.ref l0, .ref l1, .int l2, .int l3, .int l4, .int l5, .int l6, .null], [.ref l1, .int l3], (sh, M, J))) f_74_74 rfl ?_
    refine ev_nx (s1 := (74, 77, [.ref l0, .ref l1, .int l2, .int l3, .int l4, .int l5, .int l6, .null], [.int l4, .ref l1, .int l3], (sh, M, J))) f_74_75 rfl ?_
    exact ev_ca (cc := (decide ((sh.2.2.1 l1).1 = 1) && true)) (s1 := (20, 0, [.ref l1, .int l4], [], (sh, M, J))) (k := (74, 80, [.ref l0, .ref l1, .int l2, .int l3, .int l4, .int l5, .int l6, .null], [.int l3])) f_74_77 rfl
  · refine ev_nx (s1 := (74, 30, [.ref l0, .ref l1, .int l2, .int l3, .int l4, .int l5, .int l6, .null], [.ref l1], (sh, M, J))) f_74_29 rfl ?_
    refine ev_nx (s1 := (74, 32, [.ref l0, .ref l1, .int l2, .int l3, .int l4, .int l5, .int l6, .null], [.int l4, .ref l1], (sh, M, J))) f_74_30 rfl ?_
    refine ev_nx (s1 := (74, 34, [.ref l0, .ref l1, .int l2, .int l3, .int l4, .int l5, .int l6, .null], [.int l6, .int l4, .ref l1], (sh, M, J))) f_74_32 rfl ?_
    exact ev_ca (cc := (decide ((sh.2.2.1 l1).1 = 1) && true)) (s1 := (17, 0, [.ref l1, .int l4, .int l6], [], (sh, M, J))) (k := (74, 37, [.ref l0, .ref l1, .int l2, .int l3, .int l4, .int l5, .int l6, .null], [])) f_74_34 rfl
theorem b_Scene_leansWith_37 (sh : xSh) (M : Nat → Nat → Int32) (J : Nat → Nat → Int64) (l0 : Nat) (l1 : Nat) (l2 : Int32) (l3 : Int32) (l4 : Int32) (l5 : Int32) (l6 : Int32) (k0 : Int32) : ev (74, 37, [.ref l0, .ref l1, .int l2, .int l3, .int l4, .int l5, .int l6, .null], [.int k0], (sh, M, J)) = ((ev (127, 0, [.int l2, .int k0], [], (sh, M, J))).bind (fun r => ev (74, 47, [.ref l0, .ref l1, .int l2, .int l3, .int l4, .int l5, .int l6, .int k0], r.1.toList ++ [.int l5], r.2))) := by
  refine ev_nx (s1 := (74, 39, [.ref l0, .ref l1, .int l2, .int l3, .int l4, .int l5, .int l6, .int k0], [], (sh, M, J))) f_74_37 rfl ?_
  refine ev_nx (s1 := (74, 41, [.ref l0, .ref l1, .int l2, .int l3, .int l4, .int l5, .int l6, .int k0], [.int l5], (sh, M, J))) f_74_39 rfl ?_
  refine ev_nx (s1 := (74, 42, [.ref l0, .ref l1, .int l2, .int l3, .int l4, .int l5, .int l6, .int k0], [.int l2, .int l5], (sh, M, J))) f_74_41 rfl ?_
  refine ev_nx (s1 := (74, 44, [.ref l0, .ref l1, .int l2, .int l3, .int l4, .int l5, .int l6, .int k0], [.int k0, .int l2, .int l5], (sh, M, J))) f_74_42 rfl ?_
  exact ev_c1 (s1 := (127, 0, [.int l2, .int k0], [], (sh, M, J))) (k := (74, 47, [.ref l0, .ref l1, .int l2, .int l3, .int l4, .int l5, .int l6, .int k0], [.int l5])) f_74_44 rfl
theorem b_Scene_leansWith_47 (sh : xSh) (M : Nat → Nat → Int32) (J : Nat → Nat → Int64) (l0 : Nat) (l1 : Nat) (l2 : Int32) (l3 : Int32) (l4 : Int32) (l5 : Int32) (l6 : Int32) (l7 : Int32) (k0 : Int32) (k1 : Int32) : ev (74, 47, [.ref l0, .ref l1, .int l2, .int l3, .int l4, .int l5, .int l6, .int l7], [.int k0, .int k1], (sh, M, J)) = (bif decide (k0 = 0) then bif (decide ((sh.2.2.1 l0).1 = 6) && true) then (ev (61, 0, [.ref l0, .int l7], [], (sh, M, J))).bind (fun r => ev (74, 61, [.ref l0, .ref l1, .int l2, .int l3, .int l4, .int l5, .int l6, .int l7], r.1.toList ++ [.ref l1, .int k1], r.2)) else none else ev (74, 20, [.ref l0, .ref l1, .int l2, .int l3, .int l4, .int (k1 + 0), .int (l6 + 1), .null], [], (sh, M, J))) := by
  refine ev_br (s1 := (74, 54, [.ref l0, .ref l1, .int l2, .int l3, .int l4, .int l5, .int l6, .int l7], [.int k1], (sh, M, J))) (s2 := (74, 50, [.ref l0, .ref l1, .int l2, .int l3, .int l4, .int l5, .int l6, .int l7], [.int k1], (sh, M, J))) f_74_47 rfl ?_ ?_
  · refine ev_nx (s1 := (74, 55, [.ref l0, .ref l1, .int l2, .int l3, .int l4, .int l5, .int l6, .int l7], [.ref l1, .int k1], (sh, M, J))) f_74_54 rfl ?_
    refine ev_nx (s1 := (74, 56, [.ref l0, .ref l1, .int l2, .int l3, .int l4, .int l5, .int l6, .int l7], [.ref l0, .ref l1, .int k1], (sh, M, J))) f_74_55 rfl ?_
    refine ev_nx (s1 := (74, 58, [.ref l0, .ref l1, .int l2, .int l3, .int l4, .int l5, .int l6, .int l7], [.int l7, .ref l0, .ref l1, .int k1], (sh, M, J))) f_74_56 rfl ?_
    exact ev_ca (cc := (decide ((sh.2.2.1 l0).1 = 6) && true)) (s1 := (61, 0, [.ref l0, .int l7], [], (sh, M, J))) (k := (74, 61, [.ref l0, .ref l1, .int l2, .int l3, .int l4, .int l5, .int l6, .int l7], [.ref l1, .int k1])) f_74_58 rfl
  · refine ev_nx (s1 := (74, 51, [.ref l0, .ref l1, .int l2, .int l3, .int l4, .int l5, .int l6, .int l7], [.int 0, .int k1], (sh, M, J))) f_74_50 rfl ?_
    refine ev_nx (s1 := (74, 64, [.ref l0, .ref l1, .int l2, .int l3, .int l4, .int l5, .int l6, .int l7], [.int 0, .int k1], (sh, M, J))) f_74_51 rfl ?_
    refine ev_nx (s1 := (74, 65, [.ref l0, .ref l1, .int l2, .int l3, .int l4, .int l5, .int l6, .int l7], [.int (k1 + 0)], (sh, M, J))) f_74_64 rfl ?_
    refine ev_nx (s1 := (74, 67, [.ref l0, .ref l1, .int l2, .int l3, .int l4, .int (k1 + 0), .int l6, .int l7], [], (sh, M, J))) f_74_65 rfl ?_
    refine ev_nx (s1 := (74, 70, [.ref l0, .ref l1, .int l2, .int l3, .int l4, .int (k1 + 0), .int (l6 + 1), .int l7], [], (sh, M, J))) f_74_67 rfl ?_
    refine ev_nx (s1 := (74, 20, [.ref l0, .ref l1, .int l2, .int l3, .int l4, .int (k1 + 0), .int (l6 + 1), .int l7], [], (sh, M, J))) f_74_70 rfl ?_
    exact (ev_kill hd_74_20).symm
theorem b_Scene_leansWith_61 (sh : xSh) (M : Nat → Nat → Int32) (J : Nat → Nat → Int64) (l0 : Nat) (l1 : Nat) (l2 : Int32) (l3 : Int32) (l4 : Int32) (l5 : Int32) (l6 : Int32) (l7 : Int32) (k0 : Int32) (k1 : Nat) (k2 : Int32) : ev (74, 61, [.ref l0, .ref l1, .int l2, .int l3, .int l4, .int l5, .int l6, .int l7], [.int k0, .ref k1, .int k2], (sh, M, J)) = (bif (decide ((sh.2.2.1 k1).1 = 1) && true) then (ev (9, 0, [.ref k1, .int k0], [], (sh, M, J))).bind (fun r => ev (74, 64, [.ref l0, .ref l1, .int l2, .int l3, .int l4, .int l5, .int l6, .int l7], r.1.toList ++ [.int k2], r.2)) else none) := by
  exact ev_ca (cc := (decide ((sh.2.2.1 k1).1 = 1) && true)) (s1 := (9, 0, [.ref k1, .int k0], [], (sh, M, J))) (k := (74, 64, [.ref l0, .ref l1, .int l2, .int l3, .int l4, .int l5, .int l6, .int l7], [.int k2])) f_74_61 rfl
theorem b_Scene_leansWith_64 (sh : xSh) (M : Nat → Nat → Int32) (J : Nat → Nat → Int64) (l0 : Nat) (l1 : Nat) (l2 : Int32) (l3 : Int32) (l4 : Int32) (l5 : Int32) (l6 : Int32) (l7 : Int32) (k0 : Int32) (k1 : Int32) : ev (74, 64, [.ref l0, .ref l1, .int l2, .int l3, .int l4, .int l5, .int l6, .int l7], [.int k0, .int k1], (sh, M, J)) = (ev (74, 20, [.ref l0, .ref l1, .int l2, .int l3, .int l4, .int (k1 + k0), .int (l6 + 1), .null], [], (sh, M, J))) := by
  refine ev_nx (s1 := (74, 65, [.ref l0, .ref l1, .int l2, .int l3, .int l4, .int l5, .int l6, .int l7], [.int (k1 + k0)], (sh, M, J))) f_74_64 rfl ?_
  refine ev_nx (s1 := (74, 67, [.ref l0, .ref l1, .int l2, .int l3, .int l4, .int (k1 + k0), .int l6, .int l7], [], (sh, M, J))) f_74_65 rfl ?_
  refine ev_nx (s1 := (74, 70, [.ref l0, .ref l1, .int l2, .int l3, .int l4, .int (k1 + k0), .int (l6 + 1), .int l7], [], (sh, M, J))) f_74_67 rfl ?_
  refine ev_nx (s1 := (74, 20, [.ref l0, .ref l1, .int l2, .int l3, .int l4, .int (k1 + k0), .int (l6 + 1), .int l7], [], (sh, M, J))) f_74_70 rfl ?_
  exact (ev_kill hd_74_20).symm
theorem b_Scene_leansWith_80 (sh : xSh) (M : Nat → Nat → Int32) (J : Nat → Nat → Int64) (l0 : Nat) (l1 : Nat) (l2 : Int32) (l3 : Int32) (l4 : Int32) (l5 : Int32) (l6 : Int32) (k0 : Int32) (k1 : Int32) : ev (74, 80, [.ref l0, .ref l1, .int l2, .int l3, .int l4, .int l5, .int l6, .null], [.int k0, .int k1], (sh, M, J)) = (ev (74, 5, [.ref l0, .ref l1, .int l2, .int (k1 - (k0 * l5)), .int (l4 + 1), .null, .null, .null], [], (sh, M, J))) := by
  refine ev_nx (s1 := (74, 82, [.ref l0, .ref l1, .int l2, .int l3, .int l4, .int l5, .int l6, .null], [.int l5, .int k0, .int k1], (sh, M, J))) f_74_80 rfl ?_
  refine ev_nx (s1 := (74, 83, [.ref l0, .ref l1, .int l2, .int l3, .int l4, .int l5, .int l6, .null], [.int (k0 * l5), .int k1], (sh, M, J))) f_74_82 rfl ?_
  refine ev_nx (s1 := (74, 84, [.ref l0, .ref l1, .int l2, .int l3, .int l4, .int l5, .int l6, .null], [.int (k1 - (k0 * l5))], (sh, M, J))) f_74_83 rfl ?_
  refine ev_nx (s1 := (74, 85, [.ref l0, .ref l1, .int l2, .int (k1 - (k0 * l5)), .int l4, .int l5, .int l6, .null], [], (sh, M, J))) f_74_84 rfl ?_
  refine ev_nx (s1 := (74, 88, [.ref l0, .ref l1, .int l2, .int (k1 - (k0 * l5)), .int (l4 + 1), .int l5, .int l6, .null], [], (sh, M, J))) f_74_85 rfl ?_
  refine ev_nx (s1 := (74, 5, [.ref l0, .ref l1, .int l2, .int (k1 - (k0 * l5)), .int (l4 + 1), .int l5, .int l6, .null], [], (sh, M, J))) f_74_88 rfl ?_
  exact (ev_kill hd_74_5).symm
theorem f_75_0 : xfind (xnth xTs 75) 0 = some (0, .aload_n 0, 1, (0, 0, 0, 0), .null, [], 0, 0, []) := rfl
theorem f_75_1 : xfind (xnth xTs 75) 1 = some (1, .aload_n 1, 1, (0, 0, 0, 0), .null, [], 0, 0, []) := rfl
theorem f_75_2 : xfind (xnth xTs 75) 2 = some (2, .aload_n 0, 1, (0, 0, 0, 0), .null, [], 0, 0, []) := rfl
theorem f_75_3 : xfind (xnth xTs 75) 3 = some (3, .invokevirtual 31, 3, (59, 0, 6, 1), .null, [], 490, 0, []) := rfl
theorem f_75_6 : xfind (xnth xTs 75) 6 = some (6, .invokevirtual 65, 3, (74, 2, 6, 8), .null, [], 491, 0, []) := rfl
theorem f_75_9 : xfind (xnth xTs 75) 9 = some (9, .ireturn, 1, (0, 0, 0, 0), .null, [], 0, 0, []) := rfl
theorem b_Scene_leansNow_0 (sh : xSh) (M : Nat → Nat → Int32) (J : Nat → Nat → Int64) (l0 : Nat) (l1 : Nat) : ev (75, 0, [.ref l0, .ref l1], [], (sh, M, J)) = (bif (decide ((sh.2.2.1 l0).1 = 6) && true) then (ev (59, 0, [.ref l0], [], (sh, M, J))).bind (fun r => ev (75, 6, [.ref l0, .ref l1], r.1.toList ++ [.ref l1, .ref l0], r.2)) else none) := by
  refine ev_nx (s1 := (75, 1, [.ref l0, .ref l1], [.ref l0], (sh, M, J))) f_75_0 rfl ?_
  refine ev_nx (s1 := (75, 2, [.ref l0, .ref l1], [.ref l1, .ref l0], (sh, M, J))) f_75_1 rfl ?_
  refine ev_nx (s1 := (75, 3, [.ref l0, .ref l1], [.ref l0, .ref l1, .ref l0], (sh, M, J))) f_75_2 rfl ?_
  exact ev_ca (cc := (decide ((sh.2.2.1 l0).1 = 6) && true)) (s1 := (59, 0, [.ref l0], [], (sh, M, J))) (k := (75, 6, [.ref l0, .ref l1], [.ref l1, .ref l0])) f_75_3 rfl
theorem b_Scene_leansNow_6 (sh : xSh) (M : Nat → Nat → Int32) (J : Nat → Nat → Int64) (l0 : Nat) (l1 : Nat) (k0 : Int32) (k1 : Nat) (k2 : Nat) : ev (75, 6, [.ref l0, .ref l1], [.int k0, .ref k1, .ref k2], (sh, M, J)) = (bif (decide ((sh.2.2.1 k2).1 = 6) && true) then (ev (74, 0, [.ref k2, .ref k1, .int k0, .null, .null, .null, .null, .null], [], (sh, M, J))).bind (fun r => ev (75, 9, [.ref l0, .ref l1], r.1.toList ++ [], r.2)) else none) := by
  exact ev_ca (cc := (decide ((sh.2.2.1 k2).1 = 6) && true)) (s1 := (74, 0, [.ref k2, .ref k1, .int k0, .null, .null, .null, .null, .null], [], (sh, M, J))) (k := (75, 9, [.ref l0, .ref l1], [])) f_75_6 rfl
theorem b_Scene_leansNow_9 (sh : xSh) (M : Nat → Nat → Int32) (J : Nat → Nat → Int64) (l0 : Nat) (l1 : Nat) (k0 : Int32) : ev (75, 9, [.ref l0, .ref l1], [.int k0], (sh, M, J)) = (some (some (.int k0), (sh, M, J))) := by
  exact ev_r1 f_75_9 rfl
theorem f_76_0 : xfind (xnth xTs 76) 0 = some (0, .aload_n 0, 1, (0, 0, 0, 0), .null, [], 0, 0, []) := rfl
theorem f_76_1 : xfind (xnth xTs 76) 1 = some (1, .aload_n 1, 1, (0, 0, 0, 0), .null, [], 0, 0, []) := rfl
theorem f_76_2 : xfind (xnth xTs 76) 2 = some (2, .aload_n 0, 1, (0, 0, 0, 0), .null, [], 0, 0, []) := rfl
theorem f_76_3 : xfind (xnth xTs 76) 3 = some (3, .invokevirtual 31, 3, (59, 0, 6, 1), .null, [], 490, 0, []) := rfl
theorem f_76_6 : xfind (xnth xTs 76) 6 = some (6, .invokevirtual 65, 3, (74, 2, 6, 8), .null, [], 491, 0, []) := rfl
theorem f_76_9 : xfind (xnth xTs 76) 9 = some (9, .istore_n 2, 1, (0, 0, 0, 0), .null, [], 0, 0, []) := rfl
theorem f_76_10 : xfind (xnth xTs 76) 10 = some (10, .iconst 0, 1, (0, 0, 0, 0), (.int 0), [], 0, 0, []) := rfl
theorem f_76_11 : xfind (xnth xTs 76) 11 = some (11, .istore_n 3, 1, (0, 0, 0, 0), .null, [], 0, 0, []) := rfl
theorem f_76_12 : xfind (xnth xTs 76) 12 = some (12, .iconst 0, 1, (0, 0, 0, 0), (.int 0), [], 0, 0, []) := rfl
theorem f_76_13 : xfind (xnth xTs 76) 13 = some (13, .istore 4, 2, (0, 0, 0, 0), .null, [], 0, 0, []) := rfl
theorem f_76_15 : xfind (xnth xTs 76) 15 = some (15, .iload 4, 2, (0, 0, 0, 0), .null, [], 0, 1, []) := rfl
theorem f_76_17 : xfind (xnth xTs 76) 17 = some (17, .aload_n 1, 1, (0, 0, 0, 0), .null, [], 0, 0, []) := rfl
theorem f_76_18 : xfind (xnth xTs 76) 18 = some (18, .getfield 69, 3, (1, 2, 0, 0), .null, [], 111, 0, []) := rfl
theorem f_76_21 : xfind (xnth xTs 76) 21 = some (21, .if_icmp .ge 31, 3, (0, 0, 0, 0), .null, [], 0, 0, []) := rfl
theorem f_76_24 : xfind (xnth xTs 76) 24 = some (24, .aload_n 0, 1, (0, 0, 0, 0), .null, [], 0, 0, []) := rfl
theorem f_76_25 : xfind (xnth xTs 76) 25 = some (25, .aload_n 1, 1, (0, 0, 0, 0), .null, [], 0, 0, []) := rfl
theorem f_76_26 : xfind (xnth xTs 76) 26 = some (26, .iload 4, 2, (0, 0, 0, 0), .null, [], 0, 0, []) := rfl
theorem f_76_28 : xfind (xnth xTs 76) 28 = some (28, .aload_n 0, 1, (0, 0, 0, 0), .null, [], 0, 0, []) := rfl
theorem f_76_29 : xfind (xnth xTs 76) 29 = some (29, .invokevirtual 31, 3, (59, 0, 6, 1), .null, [], 490, 0, []) := rfl
theorem f_76_32 : xfind (xnth xTs 76) 32 = some (32, .iload_n 2, 1, (0, 0, 0, 0), .null, [], 0, 0, []) := rfl
theorem f_76_33 : xfind (xnth xTs 76) 33 = some (33, .invokevirtual 72, 3, (81, 4, 6, 8), .null, [], 512, 0, []) := rfl
theorem f_76_36 : xfind (xnth xTs 76) 36 = some (36, .ifCond .eq 10, 3, (0, 0, 0, 0), .null, [], 0, 0, []) := rfl
theorem f_76_39 : xfind (xnth xTs 76) 39 = some (39, .iload_n 3, 1, (0, 0, 0, 0), .null, [], 0, 0, []) := rfl
theorem f_76_40 : xfind (xnth xTs 76) 40 = some (40, .iconst 1, 1, (0, 0, 0, 0), (.int 1), [], 0, 0, []) := rfl
theorem f_76_41 : xfind (xnth xTs 76) 41 = some (41, .iload 4, 2, (0, 0, 0, 0), .null, [], 0, 0, []) := rfl
theorem f_76_43 : xfind (xnth xTs 76) 43 = some (43, .ishl, 1, (0, 0, 0, 0), .null, [], 0, 0, []) := rfl
theorem f_76_44 : xfind (xnth xTs 76) 44 = some (44, .ior, 1, (0, 0, 0, 0), .null, [], 0, 0, []) := rfl
theorem f_76_45 : xfind (xnth xTs 76) 45 = some (45, .istore_n 3, 1, (0, 0, 0, 0), .null, [], 0, 0, []) := rfl
theorem f_76_46 : xfind (xnth xTs 76) 46 = some (46, .iinc 4 1, 3, (0, 0, 0, 0), .null, [], 0, 0, []) := rfl
theorem f_76_49 : xfind (xnth xTs 76) 49 = some (49, .goto (-34), 3, (0, 0, 0, 0), .null, [], 0, 0, []) := rfl
theorem f_76_52 : xfind (xnth xTs 76) 52 = some (52, .iload_n 3, 1, (0, 0, 0, 0), .null, [], 0, 0, []) := rfl
theorem f_76_53 : xfind (xnth xTs 76) 53 = some (53, .ireturn, 1, (0, 0, 0, 0), .null, [], 0, 0, []) := rfl
theorem hd_76_15 : xhead 76 15 = some [] := rfl
theorem b_Scene_shownNow_0 (sh : xSh) (M : Nat → Nat → Int32) (J : Nat → Nat → Int64) (l0 : Nat) (l1 : Nat) : ev (76, 0, [.ref l0, .ref l1, .null, .null, .null], [], (sh, M, J)) = (bif (decide ((sh.2.2.1 l0).1 = 6) && true) then (ev (59, 0, [.ref l0], [], (sh, M, J))).bind (fun r => ev (76, 6, [.ref l0, .ref l1, .null, .null, .null], r.1.toList ++ [.ref l1, .ref l0], r.2)) else none) := by
  refine ev_nx (s1 := (76, 1, [.ref l0, .ref l1, .null, .null, .null], [.ref l0], (sh, M, J))) f_76_0 rfl ?_
  refine ev_nx (s1 := (76, 2, [.ref l0, .ref l1, .null, .null, .null], [.ref l1, .ref l0], (sh, M, J))) f_76_1 rfl ?_
  refine ev_nx (s1 := (76, 3, [.ref l0, .ref l1, .null, .null, .null], [.ref l0, .ref l1, .ref l0], (sh, M, J))) f_76_2 rfl ?_
  exact ev_ca (cc := (decide ((sh.2.2.1 l0).1 = 6) && true)) (s1 := (59, 0, [.ref l0], [], (sh, M, J))) (k := (76, 6, [.ref l0, .ref l1, .null, .null, .null], [.ref l1, .ref l0])) f_76_3 rfl
theorem b_Scene_shownNow_6 (sh : xSh) (M : Nat → Nat → Int32) (J : Nat → Nat → Int64) (l0 : Nat) (l1 : Nat) (k0 : Int32) (k1 : Nat) (k2 : Nat) : ev (76, 6, [.ref l0, .ref l1, .null, .null, .null], [.int k0, .ref k1, .ref k2], (sh, M, J)) = (bif (decide ((sh.2.2.1 k2).1 = 6) && true) then (ev (74, 0, [.ref k2, .ref k1, .int k0, .null, .null, .null, .null, .null], [], (sh, M, J))).bind (fun r => ev (76, 9, [.ref l0, .ref l1, .null, .null, .null], r.1.toList ++ [], r.2)) else none) := by
  exact ev_ca (cc := (decide ((sh.2.2.1 k2).1 = 6) && true)) (s1 := (74, 0, [.ref k2, .ref k1, .int k0, .null, .null, .null, .null, .null], [], (sh, M, J))) (k := (76, 9, [.ref l0, .ref l1, .null, .null, .null], [])) f_76_6 rfl
theorem b_Scene_shownNow_9 (sh : xSh) (M : Nat → Nat → Int32) (J : Nat → Nat → Int64) (l0 : Nat) (l1 : Nat) (k0 : Int32) : ev (76, 9, [.ref l0, .ref l1, .null, .null, .null], [.int k0], (sh, M, J)) = (ev (76, 15, [.ref l0, .ref l1, .int k0, .int 0, .int 0], [], (sh, M, J))) := by
  refine ev_nx (s1 := (76, 10, [.ref l0, .ref l1, .int k0, .null, .null], [], (sh, M, J))) f_76_9 rfl ?_
  refine ev_nx (s1 := (76, 11, [.ref l0, .ref l1, .int k0, .null, .null], [.int 0], (sh, M, J))) f_76_10 rfl ?_
  refine ev_nx (s1 := (76, 12, [.ref l0, .ref l1, .int k0, .int 0, .null], [], (sh, M, J))) f_76_11 rfl ?_
  refine ev_nx (s1 := (76, 13, [.ref l0, .ref l1, .int k0, .int 0, .null], [.int 0], (sh, M, J))) f_76_12 rfl ?_
  refine ev_nx (s1 := (76, 15, [.ref l0, .ref l1, .int k0, .int 0, .int 0], [], (sh, M, J))) f_76_13 rfl ?_
  exact rfl
theorem b_Scene_shownNow_15 (sh : xSh) (M : Nat → Nat → Int32) (J : Nat → Nat → Int64) (l0 : Nat) (l1 : Nat) (l2 : Int32) (l3 : Int32) (l4 : Int32) : ev (76, 15, [.ref l0, .ref l1, .int l2, .int l3, .int l4], [], (sh, M, J)) = (bif decide ((sh.2.2.1 l1).1 = 1) then bif decide ((M l1 2) ≤ l4) then some (some (.int l3), (sh, M, J)) else bif (decide ((sh.2.2.1 l0).1 = 6) && true) then (ev (59, 0, [.ref l0], [], (sh, M, J))).bind (fun r => ev (76, 32, [.ref l0, .ref l1, .int l2, .int l3, .int l4], r.1.toList ++ [.int l4, .ref l1, .ref l0], r.2)) else none else none) := by
  refine ev_nx (s1 := (76, 17, [.ref l0, .ref l1, .int l2, .int l3, .int l4], [.int l4], (sh, M, J))) f_76_15 rfl ?_
  refine ev_nx (s1 := (76, 18, [.ref l0, .ref l1, .int l2, .int l3, .int l4], [.ref l1, .int l4], (sh, M, J))) f_76_17 rfl ?_
  refine ev_gd (s1 := (76, 21, [.ref l0, .ref l1, .int l2, .int l3, .int l4], [.int (M l1 2), .int l4], (sh, M, J))) f_76_18 rfl ?_
  refine ev_br (s1 := (76, 52, [.ref l0, .ref l1, .int l2, .int l3, .int l4], [], (sh, M, J))) (s2 := (76, 24, [.ref l0, .ref l1, .int l2, .int l3, .int l4], [], (sh, M, J))) f_76_21 rfl ?_ ?_
  · refine ev_nx (s1 := (76, 53, [.ref l0, .ref l1, .int l2, .int l3, .int l4], [.int l3], (sh, M, J))) f_76_52 rfl ?_
    exact ev_r1 f_76_53 rfl
  · refine ev_nx (s1 := (76, 25, [.ref l0, .ref l1, .int l2, .int l3, .int l4], [.ref l0], (sh, M, J))) f_76_24 rfl ?_
    refine ev_nx (s1 := (76, 26, [.ref l0, .ref l1, .int l2, .int l3, .int l4], [.ref l1, .ref l0], (sh, M, J))) f_76_25 rfl ?_
    refine ev_nx (s1 := (76, 28, [.ref l0, .ref l1, .int l2, .int l3, .int l4], [.int l4, .ref l1, .ref l0], (sh, M, J))) f_76_26 rfl ?_
    refine ev_nx (s1 := (76, 29, [.ref l0, .ref l1, .int l2, .int l3, .int l4], [.ref l0, .int l4, .ref l1, .ref l0], (sh, M, J))) f_76_28 rfl ?_
    exact ev_ca (cc := (decide ((sh.2.2.1 l0).1 = 6) && true)) (s1 := (59, 0, [.ref l0], [], (sh, M, J))) (k := (76, 32, [.ref l0, .ref l1, .int l2, .int l3, .int l4], [.int l4, .ref l1, .ref l0])) f_76_29 rfl
theorem b_Scene_shownNow_32 (sh : xSh) (M : Nat → Nat → Int32) (J : Nat → Nat → Int64) (l0 : Nat) (l1 : Nat) (l2 : Int32) (l3 : Int32) (l4 : Int32) (k0 : Int32) (k1 : Int32) (k2 : Nat) (k3 : Nat) : ev (76, 32, [.ref l0, .ref l1, .int l2, .int l3, .int l4], [.int k0, .int k1, .ref k2, .ref k3], (sh, M, J)) = (bif (decide ((sh.2.2.1 k3).1 = 6) && true) then (ev (81, 0, [.ref k3, .ref k2, .int k1, .int k0, .int l2, .null, .null, .null], [], (sh, M, J))).bind (fun r => ev (76, 36, [.ref l0, .ref l1, .int l2, .int l3, .int l4], r.1.toList ++ [], r.2)) else none) := by
  refine ev_nx (s1 := (76, 33, [.ref l0, .ref l1, .int l2, .int l3, .int l4], [.int l2, .int k0, .int k1, .ref k2, .ref k3], (sh, M, J))) f_76_32 rfl ?_
  exact ev_ca (cc := (decide ((sh.2.2.1 k3).1 = 6) && true)) (s1 := (81, 0, [.ref k3, .ref k2, .int k1, .int k0, .int l2, .null, .null, .null], [], (sh, M, J))) (k := (76, 36, [.ref l0, .ref l1, .int l2, .int l3, .int l4], [])) f_76_33 rfl
theorem b_Scene_shownNow_36 (sh : xSh) (M : Nat → Nat → Int32) (J : Nat → Nat → Int64) (l0 : Nat) (l1 : Nat) (l2 : Int32) (l3 : Int32) (l4 : Int32) (k0 : Int32) : ev (76, 36, [.ref l0, .ref l1, .int l2, .int l3, .int l4], [.int k0], (sh, M, J)) = (bif decide (k0 = 0) then ev (76, 15, [.ref l0, .ref l1, .int l2, .int l3, .int (l4 + 1)], [], (sh, M, J)) else ev (76, 15, [.ref l0, .ref l1, .int l2, .int (l3 ||| ((1 : Int32) <<< (l4 &&& 31))), .int (l4 + 1)], [], (sh, M, J))) := by
  refine ev_br (s1 := (76, 46, [.ref l0, .ref l1, .int l2, .int l3, .int l4], [], (sh, M, J))) (s2 := (76, 39, [.ref l0, .ref l1, .int l2, .int l3, .int l4], [], (sh, M, J))) f_76_36 rfl ?_ ?_
  · refine ev_nx (s1 := (76, 49, [.ref l0, .ref l1, .int l2, .int l3, .int (l4 + 1)], [], (sh, M, J))) f_76_46 rfl ?_
    refine ev_nx (s1 := (76, 15, [.ref l0, .ref l1, .int l2, .int l3, .int (l4 + 1)], [], (sh, M, J))) f_76_49 rfl ?_
    exact rfl
  · refine ev_nx (s1 := (76, 40, [.ref l0, .ref l1, .int l2, .int l3, .int l4], [.int l3], (sh, M, J))) f_76_39 rfl ?_
    refine ev_nx (s1 := (76, 41, [.ref l0, .ref l1, .int l2, .int l3, .int l4], [.int 1, .int l3], (sh, M, J))) f_76_40 rfl ?_
    refine ev_nx (s1 := (76, 43, [.ref l0, .ref l1, .int l2, .int l3, .int l4], [.int l4, .int 1, .int l3], (sh, M, J))) f_76_41 rfl ?_
    refine ev_nx (s1 := (76, 44, [.ref l0, .ref l1, .int l2, .int l3, .int l4], [.int ((1 : Int32) <<< (l4 &&& 31)), .int l3], (sh, M, J))) f_76_43 rfl ?_
    refine ev_nx (s1 := (76, 45, [.ref l0, .ref l1, .int l2, .int l3, .int l4], [.int (l3 ||| ((1 : Int32) <<< (l4 &&& 31)))], (sh, M, J))) f_76_44 rfl ?_
    refine ev_nx (s1 := (76, 46, [.ref l0, .ref l1, .int l2, .int (l3 ||| ((1 : Int32) <<< (l4 &&& 31))), .int l4], [], (sh, M, J))) f_76_45 rfl ?_
    refine ev_nx (s1 := (76, 49, [.ref l0, .ref l1, .int l2, .int (l3 ||| ((1 : Int32) <<< (l4 &&& 31))), .int (l4 + 1)], [], (sh, M, J))) f_76_46 rfl ?_
    refine ev_nx (s1 := (76, 15, [.ref l0, .ref l1, .int l2, .int (l3 ||| ((1 : Int32) <<< (l4 &&& 31))), .int (l4 + 1)], [], (sh, M, J))) f_76_49 rfl ?_
    exact rfl
theorem f_77_0 : xfind (xnth xTs 77) 0 = some (0, .iload_n 3, 1, (0, 0, 0, 0), .null, [], 0, 0, []) := rfl
theorem f_77_1 : xfind (xnth xTs 77) 1 = some (1, .iconst 0, 1, (0, 0, 0, 0), (.int 0), [], 0, 0, []) := rfl
theorem f_77_2 : xfind (xnth xTs 77) 2 = some (2, .bipush 19, 2, (0, 0, 0, 0), (.int 19), [], 0, 0, []) := rfl
theorem f_77_4 : xfind (xnth xTs 77) 4 = some (4, .invokestatic 76, 3, (125, 3, 8, 3), .null, [], 521, 0, []) := rfl
theorem f_77_7 : xfind (xnth xTs 77) 7 = some (7, .ifCond .eq 9, 3, (0, 0, 0, 0), .null, [], 0, 0, []) := rfl
theorem f_77_10 : xfind (xnth xTs 77) 10 = some (10, .iconst 1, 1, (0, 0, 0, 0), (.int 1), [], 0, 0, []) := rfl
theorem f_77_11 : xfind (xnth xTs 77) 11 = some (11, .iload_n 3, 1, (0, 0, 0, 0), .null, [], 0, 0, []) := rfl
theorem f_77_12 : xfind (xnth xTs 77) 12 = some (12, .ishl, 1, (0, 0, 0, 0), .null, [], 0, 0, []) := rfl
theorem f_77_13 : xfind (xnth xTs 77) 13 = some (13, .goto 4, 3, (0, 0, 0, 0), .null, [], 0, 0, []) := rfl
theorem f_77_16 : xfind (xnth xTs 77) 16 = some (16, .iconst 0, 1, (0, 0, 0, 0), (.int 0), [], 0, 0, []) := rfl
theorem f_77_17 : xfind (xnth xTs 77) 17 = some (17, .istore 4, 2, (0, 0, 0, 0), .null, [], 0, 0, []) := rfl
theorem f_77_19 : xfind (xnth xTs 77) 19 = some (19, .aload_n 0, 1, (0, 0, 0, 0), .null, [], 0, 0, []) := rfl
theorem f_77_20 : xfind (xnth xTs 77) 20 = some (20, .aload_n 1, 1, (0, 0, 0, 0), .null, [], 0, 0, []) := rfl
theorem f_77_21 : xfind (xnth xTs 77) 21 = some (21, .iload_n 2, 1, (0, 0, 0, 0), .null, [], 0, 0, []) := rfl
theorem f_77_22 : xfind (xnth xTs 77) 22 = some (22, .iload 4, 2, (0, 0, 0, 0), .null, [], 0, 0, []) := rfl
theorem f_77_24 : xfind (xnth xTs 77) 24 = some (24, .aload_n 0, 1, (0, 0, 0, 0), .null, [], 0, 0, []) := rfl
theorem f_77_25 : xfind (xnth xTs 77) 25 = some (25, .aload_n 1, 1, (0, 0, 0, 0), .null, [], 0, 0, []) := rfl
theorem f_77_26 : xfind (xnth xTs 77) 26 = some (26, .iload 4, 2, (0, 0, 0, 0), .null, [], 0, 0, []) := rfl
theorem f_77_28 : xfind (xnth xTs 77) 28 = some (28, .invokevirtual 65, 3, (74, 2, 6, 8), .null, [], 491, 0, []) := rfl
theorem f_77_31 : xfind (xnth xTs 77) 31 = some (31, .invokevirtual 72, 3, (81, 4, 6, 8), .null, [], 512, 0, []) := rfl
theorem f_77_34 : xfind (xnth xTs 77) 34 = some (34, .ireturn, 1, (1, 0, 0, 0), .null, [], 0, 0, []) := rfl
theorem b_Scene_isShownByLone_0 (sh : xSh) (M : Nat → Nat → Int32) (J : Nat → Nat → Int64) (l0 : Nat) (l1 : Nat) (l2 : Int32) (l3 : Int32) : ev (77, 0, [.ref l0, .ref l1, .int l2, .int l3, .null], [], (sh, M, J)) = ((ev (125, 0, [.int l3, .int 0, .int 19], [], (sh, M, J))).bind (fun r => ev (77, 7, [.ref l0, .ref l1, .int l2, .int l3, .null], r.1.toList ++ [], r.2))) := by
  refine ev_nx (s1 := (77, 1, [.ref l0, .ref l1, .int l2, .int l3, .null], [.int l3], (sh, M, J))) f_77_0 rfl ?_
  refine ev_nx (s1 := (77, 2, [.ref l0, .ref l1, .int l2, .int l3, .null], [.int 0, .int l3], (sh, M, J))) f_77_1 rfl ?_
  refine ev_nx (s1 := (77, 4, [.ref l0, .ref l1, .int l2, .int l3, .null], [.int 19, .int 0, .int l3], (sh, M, J))) f_77_2 rfl ?_
  exact ev_c1 (s1 := (125, 0, [.int l3, .int 0, .int 19], [], (sh, M, J))) (k := (77, 7, [.ref l0, .ref l1, .int l2, .int l3, .null], [])) f_77_4 rfl
theorem b_Scene_isShownByLone_7 (sh : xSh) (M : Nat → Nat → Int32) (J : Nat → Nat → Int64) (l0 : Nat) (l1 : Nat) (l2 : Int32) (l3 : Int32) (k0 : Int32) : ev (77, 7, [.ref l0, .ref l1, .int l2, .int l3, .null], [.int k0], (sh, M, J)) = (bif decide (k0 = 0) then bif (decide ((sh.2.2.1 l0).1 = 6) && true) then (ev (74, 0, [.ref l0, .ref l1, .int 0, .null, .null, .null, .null, .null], [], (sh, M, J))).bind (fun r => ev (77, 31, [.ref l0, .ref l1, .int l2, .int l3, .int 0], r.1.toList ++ [.int 0, .int l2, .ref l1, .ref l0], r.2)) else none else bif (decide ((sh.2.2.1 l0).1 = 6) && true) then (ev (74, 0, [.ref l0, .ref l1, .int ((1 : Int32) <<< (l3 &&& 31)), .null, .null, .null, .null, .null], [], (sh, M, J))).bind (fun r => ev (77, 31, [.ref l0, .ref l1, .int l2, .int l3, .int ((1 : Int32) <<< (l3 &&& 31))], r.1.toList ++ [.int ((1 : Int32) <<< (l3 &&& 31)), .int l2, .ref l1, .ref l0], r.2)) else none) := by
  refine ev_br (s1 := (77, 16, [.ref l0, .ref l1, .int l2, .int l3, .null], [], (sh, M, J))) (s2 := (77, 10, [.ref l0, .ref l1, .int l2, .int l3, .null], [], (sh, M, J))) f_77_7 rfl ?_ ?_
  · refine ev_nx (s1 := (77, 17, [.ref l0, .ref l1, .int l2, .int l3, .null], [.int 0], (sh, M, J))) f_77_16 rfl ?_
    refine ev_nx (s1 := (77, 19, [.ref l0, .ref l1, .int l2, .int l3, .int 0], [], (sh, M, J))) f_77_17 rfl ?_
    refine ev_nx (s1 := (77, 20, [.ref l0, .ref l1, .int l2, .int l3, .int 0], [.ref l0], (sh, M, J))) f_77_19 rfl ?_
    refine ev_nx (s1 := (77, 21, [.ref l0, .ref l1, .int l2, .int l3, .int 0], [.ref l1, .ref l0], (sh, M, J))) f_77_20 rfl ?_
    refine ev_nx (s1 := (77, 22, [.ref l0, .ref l1, .int l2, .int l3, .int 0], [.int l2, .ref l1, .ref l0], (sh, M, J))) f_77_21 rfl ?_
    refine ev_nx (s1 := (77, 24, [.ref l0, .ref l1, .int l2, .int l3, .int 0], [.int 0, .int l2, .ref l1, .ref l0], (sh, M, J))) f_77_22 rfl ?_
    refine ev_nx (s1 := (77, 25, [.ref l0, .ref l1, .int l2, .int l3, .int 0], [.ref l0, .int 0, .int l2, .ref l1, .ref l0], (sh, M, J))) f_77_24 rfl ?_
    refine ev_nx (s1 := (77, 26, [.ref l0, .ref l1, .int l2, .int l3, .int 0], [.ref l1, .ref l0, .int 0, .int l2, .ref l1, .ref l0], (sh, M, J))) f_77_25 rfl ?_
    refine ev_nx (s1 := (77, 28, [.ref l0, .ref l1, .int l2, .int l3, .int 0], [.int 0, .ref l1, .ref l0, .int 0, .int l2, .ref l1, .ref l0], (sh, M, J))) f_77_26 rfl ?_
    exact ev_ca (cc := (decide ((sh.2.2.1 l0).1 = 6) && true)) (s1 := (74, 0, [.ref l0, .ref l1, .int 0, .null, .null, .null, .null, .null], [], (sh, M, J))) (k := (77, 31, [.ref l0, .ref l1, .int l2, .int l3, .int 0], [.int 0, .int l2, .ref l1, .ref l0])) f_77_28 rfl
  · refine ev_nx (s1 := (77, 11, [.ref l0, .ref l1, .int l2, .int l3, .null], [.int 1], (sh, M, J))) f_77_10 rfl ?_
    refine ev_nx (s1 := (77, 12, [.ref l0, .ref l1, .int l2, .int l3, .null], [.int l3, .int 1], (sh, M, J))) f_77_11 rfl ?_
    refine ev_nx (s1 := (77, 13, [.ref l0, .ref l1, .int l2, .int l3, .null], [.int ((1 : Int32) <<< (l3 &&& 31))], (sh, M, J))) f_77_12 rfl ?_
    refine ev_nx (s1 := (77, 17, [.ref l0, .ref l1, .int l2, .int l3, .null], [.int ((1 : Int32) <<< (l3 &&& 31))], (sh, M, J))) f_77_13 rfl ?_
    refine ev_nx (s1 := (77, 19, [.ref l0, .ref l1, .int l2, .int l3, .int ((1 : Int32) <<< (l3 &&& 31))], [], (sh, M, J))) f_77_17 rfl ?_
    refine ev_nx (s1 := (77, 20, [.ref l0, .ref l1, .int l2, .int l3, .int ((1 : Int32) <<< (l3 &&& 31))], [.ref l0], (sh, M, J))) f_77_19 rfl ?_
    refine ev_nx (s1 := (77, 21, [.ref l0, .ref l1, .int l2, .int l3, .int ((1 : Int32) <<< (l3 &&& 31))], [.ref l1, .ref l0], (sh, M, J))) f_77_20 rfl ?_
    refine ev_nx (s1 := (77, 22, [.ref l0, .ref l1, .int l2, .int l3, .int ((1 : Int32) <<< (l3 &&& 31))], [.int l2, .ref l1, .ref l0], (sh, M, J))) f_77_21 rfl ?_
    refine ev_nx (s1 := (77, 24, [.ref l0, .ref l1, .int l2, .int l3, .int ((1 : Int32) <<< (l3 &&& 31))], [.int ((1 : Int32) <<< (l3 &&& 31)), .int l2, .ref l1, .ref l0], (sh, M, J))) f_77_22 rfl ?_
    refine ev_nx (s1 := (77, 25, [.ref l0, .ref l1, .int l2, .int l3, .int ((1 : Int32) <<< (l3 &&& 31))], [.ref l0, .int ((1 : Int32) <<< (l3 &&& 31)), .int l2, .ref l1, .ref l0], (sh, M, J))) f_77_24 rfl ?_
    refine ev_nx (s1 := (77, 26, [.ref l0, .ref l1, .int l2, .int l3, .int ((1 : Int32) <<< (l3 &&& 31))], [.ref l1, .ref l0, .int ((1 : Int32) <<< (l3 &&& 31)), .int l2, .ref l1, .ref l0], (sh, M, J))) f_77_25 rfl ?_
    refine ev_nx (s1 := (77, 28, [.ref l0, .ref l1, .int l2, .int l3, .int ((1 : Int32) <<< (l3 &&& 31))], [.int ((1 : Int32) <<< (l3 &&& 31)), .ref l1, .ref l0, .int ((1 : Int32) <<< (l3 &&& 31)), .int l2, .ref l1, .ref l0], (sh, M, J))) f_77_26 rfl ?_
    exact ev_ca (cc := (decide ((sh.2.2.1 l0).1 = 6) && true)) (s1 := (74, 0, [.ref l0, .ref l1, .int ((1 : Int32) <<< (l3 &&& 31)), .null, .null, .null, .null, .null], [], (sh, M, J))) (k := (77, 31, [.ref l0, .ref l1, .int l2, .int l3, .int ((1 : Int32) <<< (l3 &&& 31))], [.int ((1 : Int32) <<< (l3 &&& 31)), .int l2, .ref l1, .ref l0])) f_77_28 rfl
theorem b_Scene_isShownByLone_31 (sh : xSh) (M : Nat → Nat → Int32) (J : Nat → Nat → Int64) (l0 : Nat) (l1 : Nat) (l2 : Int32) (l3 : Int32) (l4 : Int32) (k0 : Int32) (k1 : Int32) (k2 : Int32) (k3 : Nat) (k4 : Nat) : ev (77, 31, [.ref l0, .ref l1, .int l2, .int l3, .int l4], [.int k0, .int k1, .int k2, .ref k3, .ref k4], (sh, M, J)) = (bif (decide ((sh.2.2.1 k4).1 = 6) && true) then (ev (81, 0, [.ref k4, .ref k3, .int k2, .int k1, .int k0, .null, .null, .null], [], (sh, M, J))).bind (fun r => ev (77, 34, [.ref l0, .ref l1, .int l2, .int l3, .int l4], r.1.toList ++ [], r.2)) else none) := by
  exact ev_ca (cc := (decide ((sh.2.2.1 k4).1 = 6) && true)) (s1 := (81, 0, [.ref k4, .ref k3, .int k2, .int k1, .int k0, .null, .null, .null], [], (sh, M, J))) (k := (77, 34, [.ref l0, .ref l1, .int l2, .int l3, .int l4], [])) f_77_31 rfl
theorem b_Scene_isShownByLone_34 (sh : xSh) (M : Nat → Nat → Int32) (J : Nat → Nat → Int64) (l0 : Nat) (l1 : Nat) (l2 : Int32) (l3 : Int32) (l4 : Int32) (k0 : Int32) : ev (77, 34, [.ref l0, .ref l1, .int l2, .int l3, .int l4], [.int k0], (sh, M, J)) = (bif ((k0 &&& 1) == k0) then some (some (.int k0), (sh, M, J)) else none) := by
  exact ev_rt f_77_34 rfl
theorem f_78_0 : xfind (xnth xTs 78) 0 = some (0, .aload_n 0, 1, (0, 0, 0, 0), .null, [], 0, 0, []) := rfl
theorem f_78_1 : xfind (xnth xTs 78) 1 = some (1, .aload_n 1, 1, (0, 0, 0, 0), .null, [], 0, 0, []) := rfl
theorem f_78_2 : xfind (xnth xTs 78) 2 = some (2, .invokevirtual 80, 3, (76, 1, 6, 5), .null, [], 626, 0, []) := rfl
theorem f_78_5 : xfind (xnth xTs 78) 5 = some (5, .istore_n 2, 1, (0, 0, 0, 0), .null, [], 0, 0, []) := rfl
theorem f_78_6 : xfind (xnth xTs 78) 6 = some (6, .iconst 0, 1, (0, 0, 0, 0), (.int 0), [], 0, 0, []) := rfl
theorem f_78_7 : xfind (xnth xTs 78) 7 = some (7, .istore_n 3, 1, (0, 0, 0, 0), .null, [], 0, 0, []) := rfl
theorem f_78_8 : xfind (xnth xTs 78) 8 = some (8, .iload_n 3, 1, (0, 0, 0, 0), .null, [], 0, 1, []) := rfl
theorem f_78_9 : xfind (xnth xTs 78) 9 = some (9, .aload_n 1, 1, (0, 0, 0, 0), .null, [], 0, 0, []) := rfl
theorem f_78_10 : xfind (xnth xTs 78) 10 = some (10, .getfield 69, 3, (1, 2, 0, 0), .null, [], 111, 0, []) := rfl
theorem f_78_13 : xfind (xnth xTs 78) 13 = some (13, .if_icmp .ge 23, 3, (0, 0, 0, 0), .null, [], 0, 0, []) := rfl
theorem f_78_16 : xfind (xnth xTs 78) 16 = some (16, .iload_n 2, 1, (0, 0, 0, 0), .null, [], 0, 0, []) := rfl
theorem f_78_17 : xfind (xnth xTs 78) 17 = some (17, .iload_n 3, 1, (0, 0, 0, 0), .null, [], 0, 0, []) := rfl
theorem f_78_18 : xfind (xnth xTs 78) 18 = some (18, .invokestatic 34, 3, (127, 2, 8, 2), .null, [], 499, 0, []) := rfl
theorem f_78_21 : xfind (xnth xTs 78) 21 = some (21, .ifCond .eq 9, 3, (0, 0, 0, 0), .null, [], 0, 0, []) := rfl
theorem f_78_24 : xfind (xnth xTs 78) 24 = some (24, .aload_n 0, 1, (0, 0, 0, 0), .null, [], 0, 0, []) := rfl
theorem f_78_25 : xfind (xnth xTs 78) 25 = some (25, .aload_n 1, 1, (0, 0, 0, 0), .null, [], 0, 0, []) := rfl
theorem f_78_26 : xfind (xnth xTs 78) 26 = some (26, .iload_n 3, 1, (0, 0, 0, 0), .null, [], 0, 0, []) := rfl
theorem f_78_27 : xfind (xnth xTs 78) 27 = some (27, .invokevirtual 83, 3, (82, 2, 6, 4), .null, [], 627, 0, []) := rfl
theorem f_78_30 : xfind (xnth xTs 78) 30 = some (30, .iinc 3 1, 3, (0, 0, 0, 0), .null, [], 0, 0, []) := rfl
theorem f_78_33 : xfind (xnth xTs 78) 33 = some (33, .goto (-25), 3, (0, 0, 0, 0), .null, [], 0, 0, []) := rfl
theorem f_78_36 : xfind (xnth xTs 78) 36 = some (36, .aload_n 0, 1, (0, 0, 0, 0), .null, [], 0, 0, []) := rfl
theorem f_78_37 : xfind (xnth xTs 78) 37 = some (37, .getfield 11, 3, (6, 0, 1, 0), .null, [], 138, 0, []) := rfl
theorem f_78_40 : xfind (xnth xTs 78) 40 = some (40, .iconst 1, 1, (0, 0, 0, 0), (.int 1), [], 0, 0, []) := rfl
theorem f_78_41 : xfind (xnth xTs 78) 41 = some (41, .dup2, 1, (0, 0, 0, 0), .null, [], 0, 0, []) := rfl
theorem f_78_42 : xfind (xnth xTs 78) 42 = some (42, .iaload, 1, (0, 0, 0, 0), .null, [], 0, 0, []) := rfl
theorem f_78_43 : xfind (xnth xTs 78) 43 = some (43, .iconst 1, 1, (0, 0, 0, 0), (.int 1), [], 0, 0, []) := rfl
theorem f_78_44 : xfind (xnth xTs 78) 44 = some (44, .iadd, 1, (0, 0, 0, 0), .null, [], 0, 0, []) := rfl
theorem f_78_45 : xfind (xnth xTs 78) 45 = some (45, .iastore, 1, (0, 0, 0, 0), .null, [], 0, 0, []) := rfl
theorem f_78_46 : xfind (xnth xTs 78) 46 = some (46, .iload_n 2, 1, (0, 0, 0, 0), .null, [], 0, 0, []) := rfl
theorem f_78_47 : xfind (xnth xTs 78) 47 = some (47, .ireturn, 1, (0, 0, 0, 0), .null, [], 0, 0, []) := rfl
theorem hd_78_8 : xhead 78 8 = some [] := rfl
theorem b_Scene_playNight_0 (sh : xSh) (M : Nat → Nat → Int32) (J : Nat → Nat → Int64) (l0 : Nat) (l1 : Nat) : ev (78, 0, [.ref l0, .ref l1, .null, .null], [], (sh, M, J)) = (bif (decide ((sh.2.2.1 l0).1 = 6) && true) then (ev (76, 0, [.ref l0, .ref l1, .null, .null, .null], [], (sh, M, J))).bind (fun r => ev (78, 5, [.ref l0, .ref l1, .null, .null], r.1.toList ++ [], r.2)) else none) := by
  refine ev_nx (s1 := (78, 1, [.ref l0, .ref l1, .null, .null], [.ref l0], (sh, M, J))) f_78_0 rfl ?_
  refine ev_nx (s1 := (78, 2, [.ref l0, .ref l1, .null, .null], [.ref l1, .ref l0], (sh, M, J))) f_78_1 rfl ?_
  exact ev_ca (cc := (decide ((sh.2.2.1 l0).1 = 6) && true)) (s1 := (76, 0, [.ref l0, .ref l1, .null, .null, .null], [], (sh, M, J))) (k := (78, 5, [.ref l0, .ref l1, .null, .null], [])) f_78_2 rfl
theorem b_Scene_playNight_5 (sh : xSh) (M : Nat → Nat → Int32) (J : Nat → Nat → Int64) (l0 : Nat) (l1 : Nat) (k0 : Int32) : ev (78, 5, [.ref l0, .ref l1, .null, .null], [.int k0], (sh, M, J)) = (ev (78, 8, [.ref l0, .ref l1, .int k0, .int 0], [], (sh, M, J))) := by
  refine ev_nx (s1 := (78, 6, [.ref l0, .ref l1, .int k0, .null], [], (sh, M, J))) f_78_5 rfl ?_
  refine ev_nx (s1 := (78, 7, [.ref l0, .ref l1, .int k0, .null], [.int 0], (sh, M, J))) f_78_6 rfl ?_
  refine ev_nx (s1 := (78, 8, [.ref l0, .ref l1, .int k0, .int 0], [], (sh, M, J))) f_78_7 rfl ?_
  exact rfl
theorem b_Scene_playNight_8 (sh : xSh) (M : Nat → Nat → Int32) (J : Nat → Nat → Int64) (l0 : Nat) (l1 : Nat) (l2 : Int32) (l3 : Int32) : ev (78, 8, [.ref l0, .ref l1, .int l2, .int l3], [], (sh, M, J)) = (bif decide ((sh.2.2.1 l1).1 = 1) then bif decide ((M l1 2) ≤ l3) then bif decide ((sh.2.2.1 l0).1 = 6) then bif (decide ((sh.2.2.1 (sh.2.2.2 l0 0)).1 = 11) && xin 1 (sh.2.2.1 (sh.2.2.2 l0 0)).2) then bif (decide ((sh.2.2.1 (sh.2.2.2 l0 0)).1 = 11) && xin 1 (sh.2.2.1 (sh.2.2.2 l0 0)).2) then some (some (.int l2), (sh, (xu M (sh.2.2.2 l0 0) (1 : Int32).toNatClampNeg ((M (sh.2.2.2 l0 0) (1 : Int32).toNatClampNeg) + 1)), J)) else none else none else none else (ev (127, 0, [.int l2, .int l3], [], (sh, M, J))).bind (fun r => ev (78, 21, [.ref l0, .ref l1, .int l2, .int l3], r.1.toList ++ [], r.2)) else none) := by
  refine ev_nx (s1 := (78, 9, [.ref l0, .ref l1, .int l2, .int l3], [.int l3], (sh, M, J))) f_78_8 rfl ?_
  refine ev_nx (s1 := (78, 10, [.ref l0, .ref l1, .int l2, .int l3], [.ref l1, .int l3], (sh, M, J))) f_78_9 rfl ?_
  refine ev_gd (s1 := (78, 13, [.ref l0, .ref l1, .int l2, .int l3], [.int (M l1 2), .int l3], (sh, M, J))) f_78_10 rfl ?_
  refine ev_br (s1 := (78, 36, [.ref l0, .ref l1, .int l2, .int l3], [], (sh, M, J))) (s2 := (78, 16, [.ref l0, .ref l1, .int l2, .int l3], [], (sh, M, J))) f_78_13 rfl ?_ ?_
  · refine ev_nx (s1 := (78, 37, [.ref l0, .ref l1, .int l2, .int l3], [.ref l0], (sh, M, J))) f_78_36 rfl ?_
    refine ev_gd (s1 := (78, 40, [.ref l0, .ref l1, .int l2, .int l3], [.ref (sh.2.2.2 l0 0)], (sh, M, J))) f_78_37 rfl ?_
    refine ev_nx (s1 := (78, 41, [.ref l0, .ref l1, .int l2, .int l3], [.int 1, .ref (sh.2.2.2 l0 0)], (sh, M, J))) f_78_40 rfl ?_
    refine ev_nx (s1 := (78, 42, [.ref l0, .ref l1, .int l2, .int l3], [.int 1, .ref (sh.2.2.2 l0 0), .int 1, .ref (sh.2.2.2 l0 0)], (sh, M, J))) f_78_41 rfl ?_
    refine ev_gd (s1 := (78, 43, [.ref l0, .ref l1, .int l2, .int l3], [.int (M (sh.2.2.2 l0 0) (1 : Int32).toNatClampNeg), .int 1, .ref (sh.2.2.2 l0 0)], (sh, M, J))) f_78_42 rfl ?_
    refine ev_nx (s1 := (78, 44, [.ref l0, .ref l1, .int l2, .int l3], [.int 1, .int (M (sh.2.2.2 l0 0) (1 : Int32).toNatClampNeg), .int 1, .ref (sh.2.2.2 l0 0)], (sh, M, J))) f_78_43 rfl ?_
    refine ev_nx (s1 := (78, 45, [.ref l0, .ref l1, .int l2, .int l3], [.int ((M (sh.2.2.2 l0 0) (1 : Int32).toNatClampNeg) + 1), .int 1, .ref (sh.2.2.2 l0 0)], (sh, M, J))) f_78_44 rfl ?_
    refine ev_gd (s1 := (78, 46, [.ref l0, .ref l1, .int l2, .int l3], [], (sh, (xu M (sh.2.2.2 l0 0) (1 : Int32).toNatClampNeg ((M (sh.2.2.2 l0 0) (1 : Int32).toNatClampNeg) + 1)), J))) f_78_45 rfl ?_
    refine ev_nx (s1 := (78, 47, [.ref l0, .ref l1, .int l2, .int l3], [.int l2], (sh, (xu M (sh.2.2.2 l0 0) (1 : Int32).toNatClampNeg ((M (sh.2.2.2 l0 0) (1 : Int32).toNatClampNeg) + 1)), J))) f_78_46 rfl ?_
    exact ev_r1 f_78_47 rfl
  · refine ev_nx (s1 := (78, 17, [.ref l0, .ref l1, .int l2, .int l3], [.int l2], (sh, M, J))) f_78_16 rfl ?_
    refine ev_nx (s1 := (78, 18, [.ref l0, .ref l1, .int l2, .int l3], [.int l3, .int l2], (sh, M, J))) f_78_17 rfl ?_
    exact ev_c1 (s1 := (127, 0, [.int l2, .int l3], [], (sh, M, J))) (k := (78, 21, [.ref l0, .ref l1, .int l2, .int l3], [])) f_78_18 rfl
theorem b_Scene_playNight_21 (sh : xSh) (M : Nat → Nat → Int32) (J : Nat → Nat → Int64) (l0 : Nat) (l1 : Nat) (l2 : Int32) (l3 : Int32) (k0 : Int32) : ev (78, 21, [.ref l0, .ref l1, .int l2, .int l3], [.int k0], (sh, M, J)) = (bif decide (k0 = 0) then ev (78, 8, [.ref l0, .ref l1, .int l2, .int (l3 + 1)], [], (sh, M, J)) else bif (decide ((sh.2.2.1 l0).1 = 6) && true) then (ev (82, 0, [.ref l0, .ref l1, .int l3, .null], [], (sh, M, J))).bind (fun r => ev (78, 30, [.ref l0, .ref l1, .int l2, .int l3], r.1.toList ++ [], r.2)) else none) := by
  refine ev_br (s1 := (78, 30, [.ref l0, .ref l1, .int l2, .int l3], [], (sh, M, J))) (s2 := (78, 24, [.ref l0, .ref l1, .int l2, .int l3], [], (sh, M, J))) f_78_21 rfl ?_ ?_
  · refine ev_nx (s1 := (78, 33, [.ref l0, .ref l1, .int l2, .int (l3 + 1)], [], (sh, M, J))) f_78_30 rfl ?_
    refine ev_nx (s1 := (78, 8, [.ref l0, .ref l1, .int l2, .int (l3 + 1)], [], (sh, M, J))) f_78_33 rfl ?_
    exact rfl
  · refine ev_nx (s1 := (78, 25, [.ref l0, .ref l1, .int l2, .int l3], [.ref l0], (sh, M, J))) f_78_24 rfl ?_
    refine ev_nx (s1 := (78, 26, [.ref l0, .ref l1, .int l2, .int l3], [.ref l1, .ref l0], (sh, M, J))) f_78_25 rfl ?_
    refine ev_nx (s1 := (78, 27, [.ref l0, .ref l1, .int l2, .int l3], [.int l3, .ref l1, .ref l0], (sh, M, J))) f_78_26 rfl ?_
    exact ev_ca (cc := (decide ((sh.2.2.1 l0).1 = 6) && true)) (s1 := (82, 0, [.ref l0, .ref l1, .int l3, .null], [], (sh, M, J))) (k := (78, 30, [.ref l0, .ref l1, .int l2, .int l3], [])) f_78_27 rfl
theorem b_Scene_playNight_30 (sh : xSh) (M : Nat → Nat → Int32) (J : Nat → Nat → Int64) (l0 : Nat) (l1 : Nat) (l2 : Int32) (l3 : Int32) : ev (78, 30, [.ref l0, .ref l1, .int l2, .int l3], [], (sh, M, J)) = (ev (78, 8, [.ref l0, .ref l1, .int l2, .int (l3 + 1)], [], (sh, M, J))) := by
  refine ev_nx (s1 := (78, 33, [.ref l0, .ref l1, .int l2, .int (l3 + 1)], [], (sh, M, J))) f_78_30 rfl ?_
  refine ev_nx (s1 := (78, 8, [.ref l0, .ref l1, .int l2, .int (l3 + 1)], [], (sh, M, J))) f_78_33 rfl ?_
  exact rfl
theorem f_79_0 : xfind (xnth xTs 79) 0 = some (0, .iconst 0, 1, (0, 0, 0, 0), (.int 0), [], 0, 0, []) := rfl
theorem f_79_1 : xfind (xnth xTs 79) 1 = some (1, .istore_n 3, 1, (0, 0, 0, 0), .null, [], 0, 0, []) := rfl
theorem f_79_2 : xfind (xnth xTs 79) 2 = some (2, .iload_n 3, 1, (0, 0, 0, 0), .null, [], 0, 1, []) := rfl
theorem f_79_3 : xfind (xnth xTs 79) 3 = some (3, .aload_n 1, 1, (0, 0, 0, 0), .null, [], 0, 0, []) := rfl
theorem f_79_4 : xfind (xnth xTs 79) 4 = some (4, .getfield 55, 3, (1, 1, 0, 0), .null, [], 106, 0, []) := rfl
theorem f_79_7 : xfind (xnth xTs 79) 7 = some (7, .if_icmp .ge 32, 3, (0, 0, 0, 0), .null, [], 0, 0, []) := rfl
theorem f_79_10 : xfind (xnth xTs 79) 10 = some (10, .aload_n 0, 1, (0, 0, 0, 0), .null, [], 0, 0, []) := rfl
theorem f_79_11 : xfind (xnth xTs 79) 11 = some (11, .invokevirtual 31, 3, (59, 0, 6, 1), .null, [], 490, 0, []) := rfl
theorem f_79_14 : xfind (xnth xTs 79) 14 = some (14, .aload_n 1, 1, (0, 0, 0, 0), .null, [], 0, 0, []) := rfl
theorem f_79_15 : xfind (xnth xTs 79) 15 = some (15, .iload_n 2, 1, (0, 0, 0, 0), .null, [], 0, 0, []) := rfl
theorem f_79_16 : xfind (xnth xTs 79) 16 = some (16, .iload_n 3, 1, (0, 0, 0, 0), .null, [], 0, 0, []) := rfl
theorem f_79_17 : xfind (xnth xTs 79) 17 = some (17, .invokevirtual 58, 3, (17, 2, 1, 3), .null, [], 495, 0, []) := rfl
theorem f_79_20 : xfind (xnth xTs 79) 20 = some (20, .invokestatic 34, 3, (127, 2, 8, 2), .null, [], 499, 0, []) := rfl
theorem f_79_23 : xfind (xnth xTs 79) 23 = some (23, .ifCond .eq 10, 3, (0, 0, 0, 0), .null, [], 0, 0, []) := rfl
theorem f_79_26 : xfind (xnth xTs 79) 26 = some (26, .aload_n 1, 1, (0, 0, 0, 0), .null, [], 0, 0, []) := rfl
theorem f_79_27 : xfind (xnth xTs 79) 27 = some (27, .iload_n 2, 1, (0, 0, 0, 0), .null, [], 0, 0, []) := rfl
theorem f_79_28 : xfind (xnth xTs 79) 28 = some (28, .iload_n 3, 1, (0, 0, 0, 0), .null, [], 0, 0, []) := rfl
theorem f_79_29 : xfind (xnth xTs 79) 29 = some (29, .invokevirtual 58, 3, (17, 2, 1, 3), .null, [], 495, 0, []) := rfl
theorem f_79_32 : xfind (xnth xTs 79) 32 = some (32, .ireturn, 1, (0, 0, 0, 0), .null, [], 0, 0, []) := rfl
theorem f_79_33 : xfind (xnth xTs 79) 33 = some (33, .iinc 3 1, 3, (0, 0, 0, 0), .null, [], 0, 0, []) := rfl
theorem f_79_36 : xfind (xnth xTs 79) 36 = some (36, .goto (-34), 3, (0, 0, 0, 0), .null, [], 0, 0, []) := rfl
theorem f_79_39 : xfind (xnth xTs 79) 39 = some (39, .iconst (-1), 1, (0, 0, 0, 0), (.int (-1)), [], 0, 0, []) := rfl
theorem f_79_40 : xfind (xnth xTs 79) 40 = some (40, .ireturn, 1, (0, 0, 0, 0), .null, [], 0, 0, []) := rfl
theorem hd_79_2 : xhead 79 2 = some [] := rfl
theorem b_Scene_lowestHole_0 (sh : xSh) (M : Nat → Nat → Int32) (J : Nat → Nat → Int64) (l0 : Nat) (l1 : Nat) (l2 : Int32) : ev (79, 0, [.ref l0, .ref l1, .int l2, .null], [], (sh, M, J)) = (ev (79, 2, [.ref l0, .ref l1, .int l2, .int 0], [], (sh, M, J))) := by
  refine ev_nx (s1 := (79, 1, [.ref l0, .ref l1, .int l2, .null], [.int 0], (sh, M, J))) f_79_0 rfl ?_
  refine ev_nx (s1 := (79, 2, [.ref l0, .ref l1, .int l2, .int 0], [], (sh, M, J))) f_79_1 rfl ?_
  exact rfl
theorem b_Scene_lowestHole_2 (sh : xSh) (M : Nat → Nat → Int32) (J : Nat → Nat → Int64) (l0 : Nat) (l1 : Nat) (l2 : Int32) (l3 : Int32) : ev (79, 2, [.ref l0, .ref l1, .int l2, .int l3], [], (sh, M, J)) = (bif decide ((sh.2.2.1 l1).1 = 1) then bif decide ((M l1 1) ≤ l3) then some (some (.int (-1)), (sh, M, J)) else bif (decide ((sh.2.2.1 l0).1 = 6) && true) then (ev (59, 0, [.ref l0], [], (sh, M, J))).bind (fun r => ev (79, 14, [.ref l0, .ref l1, .int l2, .int l3], r.1.toList ++ [], r.2)) else none else none) := by
  refine ev_nx (s1 := (79, 3, [.ref l0, .ref l1, .int l2, .int l3], [.int l3], (sh, M, J))) f_79_2 rfl ?_
  refine ev_nx (s1 := (79, 4, [.ref l0, .ref l1, .int l2, .int l3], [.ref l1, .int l3], (sh, M, J))) f_79_3 rfl ?_
  refine ev_gd (s1 := (79, 7, [.ref l0, .ref l1, .int l2, .int l3], [.int (M l1 1), .int l3], (sh, M, J))) f_79_4 rfl ?_
  refine ev_br (s1 := (79, 39, [.ref l0, .ref l1, .int l2, .int l3], [], (sh, M, J))) (s2 := (79, 10, [.ref l0, .ref l1, .int l2, .int l3], [], (sh, M, J))) f_79_7 rfl ?_ ?_
  · refine ev_nx (s1 := (79, 40, [.ref l0, .ref l1, .int l2, .int l3], [.int (-1)], (sh, M, J))) f_79_39 rfl ?_
    exact ev_r1 f_79_40 rfl
  · refine ev_nx (s1 := (79, 11, [.ref l0, .ref l1, .int l2, .int l3], [.ref l0], (sh, M, J))) f_79_10 rfl ?_
    exact ev_ca (cc := (decide ((sh.2.2.1 l0).1 = 6) && true)) (s1 := (59, 0, [.ref l0], [], (sh, M, J))) (k := (79, 14, [.ref l0, .ref l1, .int l2, .int l3], [])) f_79_11 rfl
theorem b_Scene_lowestHole_14 (sh : xSh) (M : Nat → Nat → Int32) (J : Nat → Nat → Int64) (l0 : Nat) (l1 : Nat) (l2 : Int32) (l3 : Int32) (k0 : Int32) : ev (79, 14, [.ref l0, .ref l1, .int l2, .int l3], [.int k0], (sh, M, J)) = (bif (decide ((sh.2.2.1 l1).1 = 1) && true) then (ev (17, 0, [.ref l1, .int l2, .int l3], [], (sh, M, J))).bind (fun r => ev (79, 20, [.ref l0, .ref l1, .int l2, .int l3], r.1.toList ++ [.int k0], r.2)) else none) := by
  refine ev_nx (s1 := (79, 15, [.ref l0, .ref l1, .int l2, .int l3], [.ref l1, .int k0], (sh, M, J))) f_79_14 rfl ?_
  refine ev_nx (s1 := (79, 16, [.ref l0, .ref l1, .int l2, .int l3], [.int l2, .ref l1, .int k0], (sh, M, J))) f_79_15 rfl ?_
  refine ev_nx (s1 := (79, 17, [.ref l0, .ref l1, .int l2, .int l3], [.int l3, .int l2, .ref l1, .int k0], (sh, M, J))) f_79_16 rfl ?_
  exact ev_ca (cc := (decide ((sh.2.2.1 l1).1 = 1) && true)) (s1 := (17, 0, [.ref l1, .int l2, .int l3], [], (sh, M, J))) (k := (79, 20, [.ref l0, .ref l1, .int l2, .int l3], [.int k0])) f_79_17 rfl
theorem b_Scene_lowestHole_20 (sh : xSh) (M : Nat → Nat → Int32) (J : Nat → Nat → Int64) (l0 : Nat) (l1 : Nat) (l2 : Int32) (l3 : Int32) (k0 : Int32) (k1 : Int32) : ev (79, 20, [.ref l0, .ref l1, .int l2, .int l3], [.int k0, .int k1], (sh, M, J)) = ((ev (127, 0, [.int k1, .int k0], [], (sh, M, J))).bind (fun r => ev (79, 23, [.ref l0, .ref l1, .int l2, .int l3], r.1.toList ++ [], r.2))) := by
  exact ev_c1 (s1 := (127, 0, [.int k1, .int k0], [], (sh, M, J))) (k := (79, 23, [.ref l0, .ref l1, .int l2, .int l3], [])) f_79_20 rfl
theorem b_Scene_lowestHole_23 (sh : xSh) (M : Nat → Nat → Int32) (J : Nat → Nat → Int64) (l0 : Nat) (l1 : Nat) (l2 : Int32) (l3 : Int32) (k0 : Int32) : ev (79, 23, [.ref l0, .ref l1, .int l2, .int l3], [.int k0], (sh, M, J)) = (bif decide (k0 = 0) then ev (79, 2, [.ref l0, .ref l1, .int l2, .int (l3 + 1)], [], (sh, M, J)) else bif (decide ((sh.2.2.1 l1).1 = 1) && true) then (ev (17, 0, [.ref l1, .int l2, .int l3], [], (sh, M, J))).bind (fun r => ev (79, 32, [.ref l0, .ref l1, .int l2, .int l3], r.1.toList ++ [], r.2)) else none) := by
  refine ev_br (s1 := (79, 33, [.ref l0, .ref l1, .int l2, .int l3], [], (sh, M, J))) (s2 := (79, 26, [.ref l0, .ref l1, .int l2, .int l3], [], (sh, M, J))) f_79_23 rfl ?_ ?_
  · refine ev_nx (s1 := (79, 36, [.ref l0, .ref l1, .int l2, .int (l3 + 1)], [], (sh, M, J))) f_79_33 rfl ?_
    refine ev_nx (s1 := (79, 2, [.ref l0, .ref l1, .int l2, .int (l3 + 1)], [], (sh, M, J))) f_79_36 rfl ?_
    exact rfl
  · refine ev_nx (s1 := (79, 27, [.ref l0, .ref l1, .int l2, .int l3], [.ref l1], (sh, M, J))) f_79_26 rfl ?_
    refine ev_nx (s1 := (79, 28, [.ref l0, .ref l1, .int l2, .int l3], [.int l2, .ref l1], (sh, M, J))) f_79_27 rfl ?_
    refine ev_nx (s1 := (79, 29, [.ref l0, .ref l1, .int l2, .int l3], [.int l3, .int l2, .ref l1], (sh, M, J))) f_79_28 rfl ?_
    exact ev_ca (cc := (decide ((sh.2.2.1 l1).1 = 1) && true)) (s1 := (17, 0, [.ref l1, .int l2, .int l3], [], (sh, M, J))) (k := (79, 32, [.ref l0, .ref l1, .int l2, .int l3], [])) f_79_29 rfl
theorem b_Scene_lowestHole_32 (sh : xSh) (M : Nat → Nat → Int32) (J : Nat → Nat → Int64) (l0 : Nat) (l1 : Nat) (l2 : Int32) (l3 : Int32) (k0 : Int32) : ev (79, 32, [.ref l0, .ref l1, .int l2, .int l3], [.int k0], (sh, M, J)) = (some (some (.int k0), (sh, M, J))) := by
  exact ev_r1 f_79_32 rfl
theorem f_80_0 : xfind (xnth xTs 80) 0 = some (0, .iconst 0, 1, (0, 0, 0, 0), (.int 0), [], 0, 0, []) := rfl
theorem f_80_1 : xfind (xnth xTs 80) 1 = some (1, .istore_n 3, 1, (0, 0, 0, 0), .null, [], 0, 0, []) := rfl
theorem f_80_2 : xfind (xnth xTs 80) 2 = some (2, .iload_n 3, 1, (0, 0, 0, 0), .null, [], 0, 1, []) := rfl
theorem f_80_3 : xfind (xnth xTs 80) 3 = some (3, .aload_n 1, 1, (0, 0, 0, 0), .null, [], 0, 0, []) := rfl
theorem f_80_4 : xfind (xnth xTs 80) 4 = some (4, .getfield 69, 3, (1, 2, 0, 0), .null, [], 111, 0, []) := rfl
theorem f_80_7 : xfind (xnth xTs 80) 7 = some (7, .if_icmp .ge 28, 3, (0, 0, 0, 0), .null, [], 0, 0, []) := rfl
theorem f_80_10 : xfind (xnth xTs 80) 10 = some (10, .aload_n 0, 1, (0, 0, 0, 0), .null, [], 0, 0, []) := rfl
theorem f_80_11 : xfind (xnth xTs 80) 11 = some (11, .iload_n 3, 1, (0, 0, 0, 0), .null, [], 0, 0, []) := rfl
theorem f_80_12 : xfind (xnth xTs 80) 12 = some (12, .invokevirtual 87, 3, (63, 1, 6, 2), .null, [], 516, 0, []) := rfl
theorem f_80_15 : xfind (xnth xTs 80) 15 = some (15, .iload_n 2, 1, (0, 0, 0, 0), .null, [], 0, 0, []) := rfl
theorem f_80_16 : xfind (xnth xTs 80) 16 = some (16, .if_icmp .ne 13, 3, (0, 0, 0, 0), .null, [], 0, 0, []) := rfl
theorem f_80_19 : xfind (xnth xTs 80) 19 = some (19, .aload_n 0, 1, (0, 0, 0, 0), .null, [], 0, 0, []) := rfl
theorem f_80_20 : xfind (xnth xTs 80) 20 = some (20, .iload_n 3, 1, (0, 0, 0, 0), .null, [], 0, 0, []) := rfl
theorem f_80_21 : xfind (xnth xTs 80) 21 = some (21, .invokevirtual 90, 3, (65, 1, 6, 2), .null, [], 631, 0, []) := rfl
theorem f_80_24 : xfind (xnth xTs 80) 24 = some (24, .ifCond .le 5, 3, (0, 0, 0, 0), .null, [], 0, 0, []) := rfl
theorem f_80_27 : xfind (xnth xTs 80) 27 = some (27, .iconst 1, 1, (0, 0, 0, 0), (.int 1), [], 0, 0, []) := rfl
theorem f_80_28 : xfind (xnth xTs 80) 28 = some (28, .ireturn, 1, (1, 0, 0, 0), .null, [], 0, 0, []) := rfl
theorem f_80_29 : xfind (xnth xTs 80) 29 = some (29, .iinc 3 1, 3, (0, 0, 0, 0), .null, [], 0, 0, []) := rfl
theorem f_80_32 : xfind (xnth xTs 80) 32 = some (32, .goto (-30), 3, (0, 0, 0, 0), .null, [], 0, 0, []) := rfl
theorem f_80_35 : xfind (xnth xTs 80) 35 = some (35, .iconst 0, 1, (0, 0, 0, 0), (.int 0), [], 0, 0, []) := rfl
theorem f_80_36 : xfind (xnth xTs 80) 36 = some (36, .ireturn, 1, (1, 0, 0, 0), .null, [], 0, 0, []) := rfl
theorem hd_80_2 : xhead 80 2 = some [] := rfl
theorem b_Scene_isManned_0 (sh : xSh) (M : Nat → Nat → Int32) (J : Nat → Nat → Int64) (l0 : Nat) (l1 : Nat) (l2 : Int32) : ev (80, 0, [.ref l0, .ref l1, .int l2, .null], [], (sh, M, J)) = (ev (80, 2, [.ref l0, .ref l1, .int l2, .int 0], [], (sh, M, J))) := by
  refine ev_nx (s1 := (80, 1, [.ref l0, .ref l1, .int l2, .null], [.int 0], (sh, M, J))) f_80_0 rfl ?_
  refine ev_nx (s1 := (80, 2, [.ref l0, .ref l1, .int l2, .int 0], [], (sh, M, J))) f_80_1 rfl ?_
  exact rfl
theorem b_Scene_isManned_2 (sh : xSh) (M : Nat → Nat → Int32) (J : Nat → Nat → Int64) (l0 : Nat) (l1 : Nat) (l2 : Int32) (l3 : Int32) : ev (80, 2, [.ref l0, .ref l1, .int l2, .int l3], [], (sh, M, J)) = (bif decide ((sh.2.2.1 l1).1 = 1) then bif decide ((M l1 2) ≤ l3) then some (some (.int 0), (sh, M, J)) else bif (decide ((sh.2.2.1 l0).1 = 6) && true) then (ev (63, 0, [.ref l0, .int l3], [], (sh, M, J))).bind (fun r => ev (80, 15, [.ref l0, .ref l1, .int l2, .int l3], r.1.toList ++ [], r.2)) else none else none) := by
  refine ev_nx (s1 := (80, 3, [.ref l0, .ref l1, .int l2, .int l3], [.int l3], (sh, M, J))) f_80_2 rfl ?_
  refine ev_nx (s1 := (80, 4, [.ref l0, .ref l1, .int l2, .int l3], [.ref l1, .int l3], (sh, M, J))) f_80_3 rfl ?_
  refine ev_gd (s1 := (80, 7, [.ref l0, .ref l1, .int l2, .int l3], [.int (M l1 2), .int l3], (sh, M, J))) f_80_4 rfl ?_
  refine ev_br (s1 := (80, 35, [.ref l0, .ref l1, .int l2, .int l3], [], (sh, M, J))) (s2 := (80, 10, [.ref l0, .ref l1, .int l2, .int l3], [], (sh, M, J))) f_80_7 rfl ?_ ?_
  · refine ev_nx (s1 := (80, 36, [.ref l0, .ref l1, .int l2, .int l3], [.int 0], (sh, M, J))) f_80_35 rfl ?_
    exact ev_r1 f_80_36 rfl
  · refine ev_nx (s1 := (80, 11, [.ref l0, .ref l1, .int l2, .int l3], [.ref l0], (sh, M, J))) f_80_10 rfl ?_
    refine ev_nx (s1 := (80, 12, [.ref l0, .ref l1, .int l2, .int l3], [.int l3, .ref l0], (sh, M, J))) f_80_11 rfl ?_
    exact ev_ca (cc := (decide ((sh.2.2.1 l0).1 = 6) && true)) (s1 := (63, 0, [.ref l0, .int l3], [], (sh, M, J))) (k := (80, 15, [.ref l0, .ref l1, .int l2, .int l3], [])) f_80_12 rfl
theorem b_Scene_isManned_15 (sh : xSh) (M : Nat → Nat → Int32) (J : Nat → Nat → Int64) (l0 : Nat) (l1 : Nat) (l2 : Int32) (l3 : Int32) (k0 : Int32) : ev (80, 15, [.ref l0, .ref l1, .int l2, .int l3], [.int k0], (sh, M, J)) = (bif !decide (k0 = l2) then ev (80, 2, [.ref l0, .ref l1, .int l2, .int (l3 + 1)], [], (sh, M, J)) else bif (decide ((sh.2.2.1 l0).1 = 6) && true) then (ev (65, 0, [.ref l0, .int l3], [], (sh, M, J))).bind (fun r => ev (80, 24, [.ref l0, .ref l1, .int l2, .int l3], r.1.toList ++ [], r.2)) else none) := by
  refine ev_nx (s1 := (80, 16, [.ref l0, .ref l1, .int l2, .int l3], [.int l2, .int k0], (sh, M, J))) f_80_15 rfl ?_
  refine ev_br (s1 := (80, 29, [.ref l0, .ref l1, .int l2, .int l3], [], (sh, M, J))) (s2 := (80, 19, [.ref l0, .ref l1, .int l2, .int l3], [], (sh, M, J))) f_80_16 rfl ?_ ?_
  · refine ev_nx (s1 := (80, 32, [.ref l0, .ref l1, .int l2, .int (l3 + 1)], [], (sh, M, J))) f_80_29 rfl ?_
    refine ev_nx (s1 := (80, 2, [.ref l0, .ref l1, .int l2, .int (l3 + 1)], [], (sh, M, J))) f_80_32 rfl ?_
    exact rfl
  · refine ev_nx (s1 := (80, 20, [.ref l0, .ref l1, .int l2, .int l3], [.ref l0], (sh, M, J))) f_80_19 rfl ?_
    refine ev_nx (s1 := (80, 21, [.ref l0, .ref l1, .int l2, .int l3], [.int l3, .ref l0], (sh, M, J))) f_80_20 rfl ?_
    exact ev_ca (cc := (decide ((sh.2.2.1 l0).1 = 6) && true)) (s1 := (65, 0, [.ref l0, .int l3], [], (sh, M, J))) (k := (80, 24, [.ref l0, .ref l1, .int l2, .int l3], [])) f_80_21 rfl
theorem b_Scene_isManned_24 (sh : xSh) (M : Nat → Nat → Int32) (J : Nat → Nat → Int64) (l0 : Nat) (l1 : Nat) (l2 : Int32) (l3 : Int32) (k0 : Int32) : ev (80, 24, [.ref l0, .ref l1, .int l2, .int l3], [.int k0], (sh, M, J)) = (bif decide (k0 ≤ 0) then ev (80, 2, [.ref l0, .ref l1, .int l2, .int (l3 + 1)], [], (sh, M, J)) else some (some (.int 1), (sh, M, J))) := by
  refine ev_br (s1 := (80, 29, [.ref l0, .ref l1, .int l2, .int l3], [], (sh, M, J))) (s2 := (80, 27, [.ref l0, .ref l1, .int l2, .int l3], [], (sh, M, J))) f_80_24 rfl ?_ ?_
  · refine ev_nx (s1 := (80, 32, [.ref l0, .ref l1, .int l2, .int (l3 + 1)], [], (sh, M, J))) f_80_29 rfl ?_
    refine ev_nx (s1 := (80, 2, [.ref l0, .ref l1, .int l2, .int (l3 + 1)], [], (sh, M, J))) f_80_32 rfl ?_
    exact rfl
  · refine ev_nx (s1 := (80, 28, [.ref l0, .ref l1, .int l2, .int l3], [.int 1], (sh, M, J))) f_80_27 rfl ?_
    exact ev_r1 f_80_28 rfl
theorem f_81_0 : xfind (xnth xTs 81) 0 = some (0, .aload_n 0, 1, (0, 0, 0, 0), .null, [], 0, 0, []) := rfl
theorem f_81_1 : xfind (xnth xTs 81) 1 = some (1, .iload_n 2, 1, (0, 0, 0, 0), .null, [], 0, 0, []) := rfl
theorem f_81_2 : xfind (xnth xTs 81) 2 = some (2, .invokevirtual 87, 3, (63, 1, 6, 2), .null, [], 516, 0, []) := rfl
theorem f_81_5 : xfind (xnth xTs 81) 5 = some (5, .istore 5, 2, (0, 0, 0, 0), .null, [], 0, 0, []) := rfl
theorem f_81_7 : xfind (xnth xTs 81) 7 = some (7, .aload_n 1, 1, (0, 0, 0, 0), .null, [], 0, 0, []) := rfl
theorem f_81_8 : xfind (xnth xTs 81) 8 = some (8, .iload 5, 2, (0, 0, 0, 0), .null, [], 0, 0, []) := rfl
theorem f_81_10 : xfind (xnth xTs 81) 10 = some (10, .invokevirtual 62, 3, (20, 1, 1, 2), .null, [], 505, 0, []) := rfl
theorem f_81_13 : xfind (xnth xTs 81) 13 = some (13, .iload 4, 2, (0, 0, 0, 0), .null, [], 0, 0, []) := rfl
theorem f_81_15 : xfind (xnth xTs 81) 15 = some (15, .imul, 1, (0, 0, 0, 0), .null, [], 0, 0, []) := rfl
theorem f_81_16 : xfind (xnth xTs 81) 16 = some (16, .istore 6, 2, (0, 0, 0, 0), .null, [], 0, 0, []) := rfl
theorem f_81_18 : xfind (xnth xTs 81) 18 = some (18, .iconst 0, 1, (0, 0, 0, 0), (.int 0), [], 0, 0, []) := rfl
theorem f_81_19 : xfind (xnth xTs 81) 19 = some (19, .istore 7, 2, (0, 0, 0, 0), .null, [], 0, 0, []) := rfl
theorem f_81_21 : xfind (xnth xTs 81) 21 = some (21, .iload 7, 2, (0, 0, 0, 0), .null, [], 0, 1, [0, 4]) := rfl
theorem f_81_23 : xfind (xnth xTs 81) 23 = some (23, .aload_n 1, 1, (0, 0, 0, 0), .null, [], 0, 0, []) := rfl
theorem f_81_24 : xfind (xnth xTs 81) 24 = some (24, .getfield 55, 3, (1, 1, 0, 0), .null, [], 106, 0, []) := rfl
theorem f_81_27 : xfind (xnth xTs 81) 27 = some (27, .if_icmp .ge 45, 3, (0, 0, 0, 0), .null, [], 0, 0, []) := rfl
theorem f_81_30 : xfind (xnth xTs 81) 30 = some (30, .iload_n 3, 1, (0, 0, 0, 0), .null, [], 0, 0, []) := rfl
theorem f_81_31 : xfind (xnth xTs 81) 31 = some (31, .aload_n 1, 1, (0, 0, 0, 0), .null, [], 0, 0, []) := rfl
theorem f_81_32 : xfind (xnth xTs 81) 32 = some (32, .iload 5, 2, (0, 0, 0, 0), .null, [], 0, 0, []) := rfl
theorem f_81_34 : xfind (xnth xTs 81) 34 = some (34, .iload 7, 2, (0, 0, 0, 0), .null, [], 0, 0, []) := rfl
theorem f_81_36 : xfind (xnth xTs 81) 36 = some (36, .invokevirtual 58, 3, (17, 2, 1, 3), .null, [], 495, 0, []) := rfl
theorem f_81_39 : xfind (xnth xTs 81) 39 = some (39, .invokestatic 34, 3, (127, 2, 8, 2), .null, [], 499, 0, []) := rfl
theorem f_81_42 : xfind (xnth xTs 81) 42 = some (42, .ifCond .eq 24, 3, (0, 0, 0, 0), .null, [], 0, 0, []) := rfl
theorem f_81_45 : xfind (xnth xTs 81) 45 = some (45, .iload 7, 2, (0, 0, 0, 0), .null, [], 0, 0, []) := rfl
theorem f_81_47 : xfind (xnth xTs 81) 47 = some (47, .iload 6, 2, (0, 0, 0, 0), .null, [], 0, 0, []) := rfl
theorem f_81_49 : xfind (xnth xTs 81) 49 = some (49, .iadd, 1, (0, 0, 0, 0), .null, [], 0, 0, []) := rfl
theorem f_81_50 : xfind (xnth xTs 81) 50 = some (50, .iconst 0, 1, (0, 0, 0, 0), (.int 0), [], 0, 0, []) := rfl
theorem f_81_51 : xfind (xnth xTs 81) 51 = some (51, .aload_n 1, 1, (0, 0, 0, 0), .null, [], 0, 0, []) := rfl
theorem f_81_52 : xfind (xnth xTs 81) 52 = some (52, .iload_n 2, 1, (0, 0, 0, 0), .null, [], 0, 0, []) := rfl
theorem f_81_53 : xfind (xnth xTs 81) 53 = some (53, .invokevirtual 93, 3, (12, 1, 1, 2), .null, [], 520, 0, []) := rfl
theorem f_81_56 : xfind (xnth xTs 81) 56 = some (56, .iconst 1, 1, (0, 0, 0, 0), (.int 1), [], 0, 0, []) := rfl
theorem f_81_57 : xfind (xnth xTs 81) 57 = some (57, .isub, 1, (0, 0, 0, 0), .null, [], 0, 0, []) := rfl
theorem f_81_58 : xfind (xnth xTs 81) 58 = some (58, .invokestatic 76, 3, (125, 3, 8, 3), .null, [], 521, 0, []) := rfl
theorem f_81_61 : xfind (xnth xTs 81) 61 = some (61, .ifCond .eq 5, 3, (0, 0, 0, 0), .null, [], 0, 0, []) := rfl
theorem f_81_64 : xfind (xnth xTs 81) 64 = some (64, .iconst 1, 1, (0, 0, 0, 0), (.int 1), [], 0, 0, []) := rfl
theorem f_81_65 : xfind (xnth xTs 81) 65 = some (65, .ireturn, 1, (1, 0, 0, 0), .null, [], 0, 0, []) := rfl
theorem f_81_66 : xfind (xnth xTs 81) 66 = some (66, .iinc 7 1, 3, (0, 0, 0, 0), .null, [], 0, 0, []) := rfl
theorem f_81_69 : xfind (xnth xTs 81) 69 = some (69, .goto (-48), 3, (0, 0, 0, 0), .null, [], 0, 0, []) := rfl
theorem f_81_72 : xfind (xnth xTs 81) 72 = some (72, .iconst 0, 1, (0, 0, 0, 0), (.int 0), [], 0, 0, []) := rfl
theorem f_81_73 : xfind (xnth xTs 81) 73 = some (73, .ireturn, 1, (1, 0, 0, 0), .null, [], 0, 0, []) := rfl
theorem hd_81_21 : xhead 81 21 = some [0, 4] := rfl
theorem b_Scene_isShown_0 (sh : xSh) (M : Nat → Nat → Int32) (J : Nat → Nat → Int64) (l0 : Nat) (l1 : Nat) (l2 : Int32) (l3 : Int32) (l4 : Int32) : ev (81, 0, [.ref l0, .ref l1, .int l2, .int l3, .int l4, .null, .null, .null], [], (sh, M, J)) = (bif (decide ((sh.2.2.1 l0).1 = 6) && true) then (ev (63, 0, [.ref l0, .int l2], [], (sh, M, J))).bind (fun r => ev (81, 5, [.ref l0, .ref l1, .int l2, .int l3, .int l4, .null, .null, .null], r.1.toList ++ [], r.2)) else none) := by
  refine ev_nx (s1 := (81, 1, [.ref l0, .ref l1, .int l2, .int l3, .int l4, .null, .null, .null], [.ref l0], (sh, M, J))) f_81_0 rfl ?_
  refine ev_nx (s1 := (81, 2, [.ref l0, .ref l1, .int l2, .int l3, .int l4, .null, .null, .null], [.int l2, .ref l0], (sh, M, J))) f_81_1 rfl ?_
  exact ev_ca (cc := (decide ((sh.2.2.1 l0).1 = 6) && true)) (s1 := (63, 0, [.ref l0, .int l2], [], (sh, M, J))) (k := (81, 5, [.ref l0, .ref l1, .int l2, .int l3, .int l4, .null, .null, .null], [])) f_81_2 rfl
theorem b_Scene_isShown_5 (sh : xSh) (M : Nat → Nat → Int32) (J : Nat → Nat → Int64) (l0 : Nat) (l1 : Nat) (l2 : Int32) (l3 : Int32) (l4 : Int32) (k0 : Int32) : ev (81, 5, [.ref l0, .ref l1, .int l2, .int l3, .int l4, .null, .null, .null], [.int k0], (sh, M, J)) = (bif (decide ((sh.2.2.1 l1).1 = 1) && true) then (ev (20, 0, [.ref l1, .int k0], [], (sh, M, J))).bind (fun r => ev (81, 13, [.ref l0, .ref l1, .int l2, .int l3, .int l4, .int k0, .null, .null], r.1.toList ++ [], r.2)) else none) := by
  refine ev_nx (s1 := (81, 7, [.ref l0, .ref l1, .int l2, .int l3, .int l4, .int k0, .null, .null], [], (sh, M, J))) f_81_5 rfl ?_
  refine ev_nx (s1 := (81, 8, [.ref l0, .ref l1, .int l2, .int l3, .int l4, .int k0, .null, .null], [.ref l1], (sh, M, J))) f_81_7 rfl ?_
  refine ev_nx (s1 := (81, 10, [.ref l0, .ref l1, .int l2, .int l3, .int l4, .int k0, .null, .null], [.int k0, .ref l1], (sh, M, J))) f_81_8 rfl ?_
  exact ev_ca (cc := (decide ((sh.2.2.1 l1).1 = 1) && true)) (s1 := (20, 0, [.ref l1, .int k0], [], (sh, M, J))) (k := (81, 13, [.ref l0, .ref l1, .int l2, .int l3, .int l4, .int k0, .null, .null], [])) f_81_10 rfl
theorem b_Scene_isShown_13 (sh : xSh) (M : Nat → Nat → Int32) (J : Nat → Nat → Int64) (l0 : Nat) (l1 : Nat) (l2 : Int32) (l3 : Int32) (l4 : Int32) (l5 : Int32) (k0 : Int32) : ev (81, 13, [.ref l0, .ref l1, .int l2, .int l3, .int l4, .int l5, .null, .null], [.int k0], (sh, M, J)) = (ev (81, 21, [.null, .ref l1, .int l2, .int l3, .null, .int l5, .int (k0 * l4), .int 0], [], (sh, M, J))) := by
  refine ev_nx (s1 := (81, 15, [.ref l0, .ref l1, .int l2, .int l3, .int l4, .int l5, .null, .null], [.int l4, .int k0], (sh, M, J))) f_81_13 rfl ?_
  refine ev_nx (s1 := (81, 16, [.ref l0, .ref l1, .int l2, .int l3, .int l4, .int l5, .null, .null], [.int (k0 * l4)], (sh, M, J))) f_81_15 rfl ?_
  refine ev_nx (s1 := (81, 18, [.ref l0, .ref l1, .int l2, .int l3, .int l4, .int l5, .int (k0 * l4), .null], [], (sh, M, J))) f_81_16 rfl ?_
  refine ev_nx (s1 := (81, 19, [.ref l0, .ref l1, .int l2, .int l3, .int l4, .int l5, .int (k0 * l4), .null], [.int 0], (sh, M, J))) f_81_18 rfl ?_
  refine ev_nx (s1 := (81, 21, [.ref l0, .ref l1, .int l2, .int l3, .int l4, .int l5, .int (k0 * l4), .int 0], [], (sh, M, J))) f_81_19 rfl ?_
  exact (ev_kill hd_81_21).symm
theorem b_Scene_isShown_21 (sh : xSh) (M : Nat → Nat → Int32) (J : Nat → Nat → Int64) (l1 : Nat) (l2 : Int32) (l3 : Int32) (l5 : Int32) (l6 : Int32) (l7 : Int32) : ev (81, 21, [.null, .ref l1, .int l2, .int l3, .null, .int l5, .int l6, .int l7], [], (sh, M, J)) = (bif decide ((sh.2.2.1 l1).1 = 1) then bif decide ((M l1 1) ≤ l7) then some (some (.int 0), (sh, M, J)) else bif (decide ((sh.2.2.1 l1).1 = 1) && true) then (ev (17, 0, [.ref l1, .int l5, .int l7], [], (sh, M, J))).bind (fun r => ev (81, 39, [.null, .ref l1, .int l2, .int l3, .null, .int l5, .int l6, .int l7], r.1.toList ++ [.int l3], r.2)) else none else none) := by
  refine ev_nx (s1 := (81, 23, [.null, .ref l1, .int l2, .int l3, .null, .int l5, .int l6, .int l7], [.int l7], (sh, M, J))) f_81_21 rfl ?_
  refine ev_nx (s1 := (81, 24, [.null, .ref l1, .int l2, .int l3, .null, .int l5, .int l6, .int l7], [.ref l1, .int l7], (sh, M, J))) f_81_23 rfl ?_
  refine ev_gd (s1 := (81, 27, [.null, .ref l1, .int l2, .int l3, .null, .int l5, .int l6, .int l7], [.int (M l1 1), .int l7], (sh, M, J))) f_81_24 rfl ?_
  refine ev_br (s1 := (81, 72, [.null, .ref l1, .int l2, .int l3, .null, .int l5, .int l6, .int l7], [], (sh, M, J))) (s2 := (81, 30, [.null, .ref l1, .int l2, .int l3, .null, .int l5, .int l6, .int l7], [], (sh, M, J))) f_81_27 rfl ?_ ?_
  · refine ev_nx (s1 := (81, 73, [.null, .ref l1, .int l2, .int l3, .null, .int l5, .int l6, .int l7], [.int 0], (sh, M, J))) f_81_72 rfl ?_
    exact ev_r1 f_81_73 rfl
  · refine ev_nx (s1 := (81, 31, [.null, .ref l1, .int l2, .int l3, .null, .int l5, .int l6, .int l7], [.int l3], (sh, M, J))) f_81_30 rfl ?_
    refine ev_nx (s1 := (81, 32, [.null, .ref l1, .int l2, .int l3, .null, .int l5, .int l6, .int l7], [.ref l1, .int l3], (sh, M, J))) f_81_31 rfl ?_
    refine ev_nx (s1 := (81, 34, [.null, .ref l1, .int l2, .int l3, .null, .int l5, .int l6, .int l7], [.int l5, .ref l1, .int l3], (sh, M, J))) f_81_32 rfl ?_
    refine ev_nx (s1 := (81, 36, [.null, .ref l1, .int l2, .int l3, .null, .int l5, .int l6, .int l7], [.int l7, .int l5, .ref l1, .int l3], (sh, M, J))) f_81_34 rfl ?_
    exact ev_ca (cc := (decide ((sh.2.2.1 l1).1 = 1) && true)) (s1 := (17, 0, [.ref l1, .int l5, .int l7], [], (sh, M, J))) (k := (81, 39, [.null, .ref l1, .int l2, .int l3, .null, .int l5, .int l6, .int l7], [.int l3])) f_81_36 rfl
theorem b_Scene_isShown_39 (sh : xSh) (M : Nat → Nat → Int32) (J : Nat → Nat → Int64) (l1 : Nat) (l2 : Int32) (l3 : Int32) (l5 : Int32) (l6 : Int32) (l7 : Int32) (k0 : Int32) (k1 : Int32) : ev (81, 39, [.null, .ref l1, .int l2, .int l3, .null, .int l5, .int l6, .int l7], [.int k0, .int k1], (sh, M, J)) = ((ev (127, 0, [.int k1, .int k0], [], (sh, M, J))).bind (fun r => ev (81, 42, [.null, .ref l1, .int l2, .int l3, .null, .int l5, .int l6, .int l7], r.1.toList ++ [], r.2))) := by
  exact ev_c1 (s1 := (127, 0, [.int k1, .int k0], [], (sh, M, J))) (k := (81, 42, [.null, .ref l1, .int l2, .int l3, .null, .int l5, .int l6, .int l7], [])) f_81_39 rfl
theorem b_Scene_isShown_42 (sh : xSh) (M : Nat → Nat → Int32) (J : Nat → Nat → Int64) (l1 : Nat) (l2 : Int32) (l3 : Int32) (l5 : Int32) (l6 : Int32) (l7 : Int32) (k0 : Int32) : ev (81, 42, [.null, .ref l1, .int l2, .int l3, .null, .int l5, .int l6, .int l7], [.int k0], (sh, M, J)) = (bif decide (k0 = 0) then ev (81, 21, [.null, .ref l1, .int l2, .int l3, .null, .int l5, .int l6, .int (l7 + 1)], [], (sh, M, J)) else bif (decide ((sh.2.2.1 l1).1 = 1) && true) then (ev (12, 0, [.ref l1, .int l2], [], (sh, M, J))).bind (fun r => ev (81, 56, [.null, .ref l1, .int l2, .int l3, .null, .int l5, .int l6, .int l7], r.1.toList ++ [.int 0, .int (l7 + l6)], r.2)) else none) := by
  refine ev_br (s1 := (81, 66, [.null, .ref l1, .int l2, .int l3, .null, .int l5, .int l6, .int l7], [], (sh, M, J))) (s2 := (81, 45, [.null, .ref l1, .int l2, .int l3, .null, .int l5, .int l6, .int l7], [], (sh, M, J))) f_81_42 rfl ?_ ?_
  · refine ev_nx (s1 := (81, 69, [.null, .ref l1, .int l2, .int l3, .null, .int l5, .int l6, .int (l7 + 1)], [], (sh, M, J))) f_81_66 rfl ?_
    refine ev_nx (s1 := (81, 21, [.null, .ref l1, .int l2, .int l3, .null, .int l5, .int l6, .int (l7 + 1)], [], (sh, M, J))) f_81_69 rfl ?_
    exact rfl
  · refine ev_nx (s1 := (81, 47, [.null, .ref l1, .int l2, .int l3, .null, .int l5, .int l6, .int l7], [.int l7], (sh, M, J))) f_81_45 rfl ?_
    refine ev_nx (s1 := (81, 49, [.null, .ref l1, .int l2, .int l3, .null, .int l5, .int l6, .int l7], [.int l6, .int l7], (sh, M, J))) f_81_47 rfl ?_
    refine ev_nx (s1 := (81, 50, [.null, .ref l1, .int l2, .int l3, .null, .int l5, .int l6, .int l7], [.int (l7 + l6)], (sh, M, J))) f_81_49 rfl ?_
    refine ev_nx (s1 := (81, 51, [.null, .ref l1, .int l2, .int l3, .null, .int l5, .int l6, .int l7], [.int 0, .int (l7 + l6)], (sh, M, J))) f_81_50 rfl ?_
    refine ev_nx (s1 := (81, 52, [.null, .ref l1, .int l2, .int l3, .null, .int l5, .int l6, .int l7], [.ref l1, .int 0, .int (l7 + l6)], (sh, M, J))) f_81_51 rfl ?_
    refine ev_nx (s1 := (81, 53, [.null, .ref l1, .int l2, .int l3, .null, .int l5, .int l6, .int l7], [.int l2, .ref l1, .int 0, .int (l7 + l6)], (sh, M, J))) f_81_52 rfl ?_
    exact ev_ca (cc := (decide ((sh.2.2.1 l1).1 = 1) && true)) (s1 := (12, 0, [.ref l1, .int l2], [], (sh, M, J))) (k := (81, 56, [.null, .ref l1, .int l2, .int l3, .null, .int l5, .int l6, .int l7], [.int 0, .int (l7 + l6)])) f_81_53 rfl
theorem b_Scene_isShown_56 (sh : xSh) (M : Nat → Nat → Int32) (J : Nat → Nat → Int64) (l1 : Nat) (l2 : Int32) (l3 : Int32) (l5 : Int32) (l6 : Int32) (l7 : Int32) (k0 : Int32) (k1 : Int32) (k2 : Int32) : ev (81, 56, [.null, .ref l1, .int l2, .int l3, .null, .int l5, .int l6, .int l7], [.int k0, .int k1, .int k2], (sh, M, J)) = ((ev (125, 0, [.int k2, .int k1, .int (k0 - 1)], [], (sh, M, J))).bind (fun r => ev (81, 61, [.null, .ref l1, .int l2, .int l3, .null, .int l5, .int l6, .int l7], r.1.toList ++ [], r.2))) := by
  refine ev_nx (s1 := (81, 57, [.null, .ref l1, .int l2, .int l3, .null, .int l5, .int l6, .int l7], [.int 1, .int k0, .int k1, .int k2], (sh, M, J))) f_81_56 rfl ?_
  refine ev_nx (s1 := (81, 58, [.null, .ref l1, .int l2, .int l3, .null, .int l5, .int l6, .int l7], [.int (k0 - 1), .int k1, .int k2], (sh, M, J))) f_81_57 rfl ?_
  exact ev_c1 (s1 := (125, 0, [.int k2, .int k1, .int (k0 - 1)], [], (sh, M, J))) (k := (81, 61, [.null, .ref l1, .int l2, .int l3, .null, .int l5, .int l6, .int l7], [])) f_81_58 rfl
theorem b_Scene_isShown_61 (sh : xSh) (M : Nat → Nat → Int32) (J : Nat → Nat → Int64) (l1 : Nat) (l2 : Int32) (l3 : Int32) (l5 : Int32) (l6 : Int32) (l7 : Int32) (k0 : Int32) : ev (81, 61, [.null, .ref l1, .int l2, .int l3, .null, .int l5, .int l6, .int l7], [.int k0], (sh, M, J)) = (bif decide (k0 = 0) then ev (81, 21, [.null, .ref l1, .int l2, .int l3, .null, .int l5, .int l6, .int (l7 + 1)], [], (sh, M, J)) else some (some (.int 1), (sh, M, J))) := by
  refine ev_br (s1 := (81, 66, [.null, .ref l1, .int l2, .int l3, .null, .int l5, .int l6, .int l7], [], (sh, M, J))) (s2 := (81, 64, [.null, .ref l1, .int l2, .int l3, .null, .int l5, .int l6, .int l7], [], (sh, M, J))) f_81_61 rfl ?_ ?_
  · refine ev_nx (s1 := (81, 69, [.null, .ref l1, .int l2, .int l3, .null, .int l5, .int l6, .int (l7 + 1)], [], (sh, M, J))) f_81_66 rfl ?_
    refine ev_nx (s1 := (81, 21, [.null, .ref l1, .int l2, .int l3, .null, .int l5, .int l6, .int (l7 + 1)], [], (sh, M, J))) f_81_69 rfl ?_
    exact rfl
  · refine ev_nx (s1 := (81, 65, [.null, .ref l1, .int l2, .int l3, .null, .int l5, .int l6, .int l7], [.int 1], (sh, M, J))) f_81_64 rfl ?_
    exact ev_r1 f_81_65 rfl
theorem f_82_0 : xfind (xnth xTs 82) 0 = some (0, .iload_n 2, 1, (0, 0, 0, 0), .null, [], 0, 0, []) := rfl
theorem f_82_1 : xfind (xnth xTs 82) 1 = some (1, .ifCond .lt 8, 3, (0, 0, 0, 0), .null, [], 0, 0, []) := rfl
theorem f_82_4 : xfind (xnth xTs 82) 4 = some (4, .iload_n 2, 1, (0, 0, 0, 0), .null, [], 0, 0, []) := rfl
theorem f_82_5 : xfind (xnth xTs 82) 5 = some (5, .iconst 5, 1, (0, 0, 0, 0), (.int 5), [], 0, 0, []) := rfl
theorem f_82_6 : xfind (xnth xTs 82) 6 = some (6, .if_icmp .lt 4, 3, (0, 0, 0, 0), .null, [], 0, 0, []) := rfl
theorem f_82_9 : xfind (xnth xTs 82) 9 = some (9, .return_, 1, (0, 0, 0, 0), .null, [], 0, 0, []) := rfl
theorem f_82_10 : xfind (xnth xTs 82) 10 = some (10, .aload_n 0, 1, (0, 0, 0, 0), .null, [], 0, 0, []) := rfl
theorem f_82_11 : xfind (xnth xTs 82) 11 = some (11, .iload_n 2, 1, (0, 0, 0, 0), .null, [], 0, 0, []) := rfl
theorem f_82_12 : xfind (xnth xTs 82) 12 = some (12, .invokevirtual 90, 3, (65, 1, 6, 2), .null, [], 631, 0, []) := rfl
theorem f_82_15 : xfind (xnth xTs 82) 15 = some (15, .iconst 1, 1, (0, 0, 0, 0), (.int 1), [], 0, 0, []) := rfl
theorem f_82_16 : xfind (xnth xTs 82) 16 = some (16, .if_icmp .ge 17, 3, (0, 0, 0, 0), .null, [], 0, 0, []) := rfl
theorem f_82_19 : xfind (xnth xTs 82) 19 = some (19, .aload_n 0, 1, (0, 0, 0, 0), .null, [], 0, 0, []) := rfl
theorem f_82_20 : xfind (xnth xTs 82) 20 = some (20, .getfield 11, 3, (6, 0, 1, 0), .null, [], 138, 0, []) := rfl
theorem f_82_23 : xfind (xnth xTs 82) 23 = some (23, .bipush 57, 2, (0, 0, 0, 0), (.int 57), [], 0, 0, []) := rfl
theorem f_82_25 : xfind (xnth xTs 82) 25 = some (25, .iload_n 2, 1, (0, 0, 0, 0), .null, [], 0, 0, []) := rfl
theorem f_82_26 : xfind (xnth xTs 82) 26 = some (26, .iadd, 1, (0, 0, 0, 0), .null, [], 0, 0, []) := rfl
theorem f_82_27 : xfind (xnth xTs 82) 27 = some (27, .dup2, 1, (0, 0, 0, 0), .null, [], 0, 0, []) := rfl
theorem f_82_28 : xfind (xnth xTs 82) 28 = some (28, .iaload, 1, (0, 0, 0, 0), .null, [], 0, 0, []) := rfl
theorem f_82_29 : xfind (xnth xTs 82) 29 = some (29, .iconst 1, 1, (0, 0, 0, 0), (.int 1), [], 0, 0, []) := rfl
theorem f_82_30 : xfind (xnth xTs 82) 30 = some (30, .iadd, 1, (0, 0, 0, 0), .null, [], 0, 0, []) := rfl
theorem f_82_31 : xfind (xnth xTs 82) 31 = some (31, .iastore, 1, (0, 0, 0, 0), .null, [], 0, 0, []) := rfl
theorem f_82_32 : xfind (xnth xTs 82) 32 = some (32, .return_, 1, (0, 0, 0, 0), .null, [], 0, 0, []) := rfl
theorem f_82_33 : xfind (xnth xTs 82) 33 = some (33, .aload_n 0, 1, (0, 0, 0, 0), .null, [], 0, 0, []) := rfl
theorem f_82_34 : xfind (xnth xTs 82) 34 = some (34, .aload_n 1, 1, (0, 0, 0, 0), .null, [], 0, 0, []) := rfl
theorem f_82_35 : xfind (xnth xTs 82) 35 = some (35, .aload_n 0, 1, (0, 0, 0, 0), .null, [], 0, 0, []) := rfl
theorem f_82_36 : xfind (xnth xTs 82) 36 = some (36, .iload_n 2, 1, (0, 0, 0, 0), .null, [], 0, 0, []) := rfl
theorem f_82_37 : xfind (xnth xTs 82) 37 = some (37, .invokevirtual 87, 3, (63, 1, 6, 2), .null, [], 516, 0, []) := rfl
theorem f_82_40 : xfind (xnth xTs 82) 40 = some (40, .invokevirtual 96, 3, (79, 2, 6, 4), .null, [], 632, 0, []) := rfl
theorem f_82_43 : xfind (xnth xTs 82) 43 = some (43, .istore_n 3, 1, (0, 0, 0, 0), .null, [], 0, 0, []) := rfl
theorem f_82_44 : xfind (xnth xTs 82) 44 = some (44, .iload_n 3, 1, (0, 0, 0, 0), .null, [], 0, 0, []) := rfl
theorem f_82_45 : xfind (xnth xTs 82) 45 = some (45, .iconst (-1), 1, (0, 0, 0, 0), (.int (-1)), [], 0, 0, []) := rfl
theorem f_82_46 : xfind (xnth xTs 82) 46 = some (46, .if_icmp .eq 26, 3, (0, 0, 0, 0), .null, [], 0, 0, []) := rfl
theorem f_82_49 : xfind (xnth xTs 82) 49 = some (49, .aload_n 0, 1, (0, 0, 0, 0), .null, [], 0, 0, []) := rfl
theorem f_82_50 : xfind (xnth xTs 82) 50 = some (50, .iload_n 3, 1, (0, 0, 0, 0), .null, [], 0, 0, []) := rfl
theorem f_82_51 : xfind (xnth xTs 82) 51 = some (51, .aload_n 0, 1, (0, 0, 0, 0), .null, [], 0, 0, []) := rfl
theorem f_82_52 : xfind (xnth xTs 82) 52 = some (52, .iload_n 2, 1, (0, 0, 0, 0), .null, [], 0, 0, []) := rfl
theorem f_82_53 : xfind (xnth xTs 82) 53 = some (53, .invokevirtual 99, 3, (64, 1, 6, 2), .null, [], 636, 0, []) := rfl
theorem f_82_56 : xfind (xnth xTs 82) 56 = some (56, .invokevirtual 102, 3, (83, 2, 6, 3), .null, [], 637, 0, []) := rfl
theorem f_82_59 : xfind (xnth xTs 82) 59 = some (59, .aload_n 0, 1, (0, 0, 0, 0), .null, [], 0, 0, []) := rfl
theorem f_82_60 : xfind (xnth xTs 82) 60 = some (60, .getfield 11, 3, (6, 0, 1, 0), .null, [], 138, 0, []) := rfl
theorem f_82_63 : xfind (xnth xTs 82) 63 = some (63, .bipush 52, 2, (0, 0, 0, 0), (.int 52), [], 0, 0, []) := rfl
theorem f_82_65 : xfind (xnth xTs 82) 65 = some (65, .iload_n 2, 1, (0, 0, 0, 0), .null, [], 0, 0, []) := rfl
theorem f_82_66 : xfind (xnth xTs 82) 66 = some (66, .iadd, 1, (0, 0, 0, 0), .null, [], 0, 0, []) := rfl
theorem f_82_67 : xfind (xnth xTs 82) 67 = some (67, .dup2, 1, (0, 0, 0, 0), .null, [], 0, 0, []) := rfl
theorem f_82_68 : xfind (xnth xTs 82) 68 = some (68, .iaload, 1, (0, 0, 0, 0), .null, [], 0, 0, []) := rfl
theorem f_82_69 : xfind (xnth xTs 82) 69 = some (69, .iconst 1, 1, (0, 0, 0, 0), (.int 1), [], 0, 0, []) := rfl
theorem f_82_70 : xfind (xnth xTs 82) 70 = some (70, .isub, 1, (0, 0, 0, 0), .null, [], 0, 0, []) := rfl
theorem f_82_71 : xfind (xnth xTs 82) 71 = some (71, .iastore, 1, (0, 0, 0, 0), .null, [], 0, 0, []) := rfl
theorem f_82_72 : xfind (xnth xTs 82) 72 = some (72, .return_, 1, (0, 0, 0, 0), .null, [], 0, 0, []) := rfl
theorem b_Scene_mendOrBare_0 (sh : xSh) (M : Nat → Nat → Int32) (J : Nat → Nat → Int64) (l0 : Nat) (l1 : Nat) (l2 : Int32) : ev (82, 0, [.ref l0, .ref l1, .int l2, .null], [], (sh, M, J)) = (bif decide (l2 < 0) then some (none, (sh, M, J)) else bif decide (l2 < 5) then bif (decide ((sh.2.2.1 l0).1 = 6) && true) then (ev (65, 0, [.ref l0, .int l2], [], (sh, M, J))).bind (fun r => ev (82, 15, [.ref l0, .ref l1, .int l2, .null], r.1.toList ++ [], r.2)) else none else some (none, (sh, M, J))) := by
  refine ev_nx (s1 := (82, 1, [.ref l0, .ref l1, .int l2, .null], [.int l2], (sh, M, J))) f_82_0 rfl ?_
  refine ev_br (s1 := (82, 9, [.ref l0, .ref l1, .int l2, .null], [], (sh, M, J))) (s2 := (82, 4, [.ref l0, .ref l1, .int l2, .null], [], (sh, M, J))) f_82_1 rfl ?_ ?_
  · exact ev_r1 f_82_9 rfl
  · refine ev_nx (s1 := (82, 5, [.ref l0, .ref l1, .int l2, .null], [.int l2], (sh, M, J))) f_82_4 rfl ?_
    refine ev_nx (s1 := (82, 6, [.ref l0, .ref l1, .int l2, .null], [.int 5, .int l2], (sh, M, J))) f_82_5 rfl ?_
    refine ev_br (s1 := (82, 10, [.ref l0, .ref l1, .int l2, .null], [], (sh, M, J))) (s2 := (82, 9, [.ref l0, .ref l1, .int l2, .null], [], (sh, M, J))) f_82_6 rfl ?_ ?_
    · refine ev_nx (s1 := (82, 11, [.ref l0, .ref l1, .int l2, .null], [.ref l0], (sh, M, J))) f_82_10 rfl ?_
      refine ev_nx (s1 := (82, 12, [.ref l0, .ref l1, .int l2, .null], [.int l2, .ref l0], (sh, M, J))) f_82_11 rfl ?_
      exact ev_ca (cc := (decide ((sh.2.2.1 l0).1 = 6) && true)) (s1 := (65, 0, [.ref l0, .int l2], [], (sh, M, J))) (k := (82, 15, [.ref l0, .ref l1, .int l2, .null], [])) f_82_12 rfl
    · exact ev_r1 f_82_9 rfl
theorem b_Scene_mendOrBare_15 (sh : xSh) (M : Nat → Nat → Int32) (J : Nat → Nat → Int64) (l0 : Nat) (l1 : Nat) (l2 : Int32) (k0 : Int32) : ev (82, 15, [.ref l0, .ref l1, .int l2, .null], [.int k0], (sh, M, J)) = (bif decide (1 ≤ k0) then bif (decide ((sh.2.2.1 l0).1 = 6) && true) then (ev (63, 0, [.ref l0, .int l2], [], (sh, M, J))).bind (fun r => ev (82, 40, [.ref l0, .ref l1, .int l2, .null], r.1.toList ++ [.ref l1, .ref l0], r.2)) else none else bif decide ((sh.2.2.1 l0).1 = 6) then bif (decide ((sh.2.2.1 (sh.2.2.2 l0 0)).1 = 11) && xin ((57 : Int32) + l2) (sh.2.2.1 (sh.2.2.2 l0 0)).2) then bif (decide ((sh.2.2.1 (sh.2.2.2 l0 0)).1 = 11) && xin ((57 : Int32) + l2) (sh.2.2.1 (sh.2.2.2 l0 0)).2) then some (none, (sh, (xu M (sh.2.2.2 l0 0) (((57 : Int32) + l2) : Int32).toNatClampNeg ((M (sh.2.2.2 l0 0) (((57 : Int32) + l2) : Int32).toNatClampNeg) + 1)), J)) else none else none else none) := by
  refine ev_nx (s1 := (82, 16, [.ref l0, .ref l1, .int l2, .null], [.int 1, .int k0], (sh, M, J))) f_82_15 rfl ?_
  refine ev_br (s1 := (82, 33, [.ref l0, .ref l1, .int l2, .null], [], (sh, M, J))) (s2 := (82, 19, [.ref l0, .ref l1, .int l2, .null], [], (sh, M, J))) f_82_16 rfl ?_ ?_
  · refine ev_nx (s1 := (82, 34, [.ref l0, .ref l1, .int l2, .null], [.ref l0], (sh, M, J))) f_82_33 rfl ?_
    refine ev_nx (s1 := (82, 35, [.ref l0, .ref l1, .int l2, .null], [.ref l1, .ref l0], (sh, M, J))) f_82_34 rfl ?_
    refine ev_nx (s1 := (82, 36, [.ref l0, .ref l1, .int l2, .null], [.ref l0, .ref l1, .ref l0], (sh, M, J))) f_82_35 rfl ?_
    refine ev_nx (s1 := (82, 37, [.ref l0, .ref l1, .int l2, .null], [.int l2, .ref l0, .ref l1, .ref l0], (sh, M, J))) f_82_36 rfl ?_
    exact ev_ca (cc := (decide ((sh.2.2.1 l0).1 = 6) && true)) (s1 := (63, 0, [.ref l0, .int l2], [], (sh, M, J))) (k := (82, 40, [.ref l0, .ref l1, .int l2, .null], [.ref l1, .ref l0])) f_82_37 rfl
  · refine ev_nx (s1 := (82, 20, [.ref l0, .ref l1, .int l2, .null], [.ref l0], (sh, M, J))) f_82_19 rfl ?_
    refine ev_gd (s1 := (82, 23, [.ref l0, .ref l1, .int l2, .null], [.ref (sh.2.2.2 l0 0)], (sh, M, J))) f_82_20 rfl ?_
    refine ev_nx (s1 := (82, 25, [.ref l0, .ref l1, .int l2, .null], [.int 57, .ref (sh.2.2.2 l0 0)], (sh, M, J))) f_82_23 rfl ?_
    refine ev_nx (s1 := (82, 26, [.ref l0, .ref l1, .int l2, .null], [.int l2, .int 57, .ref (sh.2.2.2 l0 0)], (sh, M, J))) f_82_25 rfl ?_
    refine ev_nx (s1 := (82, 27, [.ref l0, .ref l1, .int l2, .null], [.int ((57 : Int32) + l2), .ref (sh.2.2.2 l0 0)], (sh, M, J))) f_82_26 rfl ?_
    refine ev_nx (s1 := (82, 28, [.ref l0, .ref l1, .int l2, .null], [.int ((57 : Int32) + l2), .ref (sh.2.2.2 l0 0), .int ((57 : Int32) + l2), .ref (sh.2.2.2 l0 0)], (sh, M, J))) f_82_27 rfl ?_
    refine ev_gd (s1 := (82, 29, [.ref l0, .ref l1, .int l2, .null], [.int (M (sh.2.2.2 l0 0) (((57 : Int32) + l2) : Int32).toNatClampNeg), .int ((57 : Int32) + l2), .ref (sh.2.2.2 l0 0)], (sh, M, J))) f_82_28 rfl ?_
    refine ev_nx (s1 := (82, 30, [.ref l0, .ref l1, .int l2, .null], [.int 1, .int (M (sh.2.2.2 l0 0) (((57 : Int32) + l2) : Int32).toNatClampNeg), .int ((57 : Int32) + l2), .ref (sh.2.2.2 l0 0)], (sh, M, J))) f_82_29 rfl ?_
    refine ev_nx (s1 := (82, 31, [.ref l0, .ref l1, .int l2, .null], [.int ((M (sh.2.2.2 l0 0) (((57 : Int32) + l2) : Int32).toNatClampNeg) + 1), .int ((57 : Int32) + l2), .ref (sh.2.2.2 l0 0)], (sh, M, J))) f_82_30 rfl ?_
    refine ev_gd (s1 := (82, 32, [.ref l0, .ref l1, .int l2, .null], [], (sh, (xu M (sh.2.2.2 l0 0) (((57 : Int32) + l2) : Int32).toNatClampNeg ((M (sh.2.2.2 l0 0) (((57 : Int32) + l2) : Int32).toNatClampNeg) + 1)), J))) f_82_31 rfl ?_
    exact ev_r1 f_82_32 rfl
theorem b_Scene_mendOrBare_40 (sh : xSh) (M : Nat → Nat → Int32) (J : Nat → Nat → Int64) (l0 : Nat) (l1 : Nat) (l2 : Int32) (k0 : Int32) (k1 : Nat) (k2 : Nat) : ev (82, 40, [.ref l0, .ref l1, .int l2, .null], [.int k0, .ref k1, .ref k2], (sh, M, J)) = (bif (decide ((sh.2.2.1 k2).1 = 6) && true) then (ev (79, 0, [.ref k2, .ref k1, .int k0, .null], [], (sh, M, J))).bind (fun r => ev (82, 43, [.ref l0, .ref l1, .int l2, .null], r.1.toList ++ [], r.2)) else none) := by
  exact ev_ca (cc := (decide ((sh.2.2.1 k2).1 = 6) && true)) (s1 := (79, 0, [.ref k2, .ref k1, .int k0, .null], [], (sh, M, J))) (k := (82, 43, [.ref l0, .ref l1, .int l2, .null], [])) f_82_40 rfl
theorem b_Scene_mendOrBare_43 (sh : xSh) (M : Nat → Nat → Int32) (J : Nat → Nat → Int64) (l0 : Nat) (l1 : Nat) (l2 : Int32) (k0 : Int32) : ev (82, 43, [.ref l0, .ref l1, .int l2, .null], [.int k0], (sh, M, J)) = (bif decide (k0 = (-1)) then some (none, (sh, M, J)) else bif (decide ((sh.2.2.1 l0).1 = 6) && true) then (ev (64, 0, [.ref l0, .int l2], [], (sh, M, J))).bind (fun r => ev (82, 56, [.ref l0, .ref l1, .int l2, .int k0], r.1.toList ++ [.int k0, .ref l0], r.2)) else none) := by
  refine ev_nx (s1 := (82, 44, [.ref l0, .ref l1, .int l2, .int k0], [], (sh, M, J))) f_82_43 rfl ?_
  refine ev_nx (s1 := (82, 45, [.ref l0, .ref l1, .int l2, .int k0], [.int k0], (sh, M, J))) f_82_44 rfl ?_
  refine ev_nx (s1 := (82, 46, [.ref l0, .ref l1, .int l2, .int k0], [.int (-1), .int k0], (sh, M, J))) f_82_45 rfl ?_
  refine ev_br (s1 := (82, 72, [.ref l0, .ref l1, .int l2, .int k0], [], (sh, M, J))) (s2 := (82, 49, [.ref l0, .ref l1, .int l2, .int k0], [], (sh, M, J))) f_82_46 rfl ?_ ?_
  · exact ev_r1 f_82_72 rfl
  · refine ev_nx (s1 := (82, 50, [.ref l0, .ref l1, .int l2, .int k0], [.ref l0], (sh, M, J))) f_82_49 rfl ?_
    refine ev_nx (s1 := (82, 51, [.ref l0, .ref l1, .int l2, .int k0], [.int k0, .ref l0], (sh, M, J))) f_82_50 rfl ?_
    refine ev_nx (s1 := (82, 52, [.ref l0, .ref l1, .int l2, .int k0], [.ref l0, .int k0, .ref l0], (sh, M, J))) f_82_51 rfl ?_
    refine ev_nx (s1 := (82, 53, [.ref l0, .ref l1, .int l2, .int k0], [.int l2, .ref l0, .int k0, .ref l0], (sh, M, J))) f_82_52 rfl ?_
    exact ev_ca (cc := (decide ((sh.2.2.1 l0).1 = 6) && true)) (s1 := (64, 0, [.ref l0, .int l2], [], (sh, M, J))) (k := (82, 56, [.ref l0, .ref l1, .int l2, .int k0], [.int k0, .ref l0])) f_82_53 rfl
theorem b_Scene_mendOrBare_56 (sh : xSh) (M : Nat → Nat → Int32) (J : Nat → Nat → Int64) (l0 : Nat) (l1 : Nat) (l2 : Int32) (l3 : Int32) (k0 : Int32) (k1 : Int32) (k2 : Nat) : ev (82, 56, [.ref l0, .ref l1, .int l2, .int l3], [.int k0, .int k1, .ref k2], (sh, M, J)) = (bif (decide ((sh.2.2.1 k2).1 = 6) && true) then (ev (83, 0, [.ref k2, .int k1, .int k0], [], (sh, M, J))).bind (fun r => ev (82, 59, [.ref l0, .ref l1, .int l2, .int l3], r.1.toList ++ [], r.2)) else none) := by
  exact ev_ca (cc := (decide ((sh.2.2.1 k2).1 = 6) && true)) (s1 := (83, 0, [.ref k2, .int k1, .int k0], [], (sh, M, J))) (k := (82, 59, [.ref l0, .ref l1, .int l2, .int l3], [])) f_82_56 rfl
theorem b_Scene_mendOrBare_59 (sh : xSh) (M : Nat → Nat → Int32) (J : Nat → Nat → Int64) (l0 : Nat) (l1 : Nat) (l2 : Int32) (l3 : Int32) : ev (82, 59, [.ref l0, .ref l1, .int l2, .int l3], [], (sh, M, J)) = (bif decide ((sh.2.2.1 l0).1 = 6) then bif (decide ((sh.2.2.1 (sh.2.2.2 l0 0)).1 = 11) && xin ((52 : Int32) + l2) (sh.2.2.1 (sh.2.2.2 l0 0)).2) then bif (decide ((sh.2.2.1 (sh.2.2.2 l0 0)).1 = 11) && xin ((52 : Int32) + l2) (sh.2.2.1 (sh.2.2.2 l0 0)).2) then some (none, (sh, (xu M (sh.2.2.2 l0 0) (((52 : Int32) + l2) : Int32).toNatClampNeg ((M (sh.2.2.2 l0 0) (((52 : Int32) + l2) : Int32).toNatClampNeg) - 1)), J)) else none else none else none) := by
  refine ev_nx (s1 := (82, 60, [.ref l0, .ref l1, .int l2, .int l3], [.ref l0], (sh, M, J))) f_82_59 rfl ?_
  refine ev_gd (s1 := (82, 63, [.ref l0, .ref l1, .int l2, .int l3], [.ref (sh.2.2.2 l0 0)], (sh, M, J))) f_82_60 rfl ?_
  refine ev_nx (s1 := (82, 65, [.ref l0, .ref l1, .int l2, .int l3], [.int 52, .ref (sh.2.2.2 l0 0)], (sh, M, J))) f_82_63 rfl ?_
  refine ev_nx (s1 := (82, 66, [.ref l0, .ref l1, .int l2, .int l3], [.int l2, .int 52, .ref (sh.2.2.2 l0 0)], (sh, M, J))) f_82_65 rfl ?_
  refine ev_nx (s1 := (82, 67, [.ref l0, .ref l1, .int l2, .int l3], [.int ((52 : Int32) + l2), .ref (sh.2.2.2 l0 0)], (sh, M, J))) f_82_66 rfl ?_
  refine ev_nx (s1 := (82, 68, [.ref l0, .ref l1, .int l2, .int l3], [.int ((52 : Int32) + l2), .ref (sh.2.2.2 l0 0), .int ((52 : Int32) + l2), .ref (sh.2.2.2 l0 0)], (sh, M, J))) f_82_67 rfl ?_
  refine ev_gd (s1 := (82, 69, [.ref l0, .ref l1, .int l2, .int l3], [.int (M (sh.2.2.2 l0 0) (((52 : Int32) + l2) : Int32).toNatClampNeg), .int ((52 : Int32) + l2), .ref (sh.2.2.2 l0 0)], (sh, M, J))) f_82_68 rfl ?_
  refine ev_nx (s1 := (82, 70, [.ref l0, .ref l1, .int l2, .int l3], [.int 1, .int (M (sh.2.2.2 l0 0) (((52 : Int32) + l2) : Int32).toNatClampNeg), .int ((52 : Int32) + l2), .ref (sh.2.2.2 l0 0)], (sh, M, J))) f_82_69 rfl ?_
  refine ev_nx (s1 := (82, 71, [.ref l0, .ref l1, .int l2, .int l3], [.int ((M (sh.2.2.2 l0 0) (((52 : Int32) + l2) : Int32).toNatClampNeg) - 1), .int ((52 : Int32) + l2), .ref (sh.2.2.2 l0 0)], (sh, M, J))) f_82_70 rfl ?_
  refine ev_gd (s1 := (82, 72, [.ref l0, .ref l1, .int l2, .int l3], [], (sh, (xu M (sh.2.2.2 l0 0) (((52 : Int32) + l2) : Int32).toNatClampNeg ((M (sh.2.2.2 l0 0) (((52 : Int32) + l2) : Int32).toNatClampNeg) - 1)), J))) f_82_71 rfl ?_
  exact ev_r1 f_82_72 rfl
theorem f_83_0 : xfind (xnth xTs 83) 0 = some (0, .iload_n 1, 1, (0, 0, 0, 0), .null, [], 0, 0, []) := rfl
theorem f_83_1 : xfind (xnth xTs 83) 1 = some (1, .ifCond .lt 45, 3, (0, 0, 0, 0), .null, [], 0, 0, []) := rfl
theorem f_83_4 : xfind (xnth xTs 83) 4 = some (4, .iload_n 1, 1, (0, 0, 0, 0), .null, [], 0, 0, []) := rfl
theorem f_83_5 : xfind (xnth xTs 83) 5 = some (5, .bipush 20, 2, (0, 0, 0, 0), (.int 20), [], 0, 0, []) := rfl
theorem f_83_7 : xfind (xnth xTs 83) 7 = some (7, .if_icmp .ge 39, 3, (0, 0, 0, 0), .null, [], 0, 0, []) := rfl
theorem f_83_10 : xfind (xnth xTs 83) 10 = some (10, .aload_n 0, 1, (0, 0, 0, 0), .null, [], 0, 0, []) := rfl
theorem f_83_11 : xfind (xnth xTs 83) 11 = some (11, .getfield 11, 3, (6, 0, 1, 0), .null, [], 138, 0, []) := rfl
theorem f_83_14 : xfind (xnth xTs 83) 14 = some (14, .iconst 0, 1, (0, 0, 0, 0), (.int 0), [], 0, 0, []) := rfl
theorem f_83_15 : xfind (xnth xTs 83) 15 = some (15, .dup2, 1, (0, 0, 0, 0), .null, [], 0, 0, []) := rfl
theorem f_83_16 : xfind (xnth xTs 83) 16 = some (16, .iaload, 1, (0, 0, 0, 0), .null, [], 0, 0, []) := rfl
theorem f_83_17 : xfind (xnth xTs 83) 17 = some (17, .iconst 1, 1, (0, 0, 0, 0), (.int 1), [], 0, 0, []) := rfl
theorem f_83_18 : xfind (xnth xTs 83) 18 = some (18, .iload_n 1, 1, (0, 0, 0, 0), .null, [], 0, 0, []) := rfl
theorem f_83_19 : xfind (xnth xTs 83) 19 = some (19, .ishl, 1, (0, 0, 0, 0), .null, [], 0, 0, []) := rfl
theorem f_83_20 : xfind (xnth xTs 83) 20 = some (20, .iconst (-1), 1, (0, 0, 0, 0), (.int (-1)), [], 0, 0, []) := rfl
theorem f_83_21 : xfind (xnth xTs 83) 21 = some (21, .ixor, 1, (0, 0, 0, 0), .null, [], 0, 0, []) := rfl
theorem f_83_22 : xfind (xnth xTs 83) 22 = some (22, .iand, 1, (0, 0, 0, 0), .null, [], 0, 0, []) := rfl
theorem f_83_23 : xfind (xnth xTs 83) 23 = some (23, .iastore, 1, (0, 0, 0, 0), .null, [], 0, 0, []) := rfl
theorem f_83_24 : xfind (xnth xTs 83) 24 = some (24, .aload_n 0, 1, (0, 0, 0, 0), .null, [], 0, 0, []) := rfl
theorem f_83_25 : xfind (xnth xTs 83) 25 = some (25, .getfield 11, 3, (6, 0, 1, 0), .null, [], 138, 0, []) := rfl
theorem f_83_28 : xfind (xnth xTs 83) 28 = some (28, .iconst 2, 1, (0, 0, 0, 0), (.int 2), [], 0, 0, []) := rfl
theorem f_83_29 : xfind (xnth xTs 83) 29 = some (29, .iload_n 1, 1, (0, 0, 0, 0), .null, [], 0, 0, []) := rfl
theorem f_83_30 : xfind (xnth xTs 83) 30 = some (30, .iadd, 1, (0, 0, 0, 0), .null, [], 0, 0, []) := rfl
theorem f_83_31 : xfind (xnth xTs 83) 31 = some (31, .iload_n 2, 1, (0, 0, 0, 0), .null, [], 0, 0, []) := rfl
theorem f_83_32 : xfind (xnth xTs 83) 32 = some (32, .iastore, 1, (0, 0, 0, 0), .null, [], 0, 0, []) := rfl
theorem f_83_33 : xfind (xnth xTs 83) 33 = some (33, .aload_n 0, 1, (0, 0, 0, 0), .null, [], 0, 0, []) := rfl
theorem f_83_34 : xfind (xnth xTs 83) 34 = some (34, .getfield 11, 3, (6, 0, 1, 0), .null, [], 138, 0, []) := rfl
theorem f_83_37 : xfind (xnth xTs 83) 37 = some (37, .bipush 22, 2, (0, 0, 0, 0), (.int 22), [], 0, 0, []) := rfl
theorem f_83_39 : xfind (xnth xTs 83) 39 = some (39, .iload_n 1, 1, (0, 0, 0, 0), .null, [], 0, 0, []) := rfl
theorem f_83_40 : xfind (xnth xTs 83) 40 = some (40, .iadd, 1, (0, 0, 0, 0), .null, [], 0, 0, []) := rfl
theorem f_83_41 : xfind (xnth xTs 83) 41 = some (41, .dup2, 1, (0, 0, 0, 0), .null, [], 0, 0, []) := rfl
theorem f_83_42 : xfind (xnth xTs 83) 42 = some (42, .iaload, 1, (0, 0, 0, 0), .null, [], 0, 0, []) := rfl
theorem f_83_43 : xfind (xnth xTs 83) 43 = some (43, .iconst 1, 1, (0, 0, 0, 0), (.int 1), [], 0, 0, []) := rfl
theorem f_83_44 : xfind (xnth xTs 83) 44 = some (44, .iadd, 1, (0, 0, 0, 0), .null, [], 0, 0, []) := rfl
theorem f_83_45 : xfind (xnth xTs 83) 45 = some (45, .iastore, 1, (0, 0, 0, 0), .null, [], 0, 0, []) := rfl
theorem f_83_46 : xfind (xnth xTs 83) 46 = some (46, .return_, 1, (0, 0, 0, 0), .null, [], 0, 0, []) := rfl
theorem b_Scene_patch_0 (sh : xSh) (M : Nat → Nat → Int32) (J : Nat → Nat → Int64) (l0 : Nat) (l1 : Int32) (l2 : Int32) : ev (83, 0, [.ref l0, .int l1, .int l2], [], (sh, M, J)) = (bif decide (l1 < 0) then some (none, (sh, M, J)) else bif decide (20 ≤ l1) then some (none, (sh, M, J)) else bif decide ((sh.2.2.1 l0).1 = 6) then bif (decide ((sh.2.2.1 (sh.2.2.2 l0 0)).1 = 11) && xin 0 (sh.2.2.1 (sh.2.2.2 l0 0)).2) then bif (decide ((sh.2.2.1 (sh.2.2.2 l0 0)).1 = 11) && xin 0 (sh.2.2.1 (sh.2.2.2 l0 0)).2) then bif decide ((sh.2.2.1 l0).1 = 6) then bif (decide ((sh.2.2.1 (sh.2.2.2 l0 0)).1 = 11) && xin ((2 : Int32) + l1) (sh.2.2.1 (sh.2.2.2 l0 0)).2) then bif decide ((sh.2.2.1 l0).1 = 6) then bif (decide ((sh.2.2.1 (sh.2.2.2 l0 0)).1 = 11) && xin ((22 : Int32) + l1) (sh.2.2.1 (sh.2.2.2 l0 0)).2) then bif (decide ((sh.2.2.1 (sh.2.2.2 l0 0)).1 = 11) && xin ((22 : Int32) + l1) (sh.2.2.1 (sh.2.2.2 l0 0)).2) then some (none, (sh, (xu (xu (xu M (sh.2.2.2 l0 0) (0 : Int32).toNatClampNeg ((M (sh.2.2.2 l0 0) (0 : Int32).toNatClampNeg) &&& (((1 : Int32) <<< (l1 &&& 31)) ^^^ (-1)))) (sh.2.2.2 l0 0) (((2 : Int32) + l1) : Int32).toNatClampNeg l2) (sh.2.2.2 l0 0) (((22 : Int32) + l1) : Int32).toNatClampNeg (((xu (xu M (sh.2.2.2 l0 0) (0 : Int32).toNatClampNeg ((M (sh.2.2.2 l0 0) (0 : Int32).toNatClampNeg) &&& (((1 : Int32) <<< (l1 &&& 31)) ^^^ (-1)))) (sh.2.2.2 l0 0) (((2 : Int32) + l1) : Int32).toNatClampNeg l2) (sh.2.2.2 l0 0) (((22 : Int32) + l1) : Int32).toNatClampNeg) + 1)), J)) else none else none else none else none else none else none else none else none) := by
  refine ev_nx (s1 := (83, 1, [.ref l0, .int l1, .int l2], [.int l1], (sh, M, J))) f_83_0 rfl ?_
  refine ev_br (s1 := (83, 46, [.ref l0, .int l1, .int l2], [], (sh, M, J))) (s2 := (83, 4, [.ref l0, .int l1, .int l2], [], (sh, M, J))) f_83_1 rfl ?_ ?_
  · exact ev_r1 f_83_46 rfl
  · refine ev_nx (s1 := (83, 5, [.ref l0, .int l1, .int l2], [.int l1], (sh, M, J))) f_83_4 rfl ?_
    refine ev_nx (s1 := (83, 7, [.ref l0, .int l1, .int l2], [.int 20, .int l1], (sh, M, J))) f_83_5 rfl ?_
    refine ev_br (s1 := (83, 46, [.ref l0, .int l1, .int l2], [], (sh, M, J))) (s2 := (83, 10, [.ref l0, .int l1, .int l2], [], (sh, M, J))) f_83_7 rfl ?_ ?_
    · exact ev_r1 f_83_46 rfl
    · refine ev_nx (s1 := (83, 11, [.ref l0, .int l1, .int l2], [.ref l0], (sh, M, J))) f_83_10 rfl ?_
      refine ev_gd (s1 := (83, 14, [.ref l0, .int l1, .int l2], [.ref (sh.2.2.2 l0 0)], (sh, M, J))) f_83_11 rfl ?_
      refine ev_nx (s1 := (83, 15, [.ref l0, .int l1, .int l2], [.int 0, .ref (sh.2.2.2 l0 0)], (sh, M, J))) f_83_14 rfl ?_
      refine ev_nx (s1 := (83, 16, [.ref l0, .int l1, .int l2], [.int 0, .ref (sh.2.2.2 l0 0), .int 0, .ref (sh.2.2.2 l0 0)], (sh, M, J))) f_83_15 rfl ?_
      refine ev_gd (s1 := (83, 17, [.ref l0, .int l1, .int l2], [.int (M (sh.2.2.2 l0 0) (0 : Int32).toNatClampNeg), .int 0, .ref (sh.2.2.2 l0 0)], (sh, M, J))) f_83_16 rfl ?_
      refine ev_nx (s1 := (83, 18, [.ref l0, .int l1, .int l2], [.int 1, .int (M (sh.2.2.2 l0 0) (0 : Int32).toNatClampNeg), .int 0, .ref (sh.2.2.2 l0 0)], (sh, M, J))) f_83_17 rfl ?_
      refine ev_nx (s1 := (83, 19, [.ref l0, .int l1, .int l2], [.int l1, .int 1, .int (M (sh.2.2.2 l0 0) (0 : Int32).toNatClampNeg), .int 0, .ref (sh.2.2.2 l0 0)], (sh, M, J))) f_83_18 rfl ?_
      refine ev_nx (s1 := (83, 20, [.ref l0, .int l1, .int l2], [.int ((1 : Int32) <<< (l1 &&& 31)), .int (M (sh.2.2.2 l0 0) (0 : Int32).toNatClampNeg), .int 0, .ref (sh.2.2.2 l0 0)], (sh, M, J))) f_83_19 rfl ?_
      refine ev_nx (s1 := (83, 21, [.ref l0, .int l1, .int l2], [.int (-1), .int ((1 : Int32) <<< (l1 &&& 31)), .int (M (sh.2.2.2 l0 0) (0 : Int32).toNatClampNeg), .int 0, .ref (sh.2.2.2 l0 0)], (sh, M, J))) f_83_20 rfl ?_
      refine ev_nx (s1 := (83, 22, [.ref l0, .int l1, .int l2], [.int (((1 : Int32) <<< (l1 &&& 31)) ^^^ (-1)), .int (M (sh.2.2.2 l0 0) (0 : Int32).toNatClampNeg), .int 0, .ref (sh.2.2.2 l0 0)], (sh, M, J))) f_83_21 rfl ?_
      refine ev_nx (s1 := (83, 23, [.ref l0, .int l1, .int l2], [.int ((M (sh.2.2.2 l0 0) (0 : Int32).toNatClampNeg) &&& (((1 : Int32) <<< (l1 &&& 31)) ^^^ (-1))), .int 0, .ref (sh.2.2.2 l0 0)], (sh, M, J))) f_83_22 rfl ?_
      refine ev_gd (s1 := (83, 24, [.ref l0, .int l1, .int l2], [], (sh, (xu M (sh.2.2.2 l0 0) (0 : Int32).toNatClampNeg ((M (sh.2.2.2 l0 0) (0 : Int32).toNatClampNeg) &&& (((1 : Int32) <<< (l1 &&& 31)) ^^^ (-1)))), J))) f_83_23 rfl ?_
      refine ev_nx (s1 := (83, 25, [.ref l0, .int l1, .int l2], [.ref l0], (sh, (xu M (sh.2.2.2 l0 0) (0 : Int32).toNatClampNeg ((M (sh.2.2.2 l0 0) (0 : Int32).toNatClampNeg) &&& (((1 : Int32) <<< (l1 &&& 31)) ^^^ (-1)))), J))) f_83_24 rfl ?_
      refine ev_gd (s1 := (83, 28, [.ref l0, .int l1, .int l2], [.ref (sh.2.2.2 l0 0)], (sh, (xu M (sh.2.2.2 l0 0) (0 : Int32).toNatClampNeg ((M (sh.2.2.2 l0 0) (0 : Int32).toNatClampNeg) &&& (((1 : Int32) <<< (l1 &&& 31)) ^^^ (-1)))), J))) f_83_25 rfl ?_
      refine ev_nx (s1 := (83, 29, [.ref l0, .int l1, .int l2], [.int 2, .ref (sh.2.2.2 l0 0)], (sh, (xu M (sh.2.2.2 l0 0) (0 : Int32).toNatClampNeg ((M (sh.2.2.2 l0 0) (0 : Int32).toNatClampNeg) &&& (((1 : Int32) <<< (l1 &&& 31)) ^^^ (-1)))), J))) f_83_28 rfl ?_
      refine ev_nx (s1 := (83, 30, [.ref l0, .int l1, .int l2], [.int l1, .int 2, .ref (sh.2.2.2 l0 0)], (sh, (xu M (sh.2.2.2 l0 0) (0 : Int32).toNatClampNeg ((M (sh.2.2.2 l0 0) (0 : Int32).toNatClampNeg) &&& (((1 : Int32) <<< (l1 &&& 31)) ^^^ (-1)))), J))) f_83_29 rfl ?_
      refine ev_nx (s1 := (83, 31, [.ref l0, .int l1, .int l2], [.int ((2 : Int32) + l1), .ref (sh.2.2.2 l0 0)], (sh, (xu M (sh.2.2.2 l0 0) (0 : Int32).toNatClampNeg ((M (sh.2.2.2 l0 0) (0 : Int32).toNatClampNeg) &&& (((1 : Int32) <<< (l1 &&& 31)) ^^^ (-1)))), J))) f_83_30 rfl ?_
      refine ev_nx (s1 := (83, 32, [.ref l0, .int l1, .int l2], [.int l2, .int ((2 : Int32) + l1), .ref (sh.2.2.2 l0 0)], (sh, (xu M (sh.2.2.2 l0 0) (0 : Int32).toNatClampNeg ((M (sh.2.2.2 l0 0) (0 : Int32).toNatClampNeg) &&& (((1 : Int32) <<< (l1 &&& 31)) ^^^ (-1)))), J))) f_83_31 rfl ?_
      refine ev_gd (s1 := (83, 33, [.ref l0, .int l1, .int l2], [], (sh, (xu (xu M (sh.2.2.2 l0 0) (0 : Int32).toNatClampNeg ((M (sh.2.2.2 l0 0) (0 : Int32).toNatClampNeg) &&& (((1 : Int32) <<< (l1 &&& 31)) ^^^ (-1)))) (sh.2.2.2 l0 0) (((2 : Int32) + l1) : Int32).toNatClampNeg l2), J))) f_83_32 rfl ?_
      refine ev_nx (s1 := (83, 34, [.ref l0, .int l1, .int l2], [.ref l0], (sh, (xu (xu M (sh.2.2.2 l0 0) (0 : Int32).toNatClampNeg ((M (sh.2.2.2 l0 0) (0 : Int32).toNatClampNeg) &&& (((1 : Int32) <<< (l1 &&& 31)) ^^^ (-1)))) (sh.2.2.2 l0 0) (((2 : Int32) + l1) : Int32).toNatClampNeg l2), J))) f_83_33 rfl ?_
      refine ev_gd (s1 := (83, 37, [.ref l0, .int l1, .int l2], [.ref (sh.2.2.2 l0 0)], (sh, (xu (xu M (sh.2.2.2 l0 0) (0 : Int32).toNatClampNeg ((M (sh.2.2.2 l0 0) (0 : Int32).toNatClampNeg) &&& (((1 : Int32) <<< (l1 &&& 31)) ^^^ (-1)))) (sh.2.2.2 l0 0) (((2 : Int32) + l1) : Int32).toNatClampNeg l2), J))) f_83_34 rfl ?_
      refine ev_nx (s1 := (83, 39, [.ref l0, .int l1, .int l2], [.int 22, .ref (sh.2.2.2 l0 0)], (sh, (xu (xu M (sh.2.2.2 l0 0) (0 : Int32).toNatClampNeg ((M (sh.2.2.2 l0 0) (0 : Int32).toNatClampNeg) &&& (((1 : Int32) <<< (l1 &&& 31)) ^^^ (-1)))) (sh.2.2.2 l0 0) (((2 : Int32) + l1) : Int32).toNatClampNeg l2), J))) f_83_37 rfl ?_
      refine ev_nx (s1 := (83, 40, [.ref l0, .int l1, .int l2], [.int l1, .int 22, .ref (sh.2.2.2 l0 0)], (sh, (xu (xu M (sh.2.2.2 l0 0) (0 : Int32).toNatClampNeg ((M (sh.2.2.2 l0 0) (0 : Int32).toNatClampNeg) &&& (((1 : Int32) <<< (l1 &&& 31)) ^^^ (-1)))) (sh.2.2.2 l0 0) (((2 : Int32) + l1) : Int32).toNatClampNeg l2), J))) f_83_39 rfl ?_
      refine ev_nx (s1 := (83, 41, [.ref l0, .int l1, .int l2], [.int ((22 : Int32) + l1), .ref (sh.2.2.2 l0 0)], (sh, (xu (xu M (sh.2.2.2 l0 0) (0 : Int32).toNatClampNeg ((M (sh.2.2.2 l0 0) (0 : Int32).toNatClampNeg) &&& (((1 : Int32) <<< (l1 &&& 31)) ^^^ (-1)))) (sh.2.2.2 l0 0) (((2 : Int32) + l1) : Int32).toNatClampNeg l2), J))) f_83_40 rfl ?_
      refine ev_nx (s1 := (83, 42, [.ref l0, .int l1, .int l2], [.int ((22 : Int32) + l1), .ref (sh.2.2.2 l0 0), .int ((22 : Int32) + l1), .ref (sh.2.2.2 l0 0)], (sh, (xu (xu M (sh.2.2.2 l0 0) (0 : Int32).toNatClampNeg ((M (sh.2.2.2 l0 0) (0 : Int32).toNatClampNeg) &&& (((1 : Int32) <<< (l1 &&& 31)) ^^^ (-1)))) (sh.2.2.2 l0 0) (((2 : Int32) + l1) : Int32).toNatClampNeg l2), J))) f_83_41 rfl ?_
      refine ev_gd (s1 := (83, 43, [.ref l0, .int l1, .int l2], [.int ((xu (xu M (sh.2.2.2 l0 0) (0 : Int32).toNatClampNeg ((M (sh.2.2.2 l0 0) (0 : Int32).toNatClampNeg) &&& (((1 : Int32) <<< (l1 &&& 31)) ^^^ (-1)))) (sh.2.2.2 l0 0) (((2 : Int32) + l1) : Int32).toNatClampNeg l2) (sh.2.2.2 l0 0) (((22 : Int32) + l1) : Int32).toNatClampNeg), .int ((22 : Int32) + l1), .ref (sh.2.2.2 l0 0)], (sh, (xu (xu M (sh.2.2.2 l0 0) (0 : Int32).toNatClampNeg ((M (sh.2.2.2 l0 0) (0 : Int32).toNatClampNeg) &&& (((1 : Int32) <<< (l1 &&& 31)) ^^^ (-1)))) (sh.2.2.2 l0 0) (((2 : Int32) + l1) : Int32).toNatClampNeg l2), J))) f_83_42 rfl ?_
      refine ev_nx (s1 := (83, 44, [.ref l0, .int l1, .int l2], [.int 1, .int ((xu (xu M (sh.2.2.2 l0 0) (0 : Int32).toNatClampNeg ((M (sh.2.2.2 l0 0) (0 : Int32).toNatClampNeg) &&& (((1 : Int32) <<< (l1 &&& 31)) ^^^ (-1)))) (sh.2.2.2 l0 0) (((2 : Int32) + l1) : Int32).toNatClampNeg l2) (sh.2.2.2 l0 0) (((22 : Int32) + l1) : Int32).toNatClampNeg), .int ((22 : Int32) + l1), .ref (sh.2.2.2 l0 0)], (sh, (xu (xu M (sh.2.2.2 l0 0) (0 : Int32).toNatClampNeg ((M (sh.2.2.2 l0 0) (0 : Int32).toNatClampNeg) &&& (((1 : Int32) <<< (l1 &&& 31)) ^^^ (-1)))) (sh.2.2.2 l0 0) (((2 : Int32) + l1) : Int32).toNatClampNeg l2), J))) f_83_43 rfl ?_
      refine ev_nx (s1 := (83, 45, [.ref l0, .int l1, .int l2], [.int (((xu (xu M (sh.2.2.2 l0 0) (0 : Int32).toNatClampNeg ((M (sh.2.2.2 l0 0) (0 : Int32).toNatClampNeg) &&& (((1 : Int32) <<< (l1 &&& 31)) ^^^ (-1)))) (sh.2.2.2 l0 0) (((2 : Int32) + l1) : Int32).toNatClampNeg l2) (sh.2.2.2 l0 0) (((22 : Int32) + l1) : Int32).toNatClampNeg) + 1), .int ((22 : Int32) + l1), .ref (sh.2.2.2 l0 0)], (sh, (xu (xu M (sh.2.2.2 l0 0) (0 : Int32).toNatClampNeg ((M (sh.2.2.2 l0 0) (0 : Int32).toNatClampNeg) &&& (((1 : Int32) <<< (l1 &&& 31)) ^^^ (-1)))) (sh.2.2.2 l0 0) (((2 : Int32) + l1) : Int32).toNatClampNeg l2), J))) f_83_44 rfl ?_
      refine ev_gd (s1 := (83, 46, [.ref l0, .int l1, .int l2], [], (sh, (xu (xu (xu M (sh.2.2.2 l0 0) (0 : Int32).toNatClampNeg ((M (sh.2.2.2 l0 0) (0 : Int32).toNatClampNeg) &&& (((1 : Int32) <<< (l1 &&& 31)) ^^^ (-1)))) (sh.2.2.2 l0 0) (((2 : Int32) + l1) : Int32).toNatClampNeg l2) (sh.2.2.2 l0 0) (((22 : Int32) + l1) : Int32).toNatClampNeg (((xu (xu M (sh.2.2.2 l0 0) (0 : Int32).toNatClampNeg ((M (sh.2.2.2 l0 0) (0 : Int32).toNatClampNeg) &&& (((1 : Int32) <<< (l1 &&& 31)) ^^^ (-1)))) (sh.2.2.2 l0 0) (((2 : Int32) + l1) : Int32).toNatClampNeg l2) (sh.2.2.2 l0 0) (((22 : Int32) + l1) : Int32).toNatClampNeg) + 1)), J))) f_83_45 rfl ?_
      exact ev_r1 f_83_46 rfl
theorem f_85_0 : xfind (xnth xTs 85) 0 = some (0, .aload_n 0, 1, (0, 0, 0, 0), .null, [], 0, 0, []) := rfl
theorem f_85_1 : xfind (xnth xTs 85) 1 = some (1, .iconst 0, 1, (0, 0, 0, 0), (.int 0), [], 0, 0, []) := rfl
theorem f_85_2 : xfind (xnth xTs 85) 2 = some (2, .putfield 21, 3, (7, 3, 0, 0), .null, [], 281, 0, []) := rfl
theorem f_85_5 : xfind (xnth xTs 85) 5 = some (5, .iconst 0, 1, (0, 0, 0, 0), (.int 0), [], 0, 0, []) := rfl
theorem f_85_6 : xfind (xnth xTs 85) 6 = some (6, .istore_n 3, 1, (0, 0, 0, 0), .null, [], 0, 0, []) := rfl
theorem f_85_7 : xfind (xnth xTs 85) 7 = some (7, .iload_n 3, 1, (0, 0, 0, 0), .null, [], 0, 1, []) := rfl
theorem f_85_8 : xfind (xnth xTs 85) 8 = some (8, .aload_n 1, 1, (0, 0, 0, 0), .null, [], 0, 0, []) := rfl
theorem f_85_9 : xfind (xnth xTs 85) 9 = some (9, .invokevirtual 25, 3, (13, 0, 1, 1), .null, [], 760, 0, []) := rfl
theorem f_85_12 : xfind (xnth xTs 85) 12 = some (12, .if_icmp .ge 59, 3, (0, 0, 0, 0), .null, [], 0, 0, []) := rfl
theorem f_85_15 : xfind (xnth xTs 85) 15 = some (15, .aload_n 0, 1, (0, 0, 0, 0), .null, [], 0, 0, []) := rfl
theorem f_85_16 : xfind (xnth xTs 85) 16 = some (16, .getfield 21, 3, (7, 3, 0, 0), .null, [], 281, 0, []) := rfl
theorem f_85_19 : xfind (xnth xTs 85) 19 = some (19, .bipush 8, 2, (0, 0, 0, 0), (.int 8), [], 0, 0, []) := rfl
theorem f_85_21 : xfind (xnth xTs 85) 21 = some (21, .if_icmp .ge 50, 3, (0, 0, 0, 0), .null, [], 0, 0, []) := rfl
theorem f_85_24 : xfind (xnth xTs 85) 24 = some (24, .aload_n 2, 1, (0, 0, 0, 0), .null, [], 0, 0, []) := rfl
theorem f_85_25 : xfind (xnth xTs 85) 25 = some (25, .invokevirtual 31, 3, (59, 0, 6, 1), .null, [], 761, 0, []) := rfl
theorem f_85_28 : xfind (xnth xTs 85) 28 = some (28, .iload_n 3, 1, (0, 0, 0, 0), .null, [], 0, 0, []) := rfl
theorem f_85_29 : xfind (xnth xTs 85) 29 = some (29, .invokestatic 36, 3, (127, 2, 8, 2), .null, [], 762, 0, []) := rfl
theorem f_85_32 : xfind (xnth xTs 85) 32 = some (32, .ifCond .eq 33, 3, (0, 0, 0, 0), .null, [], 0, 0, []) := rfl
theorem f_85_35 : xfind (xnth xTs 85) 35 = some (35, .aload_n 0, 1, (0, 0, 0, 0), .null, [], 0, 0, []) := rfl
theorem f_85_36 : xfind (xnth xTs 85) 36 = some (36, .getfield 9, 3, (7, 0, 1, 0), .null, [], 278, 0, []) := rfl
theorem f_85_39 : xfind (xnth xTs 85) 39 = some (39, .aload_n 0, 1, (0, 0, 0, 0), .null, [], 0, 0, []) := rfl
theorem f_85_40 : xfind (xnth xTs 85) 40 = some (40, .getfield 21, 3, (7, 3, 0, 0), .null, [], 281, 0, []) := rfl
theorem f_85_43 : xfind (xnth xTs 85) 43 = some (43, .aload_n 1, 1, (0, 0, 0, 0), .null, [], 0, 0, []) := rfl
theorem f_85_44 : xfind (xnth xTs 85) 44 = some (44, .aload_n 2, 1, (0, 0, 0, 0), .null, [], 0, 0, []) := rfl
theorem f_85_45 : xfind (xnth xTs 85) 45 = some (45, .iload_n 3, 1, (0, 0, 0, 0), .null, [], 0, 0, []) := rfl
theorem f_85_46 : xfind (xnth xTs 85) 46 = some (46, .invokevirtual 40, 3, (61, 1, 6, 2), .null, [], 763, 0, []) := rfl
theorem f_85_49 : xfind (xnth xTs 85) 49 = some (49, .invokevirtual 44, 3, (11, 1, 1, 2), .null, [], 764, 0, []) := rfl
theorem f_85_52 : xfind (xnth xTs 85) 52 = some (52, .invokestatic 47, 3, (130, 3, 8, 3), .null, [], 765, 0, []) := rfl
theorem f_85_55 : xfind (xnth xTs 85) 55 = some (55, .aload_n 0, 1, (0, 0, 0, 0), .null, [], 0, 0, []) := rfl
theorem f_85_56 : xfind (xnth xTs 85) 56 = some (56, .dup, 1, (0, 0, 0, 0), .null, [], 0, 0, []) := rfl
theorem f_85_57 : xfind (xnth xTs 85) 57 = some (57, .getfield 21, 3, (7, 3, 0, 0), .null, [], 281, 0, []) := rfl
theorem f_85_60 : xfind (xnth xTs 85) 60 = some (60, .iconst 1, 1, (0, 0, 0, 0), (.int 1), [], 0, 0, []) := rfl
theorem f_85_61 : xfind (xnth xTs 85) 61 = some (61, .iadd, 1, (0, 0, 0, 0), .null, [], 0, 0, []) := rfl
theorem f_85_62 : xfind (xnth xTs 85) 62 = some (62, .putfield 21, 3, (7, 3, 0, 0), .null, [], 281, 0, []) := rfl
theorem f_85_65 : xfind (xnth xTs 85) 65 = some (65, .iinc 3 1, 3, (0, 0, 0, 0), .null, [], 0, 0, []) := rfl
theorem f_85_68 : xfind (xnth xTs 85) 68 = some (68, .goto (-61), 3, (0, 0, 0, 0), .null, [], 0, 0, []) := rfl
theorem f_85_71 : xfind (xnth xTs 85) 71 = some (71, .return_, 1, (0, 0, 0, 0), .null, [], 0, 0, []) := rfl
theorem hd_85_7 : xhead 85 7 = some [] := rfl
theorem b_Sewing_take_0 (sh : xSh) (M : Nat → Nat → Int32) (J : Nat → Nat → Int64) (l0 : Nat) (l1 : Nat) (l2 : Nat) : ev (85, 0, [.ref l0, .ref l1, .ref l2, .null], [], (sh, M, J)) = (bif decide ((sh.2.2.1 l0).1 = 7) then ev (85, 7, [.ref l0, .ref l1, .ref l2, .int 0], [], (sh, (xu M l0 3 0), J)) else none) := by
  refine ev_nx (s1 := (85, 1, [.ref l0, .ref l1, .ref l2, .null], [.ref l0], (sh, M, J))) f_85_0 rfl ?_
  refine ev_nx (s1 := (85, 2, [.ref l0, .ref l1, .ref l2, .null], [.int 0, .ref l0], (sh, M, J))) f_85_1 rfl ?_
  refine ev_gd (s1 := (85, 5, [.ref l0, .ref l1, .ref l2, .null], [], (sh, (xu M l0 3 0), J))) f_85_2 rfl ?_
  refine ev_nx (s1 := (85, 6, [.ref l0, .ref l1, .ref l2, .null], [.int 0], (sh, (xu M l0 3 0), J))) f_85_5 rfl ?_
  refine ev_nx (s1 := (85, 7, [.ref l0, .ref l1, .ref l2, .int 0], [], (sh, (xu M l0 3 0), J))) f_85_6 rfl ?_
  exact rfl
theorem b_Sewing_take_7 (sh : xSh) (M : Nat → Nat → Int32) (J : Nat → Nat → Int64) (l0 : Nat) (l1 : Nat) (l2 : Nat) (l3 : Int32) : ev (85, 7, [.ref l0, .ref l1, .ref l2, .int l3], [], (sh, M, J)) = (bif (decide ((sh.2.2.1 l1).1 = 1) && true) then (ev (13, 0, [.ref l1], [], (sh, M, J))).bind (fun r => ev (85, 12, [.ref l0, .ref l1, .ref l2, .int l3], r.1.toList ++ [.int l3], r.2)) else none) := by
  refine ev_nx (s1 := (85, 8, [.ref l0, .ref l1, .ref l2, .int l3], [.int l3], (sh, M, J))) f_85_7 rfl ?_
  refine ev_nx (s1 := (85, 9, [.ref l0, .ref l1, .ref l2, .int l3], [.ref l1, .int l3], (sh, M, J))) f_85_8 rfl ?_
  exact ev_ca (cc := (decide ((sh.2.2.1 l1).1 = 1) && true)) (s1 := (13, 0, [.ref l1], [], (sh, M, J))) (k := (85, 12, [.ref l0, .ref l1, .ref l2, .int l3], [.int l3])) f_85_9 rfl
theorem b_Sewing_take_12 (sh : xSh) (M : Nat → Nat → Int32) (J : Nat → Nat → Int64) (l0 : Nat) (l1 : Nat) (l2 : Nat) (l3 : Int32) (k0 : Int32) (k1 : Int32) : ev (85, 12, [.ref l0, .ref l1, .ref l2, .int l3], [.int k0, .int k1], (sh, M, J)) = (bif decide (k0 ≤ k1) then some (none, (sh, M, J)) else bif decide ((sh.2.2.1 l0).1 = 7) then bif decide (8 ≤ (M l0 3)) then some (none, (sh, M, J)) else bif (decide ((sh.2.2.1 l2).1 = 6) && true) then (ev (59, 0, [.ref l2], [], (sh, M, J))).bind (fun r => ev (85, 28, [.ref l0, .ref l1, .ref l2, .int l3], r.1.toList ++ [], r.2)) else none else none) := by
  refine ev_br (s1 := (85, 71, [.ref l0, .ref l1, .ref l2, .int l3], [], (sh, M, J))) (s2 := (85, 15, [.ref l0, .ref l1, .ref l2, .int l3], [], (sh, M, J))) f_85_12 rfl ?_ ?_
  · exact ev_r1 f_85_71 rfl
  · refine ev_nx (s1 := (85, 16, [.ref l0, .ref l1, .ref l2, .int l3], [.ref l0], (sh, M, J))) f_85_15 rfl ?_
    refine ev_gd (s1 := (85, 19, [.ref l0, .ref l1, .ref l2, .int l3], [.int (M l0 3)], (sh, M, J))) f_85_16 rfl ?_
    refine ev_nx (s1 := (85, 21, [.ref l0, .ref l1, .ref l2, .int l3], [.int 8, .int (M l0 3)], (sh, M, J))) f_85_19 rfl ?_
    refine ev_br (s1 := (85, 71, [.ref l0, .ref l1, .ref l2, .int l3], [], (sh, M, J))) (s2 := (85, 24, [.ref l0, .ref l1, .ref l2, .int l3], [], (sh, M, J))) f_85_21 rfl ?_ ?_
    · exact ev_r1 f_85_71 rfl
    · refine ev_nx (s1 := (85, 25, [.ref l0, .ref l1, .ref l2, .int l3], [.ref l2], (sh, M, J))) f_85_24 rfl ?_
      exact ev_ca (cc := (decide ((sh.2.2.1 l2).1 = 6) && true)) (s1 := (59, 0, [.ref l2], [], (sh, M, J))) (k := (85, 28, [.ref l0, .ref l1, .ref l2, .int l3], [])) f_85_25 rfl
theorem b_Sewing_take_28 (sh : xSh) (M : Nat → Nat → Int32) (J : Nat → Nat → Int64) (l0 : Nat) (l1 : Nat) (l2 : Nat) (l3 : Int32) (k0 : Int32) : ev (85, 28, [.ref l0, .ref l1, .ref l2, .int l3], [.int k0], (sh, M, J)) = ((ev (127, 0, [.int k0, .int l3], [], (sh, M, J))).bind (fun r => ev (85, 32, [.ref l0, .ref l1, .ref l2, .int l3], r.1.toList ++ [], r.2))) := by
  refine ev_nx (s1 := (85, 29, [.ref l0, .ref l1, .ref l2, .int l3], [.int l3, .int k0], (sh, M, J))) f_85_28 rfl ?_
  exact ev_c1 (s1 := (127, 0, [.int k0, .int l3], [], (sh, M, J))) (k := (85, 32, [.ref l0, .ref l1, .ref l2, .int l3], [])) f_85_29 rfl
theorem b_Sewing_take_32 (sh : xSh) (M : Nat → Nat → Int32) (J : Nat → Nat → Int64) (l0 : Nat) (l1 : Nat) (l2 : Nat) (l3 : Int32) (k0 : Int32) : ev (85, 32, [.ref l0, .ref l1, .ref l2, .int l3], [.int k0], (sh, M, J)) = (bif decide (k0 = 0) then ev (85, 7, [.ref l0, .ref l1, .ref l2, .int (l3 + 1)], [], (sh, M, J)) else bif decide ((sh.2.2.1 l0).1 = 7) then bif decide ((sh.2.2.1 l0).1 = 7) then bif (decide ((sh.2.2.1 l2).1 = 6) && true) then (ev (61, 0, [.ref l2, .int l3], [], (sh, M, J))).bind (fun r => ev (85, 49, [.ref l0, .ref l1, .ref l2, .int l3], r.1.toList ++ [.ref l1, .int (M l0 3), .ref (sh.2.2.2 l0 0)], r.2)) else none else none else none) := by
  refine ev_br (s1 := (85, 65, [.ref l0, .ref l1, .ref l2, .int l3], [], (sh, M, J))) (s2 := (85, 35, [.ref l0, .ref l1, .ref l2, .int l3], [], (sh, M, J))) f_85_32 rfl ?_ ?_
  · refine ev_nx (s1 := (85, 68, [.ref l0, .ref l1, .ref l2, .int (l3 + 1)], [], (sh, M, J))) f_85_65 rfl ?_
    refine ev_nx (s1 := (85, 7, [.ref l0, .ref l1, .ref l2, .int (l3 + 1)], [], (sh, M, J))) f_85_68 rfl ?_
    exact rfl
  · refine ev_nx (s1 := (85, 36, [.ref l0, .ref l1, .ref l2, .int l3], [.ref l0], (sh, M, J))) f_85_35 rfl ?_
    refine ev_gd (s1 := (85, 39, [.ref l0, .ref l1, .ref l2, .int l3], [.ref (sh.2.2.2 l0 0)], (sh, M, J))) f_85_36 rfl ?_
    refine ev_nx (s1 := (85, 40, [.ref l0, .ref l1, .ref l2, .int l3], [.ref l0, .ref (sh.2.2.2 l0 0)], (sh, M, J))) f_85_39 rfl ?_
    refine ev_gd (s1 := (85, 43, [.ref l0, .ref l1, .ref l2, .int l3], [.int (M l0 3), .ref (sh.2.2.2 l0 0)], (sh, M, J))) f_85_40 rfl ?_
    refine ev_nx (s1 := (85, 44, [.ref l0, .ref l1, .ref l2, .int l3], [.ref l1, .int (M l0 3), .ref (sh.2.2.2 l0 0)], (sh, M, J))) f_85_43 rfl ?_
    refine ev_nx (s1 := (85, 45, [.ref l0, .ref l1, .ref l2, .int l3], [.ref l2, .ref l1, .int (M l0 3), .ref (sh.2.2.2 l0 0)], (sh, M, J))) f_85_44 rfl ?_
    refine ev_nx (s1 := (85, 46, [.ref l0, .ref l1, .ref l2, .int l3], [.int l3, .ref l2, .ref l1, .int (M l0 3), .ref (sh.2.2.2 l0 0)], (sh, M, J))) f_85_45 rfl ?_
    exact ev_ca (cc := (decide ((sh.2.2.1 l2).1 = 6) && true)) (s1 := (61, 0, [.ref l2, .int l3], [], (sh, M, J))) (k := (85, 49, [.ref l0, .ref l1, .ref l2, .int l3], [.ref l1, .int (M l0 3), .ref (sh.2.2.2 l0 0)])) f_85_46 rfl
theorem b_Sewing_take_49 (sh : xSh) (M : Nat → Nat → Int32) (J : Nat → Nat → Int64) (l0 : Nat) (l1 : Nat) (l2 : Nat) (l3 : Int32) (k0 : Int32) (k1 : Nat) (k2 : Int32) (k3 : Nat) : ev (85, 49, [.ref l0, .ref l1, .ref l2, .int l3], [.int k0, .ref k1, .int k2, .ref k3], (sh, M, J)) = (bif (decide ((sh.2.2.1 k1).1 = 1) && true) then (ev (11, 0, [.ref k1, .int k0], [], (sh, M, J))).bind (fun r => ev (85, 52, [.ref l0, .ref l1, .ref l2, .int l3], r.1.toList ++ [.int k2, .ref k3], r.2)) else none) := by
  exact ev_ca (cc := (decide ((sh.2.2.1 k1).1 = 1) && true)) (s1 := (11, 0, [.ref k1, .int k0], [], (sh, M, J))) (k := (85, 52, [.ref l0, .ref l1, .ref l2, .int l3], [.int k2, .ref k3])) f_85_49 rfl
theorem b_Sewing_take_52 (sh : xSh) (M : Nat → Nat → Int32) (J : Nat → Nat → Int64) (l0 : Nat) (l1 : Nat) (l2 : Nat) (l3 : Int32) (k0 : Int32) (k1 : Int32) (k2 : Nat) : ev (85, 52, [.ref l0, .ref l1, .ref l2, .int l3], [.int k0, .int k1, .ref k2], (sh, M, J)) = ((ev (130, 0, [.ref k2, .int k1, .int k0], [], (sh, M, J))).bind (fun r => ev (85, 55, [.ref l0, .ref l1, .ref l2, .int l3], r.1.toList ++ [], r.2))) := by
  exact ev_c1 (s1 := (130, 0, [.ref k2, .int k1, .int k0], [], (sh, M, J))) (k := (85, 55, [.ref l0, .ref l1, .ref l2, .int l3], [])) f_85_52 rfl
theorem b_Sewing_take_55 (sh : xSh) (M : Nat → Nat → Int32) (J : Nat → Nat → Int64) (l0 : Nat) (l1 : Nat) (l2 : Nat) (l3 : Int32) : ev (85, 55, [.ref l0, .ref l1, .ref l2, .int l3], [], (sh, M, J)) = (bif decide ((sh.2.2.1 l0).1 = 7) then bif decide ((sh.2.2.1 l0).1 = 7) then ev (85, 7, [.ref l0, .ref l1, .ref l2, .int (l3 + 1)], [], (sh, (xu M l0 3 ((M l0 3) + 1)), J)) else none else none) := by
  refine ev_nx (s1 := (85, 56, [.ref l0, .ref l1, .ref l2, .int l3], [.ref l0], (sh, M, J))) f_85_55 rfl ?_
  refine ev_nx (s1 := (85, 57, [.ref l0, .ref l1, .ref l2, .int l3], [.ref l0, .ref l0], (sh, M, J))) f_85_56 rfl ?_
  refine ev_gd (s1 := (85, 60, [.ref l0, .ref l1, .ref l2, .int l3], [.int (M l0 3), .ref l0], (sh, M, J))) f_85_57 rfl ?_
  refine ev_nx (s1 := (85, 61, [.ref l0, .ref l1, .ref l2, .int l3], [.int 1, .int (M l0 3), .ref l0], (sh, M, J))) f_85_60 rfl ?_
  refine ev_nx (s1 := (85, 62, [.ref l0, .ref l1, .ref l2, .int l3], [.int ((M l0 3) + 1), .ref l0], (sh, M, J))) f_85_61 rfl ?_
  refine ev_gd (s1 := (85, 65, [.ref l0, .ref l1, .ref l2, .int l3], [], (sh, (xu M l0 3 ((M l0 3) + 1)), J))) f_85_62 rfl ?_
  refine ev_nx (s1 := (85, 68, [.ref l0, .ref l1, .ref l2, .int (l3 + 1)], [], (sh, (xu M l0 3 ((M l0 3) + 1)), J))) f_85_65 rfl ?_
  refine ev_nx (s1 := (85, 7, [.ref l0, .ref l1, .ref l2, .int (l3 + 1)], [], (sh, (xu M l0 3 ((M l0 3) + 1)), J))) f_85_68 rfl ?_
  exact rfl
theorem f_86_0 : xfind (xnth xTs 86) 0 = some (0, .iconst 1, 1, (0, 0, 0, 0), (.int 1), [], 0, 0, []) := rfl
theorem f_86_1 : xfind (xnth xTs 86) 1 = some (1, .aload_n 0, 1, (0, 0, 0, 0), .null, [], 0, 0, []) := rfl
theorem f_86_2 : xfind (xnth xTs 86) 2 = some (2, .getfield 21, 3, (7, 3, 0, 0), .null, [], 281, 0, []) := rfl
theorem f_86_5 : xfind (xnth xTs 86) 5 = some (5, .ishl, 1, (0, 0, 0, 0), .null, [], 0, 0, []) := rfl
theorem f_86_6 : xfind (xnth xTs 86) 6 = some (6, .iconst 1, 1, (0, 0, 0, 0), (.int 1), [], 0, 0, []) := rfl
theorem f_86_7 : xfind (xnth xTs 86) 7 = some (7, .isub, 1, (0, 0, 0, 0), .null, [], 0, 0, []) := rfl
theorem f_86_8 : xfind (xnth xTs 86) 8 = some (8, .istore_n 2, 1, (0, 0, 0, 0), .null, [], 0, 0, []) := rfl
theorem f_86_9 : xfind (xnth xTs 86) 9 = some (9, .iconst 0, 1, (0, 0, 0, 0), (.int 0), [], 0, 0, []) := rfl
theorem f_86_10 : xfind (xnth xTs 86) 10 = some (10, .istore_n 3, 1, (0, 0, 0, 0), .null, [], 0, 0, []) := rfl
theorem f_86_11 : xfind (xnth xTs 86) 11 = some (11, .iload_n 3, 1, (0, 0, 0, 0), .null, [], 0, 1, [4]) := rfl
theorem f_86_12 : xfind (xnth xTs 86) 12 = some (12, .iload_n 2, 1, (0, 0, 0, 0), .null, [], 0, 0, []) := rfl
theorem f_86_13 : xfind (xnth xTs 86) 13 = some (13, .if_icmp .gt 36, 3, (0, 0, 0, 0), .null, [], 0, 0, []) := rfl
theorem f_86_16 : xfind (xnth xTs 86) 16 = some (16, .aload_n 0, 1, (0, 0, 0, 0), .null, [], 0, 0, []) := rfl
theorem f_86_17 : xfind (xnth xTs 86) 17 = some (17, .iload_n 3, 1, (0, 0, 0, 0), .null, [], 0, 0, []) := rfl
theorem f_86_18 : xfind (xnth xTs 86) 18 = some (18, .invokevirtual 51, 3, (87, 1, 7, 4), .null, [], 770, 0, []) := rfl
theorem f_86_21 : xfind (xnth xTs 86) 21 = some (21, .istore 4, 2, (0, 0, 0, 0), .null, [], 0, 0, []) := rfl
theorem f_86_23 : xfind (xnth xTs 86) 23 = some (23, .aload_n 0, 1, (0, 0, 0, 0), .null, [], 0, 0, []) := rfl
theorem f_86_24 : xfind (xnth xTs 86) 24 = some (24, .getfield 15, 3, (7, 1, 1, 0), .null, [], 279, 0, []) := rfl
theorem f_86_27 : xfind (xnth xTs 86) 27 = some (27, .iload_n 3, 1, (0, 0, 0, 0), .null, [], 0, 0, []) := rfl
theorem f_86_28 : xfind (xnth xTs 86) 28 = some (28, .iload 4, 2, (0, 0, 0, 0), .null, [], 0, 0, []) := rfl
theorem f_86_30 : xfind (xnth xTs 86) 30 = some (30, .invokestatic 47, 3, (130, 3, 8, 3), .null, [], 765, 0, []) := rfl
theorem f_86_33 : xfind (xnth xTs 86) 33 = some (33, .aload_n 0, 1, (0, 0, 0, 0), .null, [], 0, 0, []) := rfl
theorem f_86_34 : xfind (xnth xTs 86) 34 = some (34, .getfield 18, 3, (7, 2, 1, 0), .null, [], 280, 0, []) := rfl
theorem f_86_37 : xfind (xnth xTs 86) 37 = some (37, .iload_n 3, 1, (0, 0, 0, 0), .null, [], 0, 0, []) := rfl
theorem f_86_38 : xfind (xnth xTs 86) 38 = some (38, .iload 4, 2, (0, 0, 0, 0), .null, [], 0, 0, []) := rfl
theorem f_86_40 : xfind (xnth xTs 86) 40 = some (40, .invokestatic 47, 3, (130, 3, 8, 3), .null, [], 765, 0, []) := rfl
theorem f_86_43 : xfind (xnth xTs 86) 43 = some (43, .iinc 3 1, 3, (0, 0, 0, 0), .null, [], 0, 0, []) := rfl
theorem f_86_46 : xfind (xnth xTs 86) 46 = some (46, .goto (-35), 3, (0, 0, 0, 0), .null, [], 0, 0, []) := rfl
theorem f_86_49 : xfind (xnth xTs 86) 49 = some (49, .iconst 1, 1, (0, 0, 0, 0), (.int 1), [], 0, 0, []) := rfl
theorem f_86_50 : xfind (xnth xTs 86) 50 = some (50, .istore_n 3, 1, (0, 0, 0, 0), .null, [], 0, 0, []) := rfl
theorem f_86_51 : xfind (xnth xTs 86) 51 = some (51, .iload_n 3, 1, (0, 0, 0, 0), .null, [], 0, 1, [4]) := rfl
theorem f_86_52 : xfind (xnth xTs 86) 52 = some (52, .iload_n 1, 1, (0, 0, 0, 0), .null, [], 0, 0, []) := rfl
theorem f_86_53 : xfind (xnth xTs 86) 53 = some (53, .if_icmp .ge 14, 3, (0, 0, 0, 0), .null, [], 0, 0, []) := rfl
theorem f_86_56 : xfind (xnth xTs 86) 56 = some (56, .aload_n 0, 1, (0, 0, 0, 0), .null, [], 0, 0, []) := rfl
theorem f_86_57 : xfind (xnth xTs 86) 57 = some (57, .iload_n 2, 1, (0, 0, 0, 0), .null, [], 0, 0, []) := rfl
theorem f_86_58 : xfind (xnth xTs 86) 58 = some (58, .invokevirtual 54, 3, (88, 1, 7, 5), .null, [], 775, 0, []) := rfl
theorem f_86_61 : xfind (xnth xTs 86) 61 = some (61, .iinc 3 1, 3, (0, 0, 0, 0), .null, [], 0, 0, []) := rfl
theorem f_86_64 : xfind (xnth xTs 86) 64 = some (64, .goto (-13), 3, (0, 0, 0, 0), .null, [], 0, 0, []) := rfl
theorem f_86_67 : xfind (xnth xTs 86) 67 = some (67, .aload_n 0, 1, (0, 0, 0, 0), .null, [], 0, 0, []) := rfl
theorem f_86_68 : xfind (xnth xTs 86) 68 = some (68, .getfield 18, 3, (7, 2, 1, 0), .null, [], 280, 0, []) := rfl
theorem f_86_71 : xfind (xnth xTs 86) 71 = some (71, .iload_n 2, 1, (0, 0, 0, 0), .null, [], 0, 0, []) := rfl
theorem f_86_72 : xfind (xnth xTs 86) 72 = some (72, .invokestatic 58, 3, (129, 2, 8, 2), .null, [], 774, 0, []) := rfl
theorem f_86_75 : xfind (xnth xTs 86) 75 = some (75, .ireturn, 1, (0, 0, 0, 0), .null, [], 0, 0, []) := rfl
theorem hd_86_11 : xhead 86 11 = some [4] := rfl
theorem hd_86_51 : xhead 86 51 = some [4] := rfl
theorem b_Sewing_fewestMinutes_0 (sh : xSh) (M : Nat → Nat → Int32) (J : Nat → Nat → Int64) (l0 : Nat) (l1 : Int32) : ev (86, 0, [.ref l0, .int l1, .null, .null, .null], [], (sh, M, J)) = (bif decide ((sh.2.2.1 l0).1 = 7) then ev (86, 11, [.ref l0, .int l1, .int (((1 : Int32) <<< ((M l0 3) &&& 31)) - 1), .int 0, .null], [], (sh, M, J)) else none) := by
  refine ev_nx (s1 := (86, 1, [.ref l0, .int l1, .null, .null, .null], [.int 1], (sh, M, J))) f_86_0 rfl ?_
  refine ev_nx (s1 := (86, 2, [.ref l0, .int l1, .null, .null, .null], [.ref l0, .int 1], (sh, M, J))) f_86_1 rfl ?_
  refine ev_gd (s1 := (86, 5, [.ref l0, .int l1, .null, .null, .null], [.int (M l0 3), .int 1], (sh, M, J))) f_86_2 rfl ?_
  refine ev_nx (s1 := (86, 6, [.ref l0, .int l1, .null, .null, .null], [.int ((1 : Int32) <<< ((M l0 3) &&& 31))], (sh, M, J))) f_86_5 rfl ?_
  refine ev_nx (s1 := (86, 7, [.ref l0, .int l1, .null, .null, .null], [.int 1, .int ((1 : Int32) <<< ((M l0 3) &&& 31))], (sh, M, J))) f_86_6 rfl ?_
  refine ev_nx (s1 := (86, 8, [.ref l0, .int l1, .null, .null, .null], [.int (((1 : Int32) <<< ((M l0 3) &&& 31)) - 1)], (sh, M, J))) f_86_7 rfl ?_
  refine ev_nx (s1 := (86, 9, [.ref l0, .int l1, .int (((1 : Int32) <<< ((M l0 3) &&& 31)) - 1), .null, .null], [], (sh, M, J))) f_86_8 rfl ?_
  refine ev_nx (s1 := (86, 10, [.ref l0, .int l1, .int (((1 : Int32) <<< ((M l0 3) &&& 31)) - 1), .null, .null], [.int 0], (sh, M, J))) f_86_9 rfl ?_
  refine ev_nx (s1 := (86, 11, [.ref l0, .int l1, .int (((1 : Int32) <<< ((M l0 3) &&& 31)) - 1), .int 0, .null], [], (sh, M, J))) f_86_10 rfl ?_
  exact rfl
theorem b_Sewing_fewestMinutes_11 (sh : xSh) (M : Nat → Nat → Int32) (J : Nat → Nat → Int64) (l0 : Nat) (l1 : Int32) (l2 : Int32) (l3 : Int32) : ev (86, 11, [.ref l0, .int l1, .int l2, .int l3, .null], [], (sh, M, J)) = (bif decide (l2 < l3) then ev (86, 51, [.ref l0, .int l1, .int l2, .int 1, .null], [], (sh, M, J)) else bif (decide ((sh.2.2.1 l0).1 = 7) && true) then (ev (87, 0, [.ref l0, .int l3, .null, .null], [], (sh, M, J))).bind (fun r => ev (86, 21, [.ref l0, .int l1, .int l2, .int l3, .null], r.1.toList ++ [], r.2)) else none) := by
  refine ev_nx (s1 := (86, 12, [.ref l0, .int l1, .int l2, .int l3, .null], [.int l3], (sh, M, J))) f_86_11 rfl ?_
  refine ev_nx (s1 := (86, 13, [.ref l0, .int l1, .int l2, .int l3, .null], [.int l2, .int l3], (sh, M, J))) f_86_12 rfl ?_
  refine ev_br (s1 := (86, 49, [.ref l0, .int l1, .int l2, .int l3, .null], [], (sh, M, J))) (s2 := (86, 16, [.ref l0, .int l1, .int l2, .int l3, .null], [], (sh, M, J))) f_86_13 rfl ?_ ?_
  · refine ev_nx (s1 := (86, 50, [.ref l0, .int l1, .int l2, .int l3, .null], [.int 1], (sh, M, J))) f_86_49 rfl ?_
    refine ev_nx (s1 := (86, 51, [.ref l0, .int l1, .int l2, .int 1, .null], [], (sh, M, J))) f_86_50 rfl ?_
    exact rfl
  · refine ev_nx (s1 := (86, 17, [.ref l0, .int l1, .int l2, .int l3, .null], [.ref l0], (sh, M, J))) f_86_16 rfl ?_
    refine ev_nx (s1 := (86, 18, [.ref l0, .int l1, .int l2, .int l3, .null], [.int l3, .ref l0], (sh, M, J))) f_86_17 rfl ?_
    exact ev_ca (cc := (decide ((sh.2.2.1 l0).1 = 7) && true)) (s1 := (87, 0, [.ref l0, .int l3, .null, .null], [], (sh, M, J))) (k := (86, 21, [.ref l0, .int l1, .int l2, .int l3, .null], [])) f_86_18 rfl
theorem b_Sewing_fewestMinutes_21 (sh : xSh) (M : Nat → Nat → Int32) (J : Nat → Nat → Int64) (l0 : Nat) (l1 : Int32) (l2 : Int32) (l3 : Int32) (k0 : Int32) : ev (86, 21, [.ref l0, .int l1, .int l2, .int l3, .null], [.int k0], (sh, M, J)) = (bif decide ((sh.2.2.1 l0).1 = 7) then (ev (130, 0, [.ref (sh.2.2.2 l0 1), .int l3, .int k0], [], (sh, M, J))).bind (fun r => ev (86, 33, [.ref l0, .int l1, .int l2, .int l3, .int k0], r.1.toList ++ [], r.2)) else none) := by
  refine ev_nx (s1 := (86, 23, [.ref l0, .int l1, .int l2, .int l3, .int k0], [], (sh, M, J))) f_86_21 rfl ?_
  refine ev_nx (s1 := (86, 24, [.ref l0, .int l1, .int l2, .int l3, .int k0], [.ref l0], (sh, M, J))) f_86_23 rfl ?_
  refine ev_gd (s1 := (86, 27, [.ref l0, .int l1, .int l2, .int l3, .int k0], [.ref (sh.2.2.2 l0 1)], (sh, M, J))) f_86_24 rfl ?_
  refine ev_nx (s1 := (86, 28, [.ref l0, .int l1, .int l2, .int l3, .int k0], [.int l3, .ref (sh.2.2.2 l0 1)], (sh, M, J))) f_86_27 rfl ?_
  refine ev_nx (s1 := (86, 30, [.ref l0, .int l1, .int l2, .int l3, .int k0], [.int k0, .int l3, .ref (sh.2.2.2 l0 1)], (sh, M, J))) f_86_28 rfl ?_
  exact ev_c1 (s1 := (130, 0, [.ref (sh.2.2.2 l0 1), .int l3, .int k0], [], (sh, M, J))) (k := (86, 33, [.ref l0, .int l1, .int l2, .int l3, .int k0], [])) f_86_30 rfl
theorem b_Sewing_fewestMinutes_33 (sh : xSh) (M : Nat → Nat → Int32) (J : Nat → Nat → Int64) (l0 : Nat) (l1 : Int32) (l2 : Int32) (l3 : Int32) (l4 : Int32) : ev (86, 33, [.ref l0, .int l1, .int l2, .int l3, .int l4], [], (sh, M, J)) = (bif decide ((sh.2.2.1 l0).1 = 7) then (ev (130, 0, [.ref (sh.2.2.2 l0 2), .int l3, .int l4], [], (sh, M, J))).bind (fun r => ev (86, 43, [.ref l0, .int l1, .int l2, .int l3, .int l4], r.1.toList ++ [], r.2)) else none) := by
  refine ev_nx (s1 := (86, 34, [.ref l0, .int l1, .int l2, .int l3, .int l4], [.ref l0], (sh, M, J))) f_86_33 rfl ?_
  refine ev_gd (s1 := (86, 37, [.ref l0, .int l1, .int l2, .int l3, .int l4], [.ref (sh.2.2.2 l0 2)], (sh, M, J))) f_86_34 rfl ?_
  refine ev_nx (s1 := (86, 38, [.ref l0, .int l1, .int l2, .int l3, .int l4], [.int l3, .ref (sh.2.2.2 l0 2)], (sh, M, J))) f_86_37 rfl ?_
  refine ev_nx (s1 := (86, 40, [.ref l0, .int l1, .int l2, .int l3, .int l4], [.int l4, .int l3, .ref (sh.2.2.2 l0 2)], (sh, M, J))) f_86_38 rfl ?_
  exact ev_c1 (s1 := (130, 0, [.ref (sh.2.2.2 l0 2), .int l3, .int l4], [], (sh, M, J))) (k := (86, 43, [.ref l0, .int l1, .int l2, .int l3, .int l4], [])) f_86_40 rfl
theorem b_Sewing_fewestMinutes_43 (sh : xSh) (M : Nat → Nat → Int32) (J : Nat → Nat → Int64) (l0 : Nat) (l1 : Int32) (l2 : Int32) (l3 : Int32) (l4 : Int32) : ev (86, 43, [.ref l0, .int l1, .int l2, .int l3, .int l4], [], (sh, M, J)) = (ev (86, 11, [.ref l0, .int l1, .int l2, .int (l3 + 1), .null], [], (sh, M, J))) := by
  refine ev_nx (s1 := (86, 46, [.ref l0, .int l1, .int l2, .int (l3 + 1), .int l4], [], (sh, M, J))) f_86_43 rfl ?_
  refine ev_nx (s1 := (86, 11, [.ref l0, .int l1, .int l2, .int (l3 + 1), .int l4], [], (sh, M, J))) f_86_46 rfl ?_
  exact (ev_kill hd_86_11).symm
theorem b_Sewing_fewestMinutes_51 (sh : xSh) (M : Nat → Nat → Int32) (J : Nat → Nat → Int64) (l0 : Nat) (l1 : Int32) (l2 : Int32) (l3 : Int32) : ev (86, 51, [.ref l0, .int l1, .int l2, .int l3, .null], [], (sh, M, J)) = (bif decide (l1 ≤ l3) then bif decide ((sh.2.2.1 l0).1 = 7) then (ev (129, 0, [.ref (sh.2.2.2 l0 2), .int l2], [], (sh, M, J))).bind (fun r => ev (86, 75, [.ref l0, .int l1, .int l2, .int l3, .null], r.1.toList ++ [], r.2)) else none else bif (decide ((sh.2.2.1 l0).1 = 7) && true) then (ev (88, 0, [.ref l0, .int l2, .null, .null, .null], [], (sh, M, J))).bind (fun r => ev (86, 61, [.ref l0, .int l1, .int l2, .int l3, .null], r.1.toList ++ [], r.2)) else none) := by
  refine ev_nx (s1 := (86, 52, [.ref l0, .int l1, .int l2, .int l3, .null], [.int l3], (sh, M, J))) f_86_51 rfl ?_
  refine ev_nx (s1 := (86, 53, [.ref l0, .int l1, .int l2, .int l3, .null], [.int l1, .int l3], (sh, M, J))) f_86_52 rfl ?_
  refine ev_br (s1 := (86, 67, [.ref l0, .int l1, .int l2, .int l3, .null], [], (sh, M, J))) (s2 := (86, 56, [.ref l0, .int l1, .int l2, .int l3, .null], [], (sh, M, J))) f_86_53 rfl ?_ ?_
  · refine ev_nx (s1 := (86, 68, [.ref l0, .int l1, .int l2, .int l3, .null], [.ref l0], (sh, M, J))) f_86_67 rfl ?_
    refine ev_gd (s1 := (86, 71, [.ref l0, .int l1, .int l2, .int l3, .null], [.ref (sh.2.2.2 l0 2)], (sh, M, J))) f_86_68 rfl ?_
    refine ev_nx (s1 := (86, 72, [.ref l0, .int l1, .int l2, .int l3, .null], [.int l2, .ref (sh.2.2.2 l0 2)], (sh, M, J))) f_86_71 rfl ?_
    exact ev_c1 (s1 := (129, 0, [.ref (sh.2.2.2 l0 2), .int l2], [], (sh, M, J))) (k := (86, 75, [.ref l0, .int l1, .int l2, .int l3, .null], [])) f_86_72 rfl
  · refine ev_nx (s1 := (86, 57, [.ref l0, .int l1, .int l2, .int l3, .null], [.ref l0], (sh, M, J))) f_86_56 rfl ?_
    refine ev_nx (s1 := (86, 58, [.ref l0, .int l1, .int l2, .int l3, .null], [.int l2, .ref l0], (sh, M, J))) f_86_57 rfl ?_
    exact ev_ca (cc := (decide ((sh.2.2.1 l0).1 = 7) && true)) (s1 := (88, 0, [.ref l0, .int l2, .null, .null, .null], [], (sh, M, J))) (k := (86, 61, [.ref l0, .int l1, .int l2, .int l3, .null], [])) f_86_58 rfl
theorem b_Sewing_fewestMinutes_61 (sh : xSh) (M : Nat → Nat → Int32) (J : Nat → Nat → Int64) (l0 : Nat) (l1 : Int32) (l2 : Int32) (l3 : Int32) : ev (86, 61, [.ref l0, .int l1, .int l2, .int l3, .null], [], (sh, M, J)) = (ev (86, 51, [.ref l0, .int l1, .int l2, .int (l3 + 1), .null], [], (sh, M, J))) := by
  refine ev_nx (s1 := (86, 64, [.ref l0, .int l1, .int l2, .int (l3 + 1), .null], [], (sh, M, J))) f_86_61 rfl ?_
  refine ev_nx (s1 := (86, 51, [.ref l0, .int l1, .int l2, .int (l3 + 1), .null], [], (sh, M, J))) f_86_64 rfl ?_
  exact rfl
theorem b_Sewing_fewestMinutes_75 (sh : xSh) (M : Nat → Nat → Int32) (J : Nat → Nat → Int64) (l0 : Nat) (l1 : Int32) (l2 : Int32) (l3 : Int32) (k0 : Int32) : ev (86, 75, [.ref l0, .int l1, .int l2, .int l3, .null], [.int k0], (sh, M, J)) = (some (some (.int k0), (sh, M, J))) := by
  exact ev_r1 f_86_75 rfl
theorem f_87_0 : xfind (xnth xTs 87) 0 = some (0, .iconst 0, 1, (0, 0, 0, 0), (.int 0), [], 0, 0, []) := rfl
theorem f_87_1 : xfind (xnth xTs 87) 1 = some (1, .istore_n 2, 1, (0, 0, 0, 0), .null, [], 0, 0, []) := rfl
theorem f_87_2 : xfind (xnth xTs 87) 2 = some (2, .iconst 0, 1, (0, 0, 0, 0), (.int 0), [], 0, 0, []) := rfl
theorem f_87_3 : xfind (xnth xTs 87) 3 = some (3, .istore_n 3, 1, (0, 0, 0, 0), .null, [], 0, 0, []) := rfl
theorem f_87_4 : xfind (xnth xTs 87) 4 = some (4, .iload_n 3, 1, (0, 0, 0, 0), .null, [], 0, 1, []) := rfl
theorem f_87_5 : xfind (xnth xTs 87) 5 = some (5, .aload_n 0, 1, (0, 0, 0, 0), .null, [], 0, 0, []) := rfl
theorem f_87_6 : xfind (xnth xTs 87) 6 = some (6, .getfield 21, 3, (7, 3, 0, 0), .null, [], 281, 0, []) := rfl
theorem f_87_9 : xfind (xnth xTs 87) 9 = some (9, .if_icmp .ge 32, 3, (0, 0, 0, 0), .null, [], 0, 0, []) := rfl
theorem f_87_12 : xfind (xnth xTs 87) 12 = some (12, .iload_n 2, 1, (0, 0, 0, 0), .null, [], 0, 0, []) := rfl
theorem f_87_13 : xfind (xnth xTs 87) 13 = some (13, .iload_n 1, 1, (0, 0, 0, 0), .null, [], 0, 0, []) := rfl
theorem f_87_14 : xfind (xnth xTs 87) 14 = some (14, .iload_n 3, 1, (0, 0, 0, 0), .null, [], 0, 0, []) := rfl
theorem f_87_15 : xfind (xnth xTs 87) 15 = some (15, .invokestatic 36, 3, (127, 2, 8, 2), .null, [], 762, 0, []) := rfl
theorem f_87_18 : xfind (xnth xTs 87) 18 = some (18, .ifCond .eq 14, 3, (0, 0, 0, 0), .null, [], 0, 0, []) := rfl
theorem f_87_21 : xfind (xnth xTs 87) 21 = some (21, .aload_n 0, 1, (0, 0, 0, 0), .null, [], 0, 0, []) := rfl
theorem f_87_22 : xfind (xnth xTs 87) 22 = some (22, .getfield 9, 3, (7, 0, 1, 0), .null, [], 278, 0, []) := rfl
theorem f_87_25 : xfind (xnth xTs 87) 25 = some (25, .iload_n 3, 1, (0, 0, 0, 0), .null, [], 0, 0, []) := rfl
theorem f_87_26 : xfind (xnth xTs 87) 26 = some (26, .invokestatic 58, 3, (129, 2, 8, 2), .null, [], 774, 0, []) := rfl
theorem f_87_29 : xfind (xnth xTs 87) 29 = some (29, .goto 4, 3, (0, 0, 0, 0), .null, [], 0, 0, []) := rfl
theorem f_87_32 : xfind (xnth xTs 87) 32 = some (32, .iconst 0, 1, (0, 0, 0, 0), (.int 0), [], 0, 0, []) := rfl
theorem f_87_33 : xfind (xnth xTs 87) 33 = some (33, .iadd, 1, (0, 0, 0, 0), .null, [], 0, 0, []) := rfl
theorem f_87_34 : xfind (xnth xTs 87) 34 = some (34, .istore_n 2, 1, (0, 0, 0, 0), .null, [], 0, 0, []) := rfl
theorem f_87_35 : xfind (xnth xTs 87) 35 = some (35, .iinc 3 1, 3, (0, 0, 0, 0), .null, [], 0, 0, []) := rfl
theorem f_87_38 : xfind (xnth xTs 87) 38 = some (38, .goto (-34), 3, (0, 0, 0, 0), .null, [], 0, 0, []) := rfl
theorem f_87_41 : xfind (xnth xTs 87) 41 = some (41, .iload_n 2, 1, (0, 0, 0, 0), .null, [], 0, 0, []) := rfl
theorem f_87_42 : xfind (xnth xTs 87) 42 = some (42, .ireturn, 1, (0, 0, 0, 0), .null, [], 0, 0, []) := rfl
theorem hd_87_4 : xhead 87 4 = some [] := rfl
theorem b_Sewing_minutesByOne_0 (sh : xSh) (M : Nat → Nat → Int32) (J : Nat → Nat → Int64) (l0 : Nat) (l1 : Int32) : ev (87, 0, [.ref l0, .int l1, .null, .null], [], (sh, M, J)) = (ev (87, 4, [.ref l0, .int l1, .int 0, .int 0], [], (sh, M, J))) := by
  refine ev_nx (s1 := (87, 1, [.ref l0, .int l1, .null, .null], [.int 0], (sh, M, J))) f_87_0 rfl ?_
  refine ev_nx (s1 := (87, 2, [.ref l0, .int l1, .int 0, .null], [], (sh, M, J))) f_87_1 rfl ?_
  refine ev_nx (s1 := (87, 3, [.ref l0, .int l1, .int 0, .null], [.int 0], (sh, M, J))) f_87_2 rfl ?_
  refine ev_nx (s1 := (87, 4, [.ref l0, .int l1, .int 0, .int 0], [], (sh, M, J))) f_87_3 rfl ?_
  exact rfl
theorem b_Sewing_minutesByOne_4 (sh : xSh) (M : Nat → Nat → Int32) (J : Nat → Nat → Int64) (l0 : Nat) (l1 : Int32) (l2 : Int32) (l3 : Int32) : ev (87, 4, [.ref l0, .int l1, .int l2, .int l3], [], (sh, M, J)) = (bif decide ((sh.2.2.1 l0).1 = 7) then bif decide ((M l0 3) ≤ l3) then some (some (.int l2), (sh, M, J)) else (ev (127, 0, [.int l1, .int l3], [], (sh, M, J))).bind (fun r => ev (87, 18, [.ref l0, .int l1, .int l2, .int l3], r.1.toList ++ [.int l2], r.2)) else none) := by
  refine ev_nx (s1 := (87, 5, [.ref l0, .int l1, .int l2, .int l3], [.int l3], (sh, M, J))) f_87_4 rfl ?_
  refine ev_nx (s1 := (87, 6, [.ref l0, .int l1, .int l2, .int l3], [.ref l0, .int l3], (sh, M, J))) f_87_5 rfl ?_
  refine ev_gd (s1 := (87, 9, [.ref l0, .int l1, .int l2, .int l3], [.int (M l0 3), .int l3], (sh, M, J))) f_87_6 rfl ?_
  refine ev_br (s1 := (87, 41, [.ref l0, .int l1, .int l2, .int l3], [], (sh, M, J))) (s2 := (87, 12, [.ref l0, .int l1, .int l2, .int l3], [], (sh, M, J))) f_87_9 rfl ?_ ?_
  · refine ev_nx (s1 := (87, 42, [.ref l0, .int l1, .int l2, .int l3], [.int l2], (sh, M, J))) f_87_41 rfl ?_
    exact ev_r1 f_87_42 rfl
  · refine ev_nx (s1 := (87, 13, [.ref l0, .int l1, .int l2, .int l3], [.int l2], (sh, M, J))) f_87_12 rfl ?_
    refine ev_nx (s1 := (87, 14, [.ref l0, .int l1, .int l2, .int l3], [.int l1, .int l2], (sh, M, J))) f_87_13 rfl ?_
    refine ev_nx (s1 := (87, 15, [.ref l0, .int l1, .int l2, .int l3], [.int l3, .int l1, .int l2], (sh, M, J))) f_87_14 rfl ?_
    exact ev_c1 (s1 := (127, 0, [.int l1, .int l3], [], (sh, M, J))) (k := (87, 18, [.ref l0, .int l1, .int l2, .int l3], [.int l2])) f_87_15 rfl
theorem b_Sewing_minutesByOne_18 (sh : xSh) (M : Nat → Nat → Int32) (J : Nat → Nat → Int64) (l0 : Nat) (l1 : Int32) (l2 : Int32) (l3 : Int32) (k0 : Int32) (k1 : Int32) : ev (87, 18, [.ref l0, .int l1, .int l2, .int l3], [.int k0, .int k1], (sh, M, J)) = (bif decide (k0 = 0) then ev (87, 4, [.ref l0, .int l1, .int (k1 + 0), .int (l3 + 1)], [], (sh, M, J)) else bif decide ((sh.2.2.1 l0).1 = 7) then (ev (129, 0, [.ref (sh.2.2.2 l0 0), .int l3], [], (sh, M, J))).bind (fun r => ev (87, 29, [.ref l0, .int l1, .int l2, .int l3], r.1.toList ++ [.int k1], r.2)) else none) := by
  refine ev_br (s1 := (87, 32, [.ref l0, .int l1, .int l2, .int l3], [.int k1], (sh, M, J))) (s2 := (87, 21, [.ref l0, .int l1, .int l2, .int l3], [.int k1], (sh, M, J))) f_87_18 rfl ?_ ?_
  · refine ev_nx (s1 := (87, 33, [.ref l0, .int l1, .int l2, .int l3], [.int 0, .int k1], (sh, M, J))) f_87_32 rfl ?_
    refine ev_nx (s1 := (87, 34, [.ref l0, .int l1, .int l2, .int l3], [.int (k1 + 0)], (sh, M, J))) f_87_33 rfl ?_
    refine ev_nx (s1 := (87, 35, [.ref l0, .int l1, .int (k1 + 0), .int l3], [], (sh, M, J))) f_87_34 rfl ?_
    refine ev_nx (s1 := (87, 38, [.ref l0, .int l1, .int (k1 + 0), .int (l3 + 1)], [], (sh, M, J))) f_87_35 rfl ?_
    refine ev_nx (s1 := (87, 4, [.ref l0, .int l1, .int (k1 + 0), .int (l3 + 1)], [], (sh, M, J))) f_87_38 rfl ?_
    exact rfl
  · refine ev_nx (s1 := (87, 22, [.ref l0, .int l1, .int l2, .int l3], [.ref l0, .int k1], (sh, M, J))) f_87_21 rfl ?_
    refine ev_gd (s1 := (87, 25, [.ref l0, .int l1, .int l2, .int l3], [.ref (sh.2.2.2 l0 0), .int k1], (sh, M, J))) f_87_22 rfl ?_
    refine ev_nx (s1 := (87, 26, [.ref l0, .int l1, .int l2, .int l3], [.int l3, .ref (sh.2.2.2 l0 0), .int k1], (sh, M, J))) f_87_25 rfl ?_
    exact ev_c1 (s1 := (129, 0, [.ref (sh.2.2.2 l0 0), .int l3], [], (sh, M, J))) (k := (87, 29, [.ref l0, .int l1, .int l2, .int l3], [.int k1])) f_87_26 rfl
theorem b_Sewing_minutesByOne_29 (sh : xSh) (M : Nat → Nat → Int32) (J : Nat → Nat → Int64) (l0 : Nat) (l1 : Int32) (l2 : Int32) (l3 : Int32) (k0 : Int32) (k1 : Int32) : ev (87, 29, [.ref l0, .int l1, .int l2, .int l3], [.int k0, .int k1], (sh, M, J)) = (ev (87, 4, [.ref l0, .int l1, .int (k1 + k0), .int (l3 + 1)], [], (sh, M, J))) := by
  refine ev_nx (s1 := (87, 33, [.ref l0, .int l1, .int l2, .int l3], [.int k0, .int k1], (sh, M, J))) f_87_29 rfl ?_
  refine ev_nx (s1 := (87, 34, [.ref l0, .int l1, .int l2, .int l3], [.int (k1 + k0)], (sh, M, J))) f_87_33 rfl ?_
  refine ev_nx (s1 := (87, 35, [.ref l0, .int l1, .int (k1 + k0), .int l3], [], (sh, M, J))) f_87_34 rfl ?_
  refine ev_nx (s1 := (87, 38, [.ref l0, .int l1, .int (k1 + k0), .int (l3 + 1)], [], (sh, M, J))) f_87_35 rfl ?_
  refine ev_nx (s1 := (87, 4, [.ref l0, .int l1, .int (k1 + k0), .int (l3 + 1)], [], (sh, M, J))) f_87_38 rfl ?_
  exact rfl
theorem f_88_0 : xfind (xnth xTs 88) 0 = some (0, .iload_n 1, 1, (0, 0, 0, 0), .null, [], 0, 0, []) := rfl
theorem f_88_1 : xfind (xnth xTs 88) 1 = some (1, .istore_n 2, 1, (0, 0, 0, 0), .null, [], 0, 0, []) := rfl
theorem f_88_2 : xfind (xnth xTs 88) 2 = some (2, .iload_n 2, 1, (0, 0, 0, 0), .null, [], 0, 1, [1, 3, 4]) := rfl
theorem f_88_3 : xfind (xnth xTs 88) 3 = some (3, .ifCond .le 74, 3, (0, 0, 0, 0), .null, [], 0, 0, []) := rfl
theorem f_88_6 : xfind (xnth xTs 88) 6 = some (6, .aload_n 0, 1, (0, 0, 0, 0), .null, [], 0, 0, []) := rfl
theorem f_88_7 : xfind (xnth xTs 88) 7 = some (7, .getfield 18, 3, (7, 2, 1, 0), .null, [], 280, 0, []) := rfl
theorem f_88_10 : xfind (xnth xTs 88) 10 = some (10, .iload_n 2, 1, (0, 0, 0, 0), .null, [], 0, 0, []) := rfl
theorem f_88_11 : xfind (xnth xTs 88) 11 = some (11, .invokestatic 58, 3, (129, 2, 8, 2), .null, [], 774, 0, []) := rfl
theorem f_88_14 : xfind (xnth xTs 88) 14 = some (14, .istore_n 3, 1, (0, 0, 0, 0), .null, [], 0, 0, []) := rfl
theorem f_88_15 : xfind (xnth xTs 88) 15 = some (15, .iload_n 2, 1, (0, 0, 0, 0), .null, [], 0, 0, []) := rfl
theorem f_88_16 : xfind (xnth xTs 88) 16 = some (16, .istore 4, 2, (0, 0, 0, 0), .null, [], 0, 0, []) := rfl
theorem f_88_18 : xfind (xnth xTs 88) 18 = some (18, .iload 4, 2, (0, 0, 0, 0), .null, [], 0, 1, [1]) := rfl
theorem f_88_20 : xfind (xnth xTs 88) 20 = some (20, .ifCond .le 42, 3, (0, 0, 0, 0), .null, [], 0, 0, []) := rfl
theorem f_88_23 : xfind (xnth xTs 88) 23 = some (23, .iload_n 3, 1, (0, 0, 0, 0), .null, [], 0, 0, []) := rfl
theorem f_88_24 : xfind (xnth xTs 88) 24 = some (24, .aload_n 0, 1, (0, 0, 0, 0), .null, [], 0, 0, []) := rfl
theorem f_88_25 : xfind (xnth xTs 88) 25 = some (25, .getfield 15, 3, (7, 1, 1, 0), .null, [], 279, 0, []) := rfl
theorem f_88_28 : xfind (xnth xTs 88) 28 = some (28, .iload 4, 2, (0, 0, 0, 0), .null, [], 0, 0, []) := rfl
theorem f_88_30 : xfind (xnth xTs 88) 30 = some (30, .invokestatic 58, 3, (129, 2, 8, 2), .null, [], 774, 0, []) := rfl
theorem f_88_33 : xfind (xnth xTs 88) 33 = some (33, .aload_n 0, 1, (0, 0, 0, 0), .null, [], 0, 0, []) := rfl
theorem f_88_34 : xfind (xnth xTs 88) 34 = some (34, .getfield 18, 3, (7, 2, 1, 0), .null, [], 280, 0, []) := rfl
theorem f_88_37 : xfind (xnth xTs 88) 37 = some (37, .iload_n 2, 1, (0, 0, 0, 0), .null, [], 0, 0, []) := rfl
theorem f_88_38 : xfind (xnth xTs 88) 38 = some (38, .iload 4, 2, (0, 0, 0, 0), .null, [], 0, 0, []) := rfl
theorem f_88_40 : xfind (xnth xTs 88) 40 = some (40, .ixor, 1, (0, 0, 0, 0), .null, [], 0, 0, []) := rfl
theorem f_88_41 : xfind (xnth xTs 88) 41 = some (41, .invokestatic 58, 3, (129, 2, 8, 2), .null, [], 774, 0, []) := rfl
theorem f_88_44 : xfind (xnth xTs 88) 44 = some (44, .invokestatic 62, 3, (997, 0, 0, 0), .null, [], 779, 0, []) := rfl
theorem f_88_47 : xfind (xnth xTs 88) 47 = some (47, .invokestatic 68, 3, (998, 0, 0, 0), .null, [], 782, 0, []) := rfl
theorem f_88_50 : xfind (xnth xTs 88) 50 = some (50, .istore_n 3, 1, (0, 0, 0, 0), .null, [], 0, 0, []) := rfl
theorem f_88_51 : xfind (xnth xTs 88) 51 = some (51, .iload 4, 2, (0, 0, 0, 0), .null, [], 0, 0, []) := rfl
theorem f_88_53 : xfind (xnth xTs 88) 53 = some (53, .iconst 1, 1, (0, 0, 0, 0), (.int 1), [], 0, 0, []) := rfl
theorem f_88_54 : xfind (xnth xTs 88) 54 = some (54, .isub, 1, (0, 0, 0, 0), .null, [], 0, 0, []) := rfl
theorem f_88_55 : xfind (xnth xTs 88) 55 = some (55, .iload_n 2, 1, (0, 0, 0, 0), .null, [], 0, 0, []) := rfl
theorem f_88_56 : xfind (xnth xTs 88) 56 = some (56, .iand, 1, (0, 0, 0, 0), .null, [], 0, 0, []) := rfl
theorem f_88_57 : xfind (xnth xTs 88) 57 = some (57, .istore 4, 2, (0, 0, 0, 0), .null, [], 0, 0, []) := rfl
theorem f_88_59 : xfind (xnth xTs 88) 59 = some (59, .goto (-41), 3, (0, 0, 0, 0), .null, [], 0, 0, []) := rfl
theorem f_88_62 : xfind (xnth xTs 88) 62 = some (62, .aload_n 0, 1, (0, 0, 0, 0), .null, [], 0, 0, []) := rfl
theorem f_88_63 : xfind (xnth xTs 88) 63 = some (63, .getfield 18, 3, (7, 2, 1, 0), .null, [], 280, 0, []) := rfl
theorem f_88_66 : xfind (xnth xTs 88) 66 = some (66, .iload_n 2, 1, (0, 0, 0, 0), .null, [], 0, 0, []) := rfl
theorem f_88_67 : xfind (xnth xTs 88) 67 = some (67, .iload_n 3, 1, (0, 0, 0, 0), .null, [], 0, 0, []) := rfl
theorem f_88_68 : xfind (xnth xTs 88) 68 = some (68, .invokestatic 47, 3, (130, 3, 8, 3), .null, [], 765, 0, []) := rfl
theorem f_88_71 : xfind (xnth xTs 88) 71 = some (71, .iinc 2 (-1), 3, (0, 0, 0, 0), .null, [], 0, 0, []) := rfl
theorem f_88_74 : xfind (xnth xTs 88) 74 = some (74, .goto (-72), 3, (0, 0, 0, 0), .null, [], 0, 0, []) := rfl
theorem f_88_77 : xfind (xnth xTs 88) 77 = some (77, .return_, 1, (0, 0, 0, 0), .null, [], 0, 0, []) := rfl
theorem hd_88_2 : xhead 88 2 = some [1, 3, 4] := rfl
theorem hd_88_18 : xhead 88 18 = some [1] := rfl
theorem b_Sewing_addTailor_0 (sh : xSh) (M : Nat → Nat → Int32) (J : Nat → Nat → Int64) (l0 : Nat) (l1 : Int32) : ev (88, 0, [.ref l0, .int l1, .null, .null, .null], [], (sh, M, J)) = (ev (88, 2, [.ref l0, .null, .int l1, .null, .null], [], (sh, M, J))) := by
  refine ev_nx (s1 := (88, 1, [.ref l0, .int l1, .null, .null, .null], [.int l1], (sh, M, J))) f_88_0 rfl ?_
  refine ev_nx (s1 := (88, 2, [.ref l0, .int l1, .int l1, .null, .null], [], (sh, M, J))) f_88_1 rfl ?_
  exact (ev_kill hd_88_2).symm
theorem b_Sewing_addTailor_2 (sh : xSh) (M : Nat → Nat → Int32) (J : Nat → Nat → Int64) (l0 : Nat) (l2 : Int32) : ev (88, 2, [.ref l0, .null, .int l2, .null, .null], [], (sh, M, J)) = (bif decide (l2 ≤ 0) then some (none, (sh, M, J)) else bif decide ((sh.2.2.1 l0).1 = 7) then (ev (129, 0, [.ref (sh.2.2.2 l0 2), .int l2], [], (sh, M, J))).bind (fun r => ev (88, 14, [.ref l0, .null, .int l2, .null, .null], r.1.toList ++ [], r.2)) else none) := by
  refine ev_nx (s1 := (88, 3, [.ref l0, .null, .int l2, .null, .null], [.int l2], (sh, M, J))) f_88_2 rfl ?_
  refine ev_br (s1 := (88, 77, [.ref l0, .null, .int l2, .null, .null], [], (sh, M, J))) (s2 := (88, 6, [.ref l0, .null, .int l2, .null, .null], [], (sh, M, J))) f_88_3 rfl ?_ ?_
  · exact ev_r1 f_88_77 rfl
  · refine ev_nx (s1 := (88, 7, [.ref l0, .null, .int l2, .null, .null], [.ref l0], (sh, M, J))) f_88_6 rfl ?_
    refine ev_gd (s1 := (88, 10, [.ref l0, .null, .int l2, .null, .null], [.ref (sh.2.2.2 l0 2)], (sh, M, J))) f_88_7 rfl ?_
    refine ev_nx (s1 := (88, 11, [.ref l0, .null, .int l2, .null, .null], [.int l2, .ref (sh.2.2.2 l0 2)], (sh, M, J))) f_88_10 rfl ?_
    exact ev_c1 (s1 := (129, 0, [.ref (sh.2.2.2 l0 2), .int l2], [], (sh, M, J))) (k := (88, 14, [.ref l0, .null, .int l2, .null, .null], [])) f_88_11 rfl
theorem b_Sewing_addTailor_14 (sh : xSh) (M : Nat → Nat → Int32) (J : Nat → Nat → Int64) (l0 : Nat) (l2 : Int32) (k0 : Int32) : ev (88, 14, [.ref l0, .null, .int l2, .null, .null], [.int k0], (sh, M, J)) = (ev (88, 18, [.ref l0, .null, .int l2, .int k0, .int l2], [], (sh, M, J))) := by
  refine ev_nx (s1 := (88, 15, [.ref l0, .null, .int l2, .int k0, .null], [], (sh, M, J))) f_88_14 rfl ?_
  refine ev_nx (s1 := (88, 16, [.ref l0, .null, .int l2, .int k0, .null], [.int l2], (sh, M, J))) f_88_15 rfl ?_
  refine ev_nx (s1 := (88, 18, [.ref l0, .null, .int l2, .int k0, .int l2], [], (sh, M, J))) f_88_16 rfl ?_
  exact rfl
theorem b_Sewing_addTailor_18 (sh : xSh) (M : Nat → Nat → Int32) (J : Nat → Nat → Int64) (l0 : Nat) (l2 : Int32) (l3 : Int32) (l4 : Int32) : ev (88, 18, [.ref l0, .null, .int l2, .int l3, .int l4], [], (sh, M, J)) = (bif decide (l4 ≤ 0) then bif decide ((sh.2.2.1 l0).1 = 7) then (ev (130, 0, [.ref (sh.2.2.2 l0 2), .int l2, .int l3], [], (sh, M, J))).bind (fun r => ev (88, 71, [.ref l0, .null, .int l2, .int l3, .int l4], r.1.toList ++ [], r.2)) else none else bif decide ((sh.2.2.1 l0).1 = 7) then (ev (129, 0, [.ref (sh.2.2.2 l0 1), .int l4], [], (sh, M, J))).bind (fun r => ev (88, 33, [.ref l0, .null, .int l2, .int l3, .int l4], r.1.toList ++ [.int l3], r.2)) else none) := by
  refine ev_nx (s1 := (88, 20, [.ref l0, .null, .int l2, .int l3, .int l4], [.int l4], (sh, M, J))) f_88_18 rfl ?_
  refine ev_br (s1 := (88, 62, [.ref l0, .null, .int l2, .int l3, .int l4], [], (sh, M, J))) (s2 := (88, 23, [.ref l0, .null, .int l2, .int l3, .int l4], [], (sh, M, J))) f_88_20 rfl ?_ ?_
  · refine ev_nx (s1 := (88, 63, [.ref l0, .null, .int l2, .int l3, .int l4], [.ref l0], (sh, M, J))) f_88_62 rfl ?_
    refine ev_gd (s1 := (88, 66, [.ref l0, .null, .int l2, .int l3, .int l4], [.ref (sh.2.2.2 l0 2)], (sh, M, J))) f_88_63 rfl ?_
    refine ev_nx (s1 := (88, 67, [.ref l0, .null, .int l2, .int l3, .int l4], [.int l2, .ref (sh.2.2.2 l0 2)], (sh, M, J))) f_88_66 rfl ?_
    refine ev_nx (s1 := (88, 68, [.ref l0, .null, .int l2, .int l3, .int l4], [.int l3, .int l2, .ref (sh.2.2.2 l0 2)], (sh, M, J))) f_88_67 rfl ?_
    exact ev_c1 (s1 := (130, 0, [.ref (sh.2.2.2 l0 2), .int l2, .int l3], [], (sh, M, J))) (k := (88, 71, [.ref l0, .null, .int l2, .int l3, .int l4], [])) f_88_68 rfl
  · refine ev_nx (s1 := (88, 24, [.ref l0, .null, .int l2, .int l3, .int l4], [.int l3], (sh, M, J))) f_88_23 rfl ?_
    refine ev_nx (s1 := (88, 25, [.ref l0, .null, .int l2, .int l3, .int l4], [.ref l0, .int l3], (sh, M, J))) f_88_24 rfl ?_
    refine ev_gd (s1 := (88, 28, [.ref l0, .null, .int l2, .int l3, .int l4], [.ref (sh.2.2.2 l0 1), .int l3], (sh, M, J))) f_88_25 rfl ?_
    refine ev_nx (s1 := (88, 30, [.ref l0, .null, .int l2, .int l3, .int l4], [.int l4, .ref (sh.2.2.2 l0 1), .int l3], (sh, M, J))) f_88_28 rfl ?_
    exact ev_c1 (s1 := (129, 0, [.ref (sh.2.2.2 l0 1), .int l4], [], (sh, M, J))) (k := (88, 33, [.ref l0, .null, .int l2, .int l3, .int l4], [.int l3])) f_88_30 rfl
theorem b_Sewing_addTailor_33 (sh : xSh) (M : Nat → Nat → Int32) (J : Nat → Nat → Int64) (l0 : Nat) (l2 : Int32) (l3 : Int32) (l4 : Int32) (k0 : Int32) (k1 : Int32) : ev (88, 33, [.ref l0, .null, .int l2, .int l3, .int l4], [.int k0, .int k1], (sh, M, J)) = (bif decide ((sh.2.2.1 l0).1 = 7) then (ev (129, 0, [.ref (sh.2.2.2 l0 2), .int (l2 ^^^ l4)], [], (sh, M, J))).bind (fun r => ev (88, 44, [.ref l0, .null, .int l2, .int l3, .int l4], r.1.toList ++ [.int k0, .int k1], r.2)) else none) := by
  refine ev_nx (s1 := (88, 34, [.ref l0, .null, .int l2, .int l3, .int l4], [.ref l0, .int k0, .int k1], (sh, M, J))) f_88_33 rfl ?_
  refine ev_gd (s1 := (88, 37, [.ref l0, .null, .int l2, .int l3, .int l4], [.ref (sh.2.2.2 l0 2), .int k0, .int k1], (sh, M, J))) f_88_34 rfl ?_
  refine ev_nx (s1 := (88, 38, [.ref l0, .null, .int l2, .int l3, .int l4], [.int l2, .ref (sh.2.2.2 l0 2), .int k0, .int k1], (sh, M, J))) f_88_37 rfl ?_
  refine ev_nx (s1 := (88, 40, [.ref l0, .null, .int l2, .int l3, .int l4], [.int l4, .int l2, .ref (sh.2.2.2 l0 2), .int k0, .int k1], (sh, M, J))) f_88_38 rfl ?_
  refine ev_nx (s1 := (88, 41, [.ref l0, .null, .int l2, .int l3, .int l4], [.int (l2 ^^^ l4), .ref (sh.2.2.2 l0 2), .int k0, .int k1], (sh, M, J))) f_88_40 rfl ?_
  exact ev_c1 (s1 := (129, 0, [.ref (sh.2.2.2 l0 2), .int (l2 ^^^ l4)], [], (sh, M, J))) (k := (88, 44, [.ref l0, .null, .int l2, .int l3, .int l4], [.int k0, .int k1])) f_88_41 rfl
theorem b_Sewing_addTailor_44 (sh : xSh) (M : Nat → Nat → Int32) (J : Nat → Nat → Int64) (l0 : Nat) (l2 : Int32) (l3 : Int32) (l4 : Int32) (k0 : Int32) (k1 : Int32) (k2 : Int32) : ev (88, 44, [.ref l0, .null, .int l2, .int l3, .int l4], [.int k0, .int k1, .int k2], (sh, M, J)) = (ev (88, 18, [.ref l0, .null, .int l2, .int (xmin k2 (xmax k1 k0)), .int ((l4 - 1) &&& l2)], [], (sh, M, J))) := by
  refine ev_nx (s1 := (88, 47, [.ref l0, .null, .int l2, .int l3, .int l4], [.int (xmax k1 k0), .int k2], (sh, M, J))) f_88_44 rfl ?_
  refine ev_nx (s1 := (88, 50, [.ref l0, .null, .int l2, .int l3, .int l4], [.int (xmin k2 (xmax k1 k0))], (sh, M, J))) f_88_47 rfl ?_
  refine ev_nx (s1 := (88, 51, [.ref l0, .null, .int l2, .int (xmin k2 (xmax k1 k0)), .int l4], [], (sh, M, J))) f_88_50 rfl ?_
  refine ev_nx (s1 := (88, 53, [.ref l0, .null, .int l2, .int (xmin k2 (xmax k1 k0)), .int l4], [.int l4], (sh, M, J))) f_88_51 rfl ?_
  refine ev_nx (s1 := (88, 54, [.ref l0, .null, .int l2, .int (xmin k2 (xmax k1 k0)), .int l4], [.int 1, .int l4], (sh, M, J))) f_88_53 rfl ?_
  refine ev_nx (s1 := (88, 55, [.ref l0, .null, .int l2, .int (xmin k2 (xmax k1 k0)), .int l4], [.int (l4 - 1)], (sh, M, J))) f_88_54 rfl ?_
  refine ev_nx (s1 := (88, 56, [.ref l0, .null, .int l2, .int (xmin k2 (xmax k1 k0)), .int l4], [.int l2, .int (l4 - 1)], (sh, M, J))) f_88_55 rfl ?_
  refine ev_nx (s1 := (88, 57, [.ref l0, .null, .int l2, .int (xmin k2 (xmax k1 k0)), .int l4], [.int ((l4 - 1) &&& l2)], (sh, M, J))) f_88_56 rfl ?_
  refine ev_nx (s1 := (88, 59, [.ref l0, .null, .int l2, .int (xmin k2 (xmax k1 k0)), .int ((l4 - 1) &&& l2)], [], (sh, M, J))) f_88_57 rfl ?_
  refine ev_nx (s1 := (88, 18, [.ref l0, .null, .int l2, .int (xmin k2 (xmax k1 k0)), .int ((l4 - 1) &&& l2)], [], (sh, M, J))) f_88_59 rfl ?_
  exact rfl
theorem b_Sewing_addTailor_71 (sh : xSh) (M : Nat → Nat → Int32) (J : Nat → Nat → Int64) (l0 : Nat) (l2 : Int32) (l3 : Int32) (l4 : Int32) : ev (88, 71, [.ref l0, .null, .int l2, .int l3, .int l4], [], (sh, M, J)) = (ev (88, 2, [.ref l0, .null, .int (l2 + (-1)), .null, .null], [], (sh, M, J))) := by
  refine ev_nx (s1 := (88, 74, [.ref l0, .null, .int (l2 + (-1)), .int l3, .int l4], [], (sh, M, J))) f_88_71 rfl ?_
  refine ev_nx (s1 := (88, 2, [.ref l0, .null, .int (l2 + (-1)), .int l3, .int l4], [], (sh, M, J))) f_88_74 rfl ?_
  exact (ev_kill hd_88_2).symm
