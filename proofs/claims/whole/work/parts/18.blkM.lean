theorem f_90_0 : xfind (xnth xTs 90) 0 = some (0, .iload_n 1, 1, (0, 0, 0, 0), .null, [], 0, 0, []) := rfl
theorem f_90_1 : xfind (xnth xTs 90) 1 = some (1, .ifCond .lt 10, 3, (0, 0, 0, 0), .null, [], 0, 0, []) := rfl
theorem f_90_4 : xfind (xnth xTs 90) 4 = some (4, .iload_n 1, 1, (0, 0, 0, 0), .null, [], 0, 0, []) := rfl
theorem f_90_5 : xfind (xnth xTs 90) 5 = some (5, .sipush 255, 3, (0, 0, 0, 0), (.int 255), [], 0, 0, []) := rfl
theorem f_90_8 : xfind (xnth xTs 90) 8 = some (8, .if_icmp .le 6, 3, (0, 0, 0, 0), .null, [], 0, 0, []) := rfl
theorem f_90_11 : xfind (xnth xTs 90) 11 = some (11, .ldc 75, 2, (0, 0, 0, 0), (.int (-1000000002)), [], 329, 0, []) := rfl
theorem f_90_13 : xfind (xnth xTs 90) 13 = some (13, .ireturn, 1, (0, 0, 0, 0), .null, [], 0, 0, []) := rfl
theorem f_90_14 : xfind (xnth xTs 90) 14 = some (14, .aload_n 0, 1, (0, 0, 0, 0), .null, [], 0, 0, []) := rfl
theorem f_90_15 : xfind (xnth xTs 90) 15 = some (15, .getfield 29, 3, (8, 3, 1, 0), .null, [], 294, 0, []) := rfl
theorem f_90_18 : xfind (xnth xTs 90) 18 = some (18, .iload_n 1, 1, (0, 0, 0, 0), .null, [], 0, 0, []) := rfl
theorem f_90_19 : xfind (xnth xTs 90) 19 = some (19, .invokevirtual 76, 3, (42, 1, 5, 2), .null, [], 330, 0, []) := rfl
theorem f_90_22 : xfind (xnth xTs 90) 22 = some (22, .ifCond .eq 13, 3, (0, 0, 0, 0), .null, [], 0, 0, []) := rfl
theorem f_90_25 : xfind (xnth xTs 90) 25 = some (25, .aload_n 0, 1, (0, 0, 0, 0), .null, [], 0, 0, []) := rfl
theorem f_90_26 : xfind (xnth xTs 90) 26 = some (26, .getfield 29, 3, (8, 3, 1, 0), .null, [], 294, 0, []) := rfl
theorem f_90_29 : xfind (xnth xTs 90) 29 = some (29, .getfield 80, 3, (5, 2, 0, 0), .null, [], 159, 0, []) := rfl
theorem f_90_32 : xfind (xnth xTs 90) 32 = some (32, .goto 5, 3, (0, 0, 0, 0), .null, [], 0, 0, []) := rfl
theorem f_90_35 : xfind (xnth xTs 90) 35 = some (35, .ldc 83, 2, (0, 0, 0, 0), (.int (-1000000004)), [], 335, 0, []) := rfl
theorem f_90_37 : xfind (xnth xTs 90) 37 = some (37, .ireturn, 1, (0, 0, 0, 0), .null, [], 0, 0, []) := rfl
theorem b_C_feed_0 (sh : xSh) (M : Nat → Nat → Int32) (J : Nat → Nat → Int64) (l0 : Nat) (l1 : Int32) : ev (90, 0, [.ref l0, .int l1], [], (sh, M, J)) = (bif decide (l1 < 0) then some (some (.int (-1000000002)), (sh, M, J)) else bif decide (l1 ≤ 255) then bif decide ((sh.2.2.1 l0).1 = 8) then bif (decide ((sh.2.2.1 (sh.2.2.2 l0 3)).1 = 5) && true) then (ev (42, 0, [.ref (sh.2.2.2 l0 3), .int l1], [], (sh, M, J))).bind (fun r => ev (90, 22, [.ref l0, .int l1], r.1.toList ++ [], r.2)) else none else none else some (some (.int (-1000000002)), (sh, M, J))) := by
  refine ev_nx (s1 := (90, 1, [.ref l0, .int l1], [.int l1], (sh, M, J))) f_90_0 rfl ?_
  refine ev_br (s1 := (90, 11, [.ref l0, .int l1], [], (sh, M, J))) (s2 := (90, 4, [.ref l0, .int l1], [], (sh, M, J))) f_90_1 rfl ?_ ?_
  · refine ev_nx (s1 := (90, 13, [.ref l0, .int l1], [.int (-1000000002)], (sh, M, J))) f_90_11 rfl ?_
    exact ev_r1 f_90_13 rfl
  · refine ev_nx (s1 := (90, 5, [.ref l0, .int l1], [.int l1], (sh, M, J))) f_90_4 rfl ?_
    refine ev_nx (s1 := (90, 8, [.ref l0, .int l1], [.int 255, .int l1], (sh, M, J))) f_90_5 rfl ?_
    refine ev_br (s1 := (90, 14, [.ref l0, .int l1], [], (sh, M, J))) (s2 := (90, 11, [.ref l0, .int l1], [], (sh, M, J))) f_90_8 rfl ?_ ?_
    · refine ev_nx (s1 := (90, 15, [.ref l0, .int l1], [.ref l0], (sh, M, J))) f_90_14 rfl ?_
      refine ev_gd (s1 := (90, 18, [.ref l0, .int l1], [.ref (sh.2.2.2 l0 3)], (sh, M, J))) f_90_15 rfl ?_
      refine ev_nx (s1 := (90, 19, [.ref l0, .int l1], [.int l1, .ref (sh.2.2.2 l0 3)], (sh, M, J))) f_90_18 rfl ?_
      exact ev_ca (cc := (decide ((sh.2.2.1 (sh.2.2.2 l0 3)).1 = 5) && true)) (s1 := (42, 0, [.ref (sh.2.2.2 l0 3), .int l1], [], (sh, M, J))) (k := (90, 22, [.ref l0, .int l1], [])) f_90_19 rfl
    · refine ev_nx (s1 := (90, 13, [.ref l0, .int l1], [.int (-1000000002)], (sh, M, J))) f_90_11 rfl ?_
      exact ev_r1 f_90_13 rfl
theorem b_C_feed_22 (sh : xSh) (M : Nat → Nat → Int32) (J : Nat → Nat → Int64) (l0 : Nat) (l1 : Int32) (k0 : Int32) : ev (90, 22, [.ref l0, .int l1], [.int k0], (sh, M, J)) = (bif decide (k0 = 0) then some (some (.int (-1000000004)), (sh, M, J)) else bif decide ((sh.2.2.1 l0).1 = 8) then bif decide ((sh.2.2.1 (sh.2.2.2 l0 3)).1 = 5) then some (some (.int (M (sh.2.2.2 l0 3) 2)), (sh, M, J)) else none else none) := by
  refine ev_br (s1 := (90, 35, [.ref l0, .int l1], [], (sh, M, J))) (s2 := (90, 25, [.ref l0, .int l1], [], (sh, M, J))) f_90_22 rfl ?_ ?_
  · refine ev_nx (s1 := (90, 37, [.ref l0, .int l1], [.int (-1000000004)], (sh, M, J))) f_90_35 rfl ?_
    exact ev_r1 f_90_37 rfl
  · refine ev_nx (s1 := (90, 26, [.ref l0, .int l1], [.ref l0], (sh, M, J))) f_90_25 rfl ?_
    refine ev_gd (s1 := (90, 29, [.ref l0, .int l1], [.ref (sh.2.2.2 l0 3)], (sh, M, J))) f_90_26 rfl ?_
    refine ev_gd (s1 := (90, 32, [.ref l0, .int l1], [.int (M (sh.2.2.2 l0 3) 2)], (sh, M, J))) f_90_29 rfl ?_
    refine ev_nx (s1 := (90, 37, [.ref l0, .int l1], [.int (M (sh.2.2.2 l0 3) 2)], (sh, M, J))) f_90_32 rfl ?_
    exact ev_r1 f_90_37 rfl
theorem f_91_0 : xfind (xnth xTs 91) 0 = some (0, .aload_n 0, 1, (0, 0, 0, 0), .null, [], 0, 0, []) := rfl
theorem f_91_1 : xfind (xnth xTs 91) 1 = some (1, .getfield 29, 3, (8, 3, 1, 0), .null, [], 294, 0, []) := rfl
theorem f_91_4 : xfind (xnth xTs 91) 4 = some (4, .invokevirtual 84, 3, (44, 0, 5, 2), .null, [], 340, 0, []) := rfl
theorem f_91_7 : xfind (xnth xTs 91) 7 = some (7, .istore_n 1, 1, (0, 0, 0, 0), .null, [], 0, 0, []) := rfl
theorem f_91_8 : xfind (xnth xTs 91) 8 = some (8, .aload_n 0, 1, (0, 0, 0, 0), .null, [], 0, 0, []) := rfl
theorem f_91_9 : xfind (xnth xTs 91) 9 = some (9, .aload_n 0, 1, (0, 0, 0, 0), .null, [], 0, 0, []) := rfl
theorem f_91_10 : xfind (xnth xTs 91) 10 = some (10, .getfield 29, 3, (8, 3, 1, 0), .null, [], 294, 0, []) := rfl
theorem f_91_13 : xfind (xnth xTs 91) 13 = some (13, .getfield 88, 3, (5, 3, 0, 0), .null, [], 161, 0, []) := rfl
theorem f_91_16 : xfind (xnth xTs 91) 16 = some (16, .putfield 68, 3, (8, 9, 0, 0), .null, [], 300, 0, []) := rfl
theorem f_91_19 : xfind (xnth xTs 91) 19 = some (19, .aload_n 0, 1, (0, 0, 0, 0), .null, [], 0, 0, []) := rfl
theorem f_91_20 : xfind (xnth xTs 91) 20 = some (20, .getfield 29, 3, (8, 3, 1, 0), .null, [], 294, 0, []) := rfl
theorem f_91_23 : xfind (xnth xTs 91) 23 = some (23, .invokevirtual 91, 3, (43, 0, 5, 1), .null, [], 430, 0, []) := rfl
theorem f_91_26 : xfind (xnth xTs 91) 26 = some (26, .iload_n 1, 1, (0, 0, 0, 0), .null, [], 0, 0, []) := rfl
theorem f_91_27 : xfind (xnth xTs 91) 27 = some (27, .ifCond .eq 8, 3, (0, 0, 0, 0), .null, [], 0, 0, []) := rfl
theorem f_91_30 : xfind (xnth xTs 91) 30 = some (30, .bipush (-10), 2, (0, 0, 0, 0), (.int (-10)), [], 0, 0, []) := rfl
theorem f_91_32 : xfind (xnth xTs 91) 32 = some (32, .iload_n 1, 1, (0, 0, 0, 0), .null, [], 0, 0, []) := rfl
theorem f_91_33 : xfind (xnth xTs 91) 33 = some (33, .isub, 1, (0, 0, 0, 0), .null, [], 0, 0, []) := rfl
theorem f_91_34 : xfind (xnth xTs 91) 34 = some (34, .ireturn, 1, (0, 0, 0, 0), .null, [], 0, 0, []) := rfl
theorem f_91_35 : xfind (xnth xTs 91) 35 = some (35, .aload_n 0, 1, (0, 0, 0, 0), .null, [], 0, 0, []) := rfl
theorem f_91_36 : xfind (xnth xTs 91) 36 = some (36, .getfield 10, 3, (8, 0, 1, 0), .null, [], 291, 0, []) := rfl
theorem f_91_39 : xfind (xnth xTs 91) 39 = some (39, .aload_n 0, 1, (0, 0, 0, 0), .null, [], 0, 0, []) := rfl
theorem f_91_40 : xfind (xnth xTs 91) 40 = some (40, .getfield 29, 3, (8, 3, 1, 0), .null, [], 294, 0, []) := rfl
theorem f_91_43 : xfind (xnth xTs 91) 43 = some (43, .getfield 94, 3, (5, 0, 1, 0), .null, [], 155, 0, []) := rfl
theorem f_91_46 : xfind (xnth xTs 91) 46 = some (46, .invokevirtual 95, 3, (6, 1, 1, 3), .null, [], 434, 0, []) := rfl
theorem f_91_49 : xfind (xnth xTs 91) 49 = some (49, .aload_n 0, 1, (0, 0, 0, 0), .null, [], 0, 0, []) := rfl
theorem f_91_50 : xfind (xnth xTs 91) 50 = some (50, .getfield 19, 3, (8, 1, 1, 0), .null, [], 292, 0, []) := rfl
theorem f_91_53 : xfind (xnth xTs 91) 53 = some (53, .aload_n 0, 1, (0, 0, 0, 0), .null, [], 0, 0, []) := rfl
theorem f_91_54 : xfind (xnth xTs 91) 54 = some (54, .getfield 29, 3, (8, 3, 1, 0), .null, [], 294, 0, []) := rfl
theorem f_91_57 : xfind (xnth xTs 91) 57 = some (57, .getfield 99, 3, (5, 1, 1, 0), .null, [], 157, 0, []) := rfl
theorem f_91_60 : xfind (xnth xTs 91) 60 = some (60, .invokevirtual 100, 3, (58, 1, 6, 2), .null, [], 454, 0, []) := rfl
theorem f_91_63 : xfind (xnth xTs 91) 63 = some (63, .aload_n 0, 1, (0, 0, 0, 0), .null, [], 0, 0, []) := rfl
theorem f_91_64 : xfind (xnth xTs 91) 64 = some (64, .getfield 50, 3, (8, 6, 1, 0), .null, [], 297, 0, []) := rfl
theorem f_91_67 : xfind (xnth xTs 91) 67 = some (67, .invokevirtual 103, 3, (30, 0, 3, 1), .null, [], 461, 0, []) := rfl
theorem f_91_70 : xfind (xnth xTs 91) 70 = some (70, .aload_n 0, 1, (0, 0, 0, 0), .null, [], 0, 0, []) := rfl
theorem f_91_71 : xfind (xnth xTs 91) 71 = some (71, .getfield 36, 3, (8, 4, 1, 0), .null, [], 295, 0, []) := rfl
theorem f_91_74 : xfind (xnth xTs 91) 74 = some (74, .invokevirtual 106, 3, (1, 0, 0, 1), .null, [], 465, 0, []) := rfl
theorem f_91_77 : xfind (xnth xTs 91) 77 = some (77, .aload_n 0, 1, (0, 0, 0, 0), .null, [], 0, 0, []) := rfl
theorem f_91_78 : xfind (xnth xTs 91) 78 = some (78, .getfield 43, 3, (8, 5, 1, 0), .null, [], 296, 0, []) := rfl
theorem f_91_81 : xfind (xnth xTs 91) 81 = some (81, .invokevirtual 107, 3, (24, 0, 2, 1), .null, [], 469, 0, []) := rfl
theorem f_91_84 : xfind (xnth xTs 91) 84 = some (84, .aload_n 0, 1, (0, 0, 0, 0), .null, [], 0, 0, []) := rfl
theorem f_91_85 : xfind (xnth xTs 91) 85 = some (85, .getfield 10, 3, (8, 0, 1, 0), .null, [], 291, 0, []) := rfl
theorem f_91_88 : xfind (xnth xTs 91) 88 = some (88, .getfield 108, 3, (1, 2, 0, 0), .null, [], 108, 0, []) := rfl
theorem f_91_91 : xfind (xnth xTs 91) 91 = some (91, .ireturn, 1, (0, 0, 0, 0), .null, [], 0, 0, []) := rfl
theorem b_C_house_0 (sh : xSh) (M : Nat → Nat → Int32) (J : Nat → Nat → Int64) (l0 : Nat) : ev (91, 0, [.ref l0, .null], [], (sh, M, J)) = (bif decide ((sh.2.2.1 l0).1 = 8) then bif (decide ((sh.2.2.1 (sh.2.2.2 l0 3)).1 = 5) && true) then (ev (44, 0, [.ref (sh.2.2.2 l0 3), .null], [], (sh, M, J))).bind (fun r => ev (91, 7, [.ref l0, .null], r.1.toList ++ [], r.2)) else none else none) := by
  refine ev_nx (s1 := (91, 1, [.ref l0, .null], [.ref l0], (sh, M, J))) f_91_0 rfl ?_
  refine ev_gd (s1 := (91, 4, [.ref l0, .null], [.ref (sh.2.2.2 l0 3)], (sh, M, J))) f_91_1 rfl ?_
  exact ev_ca (cc := (decide ((sh.2.2.1 (sh.2.2.2 l0 3)).1 = 5) && true)) (s1 := (44, 0, [.ref (sh.2.2.2 l0 3), .null], [], (sh, M, J))) (k := (91, 7, [.ref l0, .null], [])) f_91_4 rfl
theorem b_C_house_7 (sh : xSh) (M : Nat → Nat → Int32) (J : Nat → Nat → Int64) (l0 : Nat) (k0 : Int32) : ev (91, 7, [.ref l0, .null], [.int k0], (sh, M, J)) = (bif decide ((sh.2.2.1 l0).1 = 8) then bif decide ((sh.2.2.1 (sh.2.2.2 l0 3)).1 = 5) then bif decide ((sh.2.2.1 l0).1 = 8) then bif decide ((sh.2.2.1 l0).1 = 8) then bif (decide ((sh.2.2.1 (sh.2.2.2 l0 3)).1 = 5) && true) then (ev (43, 0, [.ref (sh.2.2.2 l0 3)], [], (sh, (xu M l0 9 (M (sh.2.2.2 l0 3) 3)), J))).bind (fun r => ev (91, 26, [.ref l0, .int k0], r.1.toList ++ [], r.2)) else none else none else none else none else none) := by
  refine ev_nx (s1 := (91, 8, [.ref l0, .int k0], [], (sh, M, J))) f_91_7 rfl ?_
  refine ev_nx (s1 := (91, 9, [.ref l0, .int k0], [.ref l0], (sh, M, J))) f_91_8 rfl ?_
  refine ev_nx (s1 := (91, 10, [.ref l0, .int k0], [.ref l0, .ref l0], (sh, M, J))) f_91_9 rfl ?_
  refine ev_gd (s1 := (91, 13, [.ref l0, .int k0], [.ref (sh.2.2.2 l0 3), .ref l0], (sh, M, J))) f_91_10 rfl ?_
  refine ev_gd (s1 := (91, 16, [.ref l0, .int k0], [.int (M (sh.2.2.2 l0 3) 3), .ref l0], (sh, M, J))) f_91_13 rfl ?_
  refine ev_gd (s1 := (91, 19, [.ref l0, .int k0], [], (sh, (xu M l0 9 (M (sh.2.2.2 l0 3) 3)), J))) f_91_16 rfl ?_
  refine ev_nx (s1 := (91, 20, [.ref l0, .int k0], [.ref l0], (sh, (xu M l0 9 (M (sh.2.2.2 l0 3) 3)), J))) f_91_19 rfl ?_
  refine ev_gd (s1 := (91, 23, [.ref l0, .int k0], [.ref (sh.2.2.2 l0 3)], (sh, (xu M l0 9 (M (sh.2.2.2 l0 3) 3)), J))) f_91_20 rfl ?_
  exact ev_ca (cc := (decide ((sh.2.2.1 (sh.2.2.2 l0 3)).1 = 5) && true)) (s1 := (43, 0, [.ref (sh.2.2.2 l0 3)], [], (sh, (xu M l0 9 (M (sh.2.2.2 l0 3) 3)), J))) (k := (91, 26, [.ref l0, .int k0], [])) f_91_23 rfl
theorem b_C_house_26 (sh : xSh) (M : Nat → Nat → Int32) (J : Nat → Nat → Int64) (l0 : Nat) (l1 : Int32) : ev (91, 26, [.ref l0, .int l1], [], (sh, M, J)) = (bif decide (l1 = 0) then bif decide ((sh.2.2.1 l0).1 = 8) then bif decide ((sh.2.2.1 l0).1 = 8) then bif decide ((sh.2.2.1 (sh.2.2.2 l0 3)).1 = 5) then bif (decide ((sh.2.2.1 (sh.2.2.2 l0 0)).1 = 1) && true) then (ev (6, 0, [.ref (sh.2.2.2 l0 0), .ref (sh.2.2.2 (sh.2.2.2 l0 3) 0), .null], [], (sh, M, J))).bind (fun r => ev (91, 49, [.ref l0, .int l1], r.1.toList ++ [], r.2)) else none else none else none else none else some (some (.int (((-10) : Int32) - l1)), (sh, M, J))) := by
  refine ev_nx (s1 := (91, 27, [.ref l0, .int l1], [.int l1], (sh, M, J))) f_91_26 rfl ?_
  refine ev_br (s1 := (91, 35, [.ref l0, .int l1], [], (sh, M, J))) (s2 := (91, 30, [.ref l0, .int l1], [], (sh, M, J))) f_91_27 rfl ?_ ?_
  · refine ev_nx (s1 := (91, 36, [.ref l0, .int l1], [.ref l0], (sh, M, J))) f_91_35 rfl ?_
    refine ev_gd (s1 := (91, 39, [.ref l0, .int l1], [.ref (sh.2.2.2 l0 0)], (sh, M, J))) f_91_36 rfl ?_
    refine ev_nx (s1 := (91, 40, [.ref l0, .int l1], [.ref l0, .ref (sh.2.2.2 l0 0)], (sh, M, J))) f_91_39 rfl ?_
    refine ev_gd (s1 := (91, 43, [.ref l0, .int l1], [.ref (sh.2.2.2 l0 3), .ref (sh.2.2.2 l0 0)], (sh, M, J))) f_91_40 rfl ?_
    refine ev_gd (s1 := (91, 46, [.ref l0, .int l1], [.ref (sh.2.2.2 (sh.2.2.2 l0 3) 0), .ref (sh.2.2.2 l0 0)], (sh, M, J))) f_91_43 rfl ?_
    exact ev_ca (cc := (decide ((sh.2.2.1 (sh.2.2.2 l0 0)).1 = 1) && true)) (s1 := (6, 0, [.ref (sh.2.2.2 l0 0), .ref (sh.2.2.2 (sh.2.2.2 l0 3) 0), .null], [], (sh, M, J))) (k := (91, 49, [.ref l0, .int l1], [])) f_91_46 rfl
  · refine ev_nx (s1 := (91, 32, [.ref l0, .int l1], [.int (-10)], (sh, M, J))) f_91_30 rfl ?_
    refine ev_nx (s1 := (91, 33, [.ref l0, .int l1], [.int l1, .int (-10)], (sh, M, J))) f_91_32 rfl ?_
    refine ev_nx (s1 := (91, 34, [.ref l0, .int l1], [.int (((-10) : Int32) - l1)], (sh, M, J))) f_91_33 rfl ?_
    exact ev_r1 f_91_34 rfl
theorem b_C_house_49 (sh : xSh) (M : Nat → Nat → Int32) (J : Nat → Nat → Int64) (l0 : Nat) (l1 : Int32) : ev (91, 49, [.ref l0, .int l1], [], (sh, M, J)) = (bif decide ((sh.2.2.1 l0).1 = 8) then bif decide ((sh.2.2.1 l0).1 = 8) then bif decide ((sh.2.2.1 (sh.2.2.2 l0 3)).1 = 5) then bif (decide ((sh.2.2.1 (sh.2.2.2 l0 1)).1 = 6) && true) then (ev (58, 0, [.ref (sh.2.2.2 l0 1), .ref (sh.2.2.2 (sh.2.2.2 l0 3) 1)], [], (sh, M, J))).bind (fun r => ev (91, 63, [.ref l0, .int l1], r.1.toList ++ [], r.2)) else none else none else none else none) := by
  refine ev_nx (s1 := (91, 50, [.ref l0, .int l1], [.ref l0], (sh, M, J))) f_91_49 rfl ?_
  refine ev_gd (s1 := (91, 53, [.ref l0, .int l1], [.ref (sh.2.2.2 l0 1)], (sh, M, J))) f_91_50 rfl ?_
  refine ev_nx (s1 := (91, 54, [.ref l0, .int l1], [.ref l0, .ref (sh.2.2.2 l0 1)], (sh, M, J))) f_91_53 rfl ?_
  refine ev_gd (s1 := (91, 57, [.ref l0, .int l1], [.ref (sh.2.2.2 l0 3), .ref (sh.2.2.2 l0 1)], (sh, M, J))) f_91_54 rfl ?_
  refine ev_gd (s1 := (91, 60, [.ref l0, .int l1], [.ref (sh.2.2.2 (sh.2.2.2 l0 3) 1), .ref (sh.2.2.2 l0 1)], (sh, M, J))) f_91_57 rfl ?_
  exact ev_ca (cc := (decide ((sh.2.2.1 (sh.2.2.2 l0 1)).1 = 6) && true)) (s1 := (58, 0, [.ref (sh.2.2.2 l0 1), .ref (sh.2.2.2 (sh.2.2.2 l0 3) 1)], [], (sh, M, J))) (k := (91, 63, [.ref l0, .int l1], [])) f_91_60 rfl
theorem b_C_house_63 (sh : xSh) (M : Nat → Nat → Int32) (J : Nat → Nat → Int64) (l0 : Nat) (l1 : Int32) : ev (91, 63, [.ref l0, .int l1], [], (sh, M, J)) = (bif decide ((sh.2.2.1 l0).1 = 8) then bif (decide ((sh.2.2.1 (sh.2.2.2 l0 6)).1 = 3) && true) then (ev (30, 0, [.ref (sh.2.2.2 l0 6)], [], (sh, M, J))).bind (fun r => ev (91, 70, [.ref l0, .int l1], r.1.toList ++ [], r.2)) else none else none) := by
  refine ev_nx (s1 := (91, 64, [.ref l0, .int l1], [.ref l0], (sh, M, J))) f_91_63 rfl ?_
  refine ev_gd (s1 := (91, 67, [.ref l0, .int l1], [.ref (sh.2.2.2 l0 6)], (sh, M, J))) f_91_64 rfl ?_
  exact ev_ca (cc := (decide ((sh.2.2.1 (sh.2.2.2 l0 6)).1 = 3) && true)) (s1 := (30, 0, [.ref (sh.2.2.2 l0 6)], [], (sh, M, J))) (k := (91, 70, [.ref l0, .int l1], [])) f_91_67 rfl
theorem b_C_house_70 (sh : xSh) (M : Nat → Nat → Int32) (J : Nat → Nat → Int64) (l0 : Nat) (l1 : Int32) : ev (91, 70, [.ref l0, .int l1], [], (sh, M, J)) = (bif decide ((sh.2.2.1 l0).1 = 8) then bif (decide ((sh.2.2.1 (sh.2.2.2 l0 4)).1 = 0) && true) then (ev (1, 0, [.ref (sh.2.2.2 l0 4)], [], (sh, M, J))).bind (fun r => ev (91, 77, [.ref l0, .int l1], r.1.toList ++ [], r.2)) else none else none) := by
  refine ev_nx (s1 := (91, 71, [.ref l0, .int l1], [.ref l0], (sh, M, J))) f_91_70 rfl ?_
  refine ev_gd (s1 := (91, 74, [.ref l0, .int l1], [.ref (sh.2.2.2 l0 4)], (sh, M, J))) f_91_71 rfl ?_
  exact ev_ca (cc := (decide ((sh.2.2.1 (sh.2.2.2 l0 4)).1 = 0) && true)) (s1 := (1, 0, [.ref (sh.2.2.2 l0 4)], [], (sh, M, J))) (k := (91, 77, [.ref l0, .int l1], [])) f_91_74 rfl
theorem b_C_house_77 (sh : xSh) (M : Nat → Nat → Int32) (J : Nat → Nat → Int64) (l0 : Nat) (l1 : Int32) : ev (91, 77, [.ref l0, .int l1], [], (sh, M, J)) = (bif decide ((sh.2.2.1 l0).1 = 8) then bif (decide ((sh.2.2.1 (sh.2.2.2 l0 5)).1 = 2) && true) then (ev (24, 0, [.ref (sh.2.2.2 l0 5)], [], (sh, M, J))).bind (fun r => ev (91, 84, [.ref l0, .int l1], r.1.toList ++ [], r.2)) else none else none) := by
  refine ev_nx (s1 := (91, 78, [.ref l0, .int l1], [.ref l0], (sh, M, J))) f_91_77 rfl ?_
  refine ev_gd (s1 := (91, 81, [.ref l0, .int l1], [.ref (sh.2.2.2 l0 5)], (sh, M, J))) f_91_78 rfl ?_
  exact ev_ca (cc := (decide ((sh.2.2.1 (sh.2.2.2 l0 5)).1 = 2) && true)) (s1 := (24, 0, [.ref (sh.2.2.2 l0 5)], [], (sh, M, J))) (k := (91, 84, [.ref l0, .int l1], [])) f_91_81 rfl
theorem b_C_house_84 (sh : xSh) (M : Nat → Nat → Int32) (J : Nat → Nat → Int64) (l0 : Nat) (l1 : Int32) : ev (91, 84, [.ref l0, .int l1], [], (sh, M, J)) = (bif decide ((sh.2.2.1 l0).1 = 8) then bif decide ((sh.2.2.1 (sh.2.2.2 l0 0)).1 = 1) then some (some (.int (M (sh.2.2.2 l0 0) 2)), (sh, M, J)) else none else none) := by
  refine ev_nx (s1 := (91, 85, [.ref l0, .int l1], [.ref l0], (sh, M, J))) f_91_84 rfl ?_
  refine ev_gd (s1 := (91, 88, [.ref l0, .int l1], [.ref (sh.2.2.2 l0 0)], (sh, M, J))) f_91_85 rfl ?_
  refine ev_gd (s1 := (91, 91, [.ref l0, .int l1], [.int (M (sh.2.2.2 l0 0) 2)], (sh, M, J))) f_91_88 rfl ?_
  exact ev_r1 f_91_91 rfl
theorem f_92_0 : xfind (xnth xTs 92) 0 = some (0, .aload_n 0, 1, (0, 0, 0, 0), .null, [], 0, 0, []) := rfl
theorem f_92_1 : xfind (xnth xTs 92) 1 = some (1, .getfield 68, 3, (8, 9, 0, 0), .null, [], 300, 0, []) := rfl
theorem f_92_4 : xfind (xnth xTs 92) 4 = some (4, .ireturn, 1, (0, 0, 0, 0), .null, [], 0, 0, []) := rfl
theorem b_C_fault_0 (sh : xSh) (M : Nat → Nat → Int32) (J : Nat → Nat → Int64) (l0 : Nat) : ev (92, 0, [.ref l0], [], (sh, M, J)) = (bif decide ((sh.2.2.1 l0).1 = 8) then some (some (.int (M l0 9)), (sh, M, J)) else none) := by
  refine ev_nx (s1 := (92, 1, [.ref l0], [.ref l0], (sh, M, J))) f_92_0 rfl ?_
  refine ev_gd (s1 := (92, 4, [.ref l0], [.int (M l0 9)], (sh, M, J))) f_92_1 rfl ?_
  exact ev_r1 f_92_4 rfl
theorem f_93_0 : xfind (xnth xTs 93) 0 = some (0, .iload_n 1, 1, (0, 0, 0, 0), .null, [], 0, 0, []) := rfl
theorem f_93_1 : xfind (xnth xTs 93) 1 = some (1, .tableswitch 186 0 12 #[67, 75, 83, 91, 99, 107, 115, 127, 135, 147, 162, 170, 178], 67, (0, 0, 0, 187), .null, [(0, 68), (1, 76), (2, 84), (3, 92), (4, 100), (5, 108), (6, 116), (7, 128), (8, 136), (9, 148), (10, 163), (11, 171), (12, 179)], 0, 0, []) := rfl
theorem f_93_68 : xfind (xnth xTs 93) 68 = some (68, .aload_n 0, 1, (0, 0, 0, 0), .null, [], 0, 0, []) := rfl
theorem f_93_69 : xfind (xnth xTs 93) 69 = some (69, .getfield 10, 3, (8, 0, 1, 0), .null, [], 291, 0, []) := rfl
theorem f_93_72 : xfind (xnth xTs 93) 72 = some (72, .getfield 111, 3, (1, 0, 0, 0), .null, [], 99, 0, []) := rfl
theorem f_93_75 : xfind (xnth xTs 93) 75 = some (75, .ireturn, 1, (0, 0, 0, 0), .null, [], 0, 0, []) := rfl
theorem f_93_76 : xfind (xnth xTs 93) 76 = some (76, .aload_n 0, 1, (0, 0, 0, 0), .null, [], 0, 0, []) := rfl
theorem f_93_77 : xfind (xnth xTs 93) 77 = some (77, .getfield 10, 3, (8, 0, 1, 0), .null, [], 291, 0, []) := rfl
theorem f_93_80 : xfind (xnth xTs 93) 80 = some (80, .getfield 114, 3, (1, 1, 0, 0), .null, [], 104, 0, []) := rfl
theorem f_93_83 : xfind (xnth xTs 93) 83 = some (83, .ireturn, 1, (0, 0, 0, 0), .null, [], 0, 0, []) := rfl
theorem f_93_84 : xfind (xnth xTs 93) 84 = some (84, .aload_n 0, 1, (0, 0, 0, 0), .null, [], 0, 0, []) := rfl
theorem f_93_85 : xfind (xnth xTs 93) 85 = some (85, .getfield 10, 3, (8, 0, 1, 0), .null, [], 291, 0, []) := rfl
theorem f_93_88 : xfind (xnth xTs 93) 88 = some (88, .getfield 108, 3, (1, 2, 0, 0), .null, [], 108, 0, []) := rfl
theorem f_93_91 : xfind (xnth xTs 93) 91 = some (91, .ireturn, 1, (0, 0, 0, 0), .null, [], 0, 0, []) := rfl
theorem f_93_92 : xfind (xnth xTs 93) 92 = some (92, .aload_n 0, 1, (0, 0, 0, 0), .null, [], 0, 0, []) := rfl
theorem f_93_93 : xfind (xnth xTs 93) 93 = some (93, .getfield 29, 3, (8, 3, 1, 0), .null, [], 294, 0, []) := rfl
theorem f_93_96 : xfind (xnth xTs 93) 96 = some (96, .getfield 80, 3, (5, 2, 0, 0), .null, [], 159, 0, []) := rfl
theorem f_93_99 : xfind (xnth xTs 93) 99 = some (99, .ireturn, 1, (0, 0, 0, 0), .null, [], 0, 0, []) := rfl
theorem f_93_100 : xfind (xnth xTs 93) 100 = some (100, .aload_n 0, 1, (0, 0, 0, 0), .null, [], 0, 0, []) := rfl
theorem f_93_101 : xfind (xnth xTs 93) 101 = some (101, .getfield 19, 3, (8, 1, 1, 0), .null, [], 292, 0, []) := rfl
theorem f_93_104 : xfind (xnth xTs 93) 104 = some (104, .invokevirtual 117, 3, (60, 0, 6, 1), .null, [], 481, 0, []) := rfl
theorem f_93_107 : xfind (xnth xTs 93) 107 = some (107, .ireturn, 1, (0, 0, 0, 0), .null, [], 0, 0, []) := rfl
theorem f_93_108 : xfind (xnth xTs 93) 108 = some (108, .aload_n 0, 1, (0, 0, 0, 0), .null, [], 0, 0, []) := rfl
theorem f_93_109 : xfind (xnth xTs 93) 109 = some (109, .getfield 19, 3, (8, 1, 1, 0), .null, [], 292, 0, []) := rfl
theorem f_93_112 : xfind (xnth xTs 93) 112 = some (112, .invokevirtual 120, 3, (59, 0, 6, 1), .null, [], 485, 0, []) := rfl
theorem f_93_115 : xfind (xnth xTs 93) 115 = some (115, .ireturn, 1, (0, 0, 0, 0), .null, [], 0, 0, []) := rfl
theorem f_93_116 : xfind (xnth xTs 93) 116 = some (116, .aload_n 0, 1, (0, 0, 0, 0), .null, [], 0, 0, []) := rfl
theorem f_93_117 : xfind (xnth xTs 93) 117 = some (117, .getfield 19, 3, (8, 1, 1, 0), .null, [], 292, 0, []) := rfl
theorem f_93_120 : xfind (xnth xTs 93) 120 = some (120, .aload_n 0, 1, (0, 0, 0, 0), .null, [], 0, 0, []) := rfl
theorem f_93_121 : xfind (xnth xTs 93) 121 = some (121, .getfield 10, 3, (8, 0, 1, 0), .null, [], 291, 0, []) := rfl
theorem f_93_124 : xfind (xnth xTs 93) 124 = some (124, .invokevirtual 123, 3, (76, 1, 6, 5), .null, [], 486, 0, []) := rfl
theorem f_93_127 : xfind (xnth xTs 93) 127 = some (127, .ireturn, 1, (0, 0, 0, 0), .null, [], 0, 0, []) := rfl
theorem f_93_128 : xfind (xnth xTs 93) 128 = some (128, .aload_n 0, 1, (0, 0, 0, 0), .null, [], 0, 0, []) := rfl
theorem f_93_129 : xfind (xnth xTs 93) 129 = some (129, .getfield 19, 3, (8, 1, 1, 0), .null, [], 292, 0, []) := rfl
theorem f_93_132 : xfind (xnth xTs 93) 132 = some (132, .invokevirtual 127, 3, (67, 0, 6, 3), .null, [], 522, 0, []) := rfl
theorem f_93_135 : xfind (xnth xTs 93) 135 = some (135, .ireturn, 1, (0, 0, 0, 0), .null, [], 0, 0, []) := rfl
theorem f_93_136 : xfind (xnth xTs 93) 136 = some (136, .aload_n 0, 1, (0, 0, 0, 0), .null, [], 0, 0, []) := rfl
theorem f_93_137 : xfind (xnth xTs 93) 137 = some (137, .getfield 19, 3, (8, 1, 1, 0), .null, [], 292, 0, []) := rfl
theorem f_93_140 : xfind (xnth xTs 93) 140 = some (140, .aload_n 0, 1, (0, 0, 0, 0), .null, [], 0, 0, []) := rfl
theorem f_93_141 : xfind (xnth xTs 93) 141 = some (141, .getfield 10, 3, (8, 0, 1, 0), .null, [], 291, 0, []) := rfl
theorem f_93_144 : xfind (xnth xTs 93) 144 = some (144, .invokevirtual 130, 3, (73, 1, 6, 2), .null, [], 530, 0, []) := rfl
theorem f_93_147 : xfind (xnth xTs 93) 147 = some (147, .ireturn, 1, (0, 0, 0, 0), .null, [], 0, 0, []) := rfl
theorem f_93_148 : xfind (xnth xTs 93) 148 = some (148, .aload_n 0, 1, (0, 0, 0, 0), .null, [], 0, 0, []) := rfl
theorem f_93_149 : xfind (xnth xTs 93) 149 = some (149, .getfield 19, 3, (8, 1, 1, 0), .null, [], 292, 0, []) := rfl
theorem f_93_152 : xfind (xnth xTs 93) 152 = some (152, .aload_n 0, 1, (0, 0, 0, 0), .null, [], 0, 0, []) := rfl
theorem f_93_153 : xfind (xnth xTs 93) 153 = some (153, .getfield 10, 3, (8, 0, 1, 0), .null, [], 291, 0, []) := rfl
theorem f_93_156 : xfind (xnth xTs 93) 156 = some (156, .invokevirtual 133, 3, (75, 1, 6, 2), .null, [], 542, 0, []) := rfl
theorem f_93_159 : xfind (xnth xTs 93) 159 = some (159, .bipush 100, 2, (0, 0, 0, 0), (.int 100), [], 0, 0, []) := rfl
theorem f_93_161 : xfind (xnth xTs 93) 161 = some (161, .iadd, 1, (0, 0, 0, 0), .null, [], 0, 0, []) := rfl
theorem f_93_162 : xfind (xnth xTs 93) 162 = some (162, .ireturn, 1, (0, 0, 0, 0), .null, [], 0, 0, []) := rfl
theorem f_93_163 : xfind (xnth xTs 93) 163 = some (163, .aload_n 0, 1, (0, 0, 0, 0), .null, [], 0, 0, []) := rfl
theorem f_93_164 : xfind (xnth xTs 93) 164 = some (164, .getfield 50, 3, (8, 6, 1, 0), .null, [], 297, 0, []) := rfl
theorem f_93_167 : xfind (xnth xTs 93) 167 = some (167, .getfield 136, 3, (3, 0, 0, 0), .null, [], 226, 0, []) := rfl
theorem f_93_170 : xfind (xnth xTs 93) 170 = some (170, .ireturn, 1, (0, 0, 0, 0), .null, [], 0, 0, []) := rfl
theorem f_93_171 : xfind (xnth xTs 93) 171 = some (171, .aload_n 0, 1, (0, 0, 0, 0), .null, [], 0, 0, []) := rfl
theorem f_93_172 : xfind (xnth xTs 93) 172 = some (172, .getfield 50, 3, (8, 6, 1, 0), .null, [], 297, 0, []) := rfl
theorem f_93_175 : xfind (xnth xTs 93) 175 = some (175, .getfield 139, 3, (3, 1, 0, 0), .null, [], 228, 0, []) := rfl
theorem f_93_178 : xfind (xnth xTs 93) 178 = some (178, .ireturn, 1, (0, 0, 0, 0), .null, [], 0, 0, []) := rfl
theorem f_93_179 : xfind (xnth xTs 93) 179 = some (179, .aload_n 0, 1, (0, 0, 0, 0), .null, [], 0, 0, []) := rfl
theorem f_93_180 : xfind (xnth xTs 93) 180 = some (180, .getfield 36, 3, (8, 4, 1, 0), .null, [], 295, 0, []) := rfl
theorem f_93_183 : xfind (xnth xTs 93) 183 = some (183, .getfield 142, 3, (0, 0, 0, 0), .null, [], 193, 0, []) := rfl
theorem f_93_186 : xfind (xnth xTs 93) 186 = some (186, .ireturn, 1, (0, 0, 0, 0), .null, [], 0, 0, []) := rfl
theorem f_93_187 : xfind (xnth xTs 93) 187 = some (187, .ldc 75, 2, (0, 0, 0, 0), (.int (-1000000002)), [], 329, 0, []) := rfl
theorem f_93_189 : xfind (xnth xTs 93) 189 = some (189, .ireturn, 1, (0, 0, 0, 0), .null, [], 0, 0, []) := rfl
theorem b_C_told_0 (sh : xSh) (M : Nat → Nat → Int32) (J : Nat → Nat → Int64) (l0 : Nat) (l1 : Int32) : ev (93, 0, [.ref l0, .int l1], [], (sh, M, J)) = (if l1 = 0 then bif decide ((sh.2.2.1 l0).1 = 8) then bif decide ((sh.2.2.1 (sh.2.2.2 l0 0)).1 = 1) then some (some (.int (M (sh.2.2.2 l0 0) 0)), (sh, M, J)) else none else none else if l1 = 1 then bif decide ((sh.2.2.1 l0).1 = 8) then bif decide ((sh.2.2.1 (sh.2.2.2 l0 0)).1 = 1) then some (some (.int (M (sh.2.2.2 l0 0) 1)), (sh, M, J)) else none else none else if l1 = 2 then bif decide ((sh.2.2.1 l0).1 = 8) then bif decide ((sh.2.2.1 (sh.2.2.2 l0 0)).1 = 1) then some (some (.int (M (sh.2.2.2 l0 0) 2)), (sh, M, J)) else none else none else if l1 = 3 then bif decide ((sh.2.2.1 l0).1 = 8) then bif decide ((sh.2.2.1 (sh.2.2.2 l0 3)).1 = 5) then some (some (.int (M (sh.2.2.2 l0 3) 2)), (sh, M, J)) else none else none else if l1 = 4 then bif decide ((sh.2.2.1 l0).1 = 8) then bif (decide ((sh.2.2.1 (sh.2.2.2 l0 1)).1 = 6) && true) then (ev (60, 0, [.ref (sh.2.2.2 l0 1)], [], (sh, M, J))).bind (fun r => ev (93, 107, [.ref l0, .int l1], r.1.toList ++ [], r.2)) else none else none else if l1 = 5 then bif decide ((sh.2.2.1 l0).1 = 8) then bif (decide ((sh.2.2.1 (sh.2.2.2 l0 1)).1 = 6) && true) then (ev (59, 0, [.ref (sh.2.2.2 l0 1)], [], (sh, M, J))).bind (fun r => ev (93, 115, [.ref l0, .int l1], r.1.toList ++ [], r.2)) else none else none else if l1 = 6 then bif decide ((sh.2.2.1 l0).1 = 8) then bif decide ((sh.2.2.1 l0).1 = 8) then bif (decide ((sh.2.2.1 (sh.2.2.2 l0 1)).1 = 6) && true) then (ev (76, 0, [.ref (sh.2.2.2 l0 1), .ref (sh.2.2.2 l0 0), .null, .null, .null], [], (sh, M, J))).bind (fun r => ev (93, 127, [.ref l0, .int l1], r.1.toList ++ [], r.2)) else none else none else none else if l1 = 7 then bif decide ((sh.2.2.1 l0).1 = 8) then bif (decide ((sh.2.2.1 (sh.2.2.2 l0 1)).1 = 6) && true) then (ev (67, 0, [.ref (sh.2.2.2 l0 1), .null, .null], [], (sh, M, J))).bind (fun r => ev (93, 135, [.ref l0, .int l1], r.1.toList ++ [], r.2)) else none else none else if l1 = 8 then bif decide ((sh.2.2.1 l0).1 = 8) then bif decide ((sh.2.2.1 l0).1 = 8) then bif (decide ((sh.2.2.1 (sh.2.2.2 l0 1)).1 = 6) && true) then (ev (73, 0, [.ref (sh.2.2.2 l0 1), .ref (sh.2.2.2 l0 0)], [], (sh, M, J))).bind (fun r => ev (93, 147, [.ref l0, .int l1], r.1.toList ++ [], r.2)) else none else none else none else if l1 = 9 then bif decide ((sh.2.2.1 l0).1 = 8) then bif decide ((sh.2.2.1 l0).1 = 8) then bif (decide ((sh.2.2.1 (sh.2.2.2 l0 1)).1 = 6) && true) then (ev (75, 0, [.ref (sh.2.2.2 l0 1), .ref (sh.2.2.2 l0 0)], [], (sh, M, J))).bind (fun r => ev (93, 159, [.ref l0, .int l1], r.1.toList ++ [], r.2)) else none else none else none else if l1 = 10 then bif decide ((sh.2.2.1 l0).1 = 8) then bif decide ((sh.2.2.1 (sh.2.2.2 l0 6)).1 = 3) then some (some (.int (M (sh.2.2.2 l0 6) 0)), (sh, M, J)) else none else none else if l1 = 11 then bif decide ((sh.2.2.1 l0).1 = 8) then bif decide ((sh.2.2.1 (sh.2.2.2 l0 6)).1 = 3) then some (some (.int (M (sh.2.2.2 l0 6) 1)), (sh, M, J)) else none else none else if l1 = 12 then bif decide ((sh.2.2.1 l0).1 = 8) then bif decide ((sh.2.2.1 (sh.2.2.2 l0 4)).1 = 0) then some (some (.int (M (sh.2.2.2 l0 4) 0)), (sh, M, J)) else none else none else some (some (.int (-1000000002)), (sh, M, J))) := by
  refine ev_nx (s1 := (93, 1, [.ref l0, .int l1], [.int l1], (sh, M, J))) f_93_0 rfl ?_
  refine ev_sw f_93_1 rfl ?_
  refine ev_swc ?_ ?_
  · refine ev_nx (s1 := (93, 69, [.ref l0, .int l1], [.ref l0], (sh, M, J))) f_93_68 rfl ?_
    refine ev_gd (s1 := (93, 72, [.ref l0, .int l1], [.ref (sh.2.2.2 l0 0)], (sh, M, J))) f_93_69 rfl ?_
    refine ev_gd (s1 := (93, 75, [.ref l0, .int l1], [.int (M (sh.2.2.2 l0 0) 0)], (sh, M, J))) f_93_72 rfl ?_
    exact ev_r1 f_93_75 rfl
  refine ev_swc ?_ ?_
  · refine ev_nx (s1 := (93, 77, [.ref l0, .int l1], [.ref l0], (sh, M, J))) f_93_76 rfl ?_
    refine ev_gd (s1 := (93, 80, [.ref l0, .int l1], [.ref (sh.2.2.2 l0 0)], (sh, M, J))) f_93_77 rfl ?_
    refine ev_gd (s1 := (93, 83, [.ref l0, .int l1], [.int (M (sh.2.2.2 l0 0) 1)], (sh, M, J))) f_93_80 rfl ?_
    exact ev_r1 f_93_83 rfl
  refine ev_swc ?_ ?_
  · refine ev_nx (s1 := (93, 85, [.ref l0, .int l1], [.ref l0], (sh, M, J))) f_93_84 rfl ?_
    refine ev_gd (s1 := (93, 88, [.ref l0, .int l1], [.ref (sh.2.2.2 l0 0)], (sh, M, J))) f_93_85 rfl ?_
    refine ev_gd (s1 := (93, 91, [.ref l0, .int l1], [.int (M (sh.2.2.2 l0 0) 2)], (sh, M, J))) f_93_88 rfl ?_
    exact ev_r1 f_93_91 rfl
  refine ev_swc ?_ ?_
  · refine ev_nx (s1 := (93, 93, [.ref l0, .int l1], [.ref l0], (sh, M, J))) f_93_92 rfl ?_
    refine ev_gd (s1 := (93, 96, [.ref l0, .int l1], [.ref (sh.2.2.2 l0 3)], (sh, M, J))) f_93_93 rfl ?_
    refine ev_gd (s1 := (93, 99, [.ref l0, .int l1], [.int (M (sh.2.2.2 l0 3) 2)], (sh, M, J))) f_93_96 rfl ?_
    exact ev_r1 f_93_99 rfl
  refine ev_swc ?_ ?_
  · refine ev_nx (s1 := (93, 101, [.ref l0, .int l1], [.ref l0], (sh, M, J))) f_93_100 rfl ?_
    refine ev_gd (s1 := (93, 104, [.ref l0, .int l1], [.ref (sh.2.2.2 l0 1)], (sh, M, J))) f_93_101 rfl ?_
    exact ev_ca (cc := (decide ((sh.2.2.1 (sh.2.2.2 l0 1)).1 = 6) && true)) (s1 := (60, 0, [.ref (sh.2.2.2 l0 1)], [], (sh, M, J))) (k := (93, 107, [.ref l0, .int l1], [])) f_93_104 rfl
  refine ev_swc ?_ ?_
  · refine ev_nx (s1 := (93, 109, [.ref l0, .int l1], [.ref l0], (sh, M, J))) f_93_108 rfl ?_
    refine ev_gd (s1 := (93, 112, [.ref l0, .int l1], [.ref (sh.2.2.2 l0 1)], (sh, M, J))) f_93_109 rfl ?_
    exact ev_ca (cc := (decide ((sh.2.2.1 (sh.2.2.2 l0 1)).1 = 6) && true)) (s1 := (59, 0, [.ref (sh.2.2.2 l0 1)], [], (sh, M, J))) (k := (93, 115, [.ref l0, .int l1], [])) f_93_112 rfl
  refine ev_swc ?_ ?_
  · refine ev_nx (s1 := (93, 117, [.ref l0, .int l1], [.ref l0], (sh, M, J))) f_93_116 rfl ?_
    refine ev_gd (s1 := (93, 120, [.ref l0, .int l1], [.ref (sh.2.2.2 l0 1)], (sh, M, J))) f_93_117 rfl ?_
    refine ev_nx (s1 := (93, 121, [.ref l0, .int l1], [.ref l0, .ref (sh.2.2.2 l0 1)], (sh, M, J))) f_93_120 rfl ?_
    refine ev_gd (s1 := (93, 124, [.ref l0, .int l1], [.ref (sh.2.2.2 l0 0), .ref (sh.2.2.2 l0 1)], (sh, M, J))) f_93_121 rfl ?_
    exact ev_ca (cc := (decide ((sh.2.2.1 (sh.2.2.2 l0 1)).1 = 6) && true)) (s1 := (76, 0, [.ref (sh.2.2.2 l0 1), .ref (sh.2.2.2 l0 0), .null, .null, .null], [], (sh, M, J))) (k := (93, 127, [.ref l0, .int l1], [])) f_93_124 rfl
  refine ev_swc ?_ ?_
  · refine ev_nx (s1 := (93, 129, [.ref l0, .int l1], [.ref l0], (sh, M, J))) f_93_128 rfl ?_
    refine ev_gd (s1 := (93, 132, [.ref l0, .int l1], [.ref (sh.2.2.2 l0 1)], (sh, M, J))) f_93_129 rfl ?_
    exact ev_ca (cc := (decide ((sh.2.2.1 (sh.2.2.2 l0 1)).1 = 6) && true)) (s1 := (67, 0, [.ref (sh.2.2.2 l0 1), .null, .null], [], (sh, M, J))) (k := (93, 135, [.ref l0, .int l1], [])) f_93_132 rfl
  refine ev_swc ?_ ?_
  · refine ev_nx (s1 := (93, 137, [.ref l0, .int l1], [.ref l0], (sh, M, J))) f_93_136 rfl ?_
    refine ev_gd (s1 := (93, 140, [.ref l0, .int l1], [.ref (sh.2.2.2 l0 1)], (sh, M, J))) f_93_137 rfl ?_
    refine ev_nx (s1 := (93, 141, [.ref l0, .int l1], [.ref l0, .ref (sh.2.2.2 l0 1)], (sh, M, J))) f_93_140 rfl ?_
    refine ev_gd (s1 := (93, 144, [.ref l0, .int l1], [.ref (sh.2.2.2 l0 0), .ref (sh.2.2.2 l0 1)], (sh, M, J))) f_93_141 rfl ?_
    exact ev_ca (cc := (decide ((sh.2.2.1 (sh.2.2.2 l0 1)).1 = 6) && true)) (s1 := (73, 0, [.ref (sh.2.2.2 l0 1), .ref (sh.2.2.2 l0 0)], [], (sh, M, J))) (k := (93, 147, [.ref l0, .int l1], [])) f_93_144 rfl
  refine ev_swc ?_ ?_
  · refine ev_nx (s1 := (93, 149, [.ref l0, .int l1], [.ref l0], (sh, M, J))) f_93_148 rfl ?_
    refine ev_gd (s1 := (93, 152, [.ref l0, .int l1], [.ref (sh.2.2.2 l0 1)], (sh, M, J))) f_93_149 rfl ?_
    refine ev_nx (s1 := (93, 153, [.ref l0, .int l1], [.ref l0, .ref (sh.2.2.2 l0 1)], (sh, M, J))) f_93_152 rfl ?_
    refine ev_gd (s1 := (93, 156, [.ref l0, .int l1], [.ref (sh.2.2.2 l0 0), .ref (sh.2.2.2 l0 1)], (sh, M, J))) f_93_153 rfl ?_
    exact ev_ca (cc := (decide ((sh.2.2.1 (sh.2.2.2 l0 1)).1 = 6) && true)) (s1 := (75, 0, [.ref (sh.2.2.2 l0 1), .ref (sh.2.2.2 l0 0)], [], (sh, M, J))) (k := (93, 159, [.ref l0, .int l1], [])) f_93_156 rfl
  refine ev_swc ?_ ?_
  · refine ev_nx (s1 := (93, 164, [.ref l0, .int l1], [.ref l0], (sh, M, J))) f_93_163 rfl ?_
    refine ev_gd (s1 := (93, 167, [.ref l0, .int l1], [.ref (sh.2.2.2 l0 6)], (sh, M, J))) f_93_164 rfl ?_
    refine ev_gd (s1 := (93, 170, [.ref l0, .int l1], [.int (M (sh.2.2.2 l0 6) 0)], (sh, M, J))) f_93_167 rfl ?_
    exact ev_r1 f_93_170 rfl
  refine ev_swc ?_ ?_
  · refine ev_nx (s1 := (93, 172, [.ref l0, .int l1], [.ref l0], (sh, M, J))) f_93_171 rfl ?_
    refine ev_gd (s1 := (93, 175, [.ref l0, .int l1], [.ref (sh.2.2.2 l0 6)], (sh, M, J))) f_93_172 rfl ?_
    refine ev_gd (s1 := (93, 178, [.ref l0, .int l1], [.int (M (sh.2.2.2 l0 6) 1)], (sh, M, J))) f_93_175 rfl ?_
    exact ev_r1 f_93_178 rfl
  refine ev_swc ?_ ?_
  · refine ev_nx (s1 := (93, 180, [.ref l0, .int l1], [.ref l0], (sh, M, J))) f_93_179 rfl ?_
    refine ev_gd (s1 := (93, 183, [.ref l0, .int l1], [.ref (sh.2.2.2 l0 4)], (sh, M, J))) f_93_180 rfl ?_
    refine ev_gd (s1 := (93, 186, [.ref l0, .int l1], [.int (M (sh.2.2.2 l0 4) 0)], (sh, M, J))) f_93_183 rfl ?_
    exact ev_r1 f_93_186 rfl
  show ev (93, 187, [.ref l0, .int l1], [], (sh, M, J)) = _
  refine ev_nx (s1 := (93, 189, [.ref l0, .int l1], [.int (-1000000002)], (sh, M, J))) f_93_187 rfl ?_
  exact ev_r1 f_93_189 rfl
theorem b_C_told_107 (sh : xSh) (M : Nat → Nat → Int32) (J : Nat → Nat → Int64) (l0 : Nat) (l1 : Int32) (k0 : Int32) : ev (93, 107, [.ref l0, .int l1], [.int k0], (sh, M, J)) = (some (some (.int k0), (sh, M, J))) := by
  exact ev_r1 f_93_107 rfl
theorem b_C_told_115 (sh : xSh) (M : Nat → Nat → Int32) (J : Nat → Nat → Int64) (l0 : Nat) (l1 : Int32) (k0 : Int32) : ev (93, 115, [.ref l0, .int l1], [.int k0], (sh, M, J)) = (some (some (.int k0), (sh, M, J))) := by
  exact ev_r1 f_93_115 rfl
theorem b_C_told_127 (sh : xSh) (M : Nat → Nat → Int32) (J : Nat → Nat → Int64) (l0 : Nat) (l1 : Int32) (k0 : Int32) : ev (93, 127, [.ref l0, .int l1], [.int k0], (sh, M, J)) = (some (some (.int k0), (sh, M, J))) := by
  exact ev_r1 f_93_127 rfl
theorem b_C_told_135 (sh : xSh) (M : Nat → Nat → Int32) (J : Nat → Nat → Int64) (l0 : Nat) (l1 : Int32) (k0 : Int32) : ev (93, 135, [.ref l0, .int l1], [.int k0], (sh, M, J)) = (some (some (.int k0), (sh, M, J))) := by
  exact ev_r1 f_93_135 rfl
theorem b_C_told_147 (sh : xSh) (M : Nat → Nat → Int32) (J : Nat → Nat → Int64) (l0 : Nat) (l1 : Int32) (k0 : Int32) : ev (93, 147, [.ref l0, .int l1], [.int k0], (sh, M, J)) = (some (some (.int k0), (sh, M, J))) := by
  exact ev_r1 f_93_147 rfl
theorem b_C_told_159 (sh : xSh) (M : Nat → Nat → Int32) (J : Nat → Nat → Int64) (l0 : Nat) (l1 : Int32) (k0 : Int32) : ev (93, 159, [.ref l0, .int l1], [.int k0], (sh, M, J)) = (some (some (.int (k0 + 100)), (sh, M, J))) := by
  refine ev_nx (s1 := (93, 161, [.ref l0, .int l1], [.int 100, .int k0], (sh, M, J))) f_93_159 rfl ?_
  refine ev_nx (s1 := (93, 162, [.ref l0, .int l1], [.int (k0 + 100)], (sh, M, J))) f_93_161 rfl ?_
  exact ev_r1 f_93_162 rfl
theorem f_94_0 : xfind (xnth xTs 94) 0 = some (0, .aload_n 0, 1, (0, 0, 0, 0), .null, [], 0, 0, []) := rfl
theorem f_94_1 : xfind (xnth xTs 94) 1 = some (1, .getfield 10, 3, (8, 0, 1, 0), .null, [], 291, 0, []) := rfl
theorem f_94_4 : xfind (xnth xTs 94) 4 = some (4, .iload_n 1, 1, (0, 0, 0, 0), .null, [], 0, 0, []) := rfl
theorem f_94_5 : xfind (xnth xTs 94) 5 = some (5, .invokevirtual 145, 3, (14, 1, 1, 2), .null, [], 550, 0, []) := rfl
theorem f_94_8 : xfind (xnth xTs 94) 8 = some (8, .ifCond .ne 6, 3, (0, 0, 0, 0), .null, [], 0, 0, []) := rfl
theorem f_94_11 : xfind (xnth xTs 94) 11 = some (11, .ldc 148, 2, (0, 0, 0, 0), (.int (-1000000001)), [], 556, 0, []) := rfl
theorem f_94_13 : xfind (xnth xTs 94) 13 = some (13, .ireturn, 1, (0, 0, 0, 0), .null, [], 0, 0, []) := rfl
theorem f_94_14 : xfind (xnth xTs 94) 14 = some (14, .iload_n 2, 1, (0, 0, 0, 0), .null, [], 0, 0, []) := rfl
theorem f_94_15 : xfind (xnth xTs 94) 15 = some (15, .tableswitch 90 0 3 #[29, 38, 58, 67], 29, (0, 0, 0, 105), .null, [(0, 44), (1, 53), (2, 73), (3, 82)], 0, 0, []) := rfl
theorem f_94_44 : xfind (xnth xTs 94) 44 = some (44, .aload_n 0, 1, (0, 0, 0, 0), .null, [], 0, 0, []) := rfl
theorem f_94_45 : xfind (xnth xTs 94) 45 = some (45, .getfield 19, 3, (8, 1, 1, 0), .null, [], 292, 0, []) := rfl
theorem f_94_48 : xfind (xnth xTs 94) 48 = some (48, .iload_n 1, 1, (0, 0, 0, 0), .null, [], 0, 0, []) := rfl
theorem f_94_49 : xfind (xnth xTs 94) 49 = some (49, .invokevirtual 149, 3, (61, 1, 6, 2), .null, [], 557, 0, []) := rfl
theorem f_94_52 : xfind (xnth xTs 94) 52 = some (52, .ireturn, 1, (0, 0, 0, 0), .null, [], 0, 0, []) := rfl
theorem f_94_53 : xfind (xnth xTs 94) 53 = some (53, .aload_n 0, 1, (0, 0, 0, 0), .null, [], 0, 0, []) := rfl
theorem f_94_54 : xfind (xnth xTs 94) 54 = some (54, .getfield 19, 3, (8, 1, 1, 0), .null, [], 292, 0, []) := rfl
theorem f_94_57 : xfind (xnth xTs 94) 57 = some (57, .invokevirtual 120, 3, (59, 0, 6, 1), .null, [], 485, 0, []) := rfl
theorem f_94_60 : xfind (xnth xTs 94) 60 = some (60, .iload_n 1, 1, (0, 0, 0, 0), .null, [], 0, 0, []) := rfl
theorem f_94_61 : xfind (xnth xTs 94) 61 = some (61, .invokestatic 153, 3, (127, 2, 8, 2), .null, [], 558, 0, []) := rfl
theorem f_94_64 : xfind (xnth xTs 94) 64 = some (64, .ifCond .eq 7, 3, (0, 0, 0, 0), .null, [], 0, 0, []) := rfl
theorem f_94_67 : xfind (xnth xTs 94) 67 = some (67, .iconst 1, 1, (0, 0, 0, 0), (.int 1), [], 0, 0, []) := rfl
theorem f_94_68 : xfind (xnth xTs 94) 68 = some (68, .goto 4, 3, (0, 0, 0, 0), .null, [], 0, 0, []) := rfl
theorem f_94_71 : xfind (xnth xTs 94) 71 = some (71, .iconst 0, 1, (0, 0, 0, 0), (.int 0), [], 0, 0, []) := rfl
theorem f_94_72 : xfind (xnth xTs 94) 72 = some (72, .ireturn, 1, (0, 0, 0, 0), .null, [], 0, 0, []) := rfl
theorem f_94_73 : xfind (xnth xTs 94) 73 = some (73, .aload_n 0, 1, (0, 0, 0, 0), .null, [], 0, 0, []) := rfl
theorem f_94_74 : xfind (xnth xTs 94) 74 = some (74, .getfield 19, 3, (8, 1, 1, 0), .null, [], 292, 0, []) := rfl
theorem f_94_77 : xfind (xnth xTs 94) 77 = some (77, .iload_n 1, 1, (0, 0, 0, 0), .null, [], 0, 0, []) := rfl
theorem f_94_78 : xfind (xnth xTs 94) 78 = some (78, .invokevirtual 157, 3, (62, 1, 6, 2), .null, [], 559, 0, []) := rfl
theorem f_94_81 : xfind (xnth xTs 94) 81 = some (81, .ireturn, 1, (0, 0, 0, 0), .null, [], 0, 0, []) := rfl
theorem f_94_82 : xfind (xnth xTs 94) 82 = some (82, .aload_n 0, 1, (0, 0, 0, 0), .null, [], 0, 0, []) := rfl
theorem f_94_83 : xfind (xnth xTs 94) 83 = some (83, .getfield 10, 3, (8, 0, 1, 0), .null, [], 291, 0, []) := rfl
theorem f_94_86 : xfind (xnth xTs 94) 86 = some (86, .iload_n 1, 1, (0, 0, 0, 0), .null, [], 0, 0, []) := rfl
theorem f_94_87 : xfind (xnth xTs 94) 87 = some (87, .aload_n 0, 1, (0, 0, 0, 0), .null, [], 0, 0, []) := rfl
theorem f_94_88 : xfind (xnth xTs 94) 88 = some (88, .getfield 19, 3, (8, 1, 1, 0), .null, [], 292, 0, []) := rfl
theorem f_94_91 : xfind (xnth xTs 94) 91 = some (91, .aload_n 0, 1, (0, 0, 0, 0), .null, [], 0, 0, []) := rfl
theorem f_94_92 : xfind (xnth xTs 94) 92 = some (92, .getfield 10, 3, (8, 0, 1, 0), .null, [], 291, 0, []) := rfl
theorem f_94_95 : xfind (xnth xTs 94) 95 = some (95, .invokevirtual 133, 3, (75, 1, 6, 2), .null, [], 542, 0, []) := rfl
theorem f_94_98 : xfind (xnth xTs 94) 98 = some (98, .invokevirtual 160, 3, (21, 2, 1, 3), .null, [], 563, 0, []) := rfl
theorem f_94_101 : xfind (xnth xTs 94) 101 = some (101, .bipush 100, 2, (0, 0, 0, 0), (.int 100), [], 0, 0, []) := rfl
theorem f_94_103 : xfind (xnth xTs 94) 103 = some (103, .iadd, 1, (0, 0, 0, 0), .null, [], 0, 0, []) := rfl
theorem f_94_104 : xfind (xnth xTs 94) 104 = some (104, .ireturn, 1, (0, 0, 0, 0), .null, [], 0, 0, []) := rfl
theorem f_94_105 : xfind (xnth xTs 94) 105 = some (105, .ldc 75, 2, (0, 0, 0, 0), (.int (-1000000002)), [], 329, 0, []) := rfl
theorem f_94_107 : xfind (xnth xTs 94) 107 = some (107, .ireturn, 1, (0, 0, 0, 0), .null, [], 0, 0, []) := rfl
theorem b_C_cell_0 (sh : xSh) (M : Nat → Nat → Int32) (J : Nat → Nat → Int64) (l0 : Nat) (l1 : Int32) (l2 : Int32) : ev (94, 0, [.ref l0, .int l1, .int l2], [], (sh, M, J)) = (bif decide ((sh.2.2.1 l0).1 = 8) then bif (decide ((sh.2.2.1 (sh.2.2.2 l0 0)).1 = 1) && true) then (ev (14, 0, [.ref (sh.2.2.2 l0 0), .int l1], [], (sh, M, J))).bind (fun r => ev (94, 8, [.ref l0, .int l1, .int l2], r.1.toList ++ [], r.2)) else none else none) := by
  refine ev_nx (s1 := (94, 1, [.ref l0, .int l1, .int l2], [.ref l0], (sh, M, J))) f_94_0 rfl ?_
  refine ev_gd (s1 := (94, 4, [.ref l0, .int l1, .int l2], [.ref (sh.2.2.2 l0 0)], (sh, M, J))) f_94_1 rfl ?_
  refine ev_nx (s1 := (94, 5, [.ref l0, .int l1, .int l2], [.int l1, .ref (sh.2.2.2 l0 0)], (sh, M, J))) f_94_4 rfl ?_
  exact ev_ca (cc := (decide ((sh.2.2.1 (sh.2.2.2 l0 0)).1 = 1) && true)) (s1 := (14, 0, [.ref (sh.2.2.2 l0 0), .int l1], [], (sh, M, J))) (k := (94, 8, [.ref l0, .int l1, .int l2], [])) f_94_5 rfl
theorem b_C_cell_8 (sh : xSh) (M : Nat → Nat → Int32) (J : Nat → Nat → Int64) (l0 : Nat) (l1 : Int32) (l2 : Int32) (k0 : Int32) : ev (94, 8, [.ref l0, .int l1, .int l2], [.int k0], (sh, M, J)) = (bif !decide (k0 = 0) then if l2 = 0 then bif decide ((sh.2.2.1 l0).1 = 8) then bif (decide ((sh.2.2.1 (sh.2.2.2 l0 1)).1 = 6) && true) then (ev (61, 0, [.ref (sh.2.2.2 l0 1), .int l1], [], (sh, M, J))).bind (fun r => ev (94, 52, [.ref l0, .int l1, .int l2], r.1.toList ++ [], r.2)) else none else none else if l2 = 1 then bif decide ((sh.2.2.1 l0).1 = 8) then bif (decide ((sh.2.2.1 (sh.2.2.2 l0 1)).1 = 6) && true) then (ev (59, 0, [.ref (sh.2.2.2 l0 1)], [], (sh, M, J))).bind (fun r => ev (94, 60, [.ref l0, .int l1, .int l2], r.1.toList ++ [], r.2)) else none else none else if l2 = 2 then bif decide ((sh.2.2.1 l0).1 = 8) then bif (decide ((sh.2.2.1 (sh.2.2.2 l0 1)).1 = 6) && true) then (ev (62, 0, [.ref (sh.2.2.2 l0 1), .int l1], [], (sh, M, J))).bind (fun r => ev (94, 81, [.ref l0, .int l1, .int l2], r.1.toList ++ [], r.2)) else none else none else if l2 = 3 then bif decide ((sh.2.2.1 l0).1 = 8) then bif decide ((sh.2.2.1 l0).1 = 8) then bif decide ((sh.2.2.1 l0).1 = 8) then bif (decide ((sh.2.2.1 (sh.2.2.2 l0 1)).1 = 6) && true) then (ev (75, 0, [.ref (sh.2.2.2 l0 1), .ref (sh.2.2.2 l0 0)], [], (sh, M, J))).bind (fun r => ev (94, 98, [.ref l0, .int l1, .int l2], r.1.toList ++ [.int l1, .ref (sh.2.2.2 l0 0)], r.2)) else none else none else none else none else some (some (.int (-1000000002)), (sh, M, J)) else some (some (.int (-1000000001)), (sh, M, J))) := by
  refine ev_br (s1 := (94, 14, [.ref l0, .int l1, .int l2], [], (sh, M, J))) (s2 := (94, 11, [.ref l0, .int l1, .int l2], [], (sh, M, J))) f_94_8 rfl ?_ ?_
  · refine ev_nx (s1 := (94, 15, [.ref l0, .int l1, .int l2], [.int l2], (sh, M, J))) f_94_14 rfl ?_
    refine ev_sw f_94_15 rfl ?_
    refine ev_swc ?_ ?_
    · refine ev_nx (s1 := (94, 45, [.ref l0, .int l1, .int l2], [.ref l0], (sh, M, J))) f_94_44 rfl ?_
      refine ev_gd (s1 := (94, 48, [.ref l0, .int l1, .int l2], [.ref (sh.2.2.2 l0 1)], (sh, M, J))) f_94_45 rfl ?_
      refine ev_nx (s1 := (94, 49, [.ref l0, .int l1, .int l2], [.int l1, .ref (sh.2.2.2 l0 1)], (sh, M, J))) f_94_48 rfl ?_
      exact ev_ca (cc := (decide ((sh.2.2.1 (sh.2.2.2 l0 1)).1 = 6) && true)) (s1 := (61, 0, [.ref (sh.2.2.2 l0 1), .int l1], [], (sh, M, J))) (k := (94, 52, [.ref l0, .int l1, .int l2], [])) f_94_49 rfl
    refine ev_swc ?_ ?_
    · refine ev_nx (s1 := (94, 54, [.ref l0, .int l1, .int l2], [.ref l0], (sh, M, J))) f_94_53 rfl ?_
      refine ev_gd (s1 := (94, 57, [.ref l0, .int l1, .int l2], [.ref (sh.2.2.2 l0 1)], (sh, M, J))) f_94_54 rfl ?_
      exact ev_ca (cc := (decide ((sh.2.2.1 (sh.2.2.2 l0 1)).1 = 6) && true)) (s1 := (59, 0, [.ref (sh.2.2.2 l0 1)], [], (sh, M, J))) (k := (94, 60, [.ref l0, .int l1, .int l2], [])) f_94_57 rfl
    refine ev_swc ?_ ?_
    · refine ev_nx (s1 := (94, 74, [.ref l0, .int l1, .int l2], [.ref l0], (sh, M, J))) f_94_73 rfl ?_
      refine ev_gd (s1 := (94, 77, [.ref l0, .int l1, .int l2], [.ref (sh.2.2.2 l0 1)], (sh, M, J))) f_94_74 rfl ?_
      refine ev_nx (s1 := (94, 78, [.ref l0, .int l1, .int l2], [.int l1, .ref (sh.2.2.2 l0 1)], (sh, M, J))) f_94_77 rfl ?_
      exact ev_ca (cc := (decide ((sh.2.2.1 (sh.2.2.2 l0 1)).1 = 6) && true)) (s1 := (62, 0, [.ref (sh.2.2.2 l0 1), .int l1], [], (sh, M, J))) (k := (94, 81, [.ref l0, .int l1, .int l2], [])) f_94_78 rfl
    refine ev_swc ?_ ?_
    · refine ev_nx (s1 := (94, 83, [.ref l0, .int l1, .int l2], [.ref l0], (sh, M, J))) f_94_82 rfl ?_
      refine ev_gd (s1 := (94, 86, [.ref l0, .int l1, .int l2], [.ref (sh.2.2.2 l0 0)], (sh, M, J))) f_94_83 rfl ?_
      refine ev_nx (s1 := (94, 87, [.ref l0, .int l1, .int l2], [.int l1, .ref (sh.2.2.2 l0 0)], (sh, M, J))) f_94_86 rfl ?_
      refine ev_nx (s1 := (94, 88, [.ref l0, .int l1, .int l2], [.ref l0, .int l1, .ref (sh.2.2.2 l0 0)], (sh, M, J))) f_94_87 rfl ?_
      refine ev_gd (s1 := (94, 91, [.ref l0, .int l1, .int l2], [.ref (sh.2.2.2 l0 1), .int l1, .ref (sh.2.2.2 l0 0)], (sh, M, J))) f_94_88 rfl ?_
      refine ev_nx (s1 := (94, 92, [.ref l0, .int l1, .int l2], [.ref l0, .ref (sh.2.2.2 l0 1), .int l1, .ref (sh.2.2.2 l0 0)], (sh, M, J))) f_94_91 rfl ?_
      refine ev_gd (s1 := (94, 95, [.ref l0, .int l1, .int l2], [.ref (sh.2.2.2 l0 0), .ref (sh.2.2.2 l0 1), .int l1, .ref (sh.2.2.2 l0 0)], (sh, M, J))) f_94_92 rfl ?_
      exact ev_ca (cc := (decide ((sh.2.2.1 (sh.2.2.2 l0 1)).1 = 6) && true)) (s1 := (75, 0, [.ref (sh.2.2.2 l0 1), .ref (sh.2.2.2 l0 0)], [], (sh, M, J))) (k := (94, 98, [.ref l0, .int l1, .int l2], [.int l1, .ref (sh.2.2.2 l0 0)])) f_94_95 rfl
    show ev (94, 105, [.ref l0, .int l1, .int l2], [], (sh, M, J)) = _
    refine ev_nx (s1 := (94, 107, [.ref l0, .int l1, .int l2], [.int (-1000000002)], (sh, M, J))) f_94_105 rfl ?_
    exact ev_r1 f_94_107 rfl
  · refine ev_nx (s1 := (94, 13, [.ref l0, .int l1, .int l2], [.int (-1000000001)], (sh, M, J))) f_94_11 rfl ?_
    exact ev_r1 f_94_13 rfl
theorem b_C_cell_52 (sh : xSh) (M : Nat → Nat → Int32) (J : Nat → Nat → Int64) (l0 : Nat) (l1 : Int32) (l2 : Int32) (k0 : Int32) : ev (94, 52, [.ref l0, .int l1, .int l2], [.int k0], (sh, M, J)) = (some (some (.int k0), (sh, M, J))) := by
  exact ev_r1 f_94_52 rfl
theorem b_C_cell_60 (sh : xSh) (M : Nat → Nat → Int32) (J : Nat → Nat → Int64) (l0 : Nat) (l1 : Int32) (l2 : Int32) (k0 : Int32) : ev (94, 60, [.ref l0, .int l1, .int l2], [.int k0], (sh, M, J)) = ((ev (127, 0, [.int k0, .int l1], [], (sh, M, J))).bind (fun r => ev (94, 64, [.ref l0, .int l1, .int l2], r.1.toList ++ [], r.2))) := by
  refine ev_nx (s1 := (94, 61, [.ref l0, .int l1, .int l2], [.int l1, .int k0], (sh, M, J))) f_94_60 rfl ?_
  exact ev_c1 (s1 := (127, 0, [.int k0, .int l1], [], (sh, M, J))) (k := (94, 64, [.ref l0, .int l1, .int l2], [])) f_94_61 rfl
theorem b_C_cell_64 (sh : xSh) (M : Nat → Nat → Int32) (J : Nat → Nat → Int64) (l0 : Nat) (l1 : Int32) (l2 : Int32) (k0 : Int32) : ev (94, 64, [.ref l0, .int l1, .int l2], [.int k0], (sh, M, J)) = (bif decide (k0 = 0) then some (some (.int 0), (sh, M, J)) else some (some (.int 1), (sh, M, J))) := by
  refine ev_br (s1 := (94, 71, [.ref l0, .int l1, .int l2], [], (sh, M, J))) (s2 := (94, 67, [.ref l0, .int l1, .int l2], [], (sh, M, J))) f_94_64 rfl ?_ ?_
  · refine ev_nx (s1 := (94, 72, [.ref l0, .int l1, .int l2], [.int 0], (sh, M, J))) f_94_71 rfl ?_
    exact ev_r1 f_94_72 rfl
  · refine ev_nx (s1 := (94, 68, [.ref l0, .int l1, .int l2], [.int 1], (sh, M, J))) f_94_67 rfl ?_
    refine ev_nx (s1 := (94, 72, [.ref l0, .int l1, .int l2], [.int 1], (sh, M, J))) f_94_68 rfl ?_
    exact ev_r1 f_94_72 rfl
theorem b_C_cell_81 (sh : xSh) (M : Nat → Nat → Int32) (J : Nat → Nat → Int64) (l0 : Nat) (l1 : Int32) (l2 : Int32) (k0 : Int32) : ev (94, 81, [.ref l0, .int l1, .int l2], [.int k0], (sh, M, J)) = (some (some (.int k0), (sh, M, J))) := by
  exact ev_r1 f_94_81 rfl
theorem b_C_cell_98 (sh : xSh) (M : Nat → Nat → Int32) (J : Nat → Nat → Int64) (l0 : Nat) (l1 : Int32) (l2 : Int32) (k0 : Int32) (k1 : Int32) (k2 : Nat) : ev (94, 98, [.ref l0, .int l1, .int l2], [.int k0, .int k1, .ref k2], (sh, M, J)) = (bif (decide ((sh.2.2.1 k2).1 = 1) && true) then (ev (21, 0, [.ref k2, .int k1, .int k0], [], (sh, M, J))).bind (fun r => ev (94, 101, [.ref l0, .int l1, .int l2], r.1.toList ++ [], r.2)) else none) := by
  exact ev_ca (cc := (decide ((sh.2.2.1 k2).1 = 1) && true)) (s1 := (21, 0, [.ref k2, .int k1, .int k0], [], (sh, M, J))) (k := (94, 101, [.ref l0, .int l1, .int l2], [])) f_94_98 rfl
theorem b_C_cell_101 (sh : xSh) (M : Nat → Nat → Int32) (J : Nat → Nat → Int64) (l0 : Nat) (l1 : Int32) (l2 : Int32) (k0 : Int32) : ev (94, 101, [.ref l0, .int l1, .int l2], [.int k0], (sh, M, J)) = (some (some (.int (k0 + 100)), (sh, M, J))) := by
  refine ev_nx (s1 := (94, 103, [.ref l0, .int l1, .int l2], [.int 100, .int k0], (sh, M, J))) f_94_101 rfl ?_
  refine ev_nx (s1 := (94, 104, [.ref l0, .int l1, .int l2], [.int (k0 + 100)], (sh, M, J))) f_94_103 rfl ?_
  exact ev_r1 f_94_104 rfl
theorem f_95_0 : xfind (xnth xTs 95) 0 = some (0, .iload_n 1, 1, (0, 0, 0, 0), .null, [], 0, 0, []) := rfl
theorem f_95_1 : xfind (xnth xTs 95) 1 = some (1, .invokestatic 164, 3, (126, 1, 8, 1), .null, [], 580, 0, []) := rfl
theorem f_95_4 : xfind (xnth xTs 95) 4 = some (4, .ifCond .ne 6, 3, (0, 0, 0, 0), .null, [], 0, 0, []) := rfl
theorem f_95_7 : xfind (xnth xTs 95) 7 = some (7, .ldc 148, 2, (0, 0, 0, 0), (.int (-1000000001)), [], 556, 0, []) := rfl
theorem f_95_9 : xfind (xnth xTs 95) 9 = some (9, .ireturn, 1, (0, 0, 0, 0), .null, [], 0, 0, []) := rfl
theorem f_95_10 : xfind (xnth xTs 95) 10 = some (10, .iload_n 2, 1, (0, 0, 0, 0), .null, [], 0, 0, []) := rfl
theorem f_95_11 : xfind (xnth xTs 95) 11 = some (11, .tableswitch 52 0 2 #[25, 34, 43], 25, (0, 0, 0, 63), .null, [(0, 36), (1, 45), (2, 54)], 0, 0, []) := rfl
theorem f_95_36 : xfind (xnth xTs 95) 36 = some (36, .aload_n 0, 1, (0, 0, 0, 0), .null, [], 0, 0, []) := rfl
theorem f_95_37 : xfind (xnth xTs 95) 37 = some (37, .getfield 10, 3, (8, 0, 1, 0), .null, [], 291, 0, []) := rfl
theorem f_95_40 : xfind (xnth xTs 95) 40 = some (40, .iload_n 1, 1, (0, 0, 0, 0), .null, [], 0, 0, []) := rfl
theorem f_95_41 : xfind (xnth xTs 95) 41 = some (41, .invokevirtual 167, 3, (9, 1, 1, 2), .null, [], 583, 0, []) := rfl
theorem f_95_44 : xfind (xnth xTs 95) 44 = some (44, .ireturn, 1, (0, 0, 0, 0), .null, [], 0, 0, []) := rfl
theorem f_95_45 : xfind (xnth xTs 95) 45 = some (45, .aload_n 0, 1, (0, 0, 0, 0), .null, [], 0, 0, []) := rfl
theorem f_95_46 : xfind (xnth xTs 95) 46 = some (46, .getfield 10, 3, (8, 0, 1, 0), .null, [], 291, 0, []) := rfl
theorem f_95_49 : xfind (xnth xTs 95) 49 = some (49, .iload_n 1, 1, (0, 0, 0, 0), .null, [], 0, 0, []) := rfl
theorem f_95_50 : xfind (xnth xTs 95) 50 = some (50, .invokevirtual 170, 3, (10, 1, 1, 2), .null, [], 584, 0, []) := rfl
theorem f_95_53 : xfind (xnth xTs 95) 53 = some (53, .ireturn, 1, (0, 0, 0, 0), .null, [], 0, 0, []) := rfl
theorem f_95_54 : xfind (xnth xTs 95) 54 = some (54, .aload_n 0, 1, (0, 0, 0, 0), .null, [], 0, 0, []) := rfl
theorem f_95_55 : xfind (xnth xTs 95) 55 = some (55, .getfield 10, 3, (8, 0, 1, 0), .null, [], 291, 0, []) := rfl
theorem f_95_58 : xfind (xnth xTs 95) 58 = some (58, .iload_n 1, 1, (0, 0, 0, 0), .null, [], 0, 0, []) := rfl
theorem f_95_59 : xfind (xnth xTs 95) 59 = some (59, .invokevirtual 173, 3, (11, 1, 1, 2), .null, [], 585, 0, []) := rfl
theorem f_95_62 : xfind (xnth xTs 95) 62 = some (62, .ireturn, 1, (0, 0, 0, 0), .null, [], 0, 0, []) := rfl
theorem f_95_63 : xfind (xnth xTs 95) 63 = some (63, .ldc 75, 2, (0, 0, 0, 0), (.int (-1000000002)), [], 329, 0, []) := rfl
theorem f_95_65 : xfind (xnth xTs 95) 65 = some (65, .ireturn, 1, (0, 0, 0, 0), .null, [], 0, 0, []) := rfl
theorem b_C_cloth_0 (sh : xSh) (M : Nat → Nat → Int32) (J : Nat → Nat → Int64) (l0 : Nat) (l1 : Int32) (l2 : Int32) : ev (95, 0, [.ref l0, .int l1, .int l2], [], (sh, M, J)) = ((ev (126, 0, [.int l1], [], (sh, M, J))).bind (fun r => ev (95, 4, [.ref l0, .int l1, .int l2], r.1.toList ++ [], r.2))) := by
  refine ev_nx (s1 := (95, 1, [.ref l0, .int l1, .int l2], [.int l1], (sh, M, J))) f_95_0 rfl ?_
  exact ev_c1 (s1 := (126, 0, [.int l1], [], (sh, M, J))) (k := (95, 4, [.ref l0, .int l1, .int l2], [])) f_95_1 rfl
theorem b_C_cloth_4 (sh : xSh) (M : Nat → Nat → Int32) (J : Nat → Nat → Int64) (l0 : Nat) (l1 : Int32) (l2 : Int32) (k0 : Int32) : ev (95, 4, [.ref l0, .int l1, .int l2], [.int k0], (sh, M, J)) = (bif !decide (k0 = 0) then if l2 = 0 then bif decide ((sh.2.2.1 l0).1 = 8) then bif (decide ((sh.2.2.1 (sh.2.2.2 l0 0)).1 = 1) && true) then (ev (9, 0, [.ref (sh.2.2.2 l0 0), .int l1], [], (sh, M, J))).bind (fun r => ev (95, 44, [.ref l0, .int l1, .int l2], r.1.toList ++ [], r.2)) else none else none else if l2 = 1 then bif decide ((sh.2.2.1 l0).1 = 8) then bif (decide ((sh.2.2.1 (sh.2.2.2 l0 0)).1 = 1) && true) then (ev (10, 0, [.ref (sh.2.2.2 l0 0), .int l1], [], (sh, M, J))).bind (fun r => ev (95, 53, [.ref l0, .int l1, .int l2], r.1.toList ++ [], r.2)) else none else none else if l2 = 2 then bif decide ((sh.2.2.1 l0).1 = 8) then bif (decide ((sh.2.2.1 (sh.2.2.2 l0 0)).1 = 1) && true) then (ev (11, 0, [.ref (sh.2.2.2 l0 0), .int l1], [], (sh, M, J))).bind (fun r => ev (95, 62, [.ref l0, .int l1, .int l2], r.1.toList ++ [], r.2)) else none else none else some (some (.int (-1000000002)), (sh, M, J)) else some (some (.int (-1000000001)), (sh, M, J))) := by
  refine ev_br (s1 := (95, 10, [.ref l0, .int l1, .int l2], [], (sh, M, J))) (s2 := (95, 7, [.ref l0, .int l1, .int l2], [], (sh, M, J))) f_95_4 rfl ?_ ?_
  · refine ev_nx (s1 := (95, 11, [.ref l0, .int l1, .int l2], [.int l2], (sh, M, J))) f_95_10 rfl ?_
    refine ev_sw f_95_11 rfl ?_
    refine ev_swc ?_ ?_
    · refine ev_nx (s1 := (95, 37, [.ref l0, .int l1, .int l2], [.ref l0], (sh, M, J))) f_95_36 rfl ?_
      refine ev_gd (s1 := (95, 40, [.ref l0, .int l1, .int l2], [.ref (sh.2.2.2 l0 0)], (sh, M, J))) f_95_37 rfl ?_
      refine ev_nx (s1 := (95, 41, [.ref l0, .int l1, .int l2], [.int l1, .ref (sh.2.2.2 l0 0)], (sh, M, J))) f_95_40 rfl ?_
      exact ev_ca (cc := (decide ((sh.2.2.1 (sh.2.2.2 l0 0)).1 = 1) && true)) (s1 := (9, 0, [.ref (sh.2.2.2 l0 0), .int l1], [], (sh, M, J))) (k := (95, 44, [.ref l0, .int l1, .int l2], [])) f_95_41 rfl
    refine ev_swc ?_ ?_
    · refine ev_nx (s1 := (95, 46, [.ref l0, .int l1, .int l2], [.ref l0], (sh, M, J))) f_95_45 rfl ?_
      refine ev_gd (s1 := (95, 49, [.ref l0, .int l1, .int l2], [.ref (sh.2.2.2 l0 0)], (sh, M, J))) f_95_46 rfl ?_
      refine ev_nx (s1 := (95, 50, [.ref l0, .int l1, .int l2], [.int l1, .ref (sh.2.2.2 l0 0)], (sh, M, J))) f_95_49 rfl ?_
      exact ev_ca (cc := (decide ((sh.2.2.1 (sh.2.2.2 l0 0)).1 = 1) && true)) (s1 := (10, 0, [.ref (sh.2.2.2 l0 0), .int l1], [], (sh, M, J))) (k := (95, 53, [.ref l0, .int l1, .int l2], [])) f_95_50 rfl
    refine ev_swc ?_ ?_
    · refine ev_nx (s1 := (95, 55, [.ref l0, .int l1, .int l2], [.ref l0], (sh, M, J))) f_95_54 rfl ?_
      refine ev_gd (s1 := (95, 58, [.ref l0, .int l1, .int l2], [.ref (sh.2.2.2 l0 0)], (sh, M, J))) f_95_55 rfl ?_
      refine ev_nx (s1 := (95, 59, [.ref l0, .int l1, .int l2], [.int l1, .ref (sh.2.2.2 l0 0)], (sh, M, J))) f_95_58 rfl ?_
      exact ev_ca (cc := (decide ((sh.2.2.1 (sh.2.2.2 l0 0)).1 = 1) && true)) (s1 := (11, 0, [.ref (sh.2.2.2 l0 0), .int l1], [], (sh, M, J))) (k := (95, 62, [.ref l0, .int l1, .int l2], [])) f_95_59 rfl
    show ev (95, 63, [.ref l0, .int l1, .int l2], [], (sh, M, J)) = _
    refine ev_nx (s1 := (95, 65, [.ref l0, .int l1, .int l2], [.int (-1000000002)], (sh, M, J))) f_95_63 rfl ?_
    exact ev_r1 f_95_65 rfl
  · refine ev_nx (s1 := (95, 9, [.ref l0, .int l1, .int l2], [.int (-1000000001)], (sh, M, J))) f_95_7 rfl ?_
    exact ev_r1 f_95_9 rfl
theorem b_C_cloth_44 (sh : xSh) (M : Nat → Nat → Int32) (J : Nat → Nat → Int64) (l0 : Nat) (l1 : Int32) (l2 : Int32) (k0 : Int32) : ev (95, 44, [.ref l0, .int l1, .int l2], [.int k0], (sh, M, J)) = (some (some (.int k0), (sh, M, J))) := by
  exact ev_r1 f_95_44 rfl
theorem b_C_cloth_53 (sh : xSh) (M : Nat → Nat → Int32) (J : Nat → Nat → Int64) (l0 : Nat) (l1 : Int32) (l2 : Int32) (k0 : Int32) : ev (95, 53, [.ref l0, .int l1, .int l2], [.int k0], (sh, M, J)) = (some (some (.int k0), (sh, M, J))) := by
  exact ev_r1 f_95_53 rfl
theorem b_C_cloth_62 (sh : xSh) (M : Nat → Nat → Int32) (J : Nat → Nat → Int64) (l0 : Nat) (l1 : Int32) (l2 : Int32) (k0 : Int32) : ev (95, 62, [.ref l0, .int l1, .int l2], [.int k0], (sh, M, J)) = (some (some (.int k0), (sh, M, J))) := by
  exact ev_r1 f_95_62 rfl
theorem f_96_0 : xfind (xnth xTs 96) 0 = some (0, .aload_n 0, 1, (0, 0, 0, 0), .null, [], 0, 0, []) := rfl
theorem f_96_1 : xfind (xnth xTs 96) 1 = some (1, .getfield 10, 3, (8, 0, 1, 0), .null, [], 291, 0, []) := rfl
theorem f_96_4 : xfind (xnth xTs 96) 4 = some (4, .iload_n 1, 1, (0, 0, 0, 0), .null, [], 0, 0, []) := rfl
theorem f_96_5 : xfind (xnth xTs 96) 5 = some (5, .invokevirtual 176, 3, (16, 1, 1, 2), .null, [], 590, 0, []) := rfl
theorem f_96_8 : xfind (xnth xTs 96) 8 = some (8, .ifCond .ne 6, 3, (0, 0, 0, 0), .null, [], 0, 0, []) := rfl
theorem f_96_11 : xfind (xnth xTs 96) 11 = some (11, .ldc 148, 2, (0, 0, 0, 0), (.int (-1000000001)), [], 556, 0, []) := rfl
theorem f_96_13 : xfind (xnth xTs 96) 13 = some (13, .ireturn, 1, (0, 0, 0, 0), .null, [], 0, 0, []) := rfl
theorem f_96_14 : xfind (xnth xTs 96) 14 = some (14, .iload_n 2, 1, (0, 0, 0, 0), .null, [], 0, 0, []) := rfl
theorem f_96_15 : xfind (xnth xTs 96) 15 = some (15, .tableswitch 78 0 4 #[33, 42, 51, 60, 69], 33, (0, 0, 0, 93), .null, [(0, 48), (1, 57), (2, 66), (3, 75), (4, 84)], 0, 0, []) := rfl
theorem f_96_48 : xfind (xnth xTs 96) 48 = some (48, .aload_n 0, 1, (0, 0, 0, 0), .null, [], 0, 0, []) := rfl
theorem f_96_49 : xfind (xnth xTs 96) 49 = some (49, .getfield 19, 3, (8, 1, 1, 0), .null, [], 292, 0, []) := rfl
theorem f_96_52 : xfind (xnth xTs 96) 52 = some (52, .iload_n 1, 1, (0, 0, 0, 0), .null, [], 0, 0, []) := rfl
theorem f_96_53 : xfind (xnth xTs 96) 53 = some (53, .invokevirtual 179, 3, (63, 1, 6, 2), .null, [], 594, 0, []) := rfl
theorem f_96_56 : xfind (xnth xTs 96) 56 = some (56, .ireturn, 1, (0, 0, 0, 0), .null, [], 0, 0, []) := rfl
theorem f_96_57 : xfind (xnth xTs 96) 57 = some (57, .aload_n 0, 1, (0, 0, 0, 0), .null, [], 0, 0, []) := rfl
theorem f_96_58 : xfind (xnth xTs 96) 58 = some (58, .getfield 10, 3, (8, 0, 1, 0), .null, [], 291, 0, []) := rfl
theorem f_96_61 : xfind (xnth xTs 96) 61 = some (61, .iload_n 1, 1, (0, 0, 0, 0), .null, [], 0, 0, []) := rfl
theorem f_96_62 : xfind (xnth xTs 96) 62 = some (62, .invokevirtual 182, 3, (12, 1, 1, 2), .null, [], 595, 0, []) := rfl
theorem f_96_65 : xfind (xnth xTs 96) 65 = some (65, .ireturn, 1, (0, 0, 0, 0), .null, [], 0, 0, []) := rfl
theorem f_96_66 : xfind (xnth xTs 96) 66 = some (66, .aload_n 0, 1, (0, 0, 0, 0), .null, [], 0, 0, []) := rfl
theorem f_96_67 : xfind (xnth xTs 96) 67 = some (67, .getfield 19, 3, (8, 1, 1, 0), .null, [], 292, 0, []) := rfl
theorem f_96_70 : xfind (xnth xTs 96) 70 = some (70, .iload_n 1, 1, (0, 0, 0, 0), .null, [], 0, 0, []) := rfl
theorem f_96_71 : xfind (xnth xTs 96) 71 = some (71, .invokevirtual 185, 3, (64, 1, 6, 2), .null, [], 596, 0, []) := rfl
theorem f_96_74 : xfind (xnth xTs 96) 74 = some (74, .ireturn, 1, (0, 0, 0, 0), .null, [], 0, 0, []) := rfl
theorem f_96_75 : xfind (xnth xTs 96) 75 = some (75, .aload_n 0, 1, (0, 0, 0, 0), .null, [], 0, 0, []) := rfl
theorem f_96_76 : xfind (xnth xTs 96) 76 = some (76, .getfield 19, 3, (8, 1, 1, 0), .null, [], 292, 0, []) := rfl
theorem f_96_79 : xfind (xnth xTs 96) 79 = some (79, .iload_n 1, 1, (0, 0, 0, 0), .null, [], 0, 0, []) := rfl
theorem f_96_80 : xfind (xnth xTs 96) 80 = some (80, .invokevirtual 188, 3, (65, 1, 6, 2), .null, [], 600, 0, []) := rfl
theorem f_96_83 : xfind (xnth xTs 96) 83 = some (83, .ireturn, 1, (0, 0, 0, 0), .null, [], 0, 0, []) := rfl
theorem f_96_84 : xfind (xnth xTs 96) 84 = some (84, .aload_n 0, 1, (0, 0, 0, 0), .null, [], 0, 0, []) := rfl
theorem f_96_85 : xfind (xnth xTs 96) 85 = some (85, .getfield 19, 3, (8, 1, 1, 0), .null, [], 292, 0, []) := rfl
theorem f_96_88 : xfind (xnth xTs 96) 88 = some (88, .iload_n 1, 1, (0, 0, 0, 0), .null, [], 0, 0, []) := rfl
theorem f_96_89 : xfind (xnth xTs 96) 89 = some (89, .invokevirtual 191, 3, (66, 1, 6, 2), .null, [], 604, 0, []) := rfl
theorem f_96_92 : xfind (xnth xTs 96) 92 = some (92, .ireturn, 1, (0, 0, 0, 0), .null, [], 0, 0, []) := rfl
theorem f_96_93 : xfind (xnth xTs 96) 93 = some (93, .ldc 75, 2, (0, 0, 0, 0), (.int (-1000000002)), [], 329, 0, []) := rfl
theorem f_96_95 : xfind (xnth xTs 96) 95 = some (95, .ireturn, 1, (0, 0, 0, 0), .null, [], 0, 0, []) := rfl
theorem b_C_actor_0 (sh : xSh) (M : Nat → Nat → Int32) (J : Nat → Nat → Int64) (l0 : Nat) (l1 : Int32) (l2 : Int32) : ev (96, 0, [.ref l0, .int l1, .int l2], [], (sh, M, J)) = (bif decide ((sh.2.2.1 l0).1 = 8) then bif (decide ((sh.2.2.1 (sh.2.2.2 l0 0)).1 = 1) && true) then (ev (16, 0, [.ref (sh.2.2.2 l0 0), .int l1], [], (sh, M, J))).bind (fun r => ev (96, 8, [.ref l0, .int l1, .int l2], r.1.toList ++ [], r.2)) else none else none) := by
  refine ev_nx (s1 := (96, 1, [.ref l0, .int l1, .int l2], [.ref l0], (sh, M, J))) f_96_0 rfl ?_
  refine ev_gd (s1 := (96, 4, [.ref l0, .int l1, .int l2], [.ref (sh.2.2.2 l0 0)], (sh, M, J))) f_96_1 rfl ?_
  refine ev_nx (s1 := (96, 5, [.ref l0, .int l1, .int l2], [.int l1, .ref (sh.2.2.2 l0 0)], (sh, M, J))) f_96_4 rfl ?_
  exact ev_ca (cc := (decide ((sh.2.2.1 (sh.2.2.2 l0 0)).1 = 1) && true)) (s1 := (16, 0, [.ref (sh.2.2.2 l0 0), .int l1], [], (sh, M, J))) (k := (96, 8, [.ref l0, .int l1, .int l2], [])) f_96_5 rfl
theorem b_C_actor_8 (sh : xSh) (M : Nat → Nat → Int32) (J : Nat → Nat → Int64) (l0 : Nat) (l1 : Int32) (l2 : Int32) (k0 : Int32) : ev (96, 8, [.ref l0, .int l1, .int l2], [.int k0], (sh, M, J)) = (bif !decide (k0 = 0) then if l2 = 0 then bif decide ((sh.2.2.1 l0).1 = 8) then bif (decide ((sh.2.2.1 (sh.2.2.2 l0 1)).1 = 6) && true) then (ev (63, 0, [.ref (sh.2.2.2 l0 1), .int l1], [], (sh, M, J))).bind (fun r => ev (96, 56, [.ref l0, .int l1, .int l2], r.1.toList ++ [], r.2)) else none else none else if l2 = 1 then bif decide ((sh.2.2.1 l0).1 = 8) then bif (decide ((sh.2.2.1 (sh.2.2.2 l0 0)).1 = 1) && true) then (ev (12, 0, [.ref (sh.2.2.2 l0 0), .int l1], [], (sh, M, J))).bind (fun r => ev (96, 65, [.ref l0, .int l1, .int l2], r.1.toList ++ [], r.2)) else none else none else if l2 = 2 then bif decide ((sh.2.2.1 l0).1 = 8) then bif (decide ((sh.2.2.1 (sh.2.2.2 l0 1)).1 = 6) && true) then (ev (64, 0, [.ref (sh.2.2.2 l0 1), .int l1], [], (sh, M, J))).bind (fun r => ev (96, 74, [.ref l0, .int l1, .int l2], r.1.toList ++ [], r.2)) else none else none else if l2 = 3 then bif decide ((sh.2.2.1 l0).1 = 8) then bif (decide ((sh.2.2.1 (sh.2.2.2 l0 1)).1 = 6) && true) then (ev (65, 0, [.ref (sh.2.2.2 l0 1), .int l1], [], (sh, M, J))).bind (fun r => ev (96, 83, [.ref l0, .int l1, .int l2], r.1.toList ++ [], r.2)) else none else none else if l2 = 4 then bif decide ((sh.2.2.1 l0).1 = 8) then bif (decide ((sh.2.2.1 (sh.2.2.2 l0 1)).1 = 6) && true) then (ev (66, 0, [.ref (sh.2.2.2 l0 1), .int l1], [], (sh, M, J))).bind (fun r => ev (96, 92, [.ref l0, .int l1, .int l2], r.1.toList ++ [], r.2)) else none else none else some (some (.int (-1000000002)), (sh, M, J)) else some (some (.int (-1000000001)), (sh, M, J))) := by
  refine ev_br (s1 := (96, 14, [.ref l0, .int l1, .int l2], [], (sh, M, J))) (s2 := (96, 11, [.ref l0, .int l1, .int l2], [], (sh, M, J))) f_96_8 rfl ?_ ?_
  · refine ev_nx (s1 := (96, 15, [.ref l0, .int l1, .int l2], [.int l2], (sh, M, J))) f_96_14 rfl ?_
    refine ev_sw f_96_15 rfl ?_
    refine ev_swc ?_ ?_
    · refine ev_nx (s1 := (96, 49, [.ref l0, .int l1, .int l2], [.ref l0], (sh, M, J))) f_96_48 rfl ?_
      refine ev_gd (s1 := (96, 52, [.ref l0, .int l1, .int l2], [.ref (sh.2.2.2 l0 1)], (sh, M, J))) f_96_49 rfl ?_
      refine ev_nx (s1 := (96, 53, [.ref l0, .int l1, .int l2], [.int l1, .ref (sh.2.2.2 l0 1)], (sh, M, J))) f_96_52 rfl ?_
      exact ev_ca (cc := (decide ((sh.2.2.1 (sh.2.2.2 l0 1)).1 = 6) && true)) (s1 := (63, 0, [.ref (sh.2.2.2 l0 1), .int l1], [], (sh, M, J))) (k := (96, 56, [.ref l0, .int l1, .int l2], [])) f_96_53 rfl
    refine ev_swc ?_ ?_
    · refine ev_nx (s1 := (96, 58, [.ref l0, .int l1, .int l2], [.ref l0], (sh, M, J))) f_96_57 rfl ?_
      refine ev_gd (s1 := (96, 61, [.ref l0, .int l1, .int l2], [.ref (sh.2.2.2 l0 0)], (sh, M, J))) f_96_58 rfl ?_
      refine ev_nx (s1 := (96, 62, [.ref l0, .int l1, .int l2], [.int l1, .ref (sh.2.2.2 l0 0)], (sh, M, J))) f_96_61 rfl ?_
      exact ev_ca (cc := (decide ((sh.2.2.1 (sh.2.2.2 l0 0)).1 = 1) && true)) (s1 := (12, 0, [.ref (sh.2.2.2 l0 0), .int l1], [], (sh, M, J))) (k := (96, 65, [.ref l0, .int l1, .int l2], [])) f_96_62 rfl
    refine ev_swc ?_ ?_
    · refine ev_nx (s1 := (96, 67, [.ref l0, .int l1, .int l2], [.ref l0], (sh, M, J))) f_96_66 rfl ?_
      refine ev_gd (s1 := (96, 70, [.ref l0, .int l1, .int l2], [.ref (sh.2.2.2 l0 1)], (sh, M, J))) f_96_67 rfl ?_
      refine ev_nx (s1 := (96, 71, [.ref l0, .int l1, .int l2], [.int l1, .ref (sh.2.2.2 l0 1)], (sh, M, J))) f_96_70 rfl ?_
      exact ev_ca (cc := (decide ((sh.2.2.1 (sh.2.2.2 l0 1)).1 = 6) && true)) (s1 := (64, 0, [.ref (sh.2.2.2 l0 1), .int l1], [], (sh, M, J))) (k := (96, 74, [.ref l0, .int l1, .int l2], [])) f_96_71 rfl
    refine ev_swc ?_ ?_
    · refine ev_nx (s1 := (96, 76, [.ref l0, .int l1, .int l2], [.ref l0], (sh, M, J))) f_96_75 rfl ?_
      refine ev_gd (s1 := (96, 79, [.ref l0, .int l1, .int l2], [.ref (sh.2.2.2 l0 1)], (sh, M, J))) f_96_76 rfl ?_
      refine ev_nx (s1 := (96, 80, [.ref l0, .int l1, .int l2], [.int l1, .ref (sh.2.2.2 l0 1)], (sh, M, J))) f_96_79 rfl ?_
      exact ev_ca (cc := (decide ((sh.2.2.1 (sh.2.2.2 l0 1)).1 = 6) && true)) (s1 := (65, 0, [.ref (sh.2.2.2 l0 1), .int l1], [], (sh, M, J))) (k := (96, 83, [.ref l0, .int l1, .int l2], [])) f_96_80 rfl
    refine ev_swc ?_ ?_
    · refine ev_nx (s1 := (96, 85, [.ref l0, .int l1, .int l2], [.ref l0], (sh, M, J))) f_96_84 rfl ?_
      refine ev_gd (s1 := (96, 88, [.ref l0, .int l1, .int l2], [.ref (sh.2.2.2 l0 1)], (sh, M, J))) f_96_85 rfl ?_
      refine ev_nx (s1 := (96, 89, [.ref l0, .int l1, .int l2], [.int l1, .ref (sh.2.2.2 l0 1)], (sh, M, J))) f_96_88 rfl ?_
      exact ev_ca (cc := (decide ((sh.2.2.1 (sh.2.2.2 l0 1)).1 = 6) && true)) (s1 := (66, 0, [.ref (sh.2.2.2 l0 1), .int l1], [], (sh, M, J))) (k := (96, 92, [.ref l0, .int l1, .int l2], [])) f_96_89 rfl
    show ev (96, 93, [.ref l0, .int l1, .int l2], [], (sh, M, J)) = _
    refine ev_nx (s1 := (96, 95, [.ref l0, .int l1, .int l2], [.int (-1000000002)], (sh, M, J))) f_96_93 rfl ?_
    exact ev_r1 f_96_95 rfl
  · refine ev_nx (s1 := (96, 13, [.ref l0, .int l1, .int l2], [.int (-1000000001)], (sh, M, J))) f_96_11 rfl ?_
    exact ev_r1 f_96_13 rfl
theorem b_C_actor_56 (sh : xSh) (M : Nat → Nat → Int32) (J : Nat → Nat → Int64) (l0 : Nat) (l1 : Int32) (l2 : Int32) (k0 : Int32) : ev (96, 56, [.ref l0, .int l1, .int l2], [.int k0], (sh, M, J)) = (some (some (.int k0), (sh, M, J))) := by
  exact ev_r1 f_96_56 rfl
theorem b_C_actor_65 (sh : xSh) (M : Nat → Nat → Int32) (J : Nat → Nat → Int64) (l0 : Nat) (l1 : Int32) (l2 : Int32) (k0 : Int32) : ev (96, 65, [.ref l0, .int l1, .int l2], [.int k0], (sh, M, J)) = (some (some (.int k0), (sh, M, J))) := by
  exact ev_r1 f_96_65 rfl
theorem b_C_actor_74 (sh : xSh) (M : Nat → Nat → Int32) (J : Nat → Nat → Int64) (l0 : Nat) (l1 : Int32) (l2 : Int32) (k0 : Int32) : ev (96, 74, [.ref l0, .int l1, .int l2], [.int k0], (sh, M, J)) = (some (some (.int k0), (sh, M, J))) := by
  exact ev_r1 f_96_74 rfl
theorem b_C_actor_83 (sh : xSh) (M : Nat → Nat → Int32) (J : Nat → Nat → Int64) (l0 : Nat) (l1 : Int32) (l2 : Int32) (k0 : Int32) : ev (96, 83, [.ref l0, .int l1, .int l2], [.int k0], (sh, M, J)) = (some (some (.int k0), (sh, M, J))) := by
  exact ev_r1 f_96_83 rfl
theorem b_C_actor_92 (sh : xSh) (M : Nat → Nat → Int32) (J : Nat → Nat → Int64) (l0 : Nat) (l1 : Int32) (l2 : Int32) (k0 : Int32) : ev (96, 92, [.ref l0, .int l1, .int l2], [.int k0], (sh, M, J)) = (some (some (.int k0), (sh, M, J))) := by
  exact ev_r1 f_96_92 rfl
theorem f_97_0 : xfind (xnth xTs 97) 0 = some (0, .aload_n 0, 1, (0, 0, 0, 0), .null, [], 0, 0, []) := rfl
theorem f_97_1 : xfind (xnth xTs 97) 1 = some (1, .iload_n 1, 1, (0, 0, 0, 0), .null, [], 0, 0, []) := rfl
theorem f_97_2 : xfind (xnth xTs 97) 2 = some (2, .invokevirtual 194, 3, (121, 1, 8, 2), .null, [], 609, 0, []) := rfl
theorem f_97_5 : xfind (xnth xTs 97) 5 = some (5, .istore_n 2, 1, (0, 0, 0, 0), .null, [], 0, 0, []) := rfl
theorem f_97_6 : xfind (xnth xTs 97) 6 = some (6, .iload_n 2, 1, (0, 0, 0, 0), .null, [], 0, 0, []) := rfl
theorem f_97_7 : xfind (xnth xTs 97) 7 = some (7, .ifCond .eq 5, 3, (0, 0, 0, 0), .null, [], 0, 0, []) := rfl
theorem f_97_10 : xfind (xnth xTs 97) 10 = some (10, .iload_n 2, 1, (0, 0, 0, 0), .null, [], 0, 0, []) := rfl
theorem f_97_11 : xfind (xnth xTs 97) 11 = some (11, .ireturn, 1, (0, 0, 0, 0), .null, [], 0, 0, []) := rfl
theorem f_97_12 : xfind (xnth xTs 97) 12 = some (12, .aload_n 0, 1, (0, 0, 0, 0), .null, [], 0, 0, []) := rfl
theorem f_97_13 : xfind (xnth xTs 97) 13 = some (13, .getfield 36, 3, (8, 4, 1, 0), .null, [], 295, 0, []) := rfl
theorem f_97_16 : xfind (xnth xTs 97) 16 = some (16, .aload_n 0, 1, (0, 0, 0, 0), .null, [], 0, 0, []) := rfl
theorem f_97_17 : xfind (xnth xTs 97) 17 = some (17, .getfield 19, 3, (8, 1, 1, 0), .null, [], 292, 0, []) := rfl
theorem f_97_20 : xfind (xnth xTs 97) 20 = some (20, .invokevirtual 197, 3, (2, 1, 0, 2), .null, [], 616, 0, []) := rfl
theorem f_97_23 : xfind (xnth xTs 97) 23 = some (23, .iconst 0, 1, (0, 0, 0, 0), (.int 0), [], 0, 0, []) := rfl
theorem f_97_24 : xfind (xnth xTs 97) 24 = some (24, .istore_n 3, 1, (0, 0, 0, 0), .null, [], 0, 0, []) := rfl
theorem f_97_25 : xfind (xnth xTs 97) 25 = some (25, .iconst 0, 1, (0, 0, 0, 0), (.int 0), [], 0, 0, []) := rfl
theorem f_97_26 : xfind (xnth xTs 97) 26 = some (26, .istore 4, 2, (0, 0, 0, 0), .null, [], 0, 0, []) := rfl
theorem f_97_28 : xfind (xnth xTs 97) 28 = some (28, .iload 4, 2, (0, 0, 0, 0), .null, [], 0, 1, [2]) := rfl
theorem f_97_30 : xfind (xnth xTs 97) 30 = some (30, .iload_n 1, 1, (0, 0, 0, 0), .null, [], 0, 0, []) := rfl
theorem f_97_31 : xfind (xnth xTs 97) 31 = some (31, .if_icmp .ge 21, 3, (0, 0, 0, 0), .null, [], 0, 0, []) := rfl
theorem f_97_34 : xfind (xnth xTs 97) 34 = some (34, .aload_n 0, 1, (0, 0, 0, 0), .null, [], 0, 0, []) := rfl
theorem f_97_35 : xfind (xnth xTs 97) 35 = some (35, .getfield 19, 3, (8, 1, 1, 0), .null, [], 292, 0, []) := rfl
theorem f_97_38 : xfind (xnth xTs 97) 38 = some (38, .aload_n 0, 1, (0, 0, 0, 0), .null, [], 0, 0, []) := rfl
theorem f_97_39 : xfind (xnth xTs 97) 39 = some (39, .getfield 10, 3, (8, 0, 1, 0), .null, [], 291, 0, []) := rfl
theorem f_97_42 : xfind (xnth xTs 97) 42 = some (42, .invokevirtual 200, 3, (78, 1, 6, 4), .null, [], 622, 0, []) := rfl
theorem f_97_45 : xfind (xnth xTs 97) 45 = some (45, .istore_n 3, 1, (0, 0, 0, 0), .null, [], 0, 0, []) := rfl
theorem f_97_46 : xfind (xnth xTs 97) 46 = some (46, .iinc 4 1, 3, (0, 0, 0, 0), .null, [], 0, 0, []) := rfl
theorem f_97_49 : xfind (xnth xTs 97) 49 = some (49, .goto (-21), 3, (0, 0, 0, 0), .null, [], 0, 0, []) := rfl
theorem f_97_52 : xfind (xnth xTs 97) 52 = some (52, .iload_n 3, 1, (0, 0, 0, 0), .null, [], 0, 0, []) := rfl
theorem f_97_53 : xfind (xnth xTs 97) 53 = some (53, .ireturn, 1, (0, 0, 0, 0), .null, [], 0, 0, []) := rfl
theorem hd_97_28 : xhead 97 28 = some [2] := rfl
theorem b_C_night_0 (sh : xSh) (M : Nat → Nat → Int32) (J : Nat → Nat → Int64) (l0 : Nat) (l1 : Int32) : ev (97, 0, [.ref l0, .int l1, .null, .null, .null], [], (sh, M, J)) = (bif (decide ((sh.2.2.1 l0).1 = 8) && true) then (ev (121, 0, [.ref l0, .int l1], [], (sh, M, J))).bind (fun r => ev (97, 5, [.ref l0, .int l1, .null, .null, .null], r.1.toList ++ [], r.2)) else none) := by
  refine ev_nx (s1 := (97, 1, [.ref l0, .int l1, .null, .null, .null], [.ref l0], (sh, M, J))) f_97_0 rfl ?_
  refine ev_nx (s1 := (97, 2, [.ref l0, .int l1, .null, .null, .null], [.int l1, .ref l0], (sh, M, J))) f_97_1 rfl ?_
  exact ev_ca (cc := (decide ((sh.2.2.1 l0).1 = 8) && true)) (s1 := (121, 0, [.ref l0, .int l1], [], (sh, M, J))) (k := (97, 5, [.ref l0, .int l1, .null, .null, .null], [])) f_97_2 rfl
theorem b_C_night_5 (sh : xSh) (M : Nat → Nat → Int32) (J : Nat → Nat → Int64) (l0 : Nat) (l1 : Int32) (k0 : Int32) : ev (97, 5, [.ref l0, .int l1, .null, .null, .null], [.int k0], (sh, M, J)) = (bif decide (k0 = 0) then bif decide ((sh.2.2.1 l0).1 = 8) then bif decide ((sh.2.2.1 l0).1 = 8) then bif (decide ((sh.2.2.1 (sh.2.2.2 l0 4)).1 = 0) && true) then (ev (2, 0, [.ref (sh.2.2.2 l0 4), .ref (sh.2.2.2 l0 1)], [], (sh, M, J))).bind (fun r => ev (97, 23, [.ref l0, .int l1, .int k0, .null, .null], r.1.toList ++ [], r.2)) else none else none else none else some (some (.int k0), (sh, M, J))) := by
  refine ev_nx (s1 := (97, 6, [.ref l0, .int l1, .int k0, .null, .null], [], (sh, M, J))) f_97_5 rfl ?_
  refine ev_nx (s1 := (97, 7, [.ref l0, .int l1, .int k0, .null, .null], [.int k0], (sh, M, J))) f_97_6 rfl ?_
  refine ev_br (s1 := (97, 12, [.ref l0, .int l1, .int k0, .null, .null], [], (sh, M, J))) (s2 := (97, 10, [.ref l0, .int l1, .int k0, .null, .null], [], (sh, M, J))) f_97_7 rfl ?_ ?_
  · refine ev_nx (s1 := (97, 13, [.ref l0, .int l1, .int k0, .null, .null], [.ref l0], (sh, M, J))) f_97_12 rfl ?_
    refine ev_gd (s1 := (97, 16, [.ref l0, .int l1, .int k0, .null, .null], [.ref (sh.2.2.2 l0 4)], (sh, M, J))) f_97_13 rfl ?_
    refine ev_nx (s1 := (97, 17, [.ref l0, .int l1, .int k0, .null, .null], [.ref l0, .ref (sh.2.2.2 l0 4)], (sh, M, J))) f_97_16 rfl ?_
    refine ev_gd (s1 := (97, 20, [.ref l0, .int l1, .int k0, .null, .null], [.ref (sh.2.2.2 l0 1), .ref (sh.2.2.2 l0 4)], (sh, M, J))) f_97_17 rfl ?_
    exact ev_ca (cc := (decide ((sh.2.2.1 (sh.2.2.2 l0 4)).1 = 0) && true)) (s1 := (2, 0, [.ref (sh.2.2.2 l0 4), .ref (sh.2.2.2 l0 1)], [], (sh, M, J))) (k := (97, 23, [.ref l0, .int l1, .int k0, .null, .null], [])) f_97_20 rfl
  · refine ev_nx (s1 := (97, 11, [.ref l0, .int l1, .int k0, .null, .null], [.int k0], (sh, M, J))) f_97_10 rfl ?_
    exact ev_r1 f_97_11 rfl
theorem b_C_night_23 (sh : xSh) (M : Nat → Nat → Int32) (J : Nat → Nat → Int64) (l0 : Nat) (l1 : Int32) (l2 : Int32) : ev (97, 23, [.ref l0, .int l1, .int l2, .null, .null], [], (sh, M, J)) = (ev (97, 28, [.ref l0, .int l1, .null, .int 0, .int 0], [], (sh, M, J))) := by
  refine ev_nx (s1 := (97, 24, [.ref l0, .int l1, .int l2, .null, .null], [.int 0], (sh, M, J))) f_97_23 rfl ?_
  refine ev_nx (s1 := (97, 25, [.ref l0, .int l1, .int l2, .int 0, .null], [], (sh, M, J))) f_97_24 rfl ?_
  refine ev_nx (s1 := (97, 26, [.ref l0, .int l1, .int l2, .int 0, .null], [.int 0], (sh, M, J))) f_97_25 rfl ?_
  refine ev_nx (s1 := (97, 28, [.ref l0, .int l1, .int l2, .int 0, .int 0], [], (sh, M, J))) f_97_26 rfl ?_
  exact (ev_kill hd_97_28).symm
theorem b_C_night_28 (sh : xSh) (M : Nat → Nat → Int32) (J : Nat → Nat → Int64) (l0 : Nat) (l1 : Int32) (l3 : Int32) (l4 : Int32) : ev (97, 28, [.ref l0, .int l1, .null, .int l3, .int l4], [], (sh, M, J)) = (bif decide (l1 ≤ l4) then some (some (.int l3), (sh, M, J)) else bif decide ((sh.2.2.1 l0).1 = 8) then bif decide ((sh.2.2.1 l0).1 = 8) then bif (decide ((sh.2.2.1 (sh.2.2.2 l0 1)).1 = 6) && true) then (ev (78, 0, [.ref (sh.2.2.2 l0 1), .ref (sh.2.2.2 l0 0), .null, .null], [], (sh, M, J))).bind (fun r => ev (97, 45, [.ref l0, .int l1, .null, .int l3, .int l4], r.1.toList ++ [], r.2)) else none else none else none) := by
  refine ev_nx (s1 := (97, 30, [.ref l0, .int l1, .null, .int l3, .int l4], [.int l4], (sh, M, J))) f_97_28 rfl ?_
  refine ev_nx (s1 := (97, 31, [.ref l0, .int l1, .null, .int l3, .int l4], [.int l1, .int l4], (sh, M, J))) f_97_30 rfl ?_
  refine ev_br (s1 := (97, 52, [.ref l0, .int l1, .null, .int l3, .int l4], [], (sh, M, J))) (s2 := (97, 34, [.ref l0, .int l1, .null, .int l3, .int l4], [], (sh, M, J))) f_97_31 rfl ?_ ?_
  · refine ev_nx (s1 := (97, 53, [.ref l0, .int l1, .null, .int l3, .int l4], [.int l3], (sh, M, J))) f_97_52 rfl ?_
    exact ev_r1 f_97_53 rfl
  · refine ev_nx (s1 := (97, 35, [.ref l0, .int l1, .null, .int l3, .int l4], [.ref l0], (sh, M, J))) f_97_34 rfl ?_
    refine ev_gd (s1 := (97, 38, [.ref l0, .int l1, .null, .int l3, .int l4], [.ref (sh.2.2.2 l0 1)], (sh, M, J))) f_97_35 rfl ?_
    refine ev_nx (s1 := (97, 39, [.ref l0, .int l1, .null, .int l3, .int l4], [.ref l0, .ref (sh.2.2.2 l0 1)], (sh, M, J))) f_97_38 rfl ?_
    refine ev_gd (s1 := (97, 42, [.ref l0, .int l1, .null, .int l3, .int l4], [.ref (sh.2.2.2 l0 0), .ref (sh.2.2.2 l0 1)], (sh, M, J))) f_97_39 rfl ?_
    exact ev_ca (cc := (decide ((sh.2.2.1 (sh.2.2.2 l0 1)).1 = 6) && true)) (s1 := (78, 0, [.ref (sh.2.2.2 l0 1), .ref (sh.2.2.2 l0 0), .null, .null], [], (sh, M, J))) (k := (97, 45, [.ref l0, .int l1, .null, .int l3, .int l4], [])) f_97_42 rfl
theorem b_C_night_45 (sh : xSh) (M : Nat → Nat → Int32) (J : Nat → Nat → Int64) (l0 : Nat) (l1 : Int32) (l3 : Int32) (l4 : Int32) (k0 : Int32) : ev (97, 45, [.ref l0, .int l1, .null, .int l3, .int l4], [.int k0], (sh, M, J)) = (ev (97, 28, [.ref l0, .int l1, .null, .int k0, .int (l4 + 1)], [], (sh, M, J))) := by
  refine ev_nx (s1 := (97, 46, [.ref l0, .int l1, .null, .int k0, .int l4], [], (sh, M, J))) f_97_45 rfl ?_
  refine ev_nx (s1 := (97, 49, [.ref l0, .int l1, .null, .int k0, .int (l4 + 1)], [], (sh, M, J))) f_97_46 rfl ?_
  refine ev_nx (s1 := (97, 28, [.ref l0, .int l1, .null, .int k0, .int (l4 + 1)], [], (sh, M, J))) f_97_49 rfl ?_
  exact rfl
theorem f_98_0 : xfind (xnth xTs 98) 0 = some (0, .aload_n 0, 1, (0, 0, 0, 0), .null, [], 0, 0, []) := rfl
theorem f_98_1 : xfind (xnth xTs 98) 1 = some (1, .getfield 10, 3, (8, 0, 1, 0), .null, [], 291, 0, []) := rfl
theorem f_98_4 : xfind (xnth xTs 98) 4 = some (4, .iload_n 1, 1, (0, 0, 0, 0), .null, [], 0, 0, []) := rfl
theorem f_98_5 : xfind (xnth xTs 98) 5 = some (5, .invokevirtual 145, 3, (14, 1, 1, 2), .null, [], 550, 0, []) := rfl
theorem f_98_8 : xfind (xnth xTs 98) 8 = some (8, .ifCond .ne 6, 3, (0, 0, 0, 0), .null, [], 0, 0, []) := rfl
theorem f_98_11 : xfind (xnth xTs 98) 11 = some (11, .ldc 148, 2, (0, 0, 0, 0), (.int (-1000000001)), [], 556, 0, []) := rfl
theorem f_98_13 : xfind (xnth xTs 98) 13 = some (13, .ireturn, 1, (0, 0, 0, 0), .null, [], 0, 0, []) := rfl
theorem f_98_14 : xfind (xnth xTs 98) 14 = some (14, .aload_n 0, 1, (0, 0, 0, 0), .null, [], 0, 0, []) := rfl
theorem f_98_15 : xfind (xnth xTs 98) 15 = some (15, .getfield 19, 3, (8, 1, 1, 0), .null, [], 292, 0, []) := rfl
theorem f_98_18 : xfind (xnth xTs 98) 18 = some (18, .invokevirtual 120, 3, (59, 0, 6, 1), .null, [], 485, 0, []) := rfl
theorem f_98_21 : xfind (xnth xTs 98) 21 = some (21, .iload_n 1, 1, (0, 0, 0, 0), .null, [], 0, 0, []) := rfl
theorem f_98_22 : xfind (xnth xTs 98) 22 = some (22, .invokestatic 153, 3, (127, 2, 8, 2), .null, [], 558, 0, []) := rfl
theorem f_98_25 : xfind (xnth xTs 98) 25 = some (25, .ifCond .eq 6, 3, (0, 0, 0, 0), .null, [], 0, 0, []) := rfl
theorem f_98_28 : xfind (xnth xTs 98) 28 = some (28, .ldc 203, 2, (0, 0, 0, 0), (.int (-1000000003)), [], 615, 0, []) := rfl
theorem f_98_30 : xfind (xnth xTs 98) 30 = some (30, .ireturn, 1, (0, 0, 0, 0), .null, [], 0, 0, []) := rfl
theorem f_98_31 : xfind (xnth xTs 98) 31 = some (31, .aload_n 0, 1, (0, 0, 0, 0), .null, [], 0, 0, []) := rfl
theorem f_98_32 : xfind (xnth xTs 98) 32 = some (32, .getfield 36, 3, (8, 4, 1, 0), .null, [], 295, 0, []) := rfl
theorem f_98_35 : xfind (xnth xTs 98) 35 = some (35, .aload_n 0, 1, (0, 0, 0, 0), .null, [], 0, 0, []) := rfl
theorem f_98_36 : xfind (xnth xTs 98) 36 = some (36, .getfield 19, 3, (8, 1, 1, 0), .null, [], 292, 0, []) := rfl
theorem f_98_39 : xfind (xnth xTs 98) 39 = some (39, .invokevirtual 197, 3, (2, 1, 0, 2), .null, [], 616, 0, []) := rfl
theorem f_98_42 : xfind (xnth xTs 98) 42 = some (42, .aload_n 0, 1, (0, 0, 0, 0), .null, [], 0, 0, []) := rfl
theorem f_98_43 : xfind (xnth xTs 98) 43 = some (43, .getfield 19, 3, (8, 1, 1, 0), .null, [], 292, 0, []) := rfl
theorem f_98_46 : xfind (xnth xTs 98) 46 = some (46, .iload_n 1, 1, (0, 0, 0, 0), .null, [], 0, 0, []) := rfl
theorem f_98_47 : xfind (xnth xTs 98) 47 = some (47, .invokevirtual 204, 3, (69, 1, 6, 2), .null, [], 645, 0, []) := rfl
theorem f_98_50 : xfind (xnth xTs 98) 50 = some (50, .aload_n 0, 1, (0, 0, 0, 0), .null, [], 0, 0, []) := rfl
theorem f_98_51 : xfind (xnth xTs 98) 51 = some (51, .getfield 19, 3, (8, 1, 1, 0), .null, [], 292, 0, []) := rfl
theorem f_98_54 : xfind (xnth xTs 98) 54 = some (54, .invokevirtual 120, 3, (59, 0, 6, 1), .null, [], 485, 0, []) := rfl
theorem f_98_57 : xfind (xnth xTs 98) 57 = some (57, .invokestatic 208, 3, (202, 1, 99, 1), .null, [], 646, 0, []) := rfl
theorem f_98_60 : xfind (xnth xTs 98) 60 = some (60, .ireturn, 1, (0, 0, 0, 0), .null, [], 0, 0, []) := rfl
theorem b_C_cut_0 (sh : xSh) (M : Nat → Nat → Int32) (J : Nat → Nat → Int64) (l0 : Nat) (l1 : Int32) : ev (98, 0, [.ref l0, .int l1], [], (sh, M, J)) = (bif decide ((sh.2.2.1 l0).1 = 8) then bif (decide ((sh.2.2.1 (sh.2.2.2 l0 0)).1 = 1) && true) then (ev (14, 0, [.ref (sh.2.2.2 l0 0), .int l1], [], (sh, M, J))).bind (fun r => ev (98, 8, [.ref l0, .int l1], r.1.toList ++ [], r.2)) else none else none) := by
  refine ev_nx (s1 := (98, 1, [.ref l0, .int l1], [.ref l0], (sh, M, J))) f_98_0 rfl ?_
  refine ev_gd (s1 := (98, 4, [.ref l0, .int l1], [.ref (sh.2.2.2 l0 0)], (sh, M, J))) f_98_1 rfl ?_
  refine ev_nx (s1 := (98, 5, [.ref l0, .int l1], [.int l1, .ref (sh.2.2.2 l0 0)], (sh, M, J))) f_98_4 rfl ?_
  exact ev_ca (cc := (decide ((sh.2.2.1 (sh.2.2.2 l0 0)).1 = 1) && true)) (s1 := (14, 0, [.ref (sh.2.2.2 l0 0), .int l1], [], (sh, M, J))) (k := (98, 8, [.ref l0, .int l1], [])) f_98_5 rfl
theorem b_C_cut_8 (sh : xSh) (M : Nat → Nat → Int32) (J : Nat → Nat → Int64) (l0 : Nat) (l1 : Int32) (k0 : Int32) : ev (98, 8, [.ref l0, .int l1], [.int k0], (sh, M, J)) = (bif !decide (k0 = 0) then bif decide ((sh.2.2.1 l0).1 = 8) then bif (decide ((sh.2.2.1 (sh.2.2.2 l0 1)).1 = 6) && true) then (ev (59, 0, [.ref (sh.2.2.2 l0 1)], [], (sh, M, J))).bind (fun r => ev (98, 21, [.ref l0, .int l1], r.1.toList ++ [], r.2)) else none else none else some (some (.int (-1000000001)), (sh, M, J))) := by
  refine ev_br (s1 := (98, 14, [.ref l0, .int l1], [], (sh, M, J))) (s2 := (98, 11, [.ref l0, .int l1], [], (sh, M, J))) f_98_8 rfl ?_ ?_
  · refine ev_nx (s1 := (98, 15, [.ref l0, .int l1], [.ref l0], (sh, M, J))) f_98_14 rfl ?_
    refine ev_gd (s1 := (98, 18, [.ref l0, .int l1], [.ref (sh.2.2.2 l0 1)], (sh, M, J))) f_98_15 rfl ?_
    exact ev_ca (cc := (decide ((sh.2.2.1 (sh.2.2.2 l0 1)).1 = 6) && true)) (s1 := (59, 0, [.ref (sh.2.2.2 l0 1)], [], (sh, M, J))) (k := (98, 21, [.ref l0, .int l1], [])) f_98_18 rfl
  · refine ev_nx (s1 := (98, 13, [.ref l0, .int l1], [.int (-1000000001)], (sh, M, J))) f_98_11 rfl ?_
    exact ev_r1 f_98_13 rfl
theorem b_C_cut_21 (sh : xSh) (M : Nat → Nat → Int32) (J : Nat → Nat → Int64) (l0 : Nat) (l1 : Int32) (k0 : Int32) : ev (98, 21, [.ref l0, .int l1], [.int k0], (sh, M, J)) = ((ev (127, 0, [.int k0, .int l1], [], (sh, M, J))).bind (fun r => ev (98, 25, [.ref l0, .int l1], r.1.toList ++ [], r.2))) := by
  refine ev_nx (s1 := (98, 22, [.ref l0, .int l1], [.int l1, .int k0], (sh, M, J))) f_98_21 rfl ?_
  exact ev_c1 (s1 := (127, 0, [.int k0, .int l1], [], (sh, M, J))) (k := (98, 25, [.ref l0, .int l1], [])) f_98_22 rfl
theorem b_C_cut_25 (sh : xSh) (M : Nat → Nat → Int32) (J : Nat → Nat → Int64) (l0 : Nat) (l1 : Int32) (k0 : Int32) : ev (98, 25, [.ref l0, .int l1], [.int k0], (sh, M, J)) = (bif decide (k0 = 0) then bif decide ((sh.2.2.1 l0).1 = 8) then bif decide ((sh.2.2.1 l0).1 = 8) then bif (decide ((sh.2.2.1 (sh.2.2.2 l0 4)).1 = 0) && true) then (ev (2, 0, [.ref (sh.2.2.2 l0 4), .ref (sh.2.2.2 l0 1)], [], (sh, M, J))).bind (fun r => ev (98, 42, [.ref l0, .int l1], r.1.toList ++ [], r.2)) else none else none else none else some (some (.int (-1000000003)), (sh, M, J))) := by
  refine ev_br (s1 := (98, 31, [.ref l0, .int l1], [], (sh, M, J))) (s2 := (98, 28, [.ref l0, .int l1], [], (sh, M, J))) f_98_25 rfl ?_ ?_
  · refine ev_nx (s1 := (98, 32, [.ref l0, .int l1], [.ref l0], (sh, M, J))) f_98_31 rfl ?_
    refine ev_gd (s1 := (98, 35, [.ref l0, .int l1], [.ref (sh.2.2.2 l0 4)], (sh, M, J))) f_98_32 rfl ?_
    refine ev_nx (s1 := (98, 36, [.ref l0, .int l1], [.ref l0, .ref (sh.2.2.2 l0 4)], (sh, M, J))) f_98_35 rfl ?_
    refine ev_gd (s1 := (98, 39, [.ref l0, .int l1], [.ref (sh.2.2.2 l0 1), .ref (sh.2.2.2 l0 4)], (sh, M, J))) f_98_36 rfl ?_
    exact ev_ca (cc := (decide ((sh.2.2.1 (sh.2.2.2 l0 4)).1 = 0) && true)) (s1 := (2, 0, [.ref (sh.2.2.2 l0 4), .ref (sh.2.2.2 l0 1)], [], (sh, M, J))) (k := (98, 42, [.ref l0, .int l1], [])) f_98_39 rfl
  · refine ev_nx (s1 := (98, 30, [.ref l0, .int l1], [.int (-1000000003)], (sh, M, J))) f_98_28 rfl ?_
    exact ev_r1 f_98_30 rfl
theorem b_C_cut_42 (sh : xSh) (M : Nat → Nat → Int32) (J : Nat → Nat → Int64) (l0 : Nat) (l1 : Int32) : ev (98, 42, [.ref l0, .int l1], [], (sh, M, J)) = (bif decide ((sh.2.2.1 l0).1 = 8) then bif (decide ((sh.2.2.1 (sh.2.2.2 l0 1)).1 = 6) && true) then (ev (69, 0, [.ref (sh.2.2.2 l0 1), .int l1], [], (sh, M, J))).bind (fun r => ev (98, 50, [.ref l0, .int l1], r.1.toList ++ [], r.2)) else none else none) := by
  refine ev_nx (s1 := (98, 43, [.ref l0, .int l1], [.ref l0], (sh, M, J))) f_98_42 rfl ?_
  refine ev_gd (s1 := (98, 46, [.ref l0, .int l1], [.ref (sh.2.2.2 l0 1)], (sh, M, J))) f_98_43 rfl ?_
  refine ev_nx (s1 := (98, 47, [.ref l0, .int l1], [.int l1, .ref (sh.2.2.2 l0 1)], (sh, M, J))) f_98_46 rfl ?_
  exact ev_ca (cc := (decide ((sh.2.2.1 (sh.2.2.2 l0 1)).1 = 6) && true)) (s1 := (69, 0, [.ref (sh.2.2.2 l0 1), .int l1], [], (sh, M, J))) (k := (98, 50, [.ref l0, .int l1], [])) f_98_47 rfl
theorem b_C_cut_50 (sh : xSh) (M : Nat → Nat → Int32) (J : Nat → Nat → Int64) (l0 : Nat) (l1 : Int32) : ev (98, 50, [.ref l0, .int l1], [], (sh, M, J)) = (bif decide ((sh.2.2.1 l0).1 = 8) then bif (decide ((sh.2.2.1 (sh.2.2.2 l0 1)).1 = 6) && true) then (ev (59, 0, [.ref (sh.2.2.2 l0 1)], [], (sh, M, J))).bind (fun r => ev (98, 57, [.ref l0, .int l1], r.1.toList ++ [], r.2)) else none else none) := by
  refine ev_nx (s1 := (98, 51, [.ref l0, .int l1], [.ref l0], (sh, M, J))) f_98_50 rfl ?_
  refine ev_gd (s1 := (98, 54, [.ref l0, .int l1], [.ref (sh.2.2.2 l0 1)], (sh, M, J))) f_98_51 rfl ?_
  exact ev_ca (cc := (decide ((sh.2.2.1 (sh.2.2.2 l0 1)).1 = 6) && true)) (s1 := (59, 0, [.ref (sh.2.2.2 l0 1)], [], (sh, M, J))) (k := (98, 57, [.ref l0, .int l1], [])) f_98_54 rfl
theorem b_C_cut_57 (sh : xSh) (M : Nat → Nat → Int32) (J : Nat → Nat → Int64) (l0 : Nat) (l1 : Int32) (k0 : Int32) : ev (98, 57, [.ref l0, .int l1], [.int k0], (sh, M, J)) = ((ev (202, 0, [.int k0], [], (sh, M, J))).bind (fun r => ev (98, 60, [.ref l0, .int l1], r.1.toList ++ [], r.2))) := by
  exact ev_c1 (s1 := (202, 0, [.int k0], [], (sh, M, J))) (k := (98, 60, [.ref l0, .int l1], [])) f_98_57 rfl
theorem b_C_cut_60 (sh : xSh) (M : Nat → Nat → Int32) (J : Nat → Nat → Int64) (l0 : Nat) (l1 : Int32) (k0 : Int32) : ev (98, 60, [.ref l0, .int l1], [.int k0], (sh, M, J)) = (some (some (.int k0), (sh, M, J))) := by
  exact ev_r1 f_98_60 rfl
theorem f_99_0 : xfind (xnth xTs 99) 0 = some (0, .aload_n 0, 1, (0, 0, 0, 0), .null, [], 0, 0, []) := rfl
theorem f_99_1 : xfind (xnth xTs 99) 1 = some (1, .getfield 10, 3, (8, 0, 1, 0), .null, [], 291, 0, []) := rfl
theorem f_99_4 : xfind (xnth xTs 99) 4 = some (4, .iload_n 1, 1, (0, 0, 0, 0), .null, [], 0, 0, []) := rfl
theorem f_99_5 : xfind (xnth xTs 99) 5 = some (5, .invokevirtual 176, 3, (16, 1, 1, 2), .null, [], 590, 0, []) := rfl
theorem f_99_8 : xfind (xnth xTs 99) 8 = some (8, .ifCond .eq 14, 3, (0, 0, 0, 0), .null, [], 0, 0, []) := rfl
theorem f_99_11 : xfind (xnth xTs 99) 11 = some (11, .aload_n 0, 1, (0, 0, 0, 0), .null, [], 0, 0, []) := rfl
theorem f_99_12 : xfind (xnth xTs 99) 12 = some (12, .getfield 10, 3, (8, 0, 1, 0), .null, [], 291, 0, []) := rfl
theorem f_99_15 : xfind (xnth xTs 99) 15 = some (15, .iload_n 2, 1, (0, 0, 0, 0), .null, [], 0, 0, []) := rfl
theorem f_99_16 : xfind (xnth xTs 99) 16 = some (16, .invokevirtual 213, 3, (15, 1, 1, 2), .null, [], 656, 0, []) := rfl
theorem f_99_19 : xfind (xnth xTs 99) 19 = some (19, .ifCond .ne 6, 3, (0, 0, 0, 0), .null, [], 0, 0, []) := rfl
theorem f_99_22 : xfind (xnth xTs 99) 22 = some (22, .ldc 148, 2, (0, 0, 0, 0), (.int (-1000000001)), [], 556, 0, []) := rfl
theorem f_99_24 : xfind (xnth xTs 99) 24 = some (24, .ireturn, 1, (0, 0, 0, 0), .null, [], 0, 0, []) := rfl
theorem f_99_25 : xfind (xnth xTs 99) 25 = some (25, .aload_n 0, 1, (0, 0, 0, 0), .null, [], 0, 0, []) := rfl
theorem f_99_26 : xfind (xnth xTs 99) 26 = some (26, .getfield 36, 3, (8, 4, 1, 0), .null, [], 295, 0, []) := rfl
theorem f_99_29 : xfind (xnth xTs 99) 29 = some (29, .aload_n 0, 1, (0, 0, 0, 0), .null, [], 0, 0, []) := rfl
theorem f_99_30 : xfind (xnth xTs 99) 30 = some (30, .getfield 19, 3, (8, 1, 1, 0), .null, [], 292, 0, []) := rfl
theorem f_99_33 : xfind (xnth xTs 99) 33 = some (33, .invokevirtual 197, 3, (2, 1, 0, 2), .null, [], 616, 0, []) := rfl
theorem f_99_36 : xfind (xnth xTs 99) 36 = some (36, .aload_n 0, 1, (0, 0, 0, 0), .null, [], 0, 0, []) := rfl
theorem f_99_37 : xfind (xnth xTs 99) 37 = some (37, .getfield 19, 3, (8, 1, 1, 0), .null, [], 292, 0, []) := rfl
theorem f_99_40 : xfind (xnth xTs 99) 40 = some (40, .iload_n 1, 1, (0, 0, 0, 0), .null, [], 0, 0, []) := rfl
theorem f_99_41 : xfind (xnth xTs 99) 41 = some (41, .invokevirtual 179, 3, (63, 1, 6, 2), .null, [], 594, 0, []) := rfl
theorem f_99_44 : xfind (xnth xTs 99) 44 = some (44, .istore_n 3, 1, (0, 0, 0, 0), .null, [], 0, 0, []) := rfl
theorem f_99_45 : xfind (xnth xTs 99) 45 = some (45, .aload_n 0, 1, (0, 0, 0, 0), .null, [], 0, 0, []) := rfl
theorem f_99_46 : xfind (xnth xTs 99) 46 = some (46, .getfield 19, 3, (8, 1, 1, 0), .null, [], 292, 0, []) := rfl
theorem f_99_49 : xfind (xnth xTs 99) 49 = some (49, .iload_n 1, 1, (0, 0, 0, 0), .null, [], 0, 0, []) := rfl
theorem f_99_50 : xfind (xnth xTs 99) 50 = some (50, .iload_n 2, 1, (0, 0, 0, 0), .null, [], 0, 0, []) := rfl
theorem f_99_51 : xfind (xnth xTs 99) 51 = some (51, .invokevirtual 216, 3, (70, 2, 6, 3), .null, [], 660, 0, []) := rfl
theorem f_99_54 : xfind (xnth xTs 99) 54 = some (54, .iload_n 3, 1, (0, 0, 0, 0), .null, [], 0, 0, []) := rfl
theorem f_99_55 : xfind (xnth xTs 99) 55 = some (55, .ireturn, 1, (0, 0, 0, 0), .null, [], 0, 0, []) := rfl
theorem b_C_go_0 (sh : xSh) (M : Nat → Nat → Int32) (J : Nat → Nat → Int64) (l0 : Nat) (l1 : Int32) (l2 : Int32) : ev (99, 0, [.ref l0, .int l1, .int l2, .null], [], (sh, M, J)) = (bif decide ((sh.2.2.1 l0).1 = 8) then bif (decide ((sh.2.2.1 (sh.2.2.2 l0 0)).1 = 1) && true) then (ev (16, 0, [.ref (sh.2.2.2 l0 0), .int l1], [], (sh, M, J))).bind (fun r => ev (99, 8, [.ref l0, .int l1, .int l2, .null], r.1.toList ++ [], r.2)) else none else none) := by
  refine ev_nx (s1 := (99, 1, [.ref l0, .int l1, .int l2, .null], [.ref l0], (sh, M, J))) f_99_0 rfl ?_
  refine ev_gd (s1 := (99, 4, [.ref l0, .int l1, .int l2, .null], [.ref (sh.2.2.2 l0 0)], (sh, M, J))) f_99_1 rfl ?_
  refine ev_nx (s1 := (99, 5, [.ref l0, .int l1, .int l2, .null], [.int l1, .ref (sh.2.2.2 l0 0)], (sh, M, J))) f_99_4 rfl ?_
  exact ev_ca (cc := (decide ((sh.2.2.1 (sh.2.2.2 l0 0)).1 = 1) && true)) (s1 := (16, 0, [.ref (sh.2.2.2 l0 0), .int l1], [], (sh, M, J))) (k := (99, 8, [.ref l0, .int l1, .int l2, .null], [])) f_99_5 rfl
theorem b_C_go_8 (sh : xSh) (M : Nat → Nat → Int32) (J : Nat → Nat → Int64) (l0 : Nat) (l1 : Int32) (l2 : Int32) (k0 : Int32) : ev (99, 8, [.ref l0, .int l1, .int l2, .null], [.int k0], (sh, M, J)) = (bif decide (k0 = 0) then some (some (.int (-1000000001)), (sh, M, J)) else bif decide ((sh.2.2.1 l0).1 = 8) then bif (decide ((sh.2.2.1 (sh.2.2.2 l0 0)).1 = 1) && true) then (ev (15, 0, [.ref (sh.2.2.2 l0 0), .int l2], [], (sh, M, J))).bind (fun r => ev (99, 19, [.ref l0, .int l1, .int l2, .null], r.1.toList ++ [], r.2)) else none else none) := by
  refine ev_br (s1 := (99, 22, [.ref l0, .int l1, .int l2, .null], [], (sh, M, J))) (s2 := (99, 11, [.ref l0, .int l1, .int l2, .null], [], (sh, M, J))) f_99_8 rfl ?_ ?_
  · refine ev_nx (s1 := (99, 24, [.ref l0, .int l1, .int l2, .null], [.int (-1000000001)], (sh, M, J))) f_99_22 rfl ?_
    exact ev_r1 f_99_24 rfl
  · refine ev_nx (s1 := (99, 12, [.ref l0, .int l1, .int l2, .null], [.ref l0], (sh, M, J))) f_99_11 rfl ?_
    refine ev_gd (s1 := (99, 15, [.ref l0, .int l1, .int l2, .null], [.ref (sh.2.2.2 l0 0)], (sh, M, J))) f_99_12 rfl ?_
    refine ev_nx (s1 := (99, 16, [.ref l0, .int l1, .int l2, .null], [.int l2, .ref (sh.2.2.2 l0 0)], (sh, M, J))) f_99_15 rfl ?_
    exact ev_ca (cc := (decide ((sh.2.2.1 (sh.2.2.2 l0 0)).1 = 1) && true)) (s1 := (15, 0, [.ref (sh.2.2.2 l0 0), .int l2], [], (sh, M, J))) (k := (99, 19, [.ref l0, .int l1, .int l2, .null], [])) f_99_16 rfl
theorem b_C_go_19 (sh : xSh) (M : Nat → Nat → Int32) (J : Nat → Nat → Int64) (l0 : Nat) (l1 : Int32) (l2 : Int32) (k0 : Int32) : ev (99, 19, [.ref l0, .int l1, .int l2, .null], [.int k0], (sh, M, J)) = (bif !decide (k0 = 0) then bif decide ((sh.2.2.1 l0).1 = 8) then bif decide ((sh.2.2.1 l0).1 = 8) then bif (decide ((sh.2.2.1 (sh.2.2.2 l0 4)).1 = 0) && true) then (ev (2, 0, [.ref (sh.2.2.2 l0 4), .ref (sh.2.2.2 l0 1)], [], (sh, M, J))).bind (fun r => ev (99, 36, [.ref l0, .int l1, .int l2, .null], r.1.toList ++ [], r.2)) else none else none else none else some (some (.int (-1000000001)), (sh, M, J))) := by
  refine ev_br (s1 := (99, 25, [.ref l0, .int l1, .int l2, .null], [], (sh, M, J))) (s2 := (99, 22, [.ref l0, .int l1, .int l2, .null], [], (sh, M, J))) f_99_19 rfl ?_ ?_
  · refine ev_nx (s1 := (99, 26, [.ref l0, .int l1, .int l2, .null], [.ref l0], (sh, M, J))) f_99_25 rfl ?_
    refine ev_gd (s1 := (99, 29, [.ref l0, .int l1, .int l2, .null], [.ref (sh.2.2.2 l0 4)], (sh, M, J))) f_99_26 rfl ?_
    refine ev_nx (s1 := (99, 30, [.ref l0, .int l1, .int l2, .null], [.ref l0, .ref (sh.2.2.2 l0 4)], (sh, M, J))) f_99_29 rfl ?_
    refine ev_gd (s1 := (99, 33, [.ref l0, .int l1, .int l2, .null], [.ref (sh.2.2.2 l0 1), .ref (sh.2.2.2 l0 4)], (sh, M, J))) f_99_30 rfl ?_
    exact ev_ca (cc := (decide ((sh.2.2.1 (sh.2.2.2 l0 4)).1 = 0) && true)) (s1 := (2, 0, [.ref (sh.2.2.2 l0 4), .ref (sh.2.2.2 l0 1)], [], (sh, M, J))) (k := (99, 36, [.ref l0, .int l1, .int l2, .null], [])) f_99_33 rfl
  · refine ev_nx (s1 := (99, 24, [.ref l0, .int l1, .int l2, .null], [.int (-1000000001)], (sh, M, J))) f_99_22 rfl ?_
    exact ev_r1 f_99_24 rfl
theorem b_C_go_36 (sh : xSh) (M : Nat → Nat → Int32) (J : Nat → Nat → Int64) (l0 : Nat) (l1 : Int32) (l2 : Int32) : ev (99, 36, [.ref l0, .int l1, .int l2, .null], [], (sh, M, J)) = (bif decide ((sh.2.2.1 l0).1 = 8) then bif (decide ((sh.2.2.1 (sh.2.2.2 l0 1)).1 = 6) && true) then (ev (63, 0, [.ref (sh.2.2.2 l0 1), .int l1], [], (sh, M, J))).bind (fun r => ev (99, 44, [.ref l0, .int l1, .int l2, .null], r.1.toList ++ [], r.2)) else none else none) := by
  refine ev_nx (s1 := (99, 37, [.ref l0, .int l1, .int l2, .null], [.ref l0], (sh, M, J))) f_99_36 rfl ?_
  refine ev_gd (s1 := (99, 40, [.ref l0, .int l1, .int l2, .null], [.ref (sh.2.2.2 l0 1)], (sh, M, J))) f_99_37 rfl ?_
  refine ev_nx (s1 := (99, 41, [.ref l0, .int l1, .int l2, .null], [.int l1, .ref (sh.2.2.2 l0 1)], (sh, M, J))) f_99_40 rfl ?_
  exact ev_ca (cc := (decide ((sh.2.2.1 (sh.2.2.2 l0 1)).1 = 6) && true)) (s1 := (63, 0, [.ref (sh.2.2.2 l0 1), .int l1], [], (sh, M, J))) (k := (99, 44, [.ref l0, .int l1, .int l2, .null], [])) f_99_41 rfl
theorem b_C_go_44 (sh : xSh) (M : Nat → Nat → Int32) (J : Nat → Nat → Int64) (l0 : Nat) (l1 : Int32) (l2 : Int32) (k0 : Int32) : ev (99, 44, [.ref l0, .int l1, .int l2, .null], [.int k0], (sh, M, J)) = (bif decide ((sh.2.2.1 l0).1 = 8) then bif (decide ((sh.2.2.1 (sh.2.2.2 l0 1)).1 = 6) && true) then (ev (70, 0, [.ref (sh.2.2.2 l0 1), .int l1, .int l2], [], (sh, M, J))).bind (fun r => ev (99, 54, [.ref l0, .int l1, .int l2, .int k0], r.1.toList ++ [], r.2)) else none else none) := by
  refine ev_nx (s1 := (99, 45, [.ref l0, .int l1, .int l2, .int k0], [], (sh, M, J))) f_99_44 rfl ?_
  refine ev_nx (s1 := (99, 46, [.ref l0, .int l1, .int l2, .int k0], [.ref l0], (sh, M, J))) f_99_45 rfl ?_
  refine ev_gd (s1 := (99, 49, [.ref l0, .int l1, .int l2, .int k0], [.ref (sh.2.2.2 l0 1)], (sh, M, J))) f_99_46 rfl ?_
  refine ev_nx (s1 := (99, 50, [.ref l0, .int l1, .int l2, .int k0], [.int l1, .ref (sh.2.2.2 l0 1)], (sh, M, J))) f_99_49 rfl ?_
  refine ev_nx (s1 := (99, 51, [.ref l0, .int l1, .int l2, .int k0], [.int l2, .int l1, .ref (sh.2.2.2 l0 1)], (sh, M, J))) f_99_50 rfl ?_
  exact ev_ca (cc := (decide ((sh.2.2.1 (sh.2.2.2 l0 1)).1 = 6) && true)) (s1 := (70, 0, [.ref (sh.2.2.2 l0 1), .int l1, .int l2], [], (sh, M, J))) (k := (99, 54, [.ref l0, .int l1, .int l2, .int k0], [])) f_99_51 rfl
theorem b_C_go_54 (sh : xSh) (M : Nat → Nat → Int32) (J : Nat → Nat → Int64) (l0 : Nat) (l1 : Int32) (l2 : Int32) (l3 : Int32) : ev (99, 54, [.ref l0, .int l1, .int l2, .int l3], [], (sh, M, J)) = (some (some (.int l3), (sh, M, J))) := by
  refine ev_nx (s1 := (99, 55, [.ref l0, .int l1, .int l2, .int l3], [.int l3], (sh, M, J))) f_99_54 rfl ?_
  exact ev_r1 f_99_55 rfl
theorem f_100_0 : xfind (xnth xTs 100) 0 = some (0, .aload_n 0, 1, (0, 0, 0, 0), .null, [], 0, 0, []) := rfl
theorem f_100_1 : xfind (xnth xTs 100) 1 = some (1, .getfield 10, 3, (8, 0, 1, 0), .null, [], 291, 0, []) := rfl
theorem f_100_4 : xfind (xnth xTs 100) 4 = some (4, .iload_n 1, 1, (0, 0, 0, 0), .null, [], 0, 0, []) := rfl
theorem f_100_5 : xfind (xnth xTs 100) 5 = some (5, .invokevirtual 176, 3, (16, 1, 1, 2), .null, [], 590, 0, []) := rfl
theorem f_100_8 : xfind (xnth xTs 100) 8 = some (8, .ifCond .eq 10, 3, (0, 0, 0, 0), .null, [], 0, 0, []) := rfl
theorem f_100_11 : xfind (xnth xTs 100) 11 = some (11, .iload_n 2, 1, (0, 0, 0, 0), .null, [], 0, 0, []) := rfl
theorem f_100_12 : xfind (xnth xTs 100) 12 = some (12, .invokestatic 164, 3, (126, 1, 8, 1), .null, [], 580, 0, []) := rfl
theorem f_100_15 : xfind (xnth xTs 100) 15 = some (15, .ifCond .ne 6, 3, (0, 0, 0, 0), .null, [], 0, 0, []) := rfl
theorem f_100_18 : xfind (xnth xTs 100) 18 = some (18, .ldc 148, 2, (0, 0, 0, 0), (.int (-1000000001)), [], 556, 0, []) := rfl
theorem f_100_20 : xfind (xnth xTs 100) 20 = some (20, .ireturn, 1, (0, 0, 0, 0), .null, [], 0, 0, []) := rfl
theorem f_100_21 : xfind (xnth xTs 100) 21 = some (21, .iload_n 3, 1, (0, 0, 0, 0), .null, [], 0, 0, []) := rfl
theorem f_100_22 : xfind (xnth xTs 100) 22 = some (22, .iconst 0, 1, (0, 0, 0, 0), (.int 0), [], 0, 0, []) := rfl
theorem f_100_23 : xfind (xnth xTs 100) 23 = some (23, .bipush 9, 2, (0, 0, 0, 0), (.int 9), [], 0, 0, []) := rfl
theorem f_100_25 : xfind (xnth xTs 100) 25 = some (25, .invokestatic 220, 3, (125, 3, 8, 3), .null, [], 613, 0, []) := rfl
theorem f_100_28 : xfind (xnth xTs 100) 28 = some (28, .ifCond .ne 6, 3, (0, 0, 0, 0), .null, [], 0, 0, []) := rfl
theorem f_100_31 : xfind (xnth xTs 100) 31 = some (31, .ldc 75, 2, (0, 0, 0, 0), (.int (-1000000002)), [], 329, 0, []) := rfl
theorem f_100_33 : xfind (xnth xTs 100) 33 = some (33, .ireturn, 1, (0, 0, 0, 0), .null, [], 0, 0, []) := rfl
theorem f_100_34 : xfind (xnth xTs 100) 34 = some (34, .aload_n 0, 1, (0, 0, 0, 0), .null, [], 0, 0, []) := rfl
theorem f_100_35 : xfind (xnth xTs 100) 35 = some (35, .getfield 36, 3, (8, 4, 1, 0), .null, [], 295, 0, []) := rfl
theorem f_100_38 : xfind (xnth xTs 100) 38 = some (38, .aload_n 0, 1, (0, 0, 0, 0), .null, [], 0, 0, []) := rfl
theorem f_100_39 : xfind (xnth xTs 100) 39 = some (39, .getfield 19, 3, (8, 1, 1, 0), .null, [], 292, 0, []) := rfl
theorem f_100_42 : xfind (xnth xTs 100) 42 = some (42, .invokevirtual 197, 3, (2, 1, 0, 2), .null, [], 616, 0, []) := rfl
theorem f_100_45 : xfind (xnth xTs 100) 45 = some (45, .aload_n 0, 1, (0, 0, 0, 0), .null, [], 0, 0, []) := rfl
theorem f_100_46 : xfind (xnth xTs 100) 46 = some (46, .getfield 19, 3, (8, 1, 1, 0), .null, [], 292, 0, []) := rfl
theorem f_100_49 : xfind (xnth xTs 100) 49 = some (49, .iload_n 1, 1, (0, 0, 0, 0), .null, [], 0, 0, []) := rfl
theorem f_100_50 : xfind (xnth xTs 100) 50 = some (50, .invokevirtual 188, 3, (65, 1, 6, 2), .null, [], 600, 0, []) := rfl
theorem f_100_53 : xfind (xnth xTs 100) 53 = some (53, .istore 4, 2, (0, 0, 0, 0), .null, [], 0, 0, []) := rfl
theorem f_100_55 : xfind (xnth xTs 100) 55 = some (55, .aload_n 0, 1, (0, 0, 0, 0), .null, [], 0, 0, []) := rfl
theorem f_100_56 : xfind (xnth xTs 100) 56 = some (56, .getfield 19, 3, (8, 1, 1, 0), .null, [], 292, 0, []) := rfl
theorem f_100_59 : xfind (xnth xTs 100) 59 = some (59, .iload_n 1, 1, (0, 0, 0, 0), .null, [], 0, 0, []) := rfl
theorem f_100_60 : xfind (xnth xTs 100) 60 = some (60, .iload_n 2, 1, (0, 0, 0, 0), .null, [], 0, 0, []) := rfl
theorem f_100_61 : xfind (xnth xTs 100) 61 = some (61, .iload_n 3, 1, (0, 0, 0, 0), .null, [], 0, 0, []) := rfl
theorem f_100_62 : xfind (xnth xTs 100) 62 = some (62, .invokevirtual 224, 3, (71, 3, 6, 4), .null, [], 665, 0, []) := rfl
theorem f_100_65 : xfind (xnth xTs 100) 65 = some (65, .iload 4, 2, (0, 0, 0, 0), .null, [], 0, 0, []) := rfl
theorem f_100_67 : xfind (xnth xTs 100) 67 = some (67, .ireturn, 1, (0, 0, 0, 0), .null, [], 0, 0, []) := rfl
theorem b_C_dress_0 (sh : xSh) (M : Nat → Nat → Int32) (J : Nat → Nat → Int64) (l0 : Nat) (l1 : Int32) (l2 : Int32) (l3 : Int32) : ev (100, 0, [.ref l0, .int l1, .int l2, .int l3, .null], [], (sh, M, J)) = (bif decide ((sh.2.2.1 l0).1 = 8) then bif (decide ((sh.2.2.1 (sh.2.2.2 l0 0)).1 = 1) && true) then (ev (16, 0, [.ref (sh.2.2.2 l0 0), .int l1], [], (sh, M, J))).bind (fun r => ev (100, 8, [.ref l0, .int l1, .int l2, .int l3, .null], r.1.toList ++ [], r.2)) else none else none) := by
  refine ev_nx (s1 := (100, 1, [.ref l0, .int l1, .int l2, .int l3, .null], [.ref l0], (sh, M, J))) f_100_0 rfl ?_
  refine ev_gd (s1 := (100, 4, [.ref l0, .int l1, .int l2, .int l3, .null], [.ref (sh.2.2.2 l0 0)], (sh, M, J))) f_100_1 rfl ?_
  refine ev_nx (s1 := (100, 5, [.ref l0, .int l1, .int l2, .int l3, .null], [.int l1, .ref (sh.2.2.2 l0 0)], (sh, M, J))) f_100_4 rfl ?_
  exact ev_ca (cc := (decide ((sh.2.2.1 (sh.2.2.2 l0 0)).1 = 1) && true)) (s1 := (16, 0, [.ref (sh.2.2.2 l0 0), .int l1], [], (sh, M, J))) (k := (100, 8, [.ref l0, .int l1, .int l2, .int l3, .null], [])) f_100_5 rfl
theorem b_C_dress_8 (sh : xSh) (M : Nat → Nat → Int32) (J : Nat → Nat → Int64) (l0 : Nat) (l1 : Int32) (l2 : Int32) (l3 : Int32) (k0 : Int32) : ev (100, 8, [.ref l0, .int l1, .int l2, .int l3, .null], [.int k0], (sh, M, J)) = (bif decide (k0 = 0) then some (some (.int (-1000000001)), (sh, M, J)) else (ev (126, 0, [.int l2], [], (sh, M, J))).bind (fun r => ev (100, 15, [.ref l0, .int l1, .int l2, .int l3, .null], r.1.toList ++ [], r.2))) := by
  refine ev_br (s1 := (100, 18, [.ref l0, .int l1, .int l2, .int l3, .null], [], (sh, M, J))) (s2 := (100, 11, [.ref l0, .int l1, .int l2, .int l3, .null], [], (sh, M, J))) f_100_8 rfl ?_ ?_
  · refine ev_nx (s1 := (100, 20, [.ref l0, .int l1, .int l2, .int l3, .null], [.int (-1000000001)], (sh, M, J))) f_100_18 rfl ?_
    exact ev_r1 f_100_20 rfl
  · refine ev_nx (s1 := (100, 12, [.ref l0, .int l1, .int l2, .int l3, .null], [.int l2], (sh, M, J))) f_100_11 rfl ?_
    exact ev_c1 (s1 := (126, 0, [.int l2], [], (sh, M, J))) (k := (100, 15, [.ref l0, .int l1, .int l2, .int l3, .null], [])) f_100_12 rfl
theorem b_C_dress_15 (sh : xSh) (M : Nat → Nat → Int32) (J : Nat → Nat → Int64) (l0 : Nat) (l1 : Int32) (l2 : Int32) (l3 : Int32) (k0 : Int32) : ev (100, 15, [.ref l0, .int l1, .int l2, .int l3, .null], [.int k0], (sh, M, J)) = (bif !decide (k0 = 0) then (ev (125, 0, [.int l3, .int 0, .int 9], [], (sh, M, J))).bind (fun r => ev (100, 28, [.ref l0, .int l1, .int l2, .int l3, .null], r.1.toList ++ [], r.2)) else some (some (.int (-1000000001)), (sh, M, J))) := by
  refine ev_br (s1 := (100, 21, [.ref l0, .int l1, .int l2, .int l3, .null], [], (sh, M, J))) (s2 := (100, 18, [.ref l0, .int l1, .int l2, .int l3, .null], [], (sh, M, J))) f_100_15 rfl ?_ ?_
  · refine ev_nx (s1 := (100, 22, [.ref l0, .int l1, .int l2, .int l3, .null], [.int l3], (sh, M, J))) f_100_21 rfl ?_
    refine ev_nx (s1 := (100, 23, [.ref l0, .int l1, .int l2, .int l3, .null], [.int 0, .int l3], (sh, M, J))) f_100_22 rfl ?_
    refine ev_nx (s1 := (100, 25, [.ref l0, .int l1, .int l2, .int l3, .null], [.int 9, .int 0, .int l3], (sh, M, J))) f_100_23 rfl ?_
    exact ev_c1 (s1 := (125, 0, [.int l3, .int 0, .int 9], [], (sh, M, J))) (k := (100, 28, [.ref l0, .int l1, .int l2, .int l3, .null], [])) f_100_25 rfl
  · refine ev_nx (s1 := (100, 20, [.ref l0, .int l1, .int l2, .int l3, .null], [.int (-1000000001)], (sh, M, J))) f_100_18 rfl ?_
    exact ev_r1 f_100_20 rfl
theorem b_C_dress_28 (sh : xSh) (M : Nat → Nat → Int32) (J : Nat → Nat → Int64) (l0 : Nat) (l1 : Int32) (l2 : Int32) (l3 : Int32) (k0 : Int32) : ev (100, 28, [.ref l0, .int l1, .int l2, .int l3, .null], [.int k0], (sh, M, J)) = (bif !decide (k0 = 0) then bif decide ((sh.2.2.1 l0).1 = 8) then bif decide ((sh.2.2.1 l0).1 = 8) then bif (decide ((sh.2.2.1 (sh.2.2.2 l0 4)).1 = 0) && true) then (ev (2, 0, [.ref (sh.2.2.2 l0 4), .ref (sh.2.2.2 l0 1)], [], (sh, M, J))).bind (fun r => ev (100, 45, [.ref l0, .int l1, .int l2, .int l3, .null], r.1.toList ++ [], r.2)) else none else none else none else some (some (.int (-1000000002)), (sh, M, J))) := by
  refine ev_br (s1 := (100, 34, [.ref l0, .int l1, .int l2, .int l3, .null], [], (sh, M, J))) (s2 := (100, 31, [.ref l0, .int l1, .int l2, .int l3, .null], [], (sh, M, J))) f_100_28 rfl ?_ ?_
  · refine ev_nx (s1 := (100, 35, [.ref l0, .int l1, .int l2, .int l3, .null], [.ref l0], (sh, M, J))) f_100_34 rfl ?_
    refine ev_gd (s1 := (100, 38, [.ref l0, .int l1, .int l2, .int l3, .null], [.ref (sh.2.2.2 l0 4)], (sh, M, J))) f_100_35 rfl ?_
    refine ev_nx (s1 := (100, 39, [.ref l0, .int l1, .int l2, .int l3, .null], [.ref l0, .ref (sh.2.2.2 l0 4)], (sh, M, J))) f_100_38 rfl ?_
    refine ev_gd (s1 := (100, 42, [.ref l0, .int l1, .int l2, .int l3, .null], [.ref (sh.2.2.2 l0 1), .ref (sh.2.2.2 l0 4)], (sh, M, J))) f_100_39 rfl ?_
    exact ev_ca (cc := (decide ((sh.2.2.1 (sh.2.2.2 l0 4)).1 = 0) && true)) (s1 := (2, 0, [.ref (sh.2.2.2 l0 4), .ref (sh.2.2.2 l0 1)], [], (sh, M, J))) (k := (100, 45, [.ref l0, .int l1, .int l2, .int l3, .null], [])) f_100_42 rfl
  · refine ev_nx (s1 := (100, 33, [.ref l0, .int l1, .int l2, .int l3, .null], [.int (-1000000002)], (sh, M, J))) f_100_31 rfl ?_
    exact ev_r1 f_100_33 rfl
theorem b_C_dress_45 (sh : xSh) (M : Nat → Nat → Int32) (J : Nat → Nat → Int64) (l0 : Nat) (l1 : Int32) (l2 : Int32) (l3 : Int32) : ev (100, 45, [.ref l0, .int l1, .int l2, .int l3, .null], [], (sh, M, J)) = (bif decide ((sh.2.2.1 l0).1 = 8) then bif (decide ((sh.2.2.1 (sh.2.2.2 l0 1)).1 = 6) && true) then (ev (65, 0, [.ref (sh.2.2.2 l0 1), .int l1], [], (sh, M, J))).bind (fun r => ev (100, 53, [.ref l0, .int l1, .int l2, .int l3, .null], r.1.toList ++ [], r.2)) else none else none) := by
  refine ev_nx (s1 := (100, 46, [.ref l0, .int l1, .int l2, .int l3, .null], [.ref l0], (sh, M, J))) f_100_45 rfl ?_
  refine ev_gd (s1 := (100, 49, [.ref l0, .int l1, .int l2, .int l3, .null], [.ref (sh.2.2.2 l0 1)], (sh, M, J))) f_100_46 rfl ?_
  refine ev_nx (s1 := (100, 50, [.ref l0, .int l1, .int l2, .int l3, .null], [.int l1, .ref (sh.2.2.2 l0 1)], (sh, M, J))) f_100_49 rfl ?_
  exact ev_ca (cc := (decide ((sh.2.2.1 (sh.2.2.2 l0 1)).1 = 6) && true)) (s1 := (65, 0, [.ref (sh.2.2.2 l0 1), .int l1], [], (sh, M, J))) (k := (100, 53, [.ref l0, .int l1, .int l2, .int l3, .null], [])) f_100_50 rfl
theorem b_C_dress_53 (sh : xSh) (M : Nat → Nat → Int32) (J : Nat → Nat → Int64) (l0 : Nat) (l1 : Int32) (l2 : Int32) (l3 : Int32) (k0 : Int32) : ev (100, 53, [.ref l0, .int l1, .int l2, .int l3, .null], [.int k0], (sh, M, J)) = (bif decide ((sh.2.2.1 l0).1 = 8) then bif (decide ((sh.2.2.1 (sh.2.2.2 l0 1)).1 = 6) && true) then (ev (71, 0, [.ref (sh.2.2.2 l0 1), .int l1, .int l2, .int l3], [], (sh, M, J))).bind (fun r => ev (100, 65, [.ref l0, .int l1, .int l2, .int l3, .int k0], r.1.toList ++ [], r.2)) else none else none) := by
  refine ev_nx (s1 := (100, 55, [.ref l0, .int l1, .int l2, .int l3, .int k0], [], (sh, M, J))) f_100_53 rfl ?_
  refine ev_nx (s1 := (100, 56, [.ref l0, .int l1, .int l2, .int l3, .int k0], [.ref l0], (sh, M, J))) f_100_55 rfl ?_
  refine ev_gd (s1 := (100, 59, [.ref l0, .int l1, .int l2, .int l3, .int k0], [.ref (sh.2.2.2 l0 1)], (sh, M, J))) f_100_56 rfl ?_
  refine ev_nx (s1 := (100, 60, [.ref l0, .int l1, .int l2, .int l3, .int k0], [.int l1, .ref (sh.2.2.2 l0 1)], (sh, M, J))) f_100_59 rfl ?_
  refine ev_nx (s1 := (100, 61, [.ref l0, .int l1, .int l2, .int l3, .int k0], [.int l2, .int l1, .ref (sh.2.2.2 l0 1)], (sh, M, J))) f_100_60 rfl ?_
  refine ev_nx (s1 := (100, 62, [.ref l0, .int l1, .int l2, .int l3, .int k0], [.int l3, .int l2, .int l1, .ref (sh.2.2.2 l0 1)], (sh, M, J))) f_100_61 rfl ?_
  exact ev_ca (cc := (decide ((sh.2.2.1 (sh.2.2.2 l0 1)).1 = 6) && true)) (s1 := (71, 0, [.ref (sh.2.2.2 l0 1), .int l1, .int l2, .int l3], [], (sh, M, J))) (k := (100, 65, [.ref l0, .int l1, .int l2, .int l3, .int k0], [])) f_100_62 rfl
theorem b_C_dress_65 (sh : xSh) (M : Nat → Nat → Int32) (J : Nat → Nat → Int64) (l0 : Nat) (l1 : Int32) (l2 : Int32) (l3 : Int32) (l4 : Int32) : ev (100, 65, [.ref l0, .int l1, .int l2, .int l3, .int l4], [], (sh, M, J)) = (some (some (.int l4), (sh, M, J))) := by
  refine ev_nx (s1 := (100, 67, [.ref l0, .int l1, .int l2, .int l3, .int l4], [.int l4], (sh, M, J))) f_100_65 rfl ?_
  exact ev_r1 f_100_67 rfl
theorem f_101_0 : xfind (xnth xTs 101) 0 = some (0, .aload_n 0, 1, (0, 0, 0, 0), .null, [], 0, 0, []) := rfl
theorem f_101_1 : xfind (xnth xTs 101) 1 = some (1, .iload_n 1, 1, (0, 0, 0, 0), .null, [], 0, 0, []) := rfl
theorem f_101_2 : xfind (xnth xTs 101) 2 = some (2, .invokevirtual 194, 3, (121, 1, 8, 2), .null, [], 609, 0, []) := rfl
theorem f_101_5 : xfind (xnth xTs 101) 5 = some (5, .istore_n 2, 1, (0, 0, 0, 0), .null, [], 0, 0, []) := rfl
theorem f_101_6 : xfind (xnth xTs 101) 6 = some (6, .iload_n 2, 1, (0, 0, 0, 0), .null, [], 0, 0, []) := rfl
theorem f_101_7 : xfind (xnth xTs 101) 7 = some (7, .ifCond .eq 5, 3, (0, 0, 0, 0), .null, [], 0, 0, []) := rfl
theorem f_101_10 : xfind (xnth xTs 101) 10 = some (10, .iload_n 2, 1, (0, 0, 0, 0), .null, [], 0, 0, []) := rfl
theorem f_101_11 : xfind (xnth xTs 101) 11 = some (11, .ireturn, 1, (0, 0, 0, 0), .null, [], 0, 0, []) := rfl
theorem f_101_12 : xfind (xnth xTs 101) 12 = some (12, .aload_n 0, 1, (0, 0, 0, 0), .null, [], 0, 0, []) := rfl
theorem f_101_13 : xfind (xnth xTs 101) 13 = some (13, .getfield 36, 3, (8, 4, 1, 0), .null, [], 295, 0, []) := rfl
theorem f_101_16 : xfind (xnth xTs 101) 16 = some (16, .aload_n 0, 1, (0, 0, 0, 0), .null, [], 0, 0, []) := rfl
theorem f_101_17 : xfind (xnth xTs 101) 17 = some (17, .getfield 19, 3, (8, 1, 1, 0), .null, [], 292, 0, []) := rfl
theorem f_101_20 : xfind (xnth xTs 101) 20 = some (20, .invokevirtual 197, 3, (2, 1, 0, 2), .null, [], 616, 0, []) := rfl
theorem f_101_23 : xfind (xnth xTs 101) 23 = some (23, .iconst 0, 1, (0, 0, 0, 0), (.int 0), [], 0, 0, []) := rfl
theorem f_101_24 : xfind (xnth xTs 101) 24 = some (24, .istore_n 3, 1, (0, 0, 0, 0), .null, [], 0, 0, []) := rfl
theorem f_101_25 : xfind (xnth xTs 101) 25 = some (25, .iload_n 3, 1, (0, 0, 0, 0), .null, [], 0, 1, [2]) := rfl
theorem f_101_26 : xfind (xnth xTs 101) 26 = some (26, .iload_n 1, 1, (0, 0, 0, 0), .null, [], 0, 0, []) := rfl
theorem f_101_27 : xfind (xnth xTs 101) 27 = some (27, .if_icmp .ge 25, 3, (0, 0, 0, 0), .null, [], 0, 0, []) := rfl
theorem f_101_30 : xfind (xnth xTs 101) 30 = some (30, .aload_n 0, 1, (0, 0, 0, 0), .null, [], 0, 0, []) := rfl
theorem f_101_31 : xfind (xnth xTs 101) 31 = some (31, .invokevirtual 228, 3, (122, 0, 8, 3), .null, [], 670, 0, []) := rfl
theorem f_101_34 : xfind (xnth xTs 101) 34 = some (34, .aload_n 0, 1, (0, 0, 0, 0), .null, [], 0, 0, []) := rfl
theorem f_101_35 : xfind (xnth xTs 101) 35 = some (35, .getfield 19, 3, (8, 1, 1, 0), .null, [], 292, 0, []) := rfl
theorem f_101_38 : xfind (xnth xTs 101) 38 = some (38, .aload_n 0, 1, (0, 0, 0, 0), .null, [], 0, 0, []) := rfl
theorem f_101_39 : xfind (xnth xTs 101) 39 = some (39, .getfield 10, 3, (8, 0, 1, 0), .null, [], 291, 0, []) := rfl
theorem f_101_42 : xfind (xnth xTs 101) 42 = some (42, .invokevirtual 200, 3, (78, 1, 6, 4), .null, [], 622, 0, []) := rfl
theorem f_101_45 : xfind (xnth xTs 101) 45 = some (45, .pop, 1, (0, 0, 0, 0), .null, [], 0, 0, []) := rfl
theorem f_101_46 : xfind (xnth xTs 101) 46 = some (46, .iinc 3 1, 3, (0, 0, 0, 0), .null, [], 0, 0, []) := rfl
theorem f_101_49 : xfind (xnth xTs 101) 49 = some (49, .goto (-24), 3, (0, 0, 0, 0), .null, [], 0, 0, []) := rfl
theorem f_101_52 : xfind (xnth xTs 101) 52 = some (52, .aload_n 0, 1, (0, 0, 0, 0), .null, [], 0, 0, []) := rfl
theorem f_101_53 : xfind (xnth xTs 101) 53 = some (53, .getfield 19, 3, (8, 1, 1, 0), .null, [], 292, 0, []) := rfl
theorem f_101_56 : xfind (xnth xTs 101) 56 = some (56, .invokevirtual 120, 3, (59, 0, 6, 1), .null, [], 485, 0, []) := rfl
theorem f_101_59 : xfind (xnth xTs 101) 59 = some (59, .ireturn, 1, (0, 0, 0, 0), .null, [], 0, 0, []) := rfl
theorem hd_101_25 : xhead 101 25 = some [2] := rfl
theorem b_C_drift_0 (sh : xSh) (M : Nat → Nat → Int32) (J : Nat → Nat → Int64) (l0 : Nat) (l1 : Int32) : ev (101, 0, [.ref l0, .int l1, .null, .null], [], (sh, M, J)) = (bif (decide ((sh.2.2.1 l0).1 = 8) && true) then (ev (121, 0, [.ref l0, .int l1], [], (sh, M, J))).bind (fun r => ev (101, 5, [.ref l0, .int l1, .null, .null], r.1.toList ++ [], r.2)) else none) := by
  refine ev_nx (s1 := (101, 1, [.ref l0, .int l1, .null, .null], [.ref l0], (sh, M, J))) f_101_0 rfl ?_
  refine ev_nx (s1 := (101, 2, [.ref l0, .int l1, .null, .null], [.int l1, .ref l0], (sh, M, J))) f_101_1 rfl ?_
  exact ev_ca (cc := (decide ((sh.2.2.1 l0).1 = 8) && true)) (s1 := (121, 0, [.ref l0, .int l1], [], (sh, M, J))) (k := (101, 5, [.ref l0, .int l1, .null, .null], [])) f_101_2 rfl
theorem b_C_drift_5 (sh : xSh) (M : Nat → Nat → Int32) (J : Nat → Nat → Int64) (l0 : Nat) (l1 : Int32) (k0 : Int32) : ev (101, 5, [.ref l0, .int l1, .null, .null], [.int k0], (sh, M, J)) = (bif decide (k0 = 0) then bif decide ((sh.2.2.1 l0).1 = 8) then bif decide ((sh.2.2.1 l0).1 = 8) then bif (decide ((sh.2.2.1 (sh.2.2.2 l0 4)).1 = 0) && true) then (ev (2, 0, [.ref (sh.2.2.2 l0 4), .ref (sh.2.2.2 l0 1)], [], (sh, M, J))).bind (fun r => ev (101, 23, [.ref l0, .int l1, .int k0, .null], r.1.toList ++ [], r.2)) else none else none else none else some (some (.int k0), (sh, M, J))) := by
  refine ev_nx (s1 := (101, 6, [.ref l0, .int l1, .int k0, .null], [], (sh, M, J))) f_101_5 rfl ?_
  refine ev_nx (s1 := (101, 7, [.ref l0, .int l1, .int k0, .null], [.int k0], (sh, M, J))) f_101_6 rfl ?_
  refine ev_br (s1 := (101, 12, [.ref l0, .int l1, .int k0, .null], [], (sh, M, J))) (s2 := (101, 10, [.ref l0, .int l1, .int k0, .null], [], (sh, M, J))) f_101_7 rfl ?_ ?_
  · refine ev_nx (s1 := (101, 13, [.ref l0, .int l1, .int k0, .null], [.ref l0], (sh, M, J))) f_101_12 rfl ?_
    refine ev_gd (s1 := (101, 16, [.ref l0, .int l1, .int k0, .null], [.ref (sh.2.2.2 l0 4)], (sh, M, J))) f_101_13 rfl ?_
    refine ev_nx (s1 := (101, 17, [.ref l0, .int l1, .int k0, .null], [.ref l0, .ref (sh.2.2.2 l0 4)], (sh, M, J))) f_101_16 rfl ?_
    refine ev_gd (s1 := (101, 20, [.ref l0, .int l1, .int k0, .null], [.ref (sh.2.2.2 l0 1), .ref (sh.2.2.2 l0 4)], (sh, M, J))) f_101_17 rfl ?_
    exact ev_ca (cc := (decide ((sh.2.2.1 (sh.2.2.2 l0 4)).1 = 0) && true)) (s1 := (2, 0, [.ref (sh.2.2.2 l0 4), .ref (sh.2.2.2 l0 1)], [], (sh, M, J))) (k := (101, 23, [.ref l0, .int l1, .int k0, .null], [])) f_101_20 rfl
  · refine ev_nx (s1 := (101, 11, [.ref l0, .int l1, .int k0, .null], [.int k0], (sh, M, J))) f_101_10 rfl ?_
    exact ev_r1 f_101_11 rfl
theorem b_C_drift_23 (sh : xSh) (M : Nat → Nat → Int32) (J : Nat → Nat → Int64) (l0 : Nat) (l1 : Int32) (l2 : Int32) : ev (101, 23, [.ref l0, .int l1, .int l2, .null], [], (sh, M, J)) = (ev (101, 25, [.ref l0, .int l1, .null, .int 0], [], (sh, M, J))) := by
  refine ev_nx (s1 := (101, 24, [.ref l0, .int l1, .int l2, .null], [.int 0], (sh, M, J))) f_101_23 rfl ?_
  refine ev_nx (s1 := (101, 25, [.ref l0, .int l1, .int l2, .int 0], [], (sh, M, J))) f_101_24 rfl ?_
  exact (ev_kill hd_101_25).symm
theorem b_C_drift_25 (sh : xSh) (M : Nat → Nat → Int32) (J : Nat → Nat → Int64) (l0 : Nat) (l1 : Int32) (l3 : Int32) : ev (101, 25, [.ref l0, .int l1, .null, .int l3], [], (sh, M, J)) = (bif decide (l1 ≤ l3) then bif decide ((sh.2.2.1 l0).1 = 8) then bif (decide ((sh.2.2.1 (sh.2.2.2 l0 1)).1 = 6) && true) then (ev (59, 0, [.ref (sh.2.2.2 l0 1)], [], (sh, M, J))).bind (fun r => ev (101, 59, [.ref l0, .int l1, .null, .int l3], r.1.toList ++ [], r.2)) else none else none else bif (decide ((sh.2.2.1 l0).1 = 8) && true) then (ev (122, 0, [.ref l0, .null, .null], [], (sh, M, J))).bind (fun r => ev (101, 34, [.ref l0, .int l1, .null, .int l3], r.1.toList ++ [], r.2)) else none) := by
  refine ev_nx (s1 := (101, 26, [.ref l0, .int l1, .null, .int l3], [.int l3], (sh, M, J))) f_101_25 rfl ?_
  refine ev_nx (s1 := (101, 27, [.ref l0, .int l1, .null, .int l3], [.int l1, .int l3], (sh, M, J))) f_101_26 rfl ?_
  refine ev_br (s1 := (101, 52, [.ref l0, .int l1, .null, .int l3], [], (sh, M, J))) (s2 := (101, 30, [.ref l0, .int l1, .null, .int l3], [], (sh, M, J))) f_101_27 rfl ?_ ?_
  · refine ev_nx (s1 := (101, 53, [.ref l0, .int l1, .null, .int l3], [.ref l0], (sh, M, J))) f_101_52 rfl ?_
    refine ev_gd (s1 := (101, 56, [.ref l0, .int l1, .null, .int l3], [.ref (sh.2.2.2 l0 1)], (sh, M, J))) f_101_53 rfl ?_
    exact ev_ca (cc := (decide ((sh.2.2.1 (sh.2.2.2 l0 1)).1 = 6) && true)) (s1 := (59, 0, [.ref (sh.2.2.2 l0 1)], [], (sh, M, J))) (k := (101, 59, [.ref l0, .int l1, .null, .int l3], [])) f_101_56 rfl
  · refine ev_nx (s1 := (101, 31, [.ref l0, .int l1, .null, .int l3], [.ref l0], (sh, M, J))) f_101_30 rfl ?_
    exact ev_ca (cc := (decide ((sh.2.2.1 l0).1 = 8) && true)) (s1 := (122, 0, [.ref l0, .null, .null], [], (sh, M, J))) (k := (101, 34, [.ref l0, .int l1, .null, .int l3], [])) f_101_31 rfl
theorem b_C_drift_34 (sh : xSh) (M : Nat → Nat → Int32) (J : Nat → Nat → Int64) (l0 : Nat) (l1 : Int32) (l3 : Int32) : ev (101, 34, [.ref l0, .int l1, .null, .int l3], [], (sh, M, J)) = (bif decide ((sh.2.2.1 l0).1 = 8) then bif decide ((sh.2.2.1 l0).1 = 8) then bif (decide ((sh.2.2.1 (sh.2.2.2 l0 1)).1 = 6) && true) then (ev (78, 0, [.ref (sh.2.2.2 l0 1), .ref (sh.2.2.2 l0 0), .null, .null], [], (sh, M, J))).bind (fun r => ev (101, 45, [.ref l0, .int l1, .null, .int l3], r.1.toList ++ [], r.2)) else none else none else none) := by
  refine ev_nx (s1 := (101, 35, [.ref l0, .int l1, .null, .int l3], [.ref l0], (sh, M, J))) f_101_34 rfl ?_
  refine ev_gd (s1 := (101, 38, [.ref l0, .int l1, .null, .int l3], [.ref (sh.2.2.2 l0 1)], (sh, M, J))) f_101_35 rfl ?_
  refine ev_nx (s1 := (101, 39, [.ref l0, .int l1, .null, .int l3], [.ref l0, .ref (sh.2.2.2 l0 1)], (sh, M, J))) f_101_38 rfl ?_
  refine ev_gd (s1 := (101, 42, [.ref l0, .int l1, .null, .int l3], [.ref (sh.2.2.2 l0 0), .ref (sh.2.2.2 l0 1)], (sh, M, J))) f_101_39 rfl ?_
  exact ev_ca (cc := (decide ((sh.2.2.1 (sh.2.2.2 l0 1)).1 = 6) && true)) (s1 := (78, 0, [.ref (sh.2.2.2 l0 1), .ref (sh.2.2.2 l0 0), .null, .null], [], (sh, M, J))) (k := (101, 45, [.ref l0, .int l1, .null, .int l3], [])) f_101_42 rfl
theorem b_C_drift_45 (sh : xSh) (M : Nat → Nat → Int32) (J : Nat → Nat → Int64) (l0 : Nat) (l1 : Int32) (l3 : Int32) (k0 : Int32) : ev (101, 45, [.ref l0, .int l1, .null, .int l3], [.int k0], (sh, M, J)) = (ev (101, 25, [.ref l0, .int l1, .null, .int (l3 + 1)], [], (sh, M, J))) := by
  refine ev_nx (s1 := (101, 46, [.ref l0, .int l1, .null, .int l3], [], (sh, M, J))) f_101_45 rfl ?_
  refine ev_nx (s1 := (101, 49, [.ref l0, .int l1, .null, .int (l3 + 1)], [], (sh, M, J))) f_101_46 rfl ?_
  refine ev_nx (s1 := (101, 25, [.ref l0, .int l1, .null, .int (l3 + 1)], [], (sh, M, J))) f_101_49 rfl ?_
  exact rfl
theorem b_C_drift_59 (sh : xSh) (M : Nat → Nat → Int32) (J : Nat → Nat → Int64) (l0 : Nat) (l1 : Int32) (l3 : Int32) (k0 : Int32) : ev (101, 59, [.ref l0, .int l1, .null, .int l3], [.int k0], (sh, M, J)) = (some (some (.int k0), (sh, M, J))) := by
  exact ev_r1 f_101_59 rfl
theorem f_102_0 : xfind (xnth xTs 102) 0 = some (0, .aload_n 0, 1, (0, 0, 0, 0), .null, [], 0, 0, []) := rfl
theorem f_102_1 : xfind (xnth xTs 102) 1 = some (1, .getfield 36, 3, (8, 4, 1, 0), .null, [], 295, 0, []) := rfl
theorem f_102_4 : xfind (xnth xTs 102) 4 = some (4, .aload_n 0, 1, (0, 0, 0, 0), .null, [], 0, 0, []) := rfl
theorem f_102_5 : xfind (xnth xTs 102) 5 = some (5, .getfield 19, 3, (8, 1, 1, 0), .null, [], 292, 0, []) := rfl
theorem f_102_8 : xfind (xnth xTs 102) 8 = some (8, .invokevirtual 231, 3, (3, 1, 0, 2), .null, [], 686, 0, []) := rfl
theorem f_102_11 : xfind (xnth xTs 102) 11 = some (11, .ifCond .eq 13, 3, (0, 0, 0, 0), .null, [], 0, 0, []) := rfl
theorem f_102_14 : xfind (xnth xTs 102) 14 = some (14, .aload_n 0, 1, (0, 0, 0, 0), .null, [], 0, 0, []) := rfl
theorem f_102_15 : xfind (xnth xTs 102) 15 = some (15, .getfield 36, 3, (8, 4, 1, 0), .null, [], 295, 0, []) := rfl
theorem f_102_18 : xfind (xnth xTs 102) 18 = some (18, .getfield 142, 3, (0, 0, 0, 0), .null, [], 193, 0, []) := rfl
theorem f_102_21 : xfind (xnth xTs 102) 21 = some (21, .goto 5, 3, (0, 0, 0, 0), .null, [], 0, 0, []) := rfl
theorem f_102_24 : xfind (xnth xTs 102) 24 = some (24, .ldc 203, 2, (0, 0, 0, 0), (.int (-1000000003)), [], 615, 0, []) := rfl
theorem f_102_26 : xfind (xnth xTs 102) 26 = some (26, .ireturn, 1, (0, 0, 0, 0), .null, [], 0, 0, []) := rfl
theorem b_C_undo_0 (sh : xSh) (M : Nat → Nat → Int32) (J : Nat → Nat → Int64) (l0 : Nat) : ev (102, 0, [.ref l0], [], (sh, M, J)) = (bif decide ((sh.2.2.1 l0).1 = 8) then bif decide ((sh.2.2.1 l0).1 = 8) then bif (decide ((sh.2.2.1 (sh.2.2.2 l0 4)).1 = 0) && true) then (ev (3, 0, [.ref (sh.2.2.2 l0 4), .ref (sh.2.2.2 l0 1)], [], (sh, M, J))).bind (fun r => ev (102, 11, [.ref l0], r.1.toList ++ [], r.2)) else none else none else none) := by
  refine ev_nx (s1 := (102, 1, [.ref l0], [.ref l0], (sh, M, J))) f_102_0 rfl ?_
  refine ev_gd (s1 := (102, 4, [.ref l0], [.ref (sh.2.2.2 l0 4)], (sh, M, J))) f_102_1 rfl ?_
  refine ev_nx (s1 := (102, 5, [.ref l0], [.ref l0, .ref (sh.2.2.2 l0 4)], (sh, M, J))) f_102_4 rfl ?_
  refine ev_gd (s1 := (102, 8, [.ref l0], [.ref (sh.2.2.2 l0 1), .ref (sh.2.2.2 l0 4)], (sh, M, J))) f_102_5 rfl ?_
  exact ev_ca (cc := (decide ((sh.2.2.1 (sh.2.2.2 l0 4)).1 = 0) && true)) (s1 := (3, 0, [.ref (sh.2.2.2 l0 4), .ref (sh.2.2.2 l0 1)], [], (sh, M, J))) (k := (102, 11, [.ref l0], [])) f_102_8 rfl
theorem b_C_undo_11 (sh : xSh) (M : Nat → Nat → Int32) (J : Nat → Nat → Int64) (l0 : Nat) (k0 : Int32) : ev (102, 11, [.ref l0], [.int k0], (sh, M, J)) = (bif decide (k0 = 0) then some (some (.int (-1000000003)), (sh, M, J)) else bif decide ((sh.2.2.1 l0).1 = 8) then bif decide ((sh.2.2.1 (sh.2.2.2 l0 4)).1 = 0) then some (some (.int (M (sh.2.2.2 l0 4) 0)), (sh, M, J)) else none else none) := by
  refine ev_br (s1 := (102, 24, [.ref l0], [], (sh, M, J))) (s2 := (102, 14, [.ref l0], [], (sh, M, J))) f_102_11 rfl ?_ ?_
  · refine ev_nx (s1 := (102, 26, [.ref l0], [.int (-1000000003)], (sh, M, J))) f_102_24 rfl ?_
    exact ev_r1 f_102_26 rfl
  · refine ev_nx (s1 := (102, 15, [.ref l0], [.ref l0], (sh, M, J))) f_102_14 rfl ?_
    refine ev_gd (s1 := (102, 18, [.ref l0], [.ref (sh.2.2.2 l0 4)], (sh, M, J))) f_102_15 rfl ?_
    refine ev_gd (s1 := (102, 21, [.ref l0], [.int (M (sh.2.2.2 l0 4) 0)], (sh, M, J))) f_102_18 rfl ?_
    refine ev_nx (s1 := (102, 26, [.ref l0], [.int (M (sh.2.2.2 l0 4) 0)], (sh, M, J))) f_102_21 rfl ?_
    exact ev_r1 f_102_26 rfl
theorem f_103_0 : xfind (xnth xTs 103) 0 = some (0, .iload_n 1, 1, (0, 0, 0, 0), .null, [], 0, 0, []) := rfl
theorem f_103_1 : xfind (xnth xTs 103) 1 = some (1, .iconst 0, 1, (0, 0, 0, 0), (.int 0), [], 0, 0, []) := rfl
theorem f_103_2 : xfind (xnth xTs 103) 2 = some (2, .bipush 20, 2, (0, 0, 0, 0), (.int 20), [], 0, 0, []) := rfl
theorem f_103_4 : xfind (xnth xTs 103) 4 = some (4, .invokestatic 220, 3, (125, 3, 8, 3), .null, [], 613, 0, []) := rfl
theorem f_103_7 : xfind (xnth xTs 103) 7 = some (7, .ifCond .ne 6, 3, (0, 0, 0, 0), .null, [], 0, 0, []) := rfl
theorem f_103_10 : xfind (xnth xTs 103) 10 = some (10, .ldc 75, 2, (0, 0, 0, 0), (.int (-1000000002)), [], 329, 0, []) := rfl
theorem f_103_12 : xfind (xnth xTs 103) 12 = some (12, .ireturn, 1, (0, 0, 0, 0), .null, [], 0, 0, []) := rfl
theorem f_103_13 : xfind (xnth xTs 103) 13 = some (13, .aload_n 0, 1, (0, 0, 0, 0), .null, [], 0, 0, []) := rfl
theorem f_103_14 : xfind (xnth xTs 103) 14 = some (14, .getfield 23, 3, (8, 2, 1, 0), .null, [], 293, 0, []) := rfl
theorem f_103_17 : xfind (xnth xTs 103) 17 = some (17, .aload_n 0, 1, (0, 0, 0, 0), .null, [], 0, 0, []) := rfl
theorem f_103_18 : xfind (xnth xTs 103) 18 = some (18, .getfield 19, 3, (8, 1, 1, 0), .null, [], 292, 0, []) := rfl
theorem f_103_21 : xfind (xnth xTs 103) 21 = some (21, .invokevirtual 100, 3, (58, 1, 6, 2), .null, [], 454, 0, []) := rfl
theorem f_103_24 : xfind (xnth xTs 103) 24 = some (24, .iconst 0, 1, (0, 0, 0, 0), (.int 0), [], 0, 0, []) := rfl
theorem f_103_25 : xfind (xnth xTs 103) 25 = some (25, .istore_n 2, 1, (0, 0, 0, 0), .null, [], 0, 0, []) := rfl
theorem f_103_26 : xfind (xnth xTs 103) 26 = some (26, .iload_n 2, 1, (0, 0, 0, 0), .null, [], 0, 1, []) := rfl
theorem f_103_27 : xfind (xnth xTs 103) 27 = some (27, .iload_n 1, 1, (0, 0, 0, 0), .null, [], 0, 0, []) := rfl
theorem f_103_28 : xfind (xnth xTs 103) 28 = some (28, .if_icmp .ge 21, 3, (0, 0, 0, 0), .null, [], 0, 0, []) := rfl
theorem f_103_31 : xfind (xnth xTs 103) 31 = some (31, .aload_n 0, 1, (0, 0, 0, 0), .null, [], 0, 0, []) := rfl
theorem f_103_32 : xfind (xnth xTs 103) 32 = some (32, .getfield 23, 3, (8, 2, 1, 0), .null, [], 293, 0, []) := rfl
theorem f_103_35 : xfind (xnth xTs 103) 35 = some (35, .aload_n 0, 1, (0, 0, 0, 0), .null, [], 0, 0, []) := rfl
theorem f_103_36 : xfind (xnth xTs 103) 36 = some (36, .getfield 10, 3, (8, 0, 1, 0), .null, [], 291, 0, []) := rfl
theorem f_103_39 : xfind (xnth xTs 103) 39 = some (39, .invokevirtual 200, 3, (78, 1, 6, 4), .null, [], 622, 0, []) := rfl
theorem f_103_42 : xfind (xnth xTs 103) 42 = some (42, .pop, 1, (0, 0, 0, 0), .null, [], 0, 0, []) := rfl
theorem f_103_43 : xfind (xnth xTs 103) 43 = some (43, .iinc 2 1, 3, (0, 0, 0, 0), .null, [], 0, 0, []) := rfl
theorem f_103_46 : xfind (xnth xTs 103) 46 = some (46, .goto (-20), 3, (0, 0, 0, 0), .null, [], 0, 0, []) := rfl
theorem f_103_49 : xfind (xnth xTs 103) 49 = some (49, .aload_n 0, 1, (0, 0, 0, 0), .null, [], 0, 0, []) := rfl
theorem f_103_50 : xfind (xnth xTs 103) 50 = some (50, .getfield 23, 3, (8, 2, 1, 0), .null, [], 293, 0, []) := rfl
theorem f_103_53 : xfind (xnth xTs 103) 53 = some (53, .aload_n 0, 1, (0, 0, 0, 0), .null, [], 0, 0, []) := rfl
theorem f_103_54 : xfind (xnth xTs 103) 54 = some (54, .getfield 10, 3, (8, 0, 1, 0), .null, [], 291, 0, []) := rfl
theorem f_103_57 : xfind (xnth xTs 103) 57 = some (57, .invokevirtual 123, 3, (76, 1, 6, 5), .null, [], 486, 0, []) := rfl
theorem f_103_60 : xfind (xnth xTs 103) 60 = some (60, .ireturn, 1, (0, 0, 0, 0), .null, [], 0, 0, []) := rfl
theorem hd_103_26 : xhead 103 26 = some [] := rfl
theorem b_C_who_0 (sh : xSh) (M : Nat → Nat → Int32) (J : Nat → Nat → Int64) (l0 : Nat) (l1 : Int32) : ev (103, 0, [.ref l0, .int l1, .null], [], (sh, M, J)) = ((ev (125, 0, [.int l1, .int 0, .int 20], [], (sh, M, J))).bind (fun r => ev (103, 7, [.ref l0, .int l1, .null], r.1.toList ++ [], r.2))) := by
  refine ev_nx (s1 := (103, 1, [.ref l0, .int l1, .null], [.int l1], (sh, M, J))) f_103_0 rfl ?_
  refine ev_nx (s1 := (103, 2, [.ref l0, .int l1, .null], [.int 0, .int l1], (sh, M, J))) f_103_1 rfl ?_
  refine ev_nx (s1 := (103, 4, [.ref l0, .int l1, .null], [.int 20, .int 0, .int l1], (sh, M, J))) f_103_2 rfl ?_
  exact ev_c1 (s1 := (125, 0, [.int l1, .int 0, .int 20], [], (sh, M, J))) (k := (103, 7, [.ref l0, .int l1, .null], [])) f_103_4 rfl
theorem b_C_who_7 (sh : xSh) (M : Nat → Nat → Int32) (J : Nat → Nat → Int64) (l0 : Nat) (l1 : Int32) (k0 : Int32) : ev (103, 7, [.ref l0, .int l1, .null], [.int k0], (sh, M, J)) = (bif !decide (k0 = 0) then bif decide ((sh.2.2.1 l0).1 = 8) then bif decide ((sh.2.2.1 l0).1 = 8) then bif (decide ((sh.2.2.1 (sh.2.2.2 l0 2)).1 = 6) && true) then (ev (58, 0, [.ref (sh.2.2.2 l0 2), .ref (sh.2.2.2 l0 1)], [], (sh, M, J))).bind (fun r => ev (103, 24, [.ref l0, .int l1, .null], r.1.toList ++ [], r.2)) else none else none else none else some (some (.int (-1000000002)), (sh, M, J))) := by
  refine ev_br (s1 := (103, 13, [.ref l0, .int l1, .null], [], (sh, M, J))) (s2 := (103, 10, [.ref l0, .int l1, .null], [], (sh, M, J))) f_103_7 rfl ?_ ?_
  · refine ev_nx (s1 := (103, 14, [.ref l0, .int l1, .null], [.ref l0], (sh, M, J))) f_103_13 rfl ?_
    refine ev_gd (s1 := (103, 17, [.ref l0, .int l1, .null], [.ref (sh.2.2.2 l0 2)], (sh, M, J))) f_103_14 rfl ?_
    refine ev_nx (s1 := (103, 18, [.ref l0, .int l1, .null], [.ref l0, .ref (sh.2.2.2 l0 2)], (sh, M, J))) f_103_17 rfl ?_
    refine ev_gd (s1 := (103, 21, [.ref l0, .int l1, .null], [.ref (sh.2.2.2 l0 1), .ref (sh.2.2.2 l0 2)], (sh, M, J))) f_103_18 rfl ?_
    exact ev_ca (cc := (decide ((sh.2.2.1 (sh.2.2.2 l0 2)).1 = 6) && true)) (s1 := (58, 0, [.ref (sh.2.2.2 l0 2), .ref (sh.2.2.2 l0 1)], [], (sh, M, J))) (k := (103, 24, [.ref l0, .int l1, .null], [])) f_103_21 rfl
  · refine ev_nx (s1 := (103, 12, [.ref l0, .int l1, .null], [.int (-1000000002)], (sh, M, J))) f_103_10 rfl ?_
    exact ev_r1 f_103_12 rfl
theorem b_C_who_24 (sh : xSh) (M : Nat → Nat → Int32) (J : Nat → Nat → Int64) (l0 : Nat) (l1 : Int32) : ev (103, 24, [.ref l0, .int l1, .null], [], (sh, M, J)) = (ev (103, 26, [.ref l0, .int l1, .int 0], [], (sh, M, J))) := by
  refine ev_nx (s1 := (103, 25, [.ref l0, .int l1, .null], [.int 0], (sh, M, J))) f_103_24 rfl ?_
  refine ev_nx (s1 := (103, 26, [.ref l0, .int l1, .int 0], [], (sh, M, J))) f_103_25 rfl ?_
  exact rfl
theorem b_C_who_26 (sh : xSh) (M : Nat → Nat → Int32) (J : Nat → Nat → Int64) (l0 : Nat) (l1 : Int32) (l2 : Int32) : ev (103, 26, [.ref l0, .int l1, .int l2], [], (sh, M, J)) = (bif decide (l1 ≤ l2) then bif decide ((sh.2.2.1 l0).1 = 8) then bif decide ((sh.2.2.1 l0).1 = 8) then bif (decide ((sh.2.2.1 (sh.2.2.2 l0 2)).1 = 6) && true) then (ev (76, 0, [.ref (sh.2.2.2 l0 2), .ref (sh.2.2.2 l0 0), .null, .null, .null], [], (sh, M, J))).bind (fun r => ev (103, 60, [.ref l0, .int l1, .int l2], r.1.toList ++ [], r.2)) else none else none else none else bif decide ((sh.2.2.1 l0).1 = 8) then bif decide ((sh.2.2.1 l0).1 = 8) then bif (decide ((sh.2.2.1 (sh.2.2.2 l0 2)).1 = 6) && true) then (ev (78, 0, [.ref (sh.2.2.2 l0 2), .ref (sh.2.2.2 l0 0), .null, .null], [], (sh, M, J))).bind (fun r => ev (103, 42, [.ref l0, .int l1, .int l2], r.1.toList ++ [], r.2)) else none else none else none) := by
  refine ev_nx (s1 := (103, 27, [.ref l0, .int l1, .int l2], [.int l2], (sh, M, J))) f_103_26 rfl ?_
  refine ev_nx (s1 := (103, 28, [.ref l0, .int l1, .int l2], [.int l1, .int l2], (sh, M, J))) f_103_27 rfl ?_
  refine ev_br (s1 := (103, 49, [.ref l0, .int l1, .int l2], [], (sh, M, J))) (s2 := (103, 31, [.ref l0, .int l1, .int l2], [], (sh, M, J))) f_103_28 rfl ?_ ?_
  · refine ev_nx (s1 := (103, 50, [.ref l0, .int l1, .int l2], [.ref l0], (sh, M, J))) f_103_49 rfl ?_
    refine ev_gd (s1 := (103, 53, [.ref l0, .int l1, .int l2], [.ref (sh.2.2.2 l0 2)], (sh, M, J))) f_103_50 rfl ?_
    refine ev_nx (s1 := (103, 54, [.ref l0, .int l1, .int l2], [.ref l0, .ref (sh.2.2.2 l0 2)], (sh, M, J))) f_103_53 rfl ?_
    refine ev_gd (s1 := (103, 57, [.ref l0, .int l1, .int l2], [.ref (sh.2.2.2 l0 0), .ref (sh.2.2.2 l0 2)], (sh, M, J))) f_103_54 rfl ?_
    exact ev_ca (cc := (decide ((sh.2.2.1 (sh.2.2.2 l0 2)).1 = 6) && true)) (s1 := (76, 0, [.ref (sh.2.2.2 l0 2), .ref (sh.2.2.2 l0 0), .null, .null, .null], [], (sh, M, J))) (k := (103, 60, [.ref l0, .int l1, .int l2], [])) f_103_57 rfl
  · refine ev_nx (s1 := (103, 32, [.ref l0, .int l1, .int l2], [.ref l0], (sh, M, J))) f_103_31 rfl ?_
    refine ev_gd (s1 := (103, 35, [.ref l0, .int l1, .int l2], [.ref (sh.2.2.2 l0 2)], (sh, M, J))) f_103_32 rfl ?_
    refine ev_nx (s1 := (103, 36, [.ref l0, .int l1, .int l2], [.ref l0, .ref (sh.2.2.2 l0 2)], (sh, M, J))) f_103_35 rfl ?_
    refine ev_gd (s1 := (103, 39, [.ref l0, .int l1, .int l2], [.ref (sh.2.2.2 l0 0), .ref (sh.2.2.2 l0 2)], (sh, M, J))) f_103_36 rfl ?_
    exact ev_ca (cc := (decide ((sh.2.2.1 (sh.2.2.2 l0 2)).1 = 6) && true)) (s1 := (78, 0, [.ref (sh.2.2.2 l0 2), .ref (sh.2.2.2 l0 0), .null, .null], [], (sh, M, J))) (k := (103, 42, [.ref l0, .int l1, .int l2], [])) f_103_39 rfl
theorem b_C_who_42 (sh : xSh) (M : Nat → Nat → Int32) (J : Nat → Nat → Int64) (l0 : Nat) (l1 : Int32) (l2 : Int32) (k0 : Int32) : ev (103, 42, [.ref l0, .int l1, .int l2], [.int k0], (sh, M, J)) = (ev (103, 26, [.ref l0, .int l1, .int (l2 + 1)], [], (sh, M, J))) := by
  refine ev_nx (s1 := (103, 43, [.ref l0, .int l1, .int l2], [], (sh, M, J))) f_103_42 rfl ?_
  refine ev_nx (s1 := (103, 46, [.ref l0, .int l1, .int (l2 + 1)], [], (sh, M, J))) f_103_43 rfl ?_
  refine ev_nx (s1 := (103, 26, [.ref l0, .int l1, .int (l2 + 1)], [], (sh, M, J))) f_103_46 rfl ?_
  exact rfl
theorem b_C_who_60 (sh : xSh) (M : Nat → Nat → Int32) (J : Nat → Nat → Int64) (l0 : Nat) (l1 : Int32) (l2 : Int32) (k0 : Int32) : ev (103, 60, [.ref l0, .int l1, .int l2], [.int k0], (sh, M, J)) = (some (some (.int k0), (sh, M, J))) := by
  exact ev_r1 f_103_60 rfl
theorem f_104_0 : xfind (xnth xTs 104) 0 = some (0, .aload_n 0, 1, (0, 0, 0, 0), .null, [], 0, 0, []) := rfl
theorem f_104_1 : xfind (xnth xTs 104) 1 = some (1, .getfield 23, 3, (8, 2, 1, 0), .null, [], 293, 0, []) := rfl
theorem f_104_4 : xfind (xnth xTs 104) 4 = some (4, .aload_n 0, 1, (0, 0, 0, 0), .null, [], 0, 0, []) := rfl
theorem f_104_5 : xfind (xnth xTs 104) 5 = some (5, .getfield 19, 3, (8, 1, 1, 0), .null, [], 292, 0, []) := rfl
theorem f_104_8 : xfind (xnth xTs 104) 8 = some (8, .invokevirtual 100, 3, (58, 1, 6, 2), .null, [], 454, 0, []) := rfl
theorem f_104_11 : xfind (xnth xTs 104) 11 = some (11, .iconst 0, 1, (0, 0, 0, 0), (.int 0), [], 0, 0, []) := rfl
theorem f_104_12 : xfind (xnth xTs 104) 12 = some (12, .istore_n 1, 1, (0, 0, 0, 0), .null, [], 0, 0, []) := rfl
theorem f_104_13 : xfind (xnth xTs 104) 13 = some (13, .iload_n 1, 1, (0, 0, 0, 0), .null, [], 0, 1, []) := rfl
theorem f_104_14 : xfind (xnth xTs 104) 14 = some (14, .bipush 40, 2, (0, 0, 0, 0), (.int 40), [], 0, 0, []) := rfl
theorem f_104_16 : xfind (xnth xTs 104) 16 = some (16, .if_icmp .gt 33, 3, (0, 0, 0, 0), .null, [], 0, 0, []) := rfl
theorem f_104_19 : xfind (xnth xTs 104) 19 = some (19, .aload_n 0, 1, (0, 0, 0, 0), .null, [], 0, 0, []) := rfl
theorem f_104_20 : xfind (xnth xTs 104) 20 = some (20, .getfield 23, 3, (8, 2, 1, 0), .null, [], 293, 0, []) := rfl
theorem f_104_23 : xfind (xnth xTs 104) 23 = some (23, .invokevirtual 120, 3, (59, 0, 6, 1), .null, [], 485, 0, []) := rfl
theorem f_104_26 : xfind (xnth xTs 104) 26 = some (26, .ifCond .ne 5, 3, (0, 0, 0, 0), .null, [], 0, 0, []) := rfl
theorem f_104_29 : xfind (xnth xTs 104) 29 = some (29, .iload_n 1, 1, (0, 0, 0, 0), .null, [], 0, 0, []) := rfl
theorem f_104_30 : xfind (xnth xTs 104) 30 = some (30, .ireturn, 1, (0, 0, 0, 0), .null, [], 0, 0, []) := rfl
theorem f_104_31 : xfind (xnth xTs 104) 31 = some (31, .aload_n 0, 1, (0, 0, 0, 0), .null, [], 0, 0, []) := rfl
theorem f_104_32 : xfind (xnth xTs 104) 32 = some (32, .getfield 23, 3, (8, 2, 1, 0), .null, [], 293, 0, []) := rfl
theorem f_104_35 : xfind (xnth xTs 104) 35 = some (35, .aload_n 0, 1, (0, 0, 0, 0), .null, [], 0, 0, []) := rfl
theorem f_104_36 : xfind (xnth xTs 104) 36 = some (36, .getfield 10, 3, (8, 0, 1, 0), .null, [], 291, 0, []) := rfl
theorem f_104_39 : xfind (xnth xTs 104) 39 = some (39, .invokevirtual 200, 3, (78, 1, 6, 4), .null, [], 622, 0, []) := rfl
theorem f_104_42 : xfind (xnth xTs 104) 42 = some (42, .pop, 1, (0, 0, 0, 0), .null, [], 0, 0, []) := rfl
theorem f_104_43 : xfind (xnth xTs 104) 43 = some (43, .iinc 1 1, 3, (0, 0, 0, 0), .null, [], 0, 0, []) := rfl
theorem f_104_46 : xfind (xnth xTs 104) 46 = some (46, .goto (-33), 3, (0, 0, 0, 0), .null, [], 0, 0, []) := rfl
theorem f_104_49 : xfind (xnth xTs 104) 49 = some (49, .iconst (-1), 1, (0, 0, 0, 0), (.int (-1)), [], 0, 0, []) := rfl
theorem f_104_50 : xfind (xnth xTs 104) 50 = some (50, .ireturn, 1, (0, 0, 0, 0), .null, [], 0, 0, []) := rfl
theorem hd_104_13 : xhead 104 13 = some [] := rfl
theorem b_C_wholeBy_0 (sh : xSh) (M : Nat → Nat → Int32) (J : Nat → Nat → Int64) (l0 : Nat) : ev (104, 0, [.ref l0, .null], [], (sh, M, J)) = (bif decide ((sh.2.2.1 l0).1 = 8) then bif decide ((sh.2.2.1 l0).1 = 8) then bif (decide ((sh.2.2.1 (sh.2.2.2 l0 2)).1 = 6) && true) then (ev (58, 0, [.ref (sh.2.2.2 l0 2), .ref (sh.2.2.2 l0 1)], [], (sh, M, J))).bind (fun r => ev (104, 11, [.ref l0, .null], r.1.toList ++ [], r.2)) else none else none else none) := by
  refine ev_nx (s1 := (104, 1, [.ref l0, .null], [.ref l0], (sh, M, J))) f_104_0 rfl ?_
  refine ev_gd (s1 := (104, 4, [.ref l0, .null], [.ref (sh.2.2.2 l0 2)], (sh, M, J))) f_104_1 rfl ?_
  refine ev_nx (s1 := (104, 5, [.ref l0, .null], [.ref l0, .ref (sh.2.2.2 l0 2)], (sh, M, J))) f_104_4 rfl ?_
  refine ev_gd (s1 := (104, 8, [.ref l0, .null], [.ref (sh.2.2.2 l0 1), .ref (sh.2.2.2 l0 2)], (sh, M, J))) f_104_5 rfl ?_
  exact ev_ca (cc := (decide ((sh.2.2.1 (sh.2.2.2 l0 2)).1 = 6) && true)) (s1 := (58, 0, [.ref (sh.2.2.2 l0 2), .ref (sh.2.2.2 l0 1)], [], (sh, M, J))) (k := (104, 11, [.ref l0, .null], [])) f_104_8 rfl
theorem b_C_wholeBy_11 (sh : xSh) (M : Nat → Nat → Int32) (J : Nat → Nat → Int64) (l0 : Nat) : ev (104, 11, [.ref l0, .null], [], (sh, M, J)) = (ev (104, 13, [.ref l0, .int 0], [], (sh, M, J))) := by
  refine ev_nx (s1 := (104, 12, [.ref l0, .null], [.int 0], (sh, M, J))) f_104_11 rfl ?_
  refine ev_nx (s1 := (104, 13, [.ref l0, .int 0], [], (sh, M, J))) f_104_12 rfl ?_
  exact rfl
theorem b_C_wholeBy_13 (sh : xSh) (M : Nat → Nat → Int32) (J : Nat → Nat → Int64) (l0 : Nat) (l1 : Int32) : ev (104, 13, [.ref l0, .int l1], [], (sh, M, J)) = (bif decide (40 < l1) then some (some (.int (-1)), (sh, M, J)) else bif decide ((sh.2.2.1 l0).1 = 8) then bif (decide ((sh.2.2.1 (sh.2.2.2 l0 2)).1 = 6) && true) then (ev (59, 0, [.ref (sh.2.2.2 l0 2)], [], (sh, M, J))).bind (fun r => ev (104, 26, [.ref l0, .int l1], r.1.toList ++ [], r.2)) else none else none) := by
  refine ev_nx (s1 := (104, 14, [.ref l0, .int l1], [.int l1], (sh, M, J))) f_104_13 rfl ?_
  refine ev_nx (s1 := (104, 16, [.ref l0, .int l1], [.int 40, .int l1], (sh, M, J))) f_104_14 rfl ?_
  refine ev_br (s1 := (104, 49, [.ref l0, .int l1], [], (sh, M, J))) (s2 := (104, 19, [.ref l0, .int l1], [], (sh, M, J))) f_104_16 rfl ?_ ?_
  · refine ev_nx (s1 := (104, 50, [.ref l0, .int l1], [.int (-1)], (sh, M, J))) f_104_49 rfl ?_
    exact ev_r1 f_104_50 rfl
  · refine ev_nx (s1 := (104, 20, [.ref l0, .int l1], [.ref l0], (sh, M, J))) f_104_19 rfl ?_
    refine ev_gd (s1 := (104, 23, [.ref l0, .int l1], [.ref (sh.2.2.2 l0 2)], (sh, M, J))) f_104_20 rfl ?_
    exact ev_ca (cc := (decide ((sh.2.2.1 (sh.2.2.2 l0 2)).1 = 6) && true)) (s1 := (59, 0, [.ref (sh.2.2.2 l0 2)], [], (sh, M, J))) (k := (104, 26, [.ref l0, .int l1], [])) f_104_23 rfl
theorem b_C_wholeBy_26 (sh : xSh) (M : Nat → Nat → Int32) (J : Nat → Nat → Int64) (l0 : Nat) (l1 : Int32) (k0 : Int32) : ev (104, 26, [.ref l0, .int l1], [.int k0], (sh, M, J)) = (bif !decide (k0 = 0) then bif decide ((sh.2.2.1 l0).1 = 8) then bif decide ((sh.2.2.1 l0).1 = 8) then bif (decide ((sh.2.2.1 (sh.2.2.2 l0 2)).1 = 6) && true) then (ev (78, 0, [.ref (sh.2.2.2 l0 2), .ref (sh.2.2.2 l0 0), .null, .null], [], (sh, M, J))).bind (fun r => ev (104, 42, [.ref l0, .int l1], r.1.toList ++ [], r.2)) else none else none else none else some (some (.int l1), (sh, M, J))) := by
  refine ev_br (s1 := (104, 31, [.ref l0, .int l1], [], (sh, M, J))) (s2 := (104, 29, [.ref l0, .int l1], [], (sh, M, J))) f_104_26 rfl ?_ ?_
  · refine ev_nx (s1 := (104, 32, [.ref l0, .int l1], [.ref l0], (sh, M, J))) f_104_31 rfl ?_
    refine ev_gd (s1 := (104, 35, [.ref l0, .int l1], [.ref (sh.2.2.2 l0 2)], (sh, M, J))) f_104_32 rfl ?_
    refine ev_nx (s1 := (104, 36, [.ref l0, .int l1], [.ref l0, .ref (sh.2.2.2 l0 2)], (sh, M, J))) f_104_35 rfl ?_
    refine ev_gd (s1 := (104, 39, [.ref l0, .int l1], [.ref (sh.2.2.2 l0 0), .ref (sh.2.2.2 l0 2)], (sh, M, J))) f_104_36 rfl ?_
    exact ev_ca (cc := (decide ((sh.2.2.1 (sh.2.2.2 l0 2)).1 = 6) && true)) (s1 := (78, 0, [.ref (sh.2.2.2 l0 2), .ref (sh.2.2.2 l0 0), .null, .null], [], (sh, M, J))) (k := (104, 42, [.ref l0, .int l1], [])) f_104_39 rfl
  · refine ev_nx (s1 := (104, 30, [.ref l0, .int l1], [.int l1], (sh, M, J))) f_104_29 rfl ?_
    exact ev_r1 f_104_30 rfl
theorem b_C_wholeBy_42 (sh : xSh) (M : Nat → Nat → Int32) (J : Nat → Nat → Int64) (l0 : Nat) (l1 : Int32) (k0 : Int32) : ev (104, 42, [.ref l0, .int l1], [.int k0], (sh, M, J)) = (ev (104, 13, [.ref l0, .int (l1 + 1)], [], (sh, M, J))) := by
  refine ev_nx (s1 := (104, 43, [.ref l0, .int l1], [], (sh, M, J))) f_104_42 rfl ?_
  refine ev_nx (s1 := (104, 46, [.ref l0, .int (l1 + 1)], [], (sh, M, J))) f_104_43 rfl ?_
  refine ev_nx (s1 := (104, 13, [.ref l0, .int (l1 + 1)], [], (sh, M, J))) f_104_46 rfl ?_
  exact rfl
theorem f_105_0 : xfind (xnth xTs 105) 0 = some (0, .aload_n 0, 1, (0, 0, 0, 0), .null, [], 0, 0, []) := rfl
theorem f_105_1 : xfind (xnth xTs 105) 1 = some (1, .getfield 10, 3, (8, 0, 1, 0), .null, [], 291, 0, []) := rfl
theorem f_105_4 : xfind (xnth xTs 105) 4 = some (4, .iload_n 1, 1, (0, 0, 0, 0), .null, [], 0, 0, []) := rfl
theorem f_105_5 : xfind (xnth xTs 105) 5 = some (5, .invokevirtual 176, 3, (16, 1, 1, 2), .null, [], 590, 0, []) := rfl
theorem f_105_8 : xfind (xnth xTs 105) 8 = some (8, .ifCond .eq 19, 3, (0, 0, 0, 0), .null, [], 0, 0, []) := rfl
theorem f_105_11 : xfind (xnth xTs 105) 11 = some (11, .iload_n 3, 1, (0, 0, 0, 0), .null, [], 0, 0, []) := rfl
theorem f_105_12 : xfind (xnth xTs 105) 12 = some (12, .iconst (-1), 1, (0, 0, 0, 0), (.int (-1)), [], 0, 0, []) := rfl
theorem f_105_13 : xfind (xnth xTs 105) 13 = some (13, .if_icmp .eq 17, 3, (0, 0, 0, 0), .null, [], 0, 0, []) := rfl
theorem f_105_16 : xfind (xnth xTs 105) 16 = some (16, .aload_n 0, 1, (0, 0, 0, 0), .null, [], 0, 0, []) := rfl
theorem f_105_17 : xfind (xnth xTs 105) 17 = some (17, .getfield 10, 3, (8, 0, 1, 0), .null, [], 291, 0, []) := rfl
theorem f_105_20 : xfind (xnth xTs 105) 20 = some (20, .iload_n 3, 1, (0, 0, 0, 0), .null, [], 0, 0, []) := rfl
theorem f_105_21 : xfind (xnth xTs 105) 21 = some (21, .invokevirtual 176, 3, (16, 1, 1, 2), .null, [], 590, 0, []) := rfl
theorem f_105_24 : xfind (xnth xTs 105) 24 = some (24, .ifCond .ne 6, 3, (0, 0, 0, 0), .null, [], 0, 0, []) := rfl
theorem f_105_27 : xfind (xnth xTs 105) 27 = some (27, .ldc 148, 2, (0, 0, 0, 0), (.int (-1000000001)), [], 556, 0, []) := rfl
theorem f_105_29 : xfind (xnth xTs 105) 29 = some (29, .ireturn, 1, (0, 0, 0, 0), .null, [], 0, 0, []) := rfl
theorem f_105_30 : xfind (xnth xTs 105) 30 = some (30, .iload_n 2, 1, (0, 0, 0, 0), .null, [], 0, 0, []) := rfl
theorem f_105_31 : xfind (xnth xTs 105) 31 = some (31, .iconst 1, 1, (0, 0, 0, 0), (.int 1), [], 0, 0, []) := rfl
theorem f_105_32 : xfind (xnth xTs 105) 32 = some (32, .bipush 20, 2, (0, 0, 0, 0), (.int 20), [], 0, 0, []) := rfl
theorem f_105_34 : xfind (xnth xTs 105) 34 = some (34, .invokestatic 220, 3, (125, 3, 8, 3), .null, [], 613, 0, []) := rfl
theorem f_105_37 : xfind (xnth xTs 105) 37 = some (37, .ifCond .ne 6, 3, (0, 0, 0, 0), .null, [], 0, 0, []) := rfl
theorem f_105_40 : xfind (xnth xTs 105) 40 = some (40, .ldc 75, 2, (0, 0, 0, 0), (.int (-1000000002)), [], 329, 0, []) := rfl
theorem f_105_42 : xfind (xnth xTs 105) 42 = some (42, .ireturn, 1, (0, 0, 0, 0), .null, [], 0, 0, []) := rfl
theorem f_105_43 : xfind (xnth xTs 105) 43 = some (43, .aload_n 0, 1, (0, 0, 0, 0), .null, [], 0, 0, []) := rfl
theorem f_105_44 : xfind (xnth xTs 105) 44 = some (44, .getfield 57, 3, (8, 7, 1, 0), .null, [], 298, 0, []) := rfl
theorem f_105_47 : xfind (xnth xTs 105) 47 = some (47, .aload_n 0, 1, (0, 0, 0, 0), .null, [], 0, 0, []) := rfl
theorem f_105_48 : xfind (xnth xTs 105) 48 = some (48, .getfield 10, 3, (8, 0, 1, 0), .null, [], 291, 0, []) := rfl
theorem f_105_51 : xfind (xnth xTs 105) 51 = some (51, .aload_n 0, 1, (0, 0, 0, 0), .null, [], 0, 0, []) := rfl
theorem f_105_52 : xfind (xnth xTs 105) 52 = some (52, .getfield 19, 3, (8, 1, 1, 0), .null, [], 292, 0, []) := rfl
theorem f_105_55 : xfind (xnth xTs 105) 55 = some (55, .iload_n 1, 1, (0, 0, 0, 0), .null, [], 0, 0, []) := rfl
theorem f_105_56 : xfind (xnth xTs 105) 56 = some (56, .iload_n 2, 1, (0, 0, 0, 0), .null, [], 0, 0, []) := rfl
theorem f_105_57 : xfind (xnth xTs 105) 57 = some (57, .invokevirtual 235, 3, (36, 4, 4, 8), .null, [], 702, 0, []) := rfl
theorem f_105_60 : xfind (xnth xTs 105) 60 = some (60, .iload_n 3, 1, (0, 0, 0, 0), .null, [], 0, 0, []) := rfl
theorem f_105_61 : xfind (xnth xTs 105) 61 = some (61, .iconst (-1), 1, (0, 0, 0, 0), (.int (-1)), [], 0, 0, []) := rfl
theorem f_105_62 : xfind (xnth xTs 105) 62 = some (62, .if_icmp .eq 14, 3, (0, 0, 0, 0), .null, [], 0, 0, []) := rfl
theorem f_105_65 : xfind (xnth xTs 105) 65 = some (65, .aload_n 0, 1, (0, 0, 0, 0), .null, [], 0, 0, []) := rfl
theorem f_105_66 : xfind (xnth xTs 105) 66 = some (66, .getfield 57, 3, (8, 7, 1, 0), .null, [], 298, 0, []) := rfl
theorem f_105_69 : xfind (xnth xTs 105) 69 = some (69, .getfield 239, 3, (4, 0, 0, 0), .null, [], 255, 0, []) := rfl
theorem f_105_72 : xfind (xnth xTs 105) 72 = some (72, .iconst (-1), 1, (0, 0, 0, 0), (.int (-1)), [], 0, 0, []) := rfl
theorem f_105_73 : xfind (xnth xTs 105) 73 = some (73, .if_icmp .ne 11, 3, (0, 0, 0, 0), .null, [], 0, 0, []) := rfl
theorem f_105_76 : xfind (xnth xTs 105) 76 = some (76, .aload_n 0, 1, (0, 0, 0, 0), .null, [], 0, 0, []) := rfl
theorem f_105_77 : xfind (xnth xTs 105) 77 = some (77, .getfield 57, 3, (8, 7, 1, 0), .null, [], 298, 0, []) := rfl
theorem f_105_80 : xfind (xnth xTs 105) 80 = some (80, .getfield 239, 3, (4, 0, 0, 0), .null, [], 255, 0, []) := rfl
theorem f_105_83 : xfind (xnth xTs 105) 83 = some (83, .ireturn, 1, (0, 0, 0, 0), .null, [], 0, 0, []) := rfl
theorem f_105_84 : xfind (xnth xTs 105) 84 = some (84, .aload_n 0, 1, (0, 0, 0, 0), .null, [], 0, 0, []) := rfl
theorem f_105_85 : xfind (xnth xTs 105) 85 = some (85, .getfield 57, 3, (8, 7, 1, 0), .null, [], 298, 0, []) := rfl
theorem f_105_88 : xfind (xnth xTs 105) 88 = some (88, .getfield 242, 3, (4, 1, 1, 0), .null, [], 257, 0, []) := rfl
theorem f_105_91 : xfind (xnth xTs 105) 91 = some (91, .iload_n 3, 1, (0, 0, 0, 0), .null, [], 0, 0, []) := rfl
theorem f_105_92 : xfind (xnth xTs 105) 92 = some (92, .invokestatic 246, 3, (129, 2, 8, 2), .null, [], 738, 0, []) := rfl
theorem f_105_95 : xfind (xnth xTs 105) 95 = some (95, .ireturn, 1, (0, 0, 0, 0), .null, [], 0, 0, []) := rfl
theorem b_C_stands_0 (sh : xSh) (M : Nat → Nat → Int32) (J : Nat → Nat → Int64) (l0 : Nat) (l1 : Int32) (l2 : Int32) (l3 : Int32) : ev (105, 0, [.ref l0, .int l1, .int l2, .int l3], [], (sh, M, J)) = (bif decide ((sh.2.2.1 l0).1 = 8) then bif (decide ((sh.2.2.1 (sh.2.2.2 l0 0)).1 = 1) && true) then (ev (16, 0, [.ref (sh.2.2.2 l0 0), .int l1], [], (sh, M, J))).bind (fun r => ev (105, 8, [.ref l0, .int l1, .int l2, .int l3], r.1.toList ++ [], r.2)) else none else none) := by
  refine ev_nx (s1 := (105, 1, [.ref l0, .int l1, .int l2, .int l3], [.ref l0], (sh, M, J))) f_105_0 rfl ?_
  refine ev_gd (s1 := (105, 4, [.ref l0, .int l1, .int l2, .int l3], [.ref (sh.2.2.2 l0 0)], (sh, M, J))) f_105_1 rfl ?_
  refine ev_nx (s1 := (105, 5, [.ref l0, .int l1, .int l2, .int l3], [.int l1, .ref (sh.2.2.2 l0 0)], (sh, M, J))) f_105_4 rfl ?_
  exact ev_ca (cc := (decide ((sh.2.2.1 (sh.2.2.2 l0 0)).1 = 1) && true)) (s1 := (16, 0, [.ref (sh.2.2.2 l0 0), .int l1], [], (sh, M, J))) (k := (105, 8, [.ref l0, .int l1, .int l2, .int l3], [])) f_105_5 rfl
theorem b_C_stands_8 (sh : xSh) (M : Nat → Nat → Int32) (J : Nat → Nat → Int64) (l0 : Nat) (l1 : Int32) (l2 : Int32) (l3 : Int32) (k0 : Int32) : ev (105, 8, [.ref l0, .int l1, .int l2, .int l3], [.int k0], (sh, M, J)) = (bif decide (k0 = 0) then some (some (.int (-1000000001)), (sh, M, J)) else bif decide (l3 = (-1)) then (ev (125, 0, [.int l2, .int 1, .int 20], [], (sh, M, J))).bind (fun r => ev (105, 37, [.ref l0, .int l1, .int l2, .int l3], r.1.toList ++ [], r.2)) else bif decide ((sh.2.2.1 l0).1 = 8) then bif (decide ((sh.2.2.1 (sh.2.2.2 l0 0)).1 = 1) && true) then (ev (16, 0, [.ref (sh.2.2.2 l0 0), .int l3], [], (sh, M, J))).bind (fun r => ev (105, 24, [.ref l0, .int l1, .int l2, .int l3], r.1.toList ++ [], r.2)) else none else none) := by
  refine ev_br (s1 := (105, 27, [.ref l0, .int l1, .int l2, .int l3], [], (sh, M, J))) (s2 := (105, 11, [.ref l0, .int l1, .int l2, .int l3], [], (sh, M, J))) f_105_8 rfl ?_ ?_
  · refine ev_nx (s1 := (105, 29, [.ref l0, .int l1, .int l2, .int l3], [.int (-1000000001)], (sh, M, J))) f_105_27 rfl ?_
    exact ev_r1 f_105_29 rfl
  · refine ev_nx (s1 := (105, 12, [.ref l0, .int l1, .int l2, .int l3], [.int l3], (sh, M, J))) f_105_11 rfl ?_
    refine ev_nx (s1 := (105, 13, [.ref l0, .int l1, .int l2, .int l3], [.int (-1), .int l3], (sh, M, J))) f_105_12 rfl ?_
    refine ev_br (s1 := (105, 30, [.ref l0, .int l1, .int l2, .int l3], [], (sh, M, J))) (s2 := (105, 16, [.ref l0, .int l1, .int l2, .int l3], [], (sh, M, J))) f_105_13 rfl ?_ ?_
    · refine ev_nx (s1 := (105, 31, [.ref l0, .int l1, .int l2, .int l3], [.int l2], (sh, M, J))) f_105_30 rfl ?_
      refine ev_nx (s1 := (105, 32, [.ref l0, .int l1, .int l2, .int l3], [.int 1, .int l2], (sh, M, J))) f_105_31 rfl ?_
      refine ev_nx (s1 := (105, 34, [.ref l0, .int l1, .int l2, .int l3], [.int 20, .int 1, .int l2], (sh, M, J))) f_105_32 rfl ?_
      exact ev_c1 (s1 := (125, 0, [.int l2, .int 1, .int 20], [], (sh, M, J))) (k := (105, 37, [.ref l0, .int l1, .int l2, .int l3], [])) f_105_34 rfl
    · refine ev_nx (s1 := (105, 17, [.ref l0, .int l1, .int l2, .int l3], [.ref l0], (sh, M, J))) f_105_16 rfl ?_
      refine ev_gd (s1 := (105, 20, [.ref l0, .int l1, .int l2, .int l3], [.ref (sh.2.2.2 l0 0)], (sh, M, J))) f_105_17 rfl ?_
      refine ev_nx (s1 := (105, 21, [.ref l0, .int l1, .int l2, .int l3], [.int l3, .ref (sh.2.2.2 l0 0)], (sh, M, J))) f_105_20 rfl ?_
      exact ev_ca (cc := (decide ((sh.2.2.1 (sh.2.2.2 l0 0)).1 = 1) && true)) (s1 := (16, 0, [.ref (sh.2.2.2 l0 0), .int l3], [], (sh, M, J))) (k := (105, 24, [.ref l0, .int l1, .int l2, .int l3], [])) f_105_21 rfl
theorem b_C_stands_24 (sh : xSh) (M : Nat → Nat → Int32) (J : Nat → Nat → Int64) (l0 : Nat) (l1 : Int32) (l2 : Int32) (l3 : Int32) (k0 : Int32) : ev (105, 24, [.ref l0, .int l1, .int l2, .int l3], [.int k0], (sh, M, J)) = (bif !decide (k0 = 0) then (ev (125, 0, [.int l2, .int 1, .int 20], [], (sh, M, J))).bind (fun r => ev (105, 37, [.ref l0, .int l1, .int l2, .int l3], r.1.toList ++ [], r.2)) else some (some (.int (-1000000001)), (sh, M, J))) := by
  refine ev_br (s1 := (105, 30, [.ref l0, .int l1, .int l2, .int l3], [], (sh, M, J))) (s2 := (105, 27, [.ref l0, .int l1, .int l2, .int l3], [], (sh, M, J))) f_105_24 rfl ?_ ?_
  · refine ev_nx (s1 := (105, 31, [.ref l0, .int l1, .int l2, .int l3], [.int l2], (sh, M, J))) f_105_30 rfl ?_
    refine ev_nx (s1 := (105, 32, [.ref l0, .int l1, .int l2, .int l3], [.int 1, .int l2], (sh, M, J))) f_105_31 rfl ?_
    refine ev_nx (s1 := (105, 34, [.ref l0, .int l1, .int l2, .int l3], [.int 20, .int 1, .int l2], (sh, M, J))) f_105_32 rfl ?_
    exact ev_c1 (s1 := (125, 0, [.int l2, .int 1, .int 20], [], (sh, M, J))) (k := (105, 37, [.ref l0, .int l1, .int l2, .int l3], [])) f_105_34 rfl
  · refine ev_nx (s1 := (105, 29, [.ref l0, .int l1, .int l2, .int l3], [.int (-1000000001)], (sh, M, J))) f_105_27 rfl ?_
    exact ev_r1 f_105_29 rfl
theorem b_C_stands_37 (sh : xSh) (M : Nat → Nat → Int32) (J : Nat → Nat → Int64) (l0 : Nat) (l1 : Int32) (l2 : Int32) (l3 : Int32) (k0 : Int32) : ev (105, 37, [.ref l0, .int l1, .int l2, .int l3], [.int k0], (sh, M, J)) = (bif !decide (k0 = 0) then bif decide ((sh.2.2.1 l0).1 = 8) then bif decide ((sh.2.2.1 l0).1 = 8) then bif decide ((sh.2.2.1 l0).1 = 8) then bif (decide ((sh.2.2.1 (sh.2.2.2 l0 7)).1 = 4) && true) then (ev (36, 0, [.ref (sh.2.2.2 l0 7), .ref (sh.2.2.2 l0 0), .ref (sh.2.2.2 l0 1), .int l1, .int l2, .null, .null, .null], [], (sh, M, J))).bind (fun r => ev (105, 60, [.ref l0, .int l1, .int l2, .int l3], r.1.toList ++ [], r.2)) else none else none else none else none else some (some (.int (-1000000002)), (sh, M, J))) := by
  refine ev_br (s1 := (105, 43, [.ref l0, .int l1, .int l2, .int l3], [], (sh, M, J))) (s2 := (105, 40, [.ref l0, .int l1, .int l2, .int l3], [], (sh, M, J))) f_105_37 rfl ?_ ?_
  · refine ev_nx (s1 := (105, 44, [.ref l0, .int l1, .int l2, .int l3], [.ref l0], (sh, M, J))) f_105_43 rfl ?_
    refine ev_gd (s1 := (105, 47, [.ref l0, .int l1, .int l2, .int l3], [.ref (sh.2.2.2 l0 7)], (sh, M, J))) f_105_44 rfl ?_
    refine ev_nx (s1 := (105, 48, [.ref l0, .int l1, .int l2, .int l3], [.ref l0, .ref (sh.2.2.2 l0 7)], (sh, M, J))) f_105_47 rfl ?_
    refine ev_gd (s1 := (105, 51, [.ref l0, .int l1, .int l2, .int l3], [.ref (sh.2.2.2 l0 0), .ref (sh.2.2.2 l0 7)], (sh, M, J))) f_105_48 rfl ?_
    refine ev_nx (s1 := (105, 52, [.ref l0, .int l1, .int l2, .int l3], [.ref l0, .ref (sh.2.2.2 l0 0), .ref (sh.2.2.2 l0 7)], (sh, M, J))) f_105_51 rfl ?_
    refine ev_gd (s1 := (105, 55, [.ref l0, .int l1, .int l2, .int l3], [.ref (sh.2.2.2 l0 1), .ref (sh.2.2.2 l0 0), .ref (sh.2.2.2 l0 7)], (sh, M, J))) f_105_52 rfl ?_
    refine ev_nx (s1 := (105, 56, [.ref l0, .int l1, .int l2, .int l3], [.int l1, .ref (sh.2.2.2 l0 1), .ref (sh.2.2.2 l0 0), .ref (sh.2.2.2 l0 7)], (sh, M, J))) f_105_55 rfl ?_
    refine ev_nx (s1 := (105, 57, [.ref l0, .int l1, .int l2, .int l3], [.int l2, .int l1, .ref (sh.2.2.2 l0 1), .ref (sh.2.2.2 l0 0), .ref (sh.2.2.2 l0 7)], (sh, M, J))) f_105_56 rfl ?_
    exact ev_ca (cc := (decide ((sh.2.2.1 (sh.2.2.2 l0 7)).1 = 4) && true)) (s1 := (36, 0, [.ref (sh.2.2.2 l0 7), .ref (sh.2.2.2 l0 0), .ref (sh.2.2.2 l0 1), .int l1, .int l2, .null, .null, .null], [], (sh, M, J))) (k := (105, 60, [.ref l0, .int l1, .int l2, .int l3], [])) f_105_57 rfl
  · refine ev_nx (s1 := (105, 42, [.ref l0, .int l1, .int l2, .int l3], [.int (-1000000002)], (sh, M, J))) f_105_40 rfl ?_
    exact ev_r1 f_105_42 rfl
theorem b_C_stands_60 (sh : xSh) (M : Nat → Nat → Int32) (J : Nat → Nat → Int64) (l0 : Nat) (l1 : Int32) (l2 : Int32) (l3 : Int32) : ev (105, 60, [.ref l0, .int l1, .int l2, .int l3], [], (sh, M, J)) = (bif decide (l3 = (-1)) then bif decide ((sh.2.2.1 l0).1 = 8) then bif decide ((sh.2.2.1 (sh.2.2.2 l0 7)).1 = 4) then some (some (.int (M (sh.2.2.2 l0 7) 0)), (sh, M, J)) else none else none else bif decide ((sh.2.2.1 l0).1 = 8) then bif decide ((sh.2.2.1 (sh.2.2.2 l0 7)).1 = 4) then bif !decide ((M (sh.2.2.2 l0 7) 0) = (-1)) then bif decide ((sh.2.2.1 l0).1 = 8) then bif decide ((sh.2.2.1 (sh.2.2.2 l0 7)).1 = 4) then (ev (129, 0, [.ref (sh.2.2.2 (sh.2.2.2 l0 7) 1), .int l3], [], (sh, M, J))).bind (fun r => ev (105, 95, [.ref l0, .int l1, .int l2, .int l3], r.1.toList ++ [], r.2)) else none else none else bif decide ((sh.2.2.1 l0).1 = 8) then bif decide ((sh.2.2.1 (sh.2.2.2 l0 7)).1 = 4) then some (some (.int (M (sh.2.2.2 l0 7) 0)), (sh, M, J)) else none else none else none else none) := by
  refine ev_nx (s1 := (105, 61, [.ref l0, .int l1, .int l2, .int l3], [.int l3], (sh, M, J))) f_105_60 rfl ?_
  refine ev_nx (s1 := (105, 62, [.ref l0, .int l1, .int l2, .int l3], [.int (-1), .int l3], (sh, M, J))) f_105_61 rfl ?_
  refine ev_br (s1 := (105, 76, [.ref l0, .int l1, .int l2, .int l3], [], (sh, M, J))) (s2 := (105, 65, [.ref l0, .int l1, .int l2, .int l3], [], (sh, M, J))) f_105_62 rfl ?_ ?_
  · refine ev_nx (s1 := (105, 77, [.ref l0, .int l1, .int l2, .int l3], [.ref l0], (sh, M, J))) f_105_76 rfl ?_
    refine ev_gd (s1 := (105, 80, [.ref l0, .int l1, .int l2, .int l3], [.ref (sh.2.2.2 l0 7)], (sh, M, J))) f_105_77 rfl ?_
    refine ev_gd (s1 := (105, 83, [.ref l0, .int l1, .int l2, .int l3], [.int (M (sh.2.2.2 l0 7) 0)], (sh, M, J))) f_105_80 rfl ?_
    exact ev_r1 f_105_83 rfl
  · refine ev_nx (s1 := (105, 66, [.ref l0, .int l1, .int l2, .int l3], [.ref l0], (sh, M, J))) f_105_65 rfl ?_
    refine ev_gd (s1 := (105, 69, [.ref l0, .int l1, .int l2, .int l3], [.ref (sh.2.2.2 l0 7)], (sh, M, J))) f_105_66 rfl ?_
    refine ev_gd (s1 := (105, 72, [.ref l0, .int l1, .int l2, .int l3], [.int (M (sh.2.2.2 l0 7) 0)], (sh, M, J))) f_105_69 rfl ?_
    refine ev_nx (s1 := (105, 73, [.ref l0, .int l1, .int l2, .int l3], [.int (-1), .int (M (sh.2.2.2 l0 7) 0)], (sh, M, J))) f_105_72 rfl ?_
    refine ev_br (s1 := (105, 84, [.ref l0, .int l1, .int l2, .int l3], [], (sh, M, J))) (s2 := (105, 76, [.ref l0, .int l1, .int l2, .int l3], [], (sh, M, J))) f_105_73 rfl ?_ ?_
    · refine ev_nx (s1 := (105, 85, [.ref l0, .int l1, .int l2, .int l3], [.ref l0], (sh, M, J))) f_105_84 rfl ?_
      refine ev_gd (s1 := (105, 88, [.ref l0, .int l1, .int l2, .int l3], [.ref (sh.2.2.2 l0 7)], (sh, M, J))) f_105_85 rfl ?_
      refine ev_gd (s1 := (105, 91, [.ref l0, .int l1, .int l2, .int l3], [.ref (sh.2.2.2 (sh.2.2.2 l0 7) 1)], (sh, M, J))) f_105_88 rfl ?_
      refine ev_nx (s1 := (105, 92, [.ref l0, .int l1, .int l2, .int l3], [.int l3, .ref (sh.2.2.2 (sh.2.2.2 l0 7) 1)], (sh, M, J))) f_105_91 rfl ?_
      exact ev_c1 (s1 := (129, 0, [.ref (sh.2.2.2 (sh.2.2.2 l0 7) 1), .int l3], [], (sh, M, J))) (k := (105, 95, [.ref l0, .int l1, .int l2, .int l3], [])) f_105_92 rfl
    · refine ev_nx (s1 := (105, 77, [.ref l0, .int l1, .int l2, .int l3], [.ref l0], (sh, M, J))) f_105_76 rfl ?_
      refine ev_gd (s1 := (105, 80, [.ref l0, .int l1, .int l2, .int l3], [.ref (sh.2.2.2 l0 7)], (sh, M, J))) f_105_77 rfl ?_
      refine ev_gd (s1 := (105, 83, [.ref l0, .int l1, .int l2, .int l3], [.int (M (sh.2.2.2 l0 7) 0)], (sh, M, J))) f_105_80 rfl ?_
      exact ev_r1 f_105_83 rfl
theorem b_C_stands_95 (sh : xSh) (M : Nat → Nat → Int32) (J : Nat → Nat → Int64) (l0 : Nat) (l1 : Int32) (l2 : Int32) (l3 : Int32) (k0 : Int32) : ev (105, 95, [.ref l0, .int l1, .int l2, .int l3], [.int k0], (sh, M, J)) = (some (some (.int k0), (sh, M, J))) := by
  exact ev_r1 f_105_95 rfl
theorem f_106_0 : xfind (xnth xTs 106) 0 = some (0, .aload_n 0, 1, (0, 0, 0, 0), .null, [], 0, 0, []) := rfl
theorem f_106_1 : xfind (xnth xTs 106) 1 = some (1, .getfield 19, 3, (8, 1, 1, 0), .null, [], 292, 0, []) := rfl
theorem f_106_4 : xfind (xnth xTs 106) 4 = some (4, .aload_n 0, 1, (0, 0, 0, 0), .null, [], 0, 0, []) := rfl
theorem f_106_5 : xfind (xnth xTs 106) 5 = some (5, .getfield 10, 3, (8, 0, 1, 0), .null, [], 291, 0, []) := rfl
theorem f_106_8 : xfind (xnth xTs 106) 8 = some (8, .invokevirtual 133, 3, (75, 1, 6, 2), .null, [], 542, 0, []) := rfl
theorem f_106_11 : xfind (xnth xTs 106) 11 = some (11, .istore_n 1, 1, (0, 0, 0, 0), .null, [], 0, 0, []) := rfl
theorem f_106_12 : xfind (xnth xTs 106) 12 = some (12, .iconst 0, 1, (0, 0, 0, 0), (.int 0), [], 0, 0, []) := rfl
theorem f_106_13 : xfind (xnth xTs 106) 13 = some (13, .istore_n 2, 1, (0, 0, 0, 0), .null, [], 0, 0, []) := rfl
theorem f_106_14 : xfind (xnth xTs 106) 14 = some (14, .iconst 0, 1, (0, 0, 0, 0), (.int 0), [], 0, 0, []) := rfl
theorem f_106_15 : xfind (xnth xTs 106) 15 = some (15, .istore_n 3, 1, (0, 0, 0, 0), .null, [], 0, 0, []) := rfl
theorem f_106_16 : xfind (xnth xTs 106) 16 = some (16, .iload_n 3, 1, (0, 0, 0, 0), .null, [], 0, 1, []) := rfl
theorem f_106_17 : xfind (xnth xTs 106) 17 = some (17, .aload_n 0, 1, (0, 0, 0, 0), .null, [], 0, 0, []) := rfl
theorem f_106_18 : xfind (xnth xTs 106) 18 = some (18, .getfield 10, 3, (8, 0, 1, 0), .null, [], 291, 0, []) := rfl
theorem f_106_21 : xfind (xnth xTs 106) 21 = some (21, .invokevirtual 250, 3, (13, 0, 1, 1), .null, [], 614, 0, []) := rfl
theorem f_106_24 : xfind (xnth xTs 106) 24 = some (24, .if_icmp .ge 46, 3, (0, 0, 0, 0), .null, [], 0, 0, []) := rfl
theorem f_106_27 : xfind (xnth xTs 106) 27 = some (27, .aload_n 0, 1, (0, 0, 0, 0), .null, [], 0, 0, []) := rfl
theorem f_106_28 : xfind (xnth xTs 106) 28 = some (28, .getfield 19, 3, (8, 1, 1, 0), .null, [], 292, 0, []) := rfl
theorem f_106_31 : xfind (xnth xTs 106) 31 = some (31, .invokevirtual 120, 3, (59, 0, 6, 1), .null, [], 485, 0, []) := rfl
theorem f_106_34 : xfind (xnth xTs 106) 34 = some (34, .iload_n 3, 1, (0, 0, 0, 0), .null, [], 0, 0, []) := rfl
theorem f_106_35 : xfind (xnth xTs 106) 35 = some (35, .invokestatic 153, 3, (127, 2, 8, 2), .null, [], 558, 0, []) := rfl
theorem f_106_38 : xfind (xnth xTs 106) 38 = some (38, .ifCond .eq 26, 3, (0, 0, 0, 0), .null, [], 0, 0, []) := rfl
theorem f_106_41 : xfind (xnth xTs 106) 41 = some (41, .aload_n 0, 1, (0, 0, 0, 0), .null, [], 0, 0, []) := rfl
theorem f_106_42 : xfind (xnth xTs 106) 42 = some (42, .getfield 10, 3, (8, 0, 1, 0), .null, [], 291, 0, []) := rfl
theorem f_106_45 : xfind (xnth xTs 106) 45 = some (45, .iload_n 3, 1, (0, 0, 0, 0), .null, [], 0, 0, []) := rfl
theorem f_106_46 : xfind (xnth xTs 106) 46 = some (46, .iload_n 1, 1, (0, 0, 0, 0), .null, [], 0, 0, []) := rfl
theorem f_106_47 : xfind (xnth xTs 106) 47 = some (47, .invokevirtual 160, 3, (21, 2, 1, 3), .null, [], 563, 0, []) := rfl
theorem f_106_50 : xfind (xnth xTs 106) 50 = some (50, .iconst 0, 1, (0, 0, 0, 0), (.int 0), [], 0, 0, []) := rfl
theorem f_106_51 : xfind (xnth xTs 106) 51 = some (51, .iconst 3, 1, (0, 0, 0, 0), (.int 3), [], 0, 0, []) := rfl
theorem f_106_52 : xfind (xnth xTs 106) 52 = some (52, .invokestatic 220, 3, (125, 3, 8, 3), .null, [], 613, 0, []) := rfl
theorem f_106_55 : xfind (xnth xTs 106) 55 = some (55, .ifCond .ne 9, 3, (0, 0, 0, 0), .null, [], 0, 0, []) := rfl
theorem f_106_58 : xfind (xnth xTs 106) 58 = some (58, .iload_n 2, 1, (0, 0, 0, 0), .null, [], 0, 0, []) := rfl
theorem f_106_59 : xfind (xnth xTs 106) 59 = some (59, .iconst 1, 1, (0, 0, 0, 0), (.int 1), [], 0, 0, []) := rfl
theorem f_106_60 : xfind (xnth xTs 106) 60 = some (60, .iload_n 3, 1, (0, 0, 0, 0), .null, [], 0, 0, []) := rfl
theorem f_106_61 : xfind (xnth xTs 106) 61 = some (61, .ishl, 1, (0, 0, 0, 0), .null, [], 0, 0, []) := rfl
theorem f_106_62 : xfind (xnth xTs 106) 62 = some (62, .ior, 1, (0, 0, 0, 0), .null, [], 0, 0, []) := rfl
theorem f_106_63 : xfind (xnth xTs 106) 63 = some (63, .istore_n 2, 1, (0, 0, 0, 0), .null, [], 0, 0, []) := rfl
theorem f_106_64 : xfind (xnth xTs 106) 64 = some (64, .iinc 3 1, 3, (0, 0, 0, 0), .null, [], 0, 0, []) := rfl
theorem f_106_67 : xfind (xnth xTs 106) 67 = some (67, .goto (-51), 3, (0, 0, 0, 0), .null, [], 0, 0, []) := rfl
theorem f_106_70 : xfind (xnth xTs 106) 70 = some (70, .iload_n 2, 1, (0, 0, 0, 0), .null, [], 0, 0, []) := rfl
theorem f_106_71 : xfind (xnth xTs 106) 71 = some (71, .ireturn, 1, (0, 0, 0, 0), .null, [], 0, 0, []) := rfl
theorem hd_106_16 : xhead 106 16 = some [] := rfl
theorem b_C_hidden_0 (sh : xSh) (M : Nat → Nat → Int32) (J : Nat → Nat → Int64) (l0 : Nat) : ev (106, 0, [.ref l0, .null, .null, .null], [], (sh, M, J)) = (bif decide ((sh.2.2.1 l0).1 = 8) then bif decide ((sh.2.2.1 l0).1 = 8) then bif (decide ((sh.2.2.1 (sh.2.2.2 l0 1)).1 = 6) && true) then (ev (75, 0, [.ref (sh.2.2.2 l0 1), .ref (sh.2.2.2 l0 0)], [], (sh, M, J))).bind (fun r => ev (106, 11, [.ref l0, .null, .null, .null], r.1.toList ++ [], r.2)) else none else none else none) := by
  refine ev_nx (s1 := (106, 1, [.ref l0, .null, .null, .null], [.ref l0], (sh, M, J))) f_106_0 rfl ?_
  refine ev_gd (s1 := (106, 4, [.ref l0, .null, .null, .null], [.ref (sh.2.2.2 l0 1)], (sh, M, J))) f_106_1 rfl ?_
  refine ev_nx (s1 := (106, 5, [.ref l0, .null, .null, .null], [.ref l0, .ref (sh.2.2.2 l0 1)], (sh, M, J))) f_106_4 rfl ?_
  refine ev_gd (s1 := (106, 8, [.ref l0, .null, .null, .null], [.ref (sh.2.2.2 l0 0), .ref (sh.2.2.2 l0 1)], (sh, M, J))) f_106_5 rfl ?_
  exact ev_ca (cc := (decide ((sh.2.2.1 (sh.2.2.2 l0 1)).1 = 6) && true)) (s1 := (75, 0, [.ref (sh.2.2.2 l0 1), .ref (sh.2.2.2 l0 0)], [], (sh, M, J))) (k := (106, 11, [.ref l0, .null, .null, .null], [])) f_106_8 rfl
theorem b_C_hidden_11 (sh : xSh) (M : Nat → Nat → Int32) (J : Nat → Nat → Int64) (l0 : Nat) (k0 : Int32) : ev (106, 11, [.ref l0, .null, .null, .null], [.int k0], (sh, M, J)) = (ev (106, 16, [.ref l0, .int k0, .int 0, .int 0], [], (sh, M, J))) := by
  refine ev_nx (s1 := (106, 12, [.ref l0, .int k0, .null, .null], [], (sh, M, J))) f_106_11 rfl ?_
  refine ev_nx (s1 := (106, 13, [.ref l0, .int k0, .null, .null], [.int 0], (sh, M, J))) f_106_12 rfl ?_
  refine ev_nx (s1 := (106, 14, [.ref l0, .int k0, .int 0, .null], [], (sh, M, J))) f_106_13 rfl ?_
  refine ev_nx (s1 := (106, 15, [.ref l0, .int k0, .int 0, .null], [.int 0], (sh, M, J))) f_106_14 rfl ?_
  refine ev_nx (s1 := (106, 16, [.ref l0, .int k0, .int 0, .int 0], [], (sh, M, J))) f_106_15 rfl ?_
  exact rfl
theorem b_C_hidden_16 (sh : xSh) (M : Nat → Nat → Int32) (J : Nat → Nat → Int64) (l0 : Nat) (l1 : Int32) (l2 : Int32) (l3 : Int32) : ev (106, 16, [.ref l0, .int l1, .int l2, .int l3], [], (sh, M, J)) = (bif decide ((sh.2.2.1 l0).1 = 8) then bif (decide ((sh.2.2.1 (sh.2.2.2 l0 0)).1 = 1) && true) then (ev (13, 0, [.ref (sh.2.2.2 l0 0)], [], (sh, M, J))).bind (fun r => ev (106, 24, [.ref l0, .int l1, .int l2, .int l3], r.1.toList ++ [.int l3], r.2)) else none else none) := by
  refine ev_nx (s1 := (106, 17, [.ref l0, .int l1, .int l2, .int l3], [.int l3], (sh, M, J))) f_106_16 rfl ?_
  refine ev_nx (s1 := (106, 18, [.ref l0, .int l1, .int l2, .int l3], [.ref l0, .int l3], (sh, M, J))) f_106_17 rfl ?_
  refine ev_gd (s1 := (106, 21, [.ref l0, .int l1, .int l2, .int l3], [.ref (sh.2.2.2 l0 0), .int l3], (sh, M, J))) f_106_18 rfl ?_
  exact ev_ca (cc := (decide ((sh.2.2.1 (sh.2.2.2 l0 0)).1 = 1) && true)) (s1 := (13, 0, [.ref (sh.2.2.2 l0 0)], [], (sh, M, J))) (k := (106, 24, [.ref l0, .int l1, .int l2, .int l3], [.int l3])) f_106_21 rfl
theorem b_C_hidden_24 (sh : xSh) (M : Nat → Nat → Int32) (J : Nat → Nat → Int64) (l0 : Nat) (l1 : Int32) (l2 : Int32) (l3 : Int32) (k0 : Int32) (k1 : Int32) : ev (106, 24, [.ref l0, .int l1, .int l2, .int l3], [.int k0, .int k1], (sh, M, J)) = (bif decide (k0 ≤ k1) then some (some (.int l2), (sh, M, J)) else bif decide ((sh.2.2.1 l0).1 = 8) then bif (decide ((sh.2.2.1 (sh.2.2.2 l0 1)).1 = 6) && true) then (ev (59, 0, [.ref (sh.2.2.2 l0 1)], [], (sh, M, J))).bind (fun r => ev (106, 34, [.ref l0, .int l1, .int l2, .int l3], r.1.toList ++ [], r.2)) else none else none) := by
  refine ev_br (s1 := (106, 70, [.ref l0, .int l1, .int l2, .int l3], [], (sh, M, J))) (s2 := (106, 27, [.ref l0, .int l1, .int l2, .int l3], [], (sh, M, J))) f_106_24 rfl ?_ ?_
  · refine ev_nx (s1 := (106, 71, [.ref l0, .int l1, .int l2, .int l3], [.int l2], (sh, M, J))) f_106_70 rfl ?_
    exact ev_r1 f_106_71 rfl
  · refine ev_nx (s1 := (106, 28, [.ref l0, .int l1, .int l2, .int l3], [.ref l0], (sh, M, J))) f_106_27 rfl ?_
    refine ev_gd (s1 := (106, 31, [.ref l0, .int l1, .int l2, .int l3], [.ref (sh.2.2.2 l0 1)], (sh, M, J))) f_106_28 rfl ?_
    exact ev_ca (cc := (decide ((sh.2.2.1 (sh.2.2.2 l0 1)).1 = 6) && true)) (s1 := (59, 0, [.ref (sh.2.2.2 l0 1)], [], (sh, M, J))) (k := (106, 34, [.ref l0, .int l1, .int l2, .int l3], [])) f_106_31 rfl
theorem b_C_hidden_34 (sh : xSh) (M : Nat → Nat → Int32) (J : Nat → Nat → Int64) (l0 : Nat) (l1 : Int32) (l2 : Int32) (l3 : Int32) (k0 : Int32) : ev (106, 34, [.ref l0, .int l1, .int l2, .int l3], [.int k0], (sh, M, J)) = ((ev (127, 0, [.int k0, .int l3], [], (sh, M, J))).bind (fun r => ev (106, 38, [.ref l0, .int l1, .int l2, .int l3], r.1.toList ++ [], r.2))) := by
  refine ev_nx (s1 := (106, 35, [.ref l0, .int l1, .int l2, .int l3], [.int l3, .int k0], (sh, M, J))) f_106_34 rfl ?_
  exact ev_c1 (s1 := (127, 0, [.int k0, .int l3], [], (sh, M, J))) (k := (106, 38, [.ref l0, .int l1, .int l2, .int l3], [])) f_106_35 rfl
theorem b_C_hidden_38 (sh : xSh) (M : Nat → Nat → Int32) (J : Nat → Nat → Int64) (l0 : Nat) (l1 : Int32) (l2 : Int32) (l3 : Int32) (k0 : Int32) : ev (106, 38, [.ref l0, .int l1, .int l2, .int l3], [.int k0], (sh, M, J)) = (bif decide (k0 = 0) then ev (106, 16, [.ref l0, .int l1, .int l2, .int (l3 + 1)], [], (sh, M, J)) else bif decide ((sh.2.2.1 l0).1 = 8) then bif (decide ((sh.2.2.1 (sh.2.2.2 l0 0)).1 = 1) && true) then (ev (21, 0, [.ref (sh.2.2.2 l0 0), .int l3, .int l1], [], (sh, M, J))).bind (fun r => ev (106, 50, [.ref l0, .int l1, .int l2, .int l3], r.1.toList ++ [], r.2)) else none else none) := by
  refine ev_br (s1 := (106, 64, [.ref l0, .int l1, .int l2, .int l3], [], (sh, M, J))) (s2 := (106, 41, [.ref l0, .int l1, .int l2, .int l3], [], (sh, M, J))) f_106_38 rfl ?_ ?_
  · refine ev_nx (s1 := (106, 67, [.ref l0, .int l1, .int l2, .int (l3 + 1)], [], (sh, M, J))) f_106_64 rfl ?_
    refine ev_nx (s1 := (106, 16, [.ref l0, .int l1, .int l2, .int (l3 + 1)], [], (sh, M, J))) f_106_67 rfl ?_
    exact rfl
  · refine ev_nx (s1 := (106, 42, [.ref l0, .int l1, .int l2, .int l3], [.ref l0], (sh, M, J))) f_106_41 rfl ?_
    refine ev_gd (s1 := (106, 45, [.ref l0, .int l1, .int l2, .int l3], [.ref (sh.2.2.2 l0 0)], (sh, M, J))) f_106_42 rfl ?_
    refine ev_nx (s1 := (106, 46, [.ref l0, .int l1, .int l2, .int l3], [.int l3, .ref (sh.2.2.2 l0 0)], (sh, M, J))) f_106_45 rfl ?_
    refine ev_nx (s1 := (106, 47, [.ref l0, .int l1, .int l2, .int l3], [.int l1, .int l3, .ref (sh.2.2.2 l0 0)], (sh, M, J))) f_106_46 rfl ?_
    exact ev_ca (cc := (decide ((sh.2.2.1 (sh.2.2.2 l0 0)).1 = 1) && true)) (s1 := (21, 0, [.ref (sh.2.2.2 l0 0), .int l3, .int l1], [], (sh, M, J))) (k := (106, 50, [.ref l0, .int l1, .int l2, .int l3], [])) f_106_47 rfl
theorem b_C_hidden_50 (sh : xSh) (M : Nat → Nat → Int32) (J : Nat → Nat → Int64) (l0 : Nat) (l1 : Int32) (l2 : Int32) (l3 : Int32) (k0 : Int32) : ev (106, 50, [.ref l0, .int l1, .int l2, .int l3], [.int k0], (sh, M, J)) = ((ev (125, 0, [.int k0, .int 0, .int 3], [], (sh, M, J))).bind (fun r => ev (106, 55, [.ref l0, .int l1, .int l2, .int l3], r.1.toList ++ [], r.2))) := by
  refine ev_nx (s1 := (106, 51, [.ref l0, .int l1, .int l2, .int l3], [.int 0, .int k0], (sh, M, J))) f_106_50 rfl ?_
  refine ev_nx (s1 := (106, 52, [.ref l0, .int l1, .int l2, .int l3], [.int 3, .int 0, .int k0], (sh, M, J))) f_106_51 rfl ?_
  exact ev_c1 (s1 := (125, 0, [.int k0, .int 0, .int 3], [], (sh, M, J))) (k := (106, 55, [.ref l0, .int l1, .int l2, .int l3], [])) f_106_52 rfl
theorem b_C_hidden_55 (sh : xSh) (M : Nat → Nat → Int32) (J : Nat → Nat → Int64) (l0 : Nat) (l1 : Int32) (l2 : Int32) (l3 : Int32) (k0 : Int32) : ev (106, 55, [.ref l0, .int l1, .int l2, .int l3], [.int k0], (sh, M, J)) = (bif !decide (k0 = 0) then ev (106, 16, [.ref l0, .int l1, .int l2, .int (l3 + 1)], [], (sh, M, J)) else ev (106, 16, [.ref l0, .int l1, .int (l2 ||| ((1 : Int32) <<< (l3 &&& 31))), .int (l3 + 1)], [], (sh, M, J))) := by
  refine ev_br (s1 := (106, 64, [.ref l0, .int l1, .int l2, .int l3], [], (sh, M, J))) (s2 := (106, 58, [.ref l0, .int l1, .int l2, .int l3], [], (sh, M, J))) f_106_55 rfl ?_ ?_
  · refine ev_nx (s1 := (106, 67, [.ref l0, .int l1, .int l2, .int (l3 + 1)], [], (sh, M, J))) f_106_64 rfl ?_
    refine ev_nx (s1 := (106, 16, [.ref l0, .int l1, .int l2, .int (l3 + 1)], [], (sh, M, J))) f_106_67 rfl ?_
    exact rfl
  · refine ev_nx (s1 := (106, 59, [.ref l0, .int l1, .int l2, .int l3], [.int l2], (sh, M, J))) f_106_58 rfl ?_
    refine ev_nx (s1 := (106, 60, [.ref l0, .int l1, .int l2, .int l3], [.int 1, .int l2], (sh, M, J))) f_106_59 rfl ?_
    refine ev_nx (s1 := (106, 61, [.ref l0, .int l1, .int l2, .int l3], [.int l3, .int 1, .int l2], (sh, M, J))) f_106_60 rfl ?_
    refine ev_nx (s1 := (106, 62, [.ref l0, .int l1, .int l2, .int l3], [.int ((1 : Int32) <<< (l3 &&& 31)), .int l2], (sh, M, J))) f_106_61 rfl ?_
    refine ev_nx (s1 := (106, 63, [.ref l0, .int l1, .int l2, .int l3], [.int (l2 ||| ((1 : Int32) <<< (l3 &&& 31)))], (sh, M, J))) f_106_62 rfl ?_
    refine ev_nx (s1 := (106, 64, [.ref l0, .int l1, .int (l2 ||| ((1 : Int32) <<< (l3 &&& 31))), .int l3], [], (sh, M, J))) f_106_63 rfl ?_
    refine ev_nx (s1 := (106, 67, [.ref l0, .int l1, .int (l2 ||| ((1 : Int32) <<< (l3 &&& 31))), .int (l3 + 1)], [], (sh, M, J))) f_106_64 rfl ?_
    refine ev_nx (s1 := (106, 16, [.ref l0, .int l1, .int (l2 ||| ((1 : Int32) <<< (l3 &&& 31))), .int (l3 + 1)], [], (sh, M, J))) f_106_67 rfl ?_
    exact rfl
theorem f_107_0 : xfind (xnth xTs 107) 0 = some (0, .iconst 0, 1, (0, 0, 0, 0), (.int 0), [], 0, 0, []) := rfl
theorem f_107_1 : xfind (xnth xTs 107) 1 = some (1, .istore_n 1, 1, (0, 0, 0, 0), .null, [], 0, 0, []) := rfl
theorem f_107_2 : xfind (xnth xTs 107) 2 = some (2, .iconst 0, 1, (0, 0, 0, 0), (.int 0), [], 0, 0, []) := rfl
theorem f_107_3 : xfind (xnth xTs 107) 3 = some (3, .istore_n 2, 1, (0, 0, 0, 0), .null, [], 0, 0, []) := rfl
theorem f_107_4 : xfind (xnth xTs 107) 4 = some (4, .iload_n 2, 1, (0, 0, 0, 0), .null, [], 0, 1, []) := rfl
theorem f_107_5 : xfind (xnth xTs 107) 5 = some (5, .aload_n 0, 1, (0, 0, 0, 0), .null, [], 0, 0, []) := rfl
theorem f_107_6 : xfind (xnth xTs 107) 6 = some (6, .getfield 10, 3, (8, 0, 1, 0), .null, [], 291, 0, []) := rfl
theorem f_107_9 : xfind (xnth xTs 107) 9 = some (9, .getfield 111, 3, (1, 0, 0, 0), .null, [], 99, 0, []) := rfl
theorem f_107_12 : xfind (xnth xTs 107) 12 = some (12, .if_icmp .ge 46, 3, (0, 0, 0, 0), .null, [], 0, 0, []) := rfl
theorem f_107_15 : xfind (xnth xTs 107) 15 = some (15, .aload_n 0, 1, (0, 0, 0, 0), .null, [], 0, 0, []) := rfl
theorem f_107_16 : xfind (xnth xTs 107) 16 = some (16, .getfield 19, 3, (8, 1, 1, 0), .null, [], 292, 0, []) := rfl
theorem f_107_19 : xfind (xnth xTs 107) 19 = some (19, .aload_n 0, 1, (0, 0, 0, 0), .null, [], 0, 0, []) := rfl
theorem f_107_20 : xfind (xnth xTs 107) 20 = some (20, .getfield 10, 3, (8, 0, 1, 0), .null, [], 291, 0, []) := rfl
theorem f_107_23 : xfind (xnth xTs 107) 23 = some (23, .iload_n 2, 1, (0, 0, 0, 0), .null, [], 0, 0, []) := rfl
theorem f_107_24 : xfind (xnth xTs 107) 24 = some (24, .invokevirtual 253, 3, (79, 2, 6, 4), .null, [], 747, 0, []) := rfl
theorem f_107_27 : xfind (xnth xTs 107) 27 = some (27, .iconst (-1), 1, (0, 0, 0, 0), (.int (-1)), [], 0, 0, []) := rfl
theorem f_107_28 : xfind (xnth xTs 107) 28 = some (28, .if_icmp .eq 24, 3, (0, 0, 0, 0), .null, [], 0, 0, []) := rfl
theorem f_107_31 : xfind (xnth xTs 107) 31 = some (31, .aload_n 0, 1, (0, 0, 0, 0), .null, [], 0, 0, []) := rfl
theorem f_107_32 : xfind (xnth xTs 107) 32 = some (32, .getfield 19, 3, (8, 1, 1, 0), .null, [], 292, 0, []) := rfl
theorem f_107_35 : xfind (xnth xTs 107) 35 = some (35, .aload_n 0, 1, (0, 0, 0, 0), .null, [], 0, 0, []) := rfl
theorem f_107_36 : xfind (xnth xTs 107) 36 = some (36, .getfield 10, 3, (8, 0, 1, 0), .null, [], 291, 0, []) := rfl
theorem f_107_39 : xfind (xnth xTs 107) 39 = some (39, .iload_n 2, 1, (0, 0, 0, 0), .null, [], 0, 0, []) := rfl
theorem f_107_40 : xfind (xnth xTs 107) 40 = some (40, .invokevirtual 257, 3, (80, 2, 6, 4), .null, [], 748, 0, []) := rfl
theorem f_107_43 : xfind (xnth xTs 107) 43 = some (43, .ifCond .ne 9, 3, (0, 0, 0, 0), .null, [], 0, 0, []) := rfl
theorem f_107_46 : xfind (xnth xTs 107) 46 = some (46, .iload_n 1, 1, (0, 0, 0, 0), .null, [], 0, 0, []) := rfl
theorem f_107_47 : xfind (xnth xTs 107) 47 = some (47, .iconst 1, 1, (0, 0, 0, 0), (.int 1), [], 0, 0, []) := rfl
theorem f_107_48 : xfind (xnth xTs 107) 48 = some (48, .iload_n 2, 1, (0, 0, 0, 0), .null, [], 0, 0, []) := rfl
theorem f_107_49 : xfind (xnth xTs 107) 49 = some (49, .ishl, 1, (0, 0, 0, 0), .null, [], 0, 0, []) := rfl
theorem f_107_50 : xfind (xnth xTs 107) 50 = some (50, .ior, 1, (0, 0, 0, 0), .null, [], 0, 0, []) := rfl
theorem f_107_51 : xfind (xnth xTs 107) 51 = some (51, .istore_n 1, 1, (0, 0, 0, 0), .null, [], 0, 0, []) := rfl
theorem f_107_52 : xfind (xnth xTs 107) 52 = some (52, .iinc 2 1, 3, (0, 0, 0, 0), .null, [], 0, 0, []) := rfl
theorem f_107_55 : xfind (xnth xTs 107) 55 = some (55, .goto (-51), 3, (0, 0, 0, 0), .null, [], 0, 0, []) := rfl
theorem f_107_58 : xfind (xnth xTs 107) 58 = some (58, .iload_n 1, 1, (0, 0, 0, 0), .null, [], 0, 0, []) := rfl
theorem f_107_59 : xfind (xnth xTs 107) 59 = some (59, .ireturn, 1, (0, 0, 0, 0), .null, [], 0, 0, []) := rfl
theorem hd_107_4 : xhead 107 4 = some [] := rfl
theorem b_C_cannot_0 (sh : xSh) (M : Nat → Nat → Int32) (J : Nat → Nat → Int64) (l0 : Nat) : ev (107, 0, [.ref l0, .null, .null], [], (sh, M, J)) = (ev (107, 4, [.ref l0, .int 0, .int 0], [], (sh, M, J))) := by
  refine ev_nx (s1 := (107, 1, [.ref l0, .null, .null], [.int 0], (sh, M, J))) f_107_0 rfl ?_
  refine ev_nx (s1 := (107, 2, [.ref l0, .int 0, .null], [], (sh, M, J))) f_107_1 rfl ?_
  refine ev_nx (s1 := (107, 3, [.ref l0, .int 0, .null], [.int 0], (sh, M, J))) f_107_2 rfl ?_
  refine ev_nx (s1 := (107, 4, [.ref l0, .int 0, .int 0], [], (sh, M, J))) f_107_3 rfl ?_
  exact rfl
theorem b_C_cannot_4 (sh : xSh) (M : Nat → Nat → Int32) (J : Nat → Nat → Int64) (l0 : Nat) (l1 : Int32) (l2 : Int32) : ev (107, 4, [.ref l0, .int l1, .int l2], [], (sh, M, J)) = (bif decide ((sh.2.2.1 l0).1 = 8) then bif decide ((sh.2.2.1 (sh.2.2.2 l0 0)).1 = 1) then bif decide ((M (sh.2.2.2 l0 0) 0) ≤ l2) then some (some (.int l1), (sh, M, J)) else bif decide ((sh.2.2.1 l0).1 = 8) then bif decide ((sh.2.2.1 l0).1 = 8) then bif (decide ((sh.2.2.1 (sh.2.2.2 l0 1)).1 = 6) && true) then (ev (79, 0, [.ref (sh.2.2.2 l0 1), .ref (sh.2.2.2 l0 0), .int l2, .null], [], (sh, M, J))).bind (fun r => ev (107, 27, [.ref l0, .int l1, .int l2], r.1.toList ++ [], r.2)) else none else none else none else none else none) := by
  refine ev_nx (s1 := (107, 5, [.ref l0, .int l1, .int l2], [.int l2], (sh, M, J))) f_107_4 rfl ?_
  refine ev_nx (s1 := (107, 6, [.ref l0, .int l1, .int l2], [.ref l0, .int l2], (sh, M, J))) f_107_5 rfl ?_
  refine ev_gd (s1 := (107, 9, [.ref l0, .int l1, .int l2], [.ref (sh.2.2.2 l0 0), .int l2], (sh, M, J))) f_107_6 rfl ?_
  refine ev_gd (s1 := (107, 12, [.ref l0, .int l1, .int l2], [.int (M (sh.2.2.2 l0 0) 0), .int l2], (sh, M, J))) f_107_9 rfl ?_
  refine ev_br (s1 := (107, 58, [.ref l0, .int l1, .int l2], [], (sh, M, J))) (s2 := (107, 15, [.ref l0, .int l1, .int l2], [], (sh, M, J))) f_107_12 rfl ?_ ?_
  · refine ev_nx (s1 := (107, 59, [.ref l0, .int l1, .int l2], [.int l1], (sh, M, J))) f_107_58 rfl ?_
    exact ev_r1 f_107_59 rfl
  · refine ev_nx (s1 := (107, 16, [.ref l0, .int l1, .int l2], [.ref l0], (sh, M, J))) f_107_15 rfl ?_
    refine ev_gd (s1 := (107, 19, [.ref l0, .int l1, .int l2], [.ref (sh.2.2.2 l0 1)], (sh, M, J))) f_107_16 rfl ?_
    refine ev_nx (s1 := (107, 20, [.ref l0, .int l1, .int l2], [.ref l0, .ref (sh.2.2.2 l0 1)], (sh, M, J))) f_107_19 rfl ?_
    refine ev_gd (s1 := (107, 23, [.ref l0, .int l1, .int l2], [.ref (sh.2.2.2 l0 0), .ref (sh.2.2.2 l0 1)], (sh, M, J))) f_107_20 rfl ?_
    refine ev_nx (s1 := (107, 24, [.ref l0, .int l1, .int l2], [.int l2, .ref (sh.2.2.2 l0 0), .ref (sh.2.2.2 l0 1)], (sh, M, J))) f_107_23 rfl ?_
    exact ev_ca (cc := (decide ((sh.2.2.1 (sh.2.2.2 l0 1)).1 = 6) && true)) (s1 := (79, 0, [.ref (sh.2.2.2 l0 1), .ref (sh.2.2.2 l0 0), .int l2, .null], [], (sh, M, J))) (k := (107, 27, [.ref l0, .int l1, .int l2], [])) f_107_24 rfl
theorem b_C_cannot_27 (sh : xSh) (M : Nat → Nat → Int32) (J : Nat → Nat → Int64) (l0 : Nat) (l1 : Int32) (l2 : Int32) (k0 : Int32) : ev (107, 27, [.ref l0, .int l1, .int l2], [.int k0], (sh, M, J)) = (bif decide (k0 = (-1)) then ev (107, 4, [.ref l0, .int l1, .int (l2 + 1)], [], (sh, M, J)) else bif decide ((sh.2.2.1 l0).1 = 8) then bif decide ((sh.2.2.1 l0).1 = 8) then bif (decide ((sh.2.2.1 (sh.2.2.2 l0 1)).1 = 6) && true) then (ev (80, 0, [.ref (sh.2.2.2 l0 1), .ref (sh.2.2.2 l0 0), .int l2, .null], [], (sh, M, J))).bind (fun r => ev (107, 43, [.ref l0, .int l1, .int l2], r.1.toList ++ [], r.2)) else none else none else none) := by
  refine ev_nx (s1 := (107, 28, [.ref l0, .int l1, .int l2], [.int (-1), .int k0], (sh, M, J))) f_107_27 rfl ?_
  refine ev_br (s1 := (107, 52, [.ref l0, .int l1, .int l2], [], (sh, M, J))) (s2 := (107, 31, [.ref l0, .int l1, .int l2], [], (sh, M, J))) f_107_28 rfl ?_ ?_
  · refine ev_nx (s1 := (107, 55, [.ref l0, .int l1, .int (l2 + 1)], [], (sh, M, J))) f_107_52 rfl ?_
    refine ev_nx (s1 := (107, 4, [.ref l0, .int l1, .int (l2 + 1)], [], (sh, M, J))) f_107_55 rfl ?_
    exact rfl
  · refine ev_nx (s1 := (107, 32, [.ref l0, .int l1, .int l2], [.ref l0], (sh, M, J))) f_107_31 rfl ?_
    refine ev_gd (s1 := (107, 35, [.ref l0, .int l1, .int l2], [.ref (sh.2.2.2 l0 1)], (sh, M, J))) f_107_32 rfl ?_
    refine ev_nx (s1 := (107, 36, [.ref l0, .int l1, .int l2], [.ref l0, .ref (sh.2.2.2 l0 1)], (sh, M, J))) f_107_35 rfl ?_
    refine ev_gd (s1 := (107, 39, [.ref l0, .int l1, .int l2], [.ref (sh.2.2.2 l0 0), .ref (sh.2.2.2 l0 1)], (sh, M, J))) f_107_36 rfl ?_
    refine ev_nx (s1 := (107, 40, [.ref l0, .int l1, .int l2], [.int l2, .ref (sh.2.2.2 l0 0), .ref (sh.2.2.2 l0 1)], (sh, M, J))) f_107_39 rfl ?_
    exact ev_ca (cc := (decide ((sh.2.2.1 (sh.2.2.2 l0 1)).1 = 6) && true)) (s1 := (80, 0, [.ref (sh.2.2.2 l0 1), .ref (sh.2.2.2 l0 0), .int l2, .null], [], (sh, M, J))) (k := (107, 43, [.ref l0, .int l1, .int l2], [])) f_107_40 rfl
theorem b_C_cannot_43 (sh : xSh) (M : Nat → Nat → Int32) (J : Nat → Nat → Int64) (l0 : Nat) (l1 : Int32) (l2 : Int32) (k0 : Int32) : ev (107, 43, [.ref l0, .int l1, .int l2], [.int k0], (sh, M, J)) = (bif !decide (k0 = 0) then ev (107, 4, [.ref l0, .int l1, .int (l2 + 1)], [], (sh, M, J)) else ev (107, 4, [.ref l0, .int (l1 ||| ((1 : Int32) <<< (l2 &&& 31))), .int (l2 + 1)], [], (sh, M, J))) := by
  refine ev_br (s1 := (107, 52, [.ref l0, .int l1, .int l2], [], (sh, M, J))) (s2 := (107, 46, [.ref l0, .int l1, .int l2], [], (sh, M, J))) f_107_43 rfl ?_ ?_
  · refine ev_nx (s1 := (107, 55, [.ref l0, .int l1, .int (l2 + 1)], [], (sh, M, J))) f_107_52 rfl ?_
    refine ev_nx (s1 := (107, 4, [.ref l0, .int l1, .int (l2 + 1)], [], (sh, M, J))) f_107_55 rfl ?_
    exact rfl
  · refine ev_nx (s1 := (107, 47, [.ref l0, .int l1, .int l2], [.int l1], (sh, M, J))) f_107_46 rfl ?_
    refine ev_nx (s1 := (107, 48, [.ref l0, .int l1, .int l2], [.int 1, .int l1], (sh, M, J))) f_107_47 rfl ?_
    refine ev_nx (s1 := (107, 49, [.ref l0, .int l1, .int l2], [.int l2, .int 1, .int l1], (sh, M, J))) f_107_48 rfl ?_
    refine ev_nx (s1 := (107, 50, [.ref l0, .int l1, .int l2], [.int ((1 : Int32) <<< (l2 &&& 31)), .int l1], (sh, M, J))) f_107_49 rfl ?_
    refine ev_nx (s1 := (107, 51, [.ref l0, .int l1, .int l2], [.int (l1 ||| ((1 : Int32) <<< (l2 &&& 31)))], (sh, M, J))) f_107_50 rfl ?_
    refine ev_nx (s1 := (107, 52, [.ref l0, .int (l1 ||| ((1 : Int32) <<< (l2 &&& 31))), .int l2], [], (sh, M, J))) f_107_51 rfl ?_
    refine ev_nx (s1 := (107, 55, [.ref l0, .int (l1 ||| ((1 : Int32) <<< (l2 &&& 31))), .int (l2 + 1)], [], (sh, M, J))) f_107_52 rfl ?_
    refine ev_nx (s1 := (107, 4, [.ref l0, .int (l1 ||| ((1 : Int32) <<< (l2 &&& 31))), .int (l2 + 1)], [], (sh, M, J))) f_107_55 rfl ?_
    exact rfl
theorem f_108_0 : xfind (xnth xTs 108) 0 = some (0, .iload_n 1, 1, (0, 0, 0, 0), .null, [], 0, 0, []) := rfl
theorem f_108_1 : xfind (xnth xTs 108) 1 = some (1, .iconst 1, 1, (0, 0, 0, 0), (.int 1), [], 0, 0, []) := rfl
theorem f_108_2 : xfind (xnth xTs 108) 2 = some (2, .iconst 3, 1, (0, 0, 0, 0), (.int 3), [], 0, 0, []) := rfl
theorem f_108_3 : xfind (xnth xTs 108) 3 = some (3, .invokestatic 220, 3, (125, 3, 8, 3), .null, [], 613, 0, []) := rfl
theorem f_108_6 : xfind (xnth xTs 108) 6 = some (6, .ifCond .ne 6, 3, (0, 0, 0, 0), .null, [], 0, 0, []) := rfl
theorem f_108_9 : xfind (xnth xTs 108) 9 = some (9, .ldc 75, 2, (0, 0, 0, 0), (.int (-1000000002)), [], 329, 0, []) := rfl
theorem f_108_11 : xfind (xnth xTs 108) 11 = some (11, .ireturn, 1, (0, 0, 0, 0), .null, [], 0, 0, []) := rfl
theorem f_108_12 : xfind (xnth xTs 108) 12 = some (12, .aload_n 0, 1, (0, 0, 0, 0), .null, [], 0, 0, []) := rfl
theorem f_108_13 : xfind (xnth xTs 108) 13 = some (13, .getfield 19, 3, (8, 1, 1, 0), .null, [], 292, 0, []) := rfl
theorem f_108_16 : xfind (xnth xTs 108) 16 = some (16, .invokevirtual 120, 3, (59, 0, 6, 1), .null, [], 485, 0, []) := rfl
theorem f_108_19 : xfind (xnth xTs 108) 19 = some (19, .invokestatic 208, 3, (202, 1, 99, 1), .null, [], 646, 0, []) := rfl
theorem f_108_22 : xfind (xnth xTs 108) 22 = some (22, .bipush 8, 2, (0, 0, 0, 0), (.int 8), [], 0, 0, []) := rfl
theorem f_108_24 : xfind (xnth xTs 108) 24 = some (24, .if_icmp .le 6, 3, (0, 0, 0, 0), .null, [], 0, 0, []) := rfl
theorem f_108_27 : xfind (xnth xTs 108) 27 = some (27, .ldc 203, 2, (0, 0, 0, 0), (.int (-1000000003)), [], 615, 0, []) := rfl
theorem f_108_29 : xfind (xnth xTs 108) 29 = some (29, .ireturn, 1, (0, 0, 0, 0), .null, [], 0, 0, []) := rfl
theorem f_108_30 : xfind (xnth xTs 108) 30 = some (30, .aload_n 0, 1, (0, 0, 0, 0), .null, [], 0, 0, []) := rfl
theorem f_108_31 : xfind (xnth xTs 108) 31 = some (31, .getfield 64, 3, (8, 8, 1, 0), .null, [], 299, 0, []) := rfl
theorem f_108_34 : xfind (xnth xTs 108) 34 = some (34, .aload_n 0, 1, (0, 0, 0, 0), .null, [], 0, 0, []) := rfl
theorem f_108_35 : xfind (xnth xTs 108) 35 = some (35, .getfield 10, 3, (8, 0, 1, 0), .null, [], 291, 0, []) := rfl
theorem f_108_38 : xfind (xnth xTs 108) 38 = some (38, .aload_n 0, 1, (0, 0, 0, 0), .null, [], 0, 0, []) := rfl
theorem f_108_39 : xfind (xnth xTs 108) 39 = some (39, .getfield 19, 3, (8, 1, 1, 0), .null, [], 292, 0, []) := rfl
theorem f_108_42 : xfind (xnth xTs 108) 42 = some (42, .invokevirtual 261, 3, (85, 2, 7, 4), .null, [], 756, 0, []) := rfl
theorem f_108_45 : xfind (xnth xTs 108) 45 = some (45, .aload_n 0, 1, (0, 0, 0, 0), .null, [], 0, 0, []) := rfl
theorem f_108_46 : xfind (xnth xTs 108) 46 = some (46, .getfield 64, 3, (8, 8, 1, 0), .null, [], 299, 0, []) := rfl
theorem f_108_49 : xfind (xnth xTs 108) 49 = some (49, .iload_n 1, 1, (0, 0, 0, 0), .null, [], 0, 0, []) := rfl
theorem f_108_50 : xfind (xnth xTs 108) 50 = some (50, .invokevirtual 265, 3, (86, 1, 7, 5), .null, [], 766, 0, []) := rfl
theorem f_108_53 : xfind (xnth xTs 108) 53 = some (53, .ireturn, 1, (0, 0, 0, 0), .null, [], 0, 0, []) := rfl
theorem b_C_sewing_0 (sh : xSh) (M : Nat → Nat → Int32) (J : Nat → Nat → Int64) (l0 : Nat) (l1 : Int32) : ev (108, 0, [.ref l0, .int l1], [], (sh, M, J)) = ((ev (125, 0, [.int l1, .int 1, .int 3], [], (sh, M, J))).bind (fun r => ev (108, 6, [.ref l0, .int l1], r.1.toList ++ [], r.2))) := by
  refine ev_nx (s1 := (108, 1, [.ref l0, .int l1], [.int l1], (sh, M, J))) f_108_0 rfl ?_
  refine ev_nx (s1 := (108, 2, [.ref l0, .int l1], [.int 1, .int l1], (sh, M, J))) f_108_1 rfl ?_
  refine ev_nx (s1 := (108, 3, [.ref l0, .int l1], [.int 3, .int 1, .int l1], (sh, M, J))) f_108_2 rfl ?_
  exact ev_c1 (s1 := (125, 0, [.int l1, .int 1, .int 3], [], (sh, M, J))) (k := (108, 6, [.ref l0, .int l1], [])) f_108_3 rfl
theorem b_C_sewing_6 (sh : xSh) (M : Nat → Nat → Int32) (J : Nat → Nat → Int64) (l0 : Nat) (l1 : Int32) (k0 : Int32) : ev (108, 6, [.ref l0, .int l1], [.int k0], (sh, M, J)) = (bif !decide (k0 = 0) then bif decide ((sh.2.2.1 l0).1 = 8) then bif (decide ((sh.2.2.1 (sh.2.2.2 l0 1)).1 = 6) && true) then (ev (59, 0, [.ref (sh.2.2.2 l0 1)], [], (sh, M, J))).bind (fun r => ev (108, 19, [.ref l0, .int l1], r.1.toList ++ [], r.2)) else none else none else some (some (.int (-1000000002)), (sh, M, J))) := by
  refine ev_br (s1 := (108, 12, [.ref l0, .int l1], [], (sh, M, J))) (s2 := (108, 9, [.ref l0, .int l1], [], (sh, M, J))) f_108_6 rfl ?_ ?_
  · refine ev_nx (s1 := (108, 13, [.ref l0, .int l1], [.ref l0], (sh, M, J))) f_108_12 rfl ?_
    refine ev_gd (s1 := (108, 16, [.ref l0, .int l1], [.ref (sh.2.2.2 l0 1)], (sh, M, J))) f_108_13 rfl ?_
    exact ev_ca (cc := (decide ((sh.2.2.1 (sh.2.2.2 l0 1)).1 = 6) && true)) (s1 := (59, 0, [.ref (sh.2.2.2 l0 1)], [], (sh, M, J))) (k := (108, 19, [.ref l0, .int l1], [])) f_108_16 rfl
  · refine ev_nx (s1 := (108, 11, [.ref l0, .int l1], [.int (-1000000002)], (sh, M, J))) f_108_9 rfl ?_
    exact ev_r1 f_108_11 rfl
theorem b_C_sewing_19 (sh : xSh) (M : Nat → Nat → Int32) (J : Nat → Nat → Int64) (l0 : Nat) (l1 : Int32) (k0 : Int32) : ev (108, 19, [.ref l0, .int l1], [.int k0], (sh, M, J)) = ((ev (202, 0, [.int k0], [], (sh, M, J))).bind (fun r => ev (108, 22, [.ref l0, .int l1], r.1.toList ++ [], r.2))) := by
  exact ev_c1 (s1 := (202, 0, [.int k0], [], (sh, M, J))) (k := (108, 22, [.ref l0, .int l1], [])) f_108_19 rfl
theorem b_C_sewing_22 (sh : xSh) (M : Nat → Nat → Int32) (J : Nat → Nat → Int64) (l0 : Nat) (l1 : Int32) (k0 : Int32) : ev (108, 22, [.ref l0, .int l1], [.int k0], (sh, M, J)) = (bif decide (k0 ≤ 8) then bif decide ((sh.2.2.1 l0).1 = 8) then bif decide ((sh.2.2.1 l0).1 = 8) then bif decide ((sh.2.2.1 l0).1 = 8) then bif (decide ((sh.2.2.1 (sh.2.2.2 l0 8)).1 = 7) && true) then (ev (85, 0, [.ref (sh.2.2.2 l0 8), .ref (sh.2.2.2 l0 0), .ref (sh.2.2.2 l0 1), .null], [], (sh, M, J))).bind (fun r => ev (108, 45, [.ref l0, .int l1], r.1.toList ++ [], r.2)) else none else none else none else none else some (some (.int (-1000000003)), (sh, M, J))) := by
  refine ev_nx (s1 := (108, 24, [.ref l0, .int l1], [.int 8, .int k0], (sh, M, J))) f_108_22 rfl ?_
  refine ev_br (s1 := (108, 30, [.ref l0, .int l1], [], (sh, M, J))) (s2 := (108, 27, [.ref l0, .int l1], [], (sh, M, J))) f_108_24 rfl ?_ ?_
  · refine ev_nx (s1 := (108, 31, [.ref l0, .int l1], [.ref l0], (sh, M, J))) f_108_30 rfl ?_
    refine ev_gd (s1 := (108, 34, [.ref l0, .int l1], [.ref (sh.2.2.2 l0 8)], (sh, M, J))) f_108_31 rfl ?_
    refine ev_nx (s1 := (108, 35, [.ref l0, .int l1], [.ref l0, .ref (sh.2.2.2 l0 8)], (sh, M, J))) f_108_34 rfl ?_
    refine ev_gd (s1 := (108, 38, [.ref l0, .int l1], [.ref (sh.2.2.2 l0 0), .ref (sh.2.2.2 l0 8)], (sh, M, J))) f_108_35 rfl ?_
    refine ev_nx (s1 := (108, 39, [.ref l0, .int l1], [.ref l0, .ref (sh.2.2.2 l0 0), .ref (sh.2.2.2 l0 8)], (sh, M, J))) f_108_38 rfl ?_
    refine ev_gd (s1 := (108, 42, [.ref l0, .int l1], [.ref (sh.2.2.2 l0 1), .ref (sh.2.2.2 l0 0), .ref (sh.2.2.2 l0 8)], (sh, M, J))) f_108_39 rfl ?_
    exact ev_ca (cc := (decide ((sh.2.2.1 (sh.2.2.2 l0 8)).1 = 7) && true)) (s1 := (85, 0, [.ref (sh.2.2.2 l0 8), .ref (sh.2.2.2 l0 0), .ref (sh.2.2.2 l0 1), .null], [], (sh, M, J))) (k := (108, 45, [.ref l0, .int l1], [])) f_108_42 rfl
  · refine ev_nx (s1 := (108, 29, [.ref l0, .int l1], [.int (-1000000003)], (sh, M, J))) f_108_27 rfl ?_
    exact ev_r1 f_108_29 rfl
theorem b_C_sewing_45 (sh : xSh) (M : Nat → Nat → Int32) (J : Nat → Nat → Int64) (l0 : Nat) (l1 : Int32) : ev (108, 45, [.ref l0, .int l1], [], (sh, M, J)) = (bif decide ((sh.2.2.1 l0).1 = 8) then bif (decide ((sh.2.2.1 (sh.2.2.2 l0 8)).1 = 7) && true) then (ev (86, 0, [.ref (sh.2.2.2 l0 8), .int l1, .null, .null, .null], [], (sh, M, J))).bind (fun r => ev (108, 53, [.ref l0, .int l1], r.1.toList ++ [], r.2)) else none else none) := by
  refine ev_nx (s1 := (108, 46, [.ref l0, .int l1], [.ref l0], (sh, M, J))) f_108_45 rfl ?_
  refine ev_gd (s1 := (108, 49, [.ref l0, .int l1], [.ref (sh.2.2.2 l0 8)], (sh, M, J))) f_108_46 rfl ?_
  refine ev_nx (s1 := (108, 50, [.ref l0, .int l1], [.int l1, .ref (sh.2.2.2 l0 8)], (sh, M, J))) f_108_49 rfl ?_
  exact ev_ca (cc := (decide ((sh.2.2.1 (sh.2.2.2 l0 8)).1 = 7) && true)) (s1 := (86, 0, [.ref (sh.2.2.2 l0 8), .int l1, .null, .null, .null], [], (sh, M, J))) (k := (108, 53, [.ref l0, .int l1], [])) f_108_50 rfl
theorem b_C_sewing_53 (sh : xSh) (M : Nat → Nat → Int32) (J : Nat → Nat → Int64) (l0 : Nat) (l1 : Int32) (k0 : Int32) : ev (108, 53, [.ref l0, .int l1], [.int k0], (sh, M, J)) = (some (some (.int k0), (sh, M, J))) := by
  exact ev_r1 f_108_53 rfl
theorem f_109_0 : xfind (xnth xTs 109) 0 = some (0, .iload_n 1, 1, (0, 0, 0, 0), .null, [], 0, 0, []) := rfl
theorem f_109_1 : xfind (xnth xTs 109) 1 = some (1, .invokestatic 164, 3, (126, 1, 8, 1), .null, [], 580, 0, []) := rfl
theorem f_109_4 : xfind (xnth xTs 109) 4 = some (4, .ifCond .ne 6, 3, (0, 0, 0, 0), .null, [], 0, 0, []) := rfl
theorem f_109_7 : xfind (xnth xTs 109) 7 = some (7, .ldc 148, 2, (0, 0, 0, 0), (.int (-1000000001)), [], 556, 0, []) := rfl
theorem f_109_9 : xfind (xnth xTs 109) 9 = some (9, .ireturn, 1, (0, 0, 0, 0), .null, [], 0, 0, []) := rfl
theorem f_109_10 : xfind (xnth xTs 109) 10 = some (10, .iload_n 2, 1, (0, 0, 0, 0), .null, [], 0, 0, []) := rfl
theorem f_109_11 : xfind (xnth xTs 109) 11 = some (11, .iconst 0, 1, (0, 0, 0, 0), (.int 0), [], 0, 0, []) := rfl
theorem f_109_12 : xfind (xnth xTs 109) 12 = some (12, .bipush 99, 2, (0, 0, 0, 0), (.int 99), [], 0, 0, []) := rfl
theorem f_109_14 : xfind (xnth xTs 109) 14 = some (14, .invokestatic 220, 3, (125, 3, 8, 3), .null, [], 613, 0, []) := rfl
theorem f_109_17 : xfind (xnth xTs 109) 17 = some (17, .ifCond .ne 6, 3, (0, 0, 0, 0), .null, [], 0, 0, []) := rfl
theorem f_109_20 : xfind (xnth xTs 109) 20 = some (20, .ldc 75, 2, (0, 0, 0, 0), (.int (-1000000002)), [], 329, 0, []) := rfl
theorem f_109_22 : xfind (xnth xTs 109) 22 = some (22, .ireturn, 1, (0, 0, 0, 0), .null, [], 0, 0, []) := rfl
theorem f_109_23 : xfind (xnth xTs 109) 23 = some (23, .aload_n 0, 1, (0, 0, 0, 0), .null, [], 0, 0, []) := rfl
theorem f_109_24 : xfind (xnth xTs 109) 24 = some (24, .getfield 19, 3, (8, 1, 1, 0), .null, [], 292, 0, []) := rfl
theorem f_109_27 : xfind (xnth xTs 109) 27 = some (27, .aload_n 0, 1, (0, 0, 0, 0), .null, [], 0, 0, []) := rfl
theorem f_109_28 : xfind (xnth xTs 109) 28 = some (28, .getfield 10, 3, (8, 0, 1, 0), .null, [], 291, 0, []) := rfl
theorem f_109_31 : xfind (xnth xTs 109) 31 = some (31, .invokevirtual 268, 3, (72, 1, 6, 4), .null, [], 787, 0, []) := rfl
theorem f_109_34 : xfind (xnth xTs 109) 34 = some (34, .istore_n 3, 1, (0, 0, 0, 0), .null, [], 0, 0, []) := rfl
theorem f_109_35 : xfind (xnth xTs 109) 35 = some (35, .aload_n 0, 1, (0, 0, 0, 0), .null, [], 0, 0, []) := rfl
theorem f_109_36 : xfind (xnth xTs 109) 36 = some (36, .getfield 19, 3, (8, 1, 1, 0), .null, [], 292, 0, []) := rfl
theorem f_109_39 : xfind (xnth xTs 109) 39 = some (39, .invokevirtual 120, 3, (59, 0, 6, 1), .null, [], 485, 0, []) := rfl
theorem f_109_42 : xfind (xnth xTs 109) 42 = some (42, .invokestatic 208, 3, (202, 1, 99, 1), .null, [], 646, 0, []) := rfl
theorem f_109_45 : xfind (xnth xTs 109) 45 = some (45, .istore 4, 2, (0, 0, 0, 0), .null, [], 0, 0, []) := rfl
theorem f_109_47 : xfind (xnth xTs 109) 47 = some (47, .iconst 0, 1, (0, 0, 0, 0), (.int 0), [], 0, 0, []) := rfl
theorem f_109_48 : xfind (xnth xTs 109) 48 = some (48, .istore 5, 2, (0, 0, 0, 0), .null, [], 0, 0, []) := rfl
theorem f_109_50 : xfind (xnth xTs 109) 50 = some (50, .iload 5, 2, (0, 0, 0, 0), .null, [], 0, 1, []) := rfl
theorem f_109_52 : xfind (xnth xTs 109) 52 = some (52, .iload 4, 2, (0, 0, 0, 0), .null, [], 0, 0, []) := rfl
theorem f_109_54 : xfind (xnth xTs 109) 54 = some (54, .if_icmp .gt 32, 3, (0, 0, 0, 0), .null, [], 0, 0, []) := rfl
theorem f_109_57 : xfind (xnth xTs 109) 57 = some (57, .iload_n 3, 1, (0, 0, 0, 0), .null, [], 0, 0, []) := rfl
theorem f_109_58 : xfind (xnth xTs 109) 58 = some (58, .iload 5, 2, (0, 0, 0, 0), .null, [], 0, 0, []) := rfl
theorem f_109_60 : xfind (xnth xTs 109) 60 = some (60, .aload_n 0, 1, (0, 0, 0, 0), .null, [], 0, 0, []) := rfl
theorem f_109_61 : xfind (xnth xTs 109) 61 = some (61, .getfield 10, 3, (8, 0, 1, 0), .null, [], 291, 0, []) := rfl
theorem f_109_64 : xfind (xnth xTs 109) 64 = some (64, .iload_n 1, 1, (0, 0, 0, 0), .null, [], 0, 0, []) := rfl
theorem f_109_65 : xfind (xnth xTs 109) 65 = some (65, .invokevirtual 167, 3, (9, 1, 1, 2), .null, [], 583, 0, []) := rfl
theorem f_109_68 : xfind (xnth xTs 109) 68 = some (68, .imul, 1, (0, 0, 0, 0), .null, [], 0, 0, []) := rfl
theorem f_109_69 : xfind (xnth xTs 109) 69 = some (69, .iadd, 1, (0, 0, 0, 0), .null, [], 0, 0, []) := rfl
theorem f_109_70 : xfind (xnth xTs 109) 70 = some (70, .invokestatic 271, 3, (128, 1, 8, 1), .null, [], 788, 0, []) := rfl
theorem f_109_73 : xfind (xnth xTs 109) 73 = some (73, .iload_n 2, 1, (0, 0, 0, 0), .null, [], 0, 0, []) := rfl
theorem f_109_74 : xfind (xnth xTs 109) 74 = some (74, .if_icmp .lt 6, 3, (0, 0, 0, 0), .null, [], 0, 0, []) := rfl
theorem f_109_77 : xfind (xnth xTs 109) 77 = some (77, .iload 5, 2, (0, 0, 0, 0), .null, [], 0, 0, []) := rfl
theorem f_109_79 : xfind (xnth xTs 109) 79 = some (79, .ireturn, 1, (0, 0, 0, 0), .null, [], 0, 0, []) := rfl
theorem f_109_80 : xfind (xnth xTs 109) 80 = some (80, .iinc 5 1, 3, (0, 0, 0, 0), .null, [], 0, 0, []) := rfl
theorem f_109_83 : xfind (xnth xTs 109) 83 = some (83, .goto (-33), 3, (0, 0, 0, 0), .null, [], 0, 0, []) := rfl
theorem f_109_86 : xfind (xnth xTs 109) 86 = some (86, .iconst (-1), 1, (0, 0, 0, 0), (.int (-1)), [], 0, 0, []) := rfl
theorem f_109_87 : xfind (xnth xTs 109) 87 = some (87, .ireturn, 1, (0, 0, 0, 0), .null, [], 0, 0, []) := rfl
theorem hd_109_50 : xhead 109 50 = some [] := rfl
theorem b_C_least_0 (sh : xSh) (M : Nat → Nat → Int32) (J : Nat → Nat → Int64) (l0 : Nat) (l1 : Int32) (l2 : Int32) : ev (109, 0, [.ref l0, .int l1, .int l2, .null, .null, .null], [], (sh, M, J)) = ((ev (126, 0, [.int l1], [], (sh, M, J))).bind (fun r => ev (109, 4, [.ref l0, .int l1, .int l2, .null, .null, .null], r.1.toList ++ [], r.2))) := by
  refine ev_nx (s1 := (109, 1, [.ref l0, .int l1, .int l2, .null, .null, .null], [.int l1], (sh, M, J))) f_109_0 rfl ?_
  exact ev_c1 (s1 := (126, 0, [.int l1], [], (sh, M, J))) (k := (109, 4, [.ref l0, .int l1, .int l2, .null, .null, .null], [])) f_109_1 rfl
theorem b_C_least_4 (sh : xSh) (M : Nat → Nat → Int32) (J : Nat → Nat → Int64) (l0 : Nat) (l1 : Int32) (l2 : Int32) (k0 : Int32) : ev (109, 4, [.ref l0, .int l1, .int l2, .null, .null, .null], [.int k0], (sh, M, J)) = (bif !decide (k0 = 0) then (ev (125, 0, [.int l2, .int 0, .int 99], [], (sh, M, J))).bind (fun r => ev (109, 17, [.ref l0, .int l1, .int l2, .null, .null, .null], r.1.toList ++ [], r.2)) else some (some (.int (-1000000001)), (sh, M, J))) := by
  refine ev_br (s1 := (109, 10, [.ref l0, .int l1, .int l2, .null, .null, .null], [], (sh, M, J))) (s2 := (109, 7, [.ref l0, .int l1, .int l2, .null, .null, .null], [], (sh, M, J))) f_109_4 rfl ?_ ?_
  · refine ev_nx (s1 := (109, 11, [.ref l0, .int l1, .int l2, .null, .null, .null], [.int l2], (sh, M, J))) f_109_10 rfl ?_
    refine ev_nx (s1 := (109, 12, [.ref l0, .int l1, .int l2, .null, .null, .null], [.int 0, .int l2], (sh, M, J))) f_109_11 rfl ?_
    refine ev_nx (s1 := (109, 14, [.ref l0, .int l1, .int l2, .null, .null, .null], [.int 99, .int 0, .int l2], (sh, M, J))) f_109_12 rfl ?_
    exact ev_c1 (s1 := (125, 0, [.int l2, .int 0, .int 99], [], (sh, M, J))) (k := (109, 17, [.ref l0, .int l1, .int l2, .null, .null, .null], [])) f_109_14 rfl
  · refine ev_nx (s1 := (109, 9, [.ref l0, .int l1, .int l2, .null, .null, .null], [.int (-1000000001)], (sh, M, J))) f_109_7 rfl ?_
    exact ev_r1 f_109_9 rfl
theorem b_C_least_17 (sh : xSh) (M : Nat → Nat → Int32) (J : Nat → Nat → Int64) (l0 : Nat) (l1 : Int32) (l2 : Int32) (k0 : Int32) : ev (109, 17, [.ref l0, .int l1, .int l2, .null, .null, .null], [.int k0], (sh, M, J)) = (bif !decide (k0 = 0) then bif decide ((sh.2.2.1 l0).1 = 8) then bif decide ((sh.2.2.1 l0).1 = 8) then bif (decide ((sh.2.2.1 (sh.2.2.2 l0 1)).1 = 6) && true) then (ev (72, 0, [.ref (sh.2.2.2 l0 1), .ref (sh.2.2.2 l0 0), .null, .null], [], (sh, M, J))).bind (fun r => ev (109, 34, [.ref l0, .int l1, .int l2, .null, .null, .null], r.1.toList ++ [], r.2)) else none else none else none else some (some (.int (-1000000002)), (sh, M, J))) := by
  refine ev_br (s1 := (109, 23, [.ref l0, .int l1, .int l2, .null, .null, .null], [], (sh, M, J))) (s2 := (109, 20, [.ref l0, .int l1, .int l2, .null, .null, .null], [], (sh, M, J))) f_109_17 rfl ?_ ?_
  · refine ev_nx (s1 := (109, 24, [.ref l0, .int l1, .int l2, .null, .null, .null], [.ref l0], (sh, M, J))) f_109_23 rfl ?_
    refine ev_gd (s1 := (109, 27, [.ref l0, .int l1, .int l2, .null, .null, .null], [.ref (sh.2.2.2 l0 1)], (sh, M, J))) f_109_24 rfl ?_
    refine ev_nx (s1 := (109, 28, [.ref l0, .int l1, .int l2, .null, .null, .null], [.ref l0, .ref (sh.2.2.2 l0 1)], (sh, M, J))) f_109_27 rfl ?_
    refine ev_gd (s1 := (109, 31, [.ref l0, .int l1, .int l2, .null, .null, .null], [.ref (sh.2.2.2 l0 0), .ref (sh.2.2.2 l0 1)], (sh, M, J))) f_109_28 rfl ?_
    exact ev_ca (cc := (decide ((sh.2.2.1 (sh.2.2.2 l0 1)).1 = 6) && true)) (s1 := (72, 0, [.ref (sh.2.2.2 l0 1), .ref (sh.2.2.2 l0 0), .null, .null], [], (sh, M, J))) (k := (109, 34, [.ref l0, .int l1, .int l2, .null, .null, .null], [])) f_109_31 rfl
  · refine ev_nx (s1 := (109, 22, [.ref l0, .int l1, .int l2, .null, .null, .null], [.int (-1000000002)], (sh, M, J))) f_109_20 rfl ?_
    exact ev_r1 f_109_22 rfl
theorem b_C_least_34 (sh : xSh) (M : Nat → Nat → Int32) (J : Nat → Nat → Int64) (l0 : Nat) (l1 : Int32) (l2 : Int32) (k0 : Int32) : ev (109, 34, [.ref l0, .int l1, .int l2, .null, .null, .null], [.int k0], (sh, M, J)) = (bif decide ((sh.2.2.1 l0).1 = 8) then bif (decide ((sh.2.2.1 (sh.2.2.2 l0 1)).1 = 6) && true) then (ev (59, 0, [.ref (sh.2.2.2 l0 1)], [], (sh, M, J))).bind (fun r => ev (109, 42, [.ref l0, .int l1, .int l2, .int k0, .null, .null], r.1.toList ++ [], r.2)) else none else none) := by
  refine ev_nx (s1 := (109, 35, [.ref l0, .int l1, .int l2, .int k0, .null, .null], [], (sh, M, J))) f_109_34 rfl ?_
  refine ev_nx (s1 := (109, 36, [.ref l0, .int l1, .int l2, .int k0, .null, .null], [.ref l0], (sh, M, J))) f_109_35 rfl ?_
  refine ev_gd (s1 := (109, 39, [.ref l0, .int l1, .int l2, .int k0, .null, .null], [.ref (sh.2.2.2 l0 1)], (sh, M, J))) f_109_36 rfl ?_
  exact ev_ca (cc := (decide ((sh.2.2.1 (sh.2.2.2 l0 1)).1 = 6) && true)) (s1 := (59, 0, [.ref (sh.2.2.2 l0 1)], [], (sh, M, J))) (k := (109, 42, [.ref l0, .int l1, .int l2, .int k0, .null, .null], [])) f_109_39 rfl
theorem b_C_least_42 (sh : xSh) (M : Nat → Nat → Int32) (J : Nat → Nat → Int64) (l0 : Nat) (l1 : Int32) (l2 : Int32) (l3 : Int32) (k0 : Int32) : ev (109, 42, [.ref l0, .int l1, .int l2, .int l3, .null, .null], [.int k0], (sh, M, J)) = ((ev (202, 0, [.int k0], [], (sh, M, J))).bind (fun r => ev (109, 45, [.ref l0, .int l1, .int l2, .int l3, .null, .null], r.1.toList ++ [], r.2))) := by
  exact ev_c1 (s1 := (202, 0, [.int k0], [], (sh, M, J))) (k := (109, 45, [.ref l0, .int l1, .int l2, .int l3, .null, .null], [])) f_109_42 rfl
theorem b_C_least_45 (sh : xSh) (M : Nat → Nat → Int32) (J : Nat → Nat → Int64) (l0 : Nat) (l1 : Int32) (l2 : Int32) (l3 : Int32) (k0 : Int32) : ev (109, 45, [.ref l0, .int l1, .int l2, .int l3, .null, .null], [.int k0], (sh, M, J)) = (ev (109, 50, [.ref l0, .int l1, .int l2, .int l3, .int k0, .int 0], [], (sh, M, J))) := by
  refine ev_nx (s1 := (109, 47, [.ref l0, .int l1, .int l2, .int l3, .int k0, .null], [], (sh, M, J))) f_109_45 rfl ?_
  refine ev_nx (s1 := (109, 48, [.ref l0, .int l1, .int l2, .int l3, .int k0, .null], [.int 0], (sh, M, J))) f_109_47 rfl ?_
  refine ev_nx (s1 := (109, 50, [.ref l0, .int l1, .int l2, .int l3, .int k0, .int 0], [], (sh, M, J))) f_109_48 rfl ?_
  exact rfl
theorem b_C_least_50 (sh : xSh) (M : Nat → Nat → Int32) (J : Nat → Nat → Int64) (l0 : Nat) (l1 : Int32) (l2 : Int32) (l3 : Int32) (l4 : Int32) (l5 : Int32) : ev (109, 50, [.ref l0, .int l1, .int l2, .int l3, .int l4, .int l5], [], (sh, M, J)) = (bif decide (l4 < l5) then some (some (.int (-1)), (sh, M, J)) else bif decide ((sh.2.2.1 l0).1 = 8) then bif (decide ((sh.2.2.1 (sh.2.2.2 l0 0)).1 = 1) && true) then (ev (9, 0, [.ref (sh.2.2.2 l0 0), .int l1], [], (sh, M, J))).bind (fun r => ev (109, 68, [.ref l0, .int l1, .int l2, .int l3, .int l4, .int l5], r.1.toList ++ [.int l5, .int l3], r.2)) else none else none) := by
  refine ev_nx (s1 := (109, 52, [.ref l0, .int l1, .int l2, .int l3, .int l4, .int l5], [.int l5], (sh, M, J))) f_109_50 rfl ?_
  refine ev_nx (s1 := (109, 54, [.ref l0, .int l1, .int l2, .int l3, .int l4, .int l5], [.int l4, .int l5], (sh, M, J))) f_109_52 rfl ?_
  refine ev_br (s1 := (109, 86, [.ref l0, .int l1, .int l2, .int l3, .int l4, .int l5], [], (sh, M, J))) (s2 := (109, 57, [.ref l0, .int l1, .int l2, .int l3, .int l4, .int l5], [], (sh, M, J))) f_109_54 rfl ?_ ?_
  · refine ev_nx (s1 := (109, 87, [.ref l0, .int l1, .int l2, .int l3, .int l4, .int l5], [.int (-1)], (sh, M, J))) f_109_86 rfl ?_
    exact ev_r1 f_109_87 rfl
  · refine ev_nx (s1 := (109, 58, [.ref l0, .int l1, .int l2, .int l3, .int l4, .int l5], [.int l3], (sh, M, J))) f_109_57 rfl ?_
    refine ev_nx (s1 := (109, 60, [.ref l0, .int l1, .int l2, .int l3, .int l4, .int l5], [.int l5, .int l3], (sh, M, J))) f_109_58 rfl ?_
    refine ev_nx (s1 := (109, 61, [.ref l0, .int l1, .int l2, .int l3, .int l4, .int l5], [.ref l0, .int l5, .int l3], (sh, M, J))) f_109_60 rfl ?_
    refine ev_gd (s1 := (109, 64, [.ref l0, .int l1, .int l2, .int l3, .int l4, .int l5], [.ref (sh.2.2.2 l0 0), .int l5, .int l3], (sh, M, J))) f_109_61 rfl ?_
    refine ev_nx (s1 := (109, 65, [.ref l0, .int l1, .int l2, .int l3, .int l4, .int l5], [.int l1, .ref (sh.2.2.2 l0 0), .int l5, .int l3], (sh, M, J))) f_109_64 rfl ?_
    exact ev_ca (cc := (decide ((sh.2.2.1 (sh.2.2.2 l0 0)).1 = 1) && true)) (s1 := (9, 0, [.ref (sh.2.2.2 l0 0), .int l1], [], (sh, M, J))) (k := (109, 68, [.ref l0, .int l1, .int l2, .int l3, .int l4, .int l5], [.int l5, .int l3])) f_109_65 rfl
theorem b_C_least_68 (sh : xSh) (M : Nat → Nat → Int32) (J : Nat → Nat → Int64) (l0 : Nat) (l1 : Int32) (l2 : Int32) (l3 : Int32) (l4 : Int32) (l5 : Int32) (k0 : Int32) (k1 : Int32) (k2 : Int32) : ev (109, 68, [.ref l0, .int l1, .int l2, .int l3, .int l4, .int l5], [.int k0, .int k1, .int k2], (sh, M, J)) = ((ev (128, 0, [.int (k2 + (k1 * k0))], [], (sh, M, J))).bind (fun r => ev (109, 73, [.ref l0, .int l1, .int l2, .int l3, .int l4, .int l5], r.1.toList ++ [], r.2))) := by
  refine ev_nx (s1 := (109, 69, [.ref l0, .int l1, .int l2, .int l3, .int l4, .int l5], [.int (k1 * k0), .int k2], (sh, M, J))) f_109_68 rfl ?_
  refine ev_nx (s1 := (109, 70, [.ref l0, .int l1, .int l2, .int l3, .int l4, .int l5], [.int (k2 + (k1 * k0))], (sh, M, J))) f_109_69 rfl ?_
  exact ev_c1 (s1 := (128, 0, [.int (k2 + (k1 * k0))], [], (sh, M, J))) (k := (109, 73, [.ref l0, .int l1, .int l2, .int l3, .int l4, .int l5], [])) f_109_70 rfl
theorem b_C_least_73 (sh : xSh) (M : Nat → Nat → Int32) (J : Nat → Nat → Int64) (l0 : Nat) (l1 : Int32) (l2 : Int32) (l3 : Int32) (l4 : Int32) (l5 : Int32) (k0 : Int32) : ev (109, 73, [.ref l0, .int l1, .int l2, .int l3, .int l4, .int l5], [.int k0], (sh, M, J)) = (bif decide (k0 < l2) then ev (109, 50, [.ref l0, .int l1, .int l2, .int l3, .int l4, .int (l5 + 1)], [], (sh, M, J)) else some (some (.int l5), (sh, M, J))) := by
  refine ev_nx (s1 := (109, 74, [.ref l0, .int l1, .int l2, .int l3, .int l4, .int l5], [.int l2, .int k0], (sh, M, J))) f_109_73 rfl ?_
  refine ev_br (s1 := (109, 80, [.ref l0, .int l1, .int l2, .int l3, .int l4, .int l5], [], (sh, M, J))) (s2 := (109, 77, [.ref l0, .int l1, .int l2, .int l3, .int l4, .int l5], [], (sh, M, J))) f_109_74 rfl ?_ ?_
  · refine ev_nx (s1 := (109, 83, [.ref l0, .int l1, .int l2, .int l3, .int l4, .int (l5 + 1)], [], (sh, M, J))) f_109_80 rfl ?_
    refine ev_nx (s1 := (109, 50, [.ref l0, .int l1, .int l2, .int l3, .int l4, .int (l5 + 1)], [], (sh, M, J))) f_109_83 rfl ?_
    exact rfl
  · refine ev_nx (s1 := (109, 79, [.ref l0, .int l1, .int l2, .int l3, .int l4, .int l5], [.int l5], (sh, M, J))) f_109_77 rfl ?_
    exact ev_r1 f_109_79 rfl
theorem f_110_0 : xfind (xnth xTs 110) 0 = some (0, .iconst 0, 1, (0, 0, 0, 0), (.int 0), [], 0, 0, []) := rfl
theorem f_110_1 : xfind (xnth xTs 110) 1 = some (1, .istore_n 1, 1, (0, 0, 0, 0), .null, [], 0, 0, []) := rfl
theorem f_110_2 : xfind (xnth xTs 110) 2 = some (2, .iconst 0, 1, (0, 0, 0, 0), (.int 0), [], 0, 0, []) := rfl
theorem f_110_3 : xfind (xnth xTs 110) 3 = some (3, .istore_n 2, 1, (0, 0, 0, 0), .null, [], 0, 0, []) := rfl
theorem f_110_4 : xfind (xnth xTs 110) 4 = some (4, .iconst 0, 1, (0, 0, 0, 0), (.int 0), [], 0, 0, []) := rfl
theorem f_110_5 : xfind (xnth xTs 110) 5 = some (5, .istore_n 3, 1, (0, 0, 0, 0), .null, [], 0, 0, []) := rfl
theorem f_110_6 : xfind (xnth xTs 110) 6 = some (6, .iload_n 3, 1, (0, 0, 0, 0), .null, [], 0, 1, [4]) := rfl
theorem f_110_7 : xfind (xnth xTs 110) 7 = some (7, .aload_n 0, 1, (0, 0, 0, 0), .null, [], 0, 0, []) := rfl
theorem f_110_8 : xfind (xnth xTs 110) 8 = some (8, .getfield 10, 3, (8, 0, 1, 0), .null, [], 291, 0, []) := rfl
theorem f_110_11 : xfind (xnth xTs 110) 11 = some (11, .invokevirtual 250, 3, (13, 0, 1, 1), .null, [], 614, 0, []) := rfl
theorem f_110_14 : xfind (xnth xTs 110) 14 = some (14, .if_icmp .ge 72, 3, (0, 0, 0, 0), .null, [], 0, 0, []) := rfl
theorem f_110_17 : xfind (xnth xTs 110) 17 = some (17, .aload_n 0, 1, (0, 0, 0, 0), .null, [], 0, 0, []) := rfl
theorem f_110_18 : xfind (xnth xTs 110) 18 = some (18, .getfield 19, 3, (8, 1, 1, 0), .null, [], 292, 0, []) := rfl
theorem f_110_21 : xfind (xnth xTs 110) 21 = some (21, .invokevirtual 120, 3, (59, 0, 6, 1), .null, [], 485, 0, []) := rfl
theorem f_110_24 : xfind (xnth xTs 110) 24 = some (24, .iload_n 3, 1, (0, 0, 0, 0), .null, [], 0, 0, []) := rfl
theorem f_110_25 : xfind (xnth xTs 110) 25 = some (25, .invokestatic 153, 3, (127, 2, 8, 2), .null, [], 558, 0, []) := rfl
theorem f_110_28 : xfind (xnth xTs 110) 28 = some (28, .ifCond .eq 7, 3, (0, 0, 0, 0), .null, [], 0, 0, []) := rfl
theorem f_110_31 : xfind (xnth xTs 110) 31 = some (31, .iconst 0, 1, (0, 0, 0, 0), (.int 0), [], 0, 0, []) := rfl
theorem f_110_32 : xfind (xnth xTs 110) 32 = some (32, .goto 18, 3, (0, 0, 0, 0), .null, [], 0, 0, []) := rfl
theorem f_110_35 : xfind (xnth xTs 110) 35 = some (35, .aload_n 0, 1, (0, 0, 0, 0), .null, [], 0, 0, []) := rfl
theorem f_110_36 : xfind (xnth xTs 110) 36 = some (36, .getfield 10, 3, (8, 0, 1, 0), .null, [], 291, 0, []) := rfl
theorem f_110_39 : xfind (xnth xTs 110) 39 = some (39, .aload_n 0, 1, (0, 0, 0, 0), .null, [], 0, 0, []) := rfl
theorem f_110_40 : xfind (xnth xTs 110) 40 = some (40, .getfield 19, 3, (8, 1, 1, 0), .null, [], 292, 0, []) := rfl
theorem f_110_43 : xfind (xnth xTs 110) 43 = some (43, .iload_n 3, 1, (0, 0, 0, 0), .null, [], 0, 0, []) := rfl
theorem f_110_44 : xfind (xnth xTs 110) 44 = some (44, .invokevirtual 149, 3, (61, 1, 6, 2), .null, [], 557, 0, []) := rfl
theorem f_110_47 : xfind (xnth xTs 110) 47 = some (47, .invokevirtual 170, 3, (10, 1, 1, 2), .null, [], 584, 0, []) := rfl
theorem f_110_50 : xfind (xnth xTs 110) 50 = some (50, .istore 4, 2, (0, 0, 0, 0), .null, [], 0, 0, []) := rfl
theorem f_110_52 : xfind (xnth xTs 110) 52 = some (52, .iload 4, 2, (0, 0, 0, 0), .null, [], 0, 0, []) := rfl
theorem f_110_54 : xfind (xnth xTs 110) 54 = some (54, .iload_n 1, 1, (0, 0, 0, 0), .null, [], 0, 0, []) := rfl
theorem f_110_55 : xfind (xnth xTs 110) 55 = some (55, .if_icmp .le 8, 3, (0, 0, 0, 0), .null, [], 0, 0, []) := rfl
theorem f_110_58 : xfind (xnth xTs 110) 58 = some (58, .iload 4, 2, (0, 0, 0, 0), .null, [], 0, 0, []) := rfl
theorem f_110_60 : xfind (xnth xTs 110) 60 = some (60, .istore_n 1, 1, (0, 0, 0, 0), .null, [], 0, 0, []) := rfl
theorem f_110_61 : xfind (xnth xTs 110) 61 = some (61, .iconst 0, 1, (0, 0, 0, 0), (.int 0), [], 0, 0, []) := rfl
theorem f_110_62 : xfind (xnth xTs 110) 62 = some (62, .istore_n 2, 1, (0, 0, 0, 0), .null, [], 0, 0, []) := rfl
theorem f_110_63 : xfind (xnth xTs 110) 63 = some (63, .iload 4, 2, (0, 0, 0, 0), .null, [], 0, 0, []) := rfl
theorem f_110_65 : xfind (xnth xTs 110) 65 = some (65, .ifCond .le 15, 3, (0, 0, 0, 0), .null, [], 0, 0, []) := rfl
theorem f_110_68 : xfind (xnth xTs 110) 68 = some (68, .iload 4, 2, (0, 0, 0, 0), .null, [], 0, 0, []) := rfl
theorem f_110_70 : xfind (xnth xTs 110) 70 = some (70, .iload_n 1, 1, (0, 0, 0, 0), .null, [], 0, 0, []) := rfl
theorem f_110_71 : xfind (xnth xTs 110) 71 = some (71, .if_icmp .ne 9, 3, (0, 0, 0, 0), .null, [], 0, 0, []) := rfl
theorem f_110_74 : xfind (xnth xTs 110) 74 = some (74, .iload_n 2, 1, (0, 0, 0, 0), .null, [], 0, 0, []) := rfl
theorem f_110_75 : xfind (xnth xTs 110) 75 = some (75, .iconst 1, 1, (0, 0, 0, 0), (.int 1), [], 0, 0, []) := rfl
theorem f_110_76 : xfind (xnth xTs 110) 76 = some (76, .iload_n 3, 1, (0, 0, 0, 0), .null, [], 0, 0, []) := rfl
theorem f_110_77 : xfind (xnth xTs 110) 77 = some (77, .ishl, 1, (0, 0, 0, 0), .null, [], 0, 0, []) := rfl
theorem f_110_78 : xfind (xnth xTs 110) 78 = some (78, .ior, 1, (0, 0, 0, 0), .null, [], 0, 0, []) := rfl
theorem f_110_79 : xfind (xnth xTs 110) 79 = some (79, .istore_n 2, 1, (0, 0, 0, 0), .null, [], 0, 0, []) := rfl
theorem f_110_80 : xfind (xnth xTs 110) 80 = some (80, .iinc 3 1, 3, (0, 0, 0, 0), .null, [], 0, 0, []) := rfl
theorem f_110_83 : xfind (xnth xTs 110) 83 = some (83, .goto (-77), 3, (0, 0, 0, 0), .null, [], 0, 0, []) := rfl
theorem f_110_86 : xfind (xnth xTs 110) 86 = some (86, .iload_n 2, 1, (0, 0, 0, 0), .null, [], 0, 0, []) := rfl
theorem f_110_87 : xfind (xnth xTs 110) 87 = some (87, .ireturn, 1, (0, 0, 0, 0), .null, [], 0, 0, []) := rfl
theorem hd_110_6 : xhead 110 6 = some [4] := rfl
theorem b_C_moths_0 (sh : xSh) (M : Nat → Nat → Int32) (J : Nat → Nat → Int64) (l0 : Nat) : ev (110, 0, [.ref l0, .null, .null, .null, .null], [], (sh, M, J)) = (ev (110, 6, [.ref l0, .int 0, .int 0, .int 0, .null], [], (sh, M, J))) := by
  refine ev_nx (s1 := (110, 1, [.ref l0, .null, .null, .null, .null], [.int 0], (sh, M, J))) f_110_0 rfl ?_
  refine ev_nx (s1 := (110, 2, [.ref l0, .int 0, .null, .null, .null], [], (sh, M, J))) f_110_1 rfl ?_
  refine ev_nx (s1 := (110, 3, [.ref l0, .int 0, .null, .null, .null], [.int 0], (sh, M, J))) f_110_2 rfl ?_
  refine ev_nx (s1 := (110, 4, [.ref l0, .int 0, .int 0, .null, .null], [], (sh, M, J))) f_110_3 rfl ?_
  refine ev_nx (s1 := (110, 5, [.ref l0, .int 0, .int 0, .null, .null], [.int 0], (sh, M, J))) f_110_4 rfl ?_
  refine ev_nx (s1 := (110, 6, [.ref l0, .int 0, .int 0, .int 0, .null], [], (sh, M, J))) f_110_5 rfl ?_
  exact rfl
theorem b_C_moths_6 (sh : xSh) (M : Nat → Nat → Int32) (J : Nat → Nat → Int64) (l0 : Nat) (l1 : Int32) (l2 : Int32) (l3 : Int32) : ev (110, 6, [.ref l0, .int l1, .int l2, .int l3, .null], [], (sh, M, J)) = (bif decide ((sh.2.2.1 l0).1 = 8) then bif (decide ((sh.2.2.1 (sh.2.2.2 l0 0)).1 = 1) && true) then (ev (13, 0, [.ref (sh.2.2.2 l0 0)], [], (sh, M, J))).bind (fun r => ev (110, 14, [.ref l0, .int l1, .int l2, .int l3, .null], r.1.toList ++ [.int l3], r.2)) else none else none) := by
  refine ev_nx (s1 := (110, 7, [.ref l0, .int l1, .int l2, .int l3, .null], [.int l3], (sh, M, J))) f_110_6 rfl ?_
  refine ev_nx (s1 := (110, 8, [.ref l0, .int l1, .int l2, .int l3, .null], [.ref l0, .int l3], (sh, M, J))) f_110_7 rfl ?_
  refine ev_gd (s1 := (110, 11, [.ref l0, .int l1, .int l2, .int l3, .null], [.ref (sh.2.2.2 l0 0), .int l3], (sh, M, J))) f_110_8 rfl ?_
  exact ev_ca (cc := (decide ((sh.2.2.1 (sh.2.2.2 l0 0)).1 = 1) && true)) (s1 := (13, 0, [.ref (sh.2.2.2 l0 0)], [], (sh, M, J))) (k := (110, 14, [.ref l0, .int l1, .int l2, .int l3, .null], [.int l3])) f_110_11 rfl
theorem b_C_moths_14 (sh : xSh) (M : Nat → Nat → Int32) (J : Nat → Nat → Int64) (l0 : Nat) (l1 : Int32) (l2 : Int32) (l3 : Int32) (k0 : Int32) (k1 : Int32) : ev (110, 14, [.ref l0, .int l1, .int l2, .int l3, .null], [.int k0, .int k1], (sh, M, J)) = (bif decide (k0 ≤ k1) then some (some (.int l2), (sh, M, J)) else bif decide ((sh.2.2.1 l0).1 = 8) then bif (decide ((sh.2.2.1 (sh.2.2.2 l0 1)).1 = 6) && true) then (ev (59, 0, [.ref (sh.2.2.2 l0 1)], [], (sh, M, J))).bind (fun r => ev (110, 24, [.ref l0, .int l1, .int l2, .int l3, .null], r.1.toList ++ [], r.2)) else none else none) := by
  refine ev_br (s1 := (110, 86, [.ref l0, .int l1, .int l2, .int l3, .null], [], (sh, M, J))) (s2 := (110, 17, [.ref l0, .int l1, .int l2, .int l3, .null], [], (sh, M, J))) f_110_14 rfl ?_ ?_
  · refine ev_nx (s1 := (110, 87, [.ref l0, .int l1, .int l2, .int l3, .null], [.int l2], (sh, M, J))) f_110_86 rfl ?_
    exact ev_r1 f_110_87 rfl
  · refine ev_nx (s1 := (110, 18, [.ref l0, .int l1, .int l2, .int l3, .null], [.ref l0], (sh, M, J))) f_110_17 rfl ?_
    refine ev_gd (s1 := (110, 21, [.ref l0, .int l1, .int l2, .int l3, .null], [.ref (sh.2.2.2 l0 1)], (sh, M, J))) f_110_18 rfl ?_
    exact ev_ca (cc := (decide ((sh.2.2.1 (sh.2.2.2 l0 1)).1 = 6) && true)) (s1 := (59, 0, [.ref (sh.2.2.2 l0 1)], [], (sh, M, J))) (k := (110, 24, [.ref l0, .int l1, .int l2, .int l3, .null], [])) f_110_21 rfl
theorem b_C_moths_24 (sh : xSh) (M : Nat → Nat → Int32) (J : Nat → Nat → Int64) (l0 : Nat) (l1 : Int32) (l2 : Int32) (l3 : Int32) (k0 : Int32) : ev (110, 24, [.ref l0, .int l1, .int l2, .int l3, .null], [.int k0], (sh, M, J)) = ((ev (127, 0, [.int k0, .int l3], [], (sh, M, J))).bind (fun r => ev (110, 28, [.ref l0, .int l1, .int l2, .int l3, .null], r.1.toList ++ [], r.2))) := by
  refine ev_nx (s1 := (110, 25, [.ref l0, .int l1, .int l2, .int l3, .null], [.int l3, .int k0], (sh, M, J))) f_110_24 rfl ?_
  exact ev_c1 (s1 := (127, 0, [.int k0, .int l3], [], (sh, M, J))) (k := (110, 28, [.ref l0, .int l1, .int l2, .int l3, .null], [])) f_110_25 rfl
theorem b_C_moths_28 (sh : xSh) (M : Nat → Nat → Int32) (J : Nat → Nat → Int64) (l0 : Nat) (l1 : Int32) (l2 : Int32) (l3 : Int32) (k0 : Int32) : ev (110, 28, [.ref l0, .int l1, .int l2, .int l3, .null], [.int k0], (sh, M, J)) = (bif decide (k0 = 0) then bif decide ((sh.2.2.1 l0).1 = 8) then bif decide ((sh.2.2.1 l0).1 = 8) then bif (decide ((sh.2.2.1 (sh.2.2.2 l0 1)).1 = 6) && true) then (ev (61, 0, [.ref (sh.2.2.2 l0 1), .int l3], [], (sh, M, J))).bind (fun r => ev (110, 47, [.ref l0, .int l1, .int l2, .int l3, .null], r.1.toList ++ [.ref (sh.2.2.2 l0 0)], r.2)) else none else none else none else bif decide ((0 : Int32) ≤ l1) then ev (110, 6, [.ref l0, .int l1, .int l2, .int (l3 + 1), .null], [], (sh, M, J)) else ev (110, 6, [.ref l0, .int 0, .int 0, .int (l3 + 1), .null], [], (sh, M, J))) := by
  refine ev_br (s1 := (110, 35, [.ref l0, .int l1, .int l2, .int l3, .null], [], (sh, M, J))) (s2 := (110, 31, [.ref l0, .int l1, .int l2, .int l3, .null], [], (sh, M, J))) f_110_28 rfl ?_ ?_
  · refine ev_nx (s1 := (110, 36, [.ref l0, .int l1, .int l2, .int l3, .null], [.ref l0], (sh, M, J))) f_110_35 rfl ?_
    refine ev_gd (s1 := (110, 39, [.ref l0, .int l1, .int l2, .int l3, .null], [.ref (sh.2.2.2 l0 0)], (sh, M, J))) f_110_36 rfl ?_
    refine ev_nx (s1 := (110, 40, [.ref l0, .int l1, .int l2, .int l3, .null], [.ref l0, .ref (sh.2.2.2 l0 0)], (sh, M, J))) f_110_39 rfl ?_
    refine ev_gd (s1 := (110, 43, [.ref l0, .int l1, .int l2, .int l3, .null], [.ref (sh.2.2.2 l0 1), .ref (sh.2.2.2 l0 0)], (sh, M, J))) f_110_40 rfl ?_
    refine ev_nx (s1 := (110, 44, [.ref l0, .int l1, .int l2, .int l3, .null], [.int l3, .ref (sh.2.2.2 l0 1), .ref (sh.2.2.2 l0 0)], (sh, M, J))) f_110_43 rfl ?_
    exact ev_ca (cc := (decide ((sh.2.2.1 (sh.2.2.2 l0 1)).1 = 6) && true)) (s1 := (61, 0, [.ref (sh.2.2.2 l0 1), .int l3], [], (sh, M, J))) (k := (110, 47, [.ref l0, .int l1, .int l2, .int l3, .null], [.ref (sh.2.2.2 l0 0)])) f_110_44 rfl
  · refine ev_nx (s1 := (110, 32, [.ref l0, .int l1, .int l2, .int l3, .null], [.int 0], (sh, M, J))) f_110_31 rfl ?_
    refine ev_nx (s1 := (110, 50, [.ref l0, .int l1, .int l2, .int l3, .null], [.int 0], (sh, M, J))) f_110_32 rfl ?_
    refine ev_nx (s1 := (110, 52, [.ref l0, .int l1, .int l2, .int l3, .int 0], [], (sh, M, J))) f_110_50 rfl ?_
    refine ev_nx (s1 := (110, 54, [.ref l0, .int l1, .int l2, .int l3, .int 0], [.int 0], (sh, M, J))) f_110_52 rfl ?_
    refine ev_nx (s1 := (110, 55, [.ref l0, .int l1, .int l2, .int l3, .int 0], [.int l1, .int 0], (sh, M, J))) f_110_54 rfl ?_
    refine ev_br (s1 := (110, 63, [.ref l0, .int l1, .int l2, .int l3, .int 0], [], (sh, M, J))) (s2 := (110, 58, [.ref l0, .int l1, .int l2, .int l3, .int 0], [], (sh, M, J))) f_110_55 rfl ?_ ?_
    · refine ev_nx (s1 := (110, 65, [.ref l0, .int l1, .int l2, .int l3, .int 0], [.int 0], (sh, M, J))) f_110_63 rfl ?_
      refine ev_bt (s1 := (110, 80, [.ref l0, .int l1, .int l2, .int l3, .int 0], [], (sh, M, J))) (s2 := (110, 68, [.ref l0, .int l1, .int l2, .int l3, .int 0], [], (sh, M, J))) f_110_65 rfl rfl ?_
      refine ev_nx (s1 := (110, 83, [.ref l0, .int l1, .int l2, .int (l3 + 1), .int 0], [], (sh, M, J))) f_110_80 rfl ?_
      refine ev_nx (s1 := (110, 6, [.ref l0, .int l1, .int l2, .int (l3 + 1), .int 0], [], (sh, M, J))) f_110_83 rfl ?_
      exact (ev_kill hd_110_6).symm
    · refine ev_nx (s1 := (110, 60, [.ref l0, .int l1, .int l2, .int l3, .int 0], [.int 0], (sh, M, J))) f_110_58 rfl ?_
      refine ev_nx (s1 := (110, 61, [.ref l0, .int 0, .int l2, .int l3, .int 0], [], (sh, M, J))) f_110_60 rfl ?_
      refine ev_nx (s1 := (110, 62, [.ref l0, .int 0, .int l2, .int l3, .int 0], [.int 0], (sh, M, J))) f_110_61 rfl ?_
      refine ev_nx (s1 := (110, 63, [.ref l0, .int 0, .int 0, .int l3, .int 0], [], (sh, M, J))) f_110_62 rfl ?_
      refine ev_nx (s1 := (110, 65, [.ref l0, .int 0, .int 0, .int l3, .int 0], [.int 0], (sh, M, J))) f_110_63 rfl ?_
      refine ev_bt (s1 := (110, 80, [.ref l0, .int 0, .int 0, .int l3, .int 0], [], (sh, M, J))) (s2 := (110, 68, [.ref l0, .int 0, .int 0, .int l3, .int 0], [], (sh, M, J))) f_110_65 rfl rfl ?_
      refine ev_nx (s1 := (110, 83, [.ref l0, .int 0, .int 0, .int (l3 + 1), .int 0], [], (sh, M, J))) f_110_80 rfl ?_
      refine ev_nx (s1 := (110, 6, [.ref l0, .int 0, .int 0, .int (l3 + 1), .int 0], [], (sh, M, J))) f_110_83 rfl ?_
      exact (ev_kill hd_110_6).symm
theorem b_C_moths_47 (sh : xSh) (M : Nat → Nat → Int32) (J : Nat → Nat → Int64) (l0 : Nat) (l1 : Int32) (l2 : Int32) (l3 : Int32) (k0 : Int32) (k1 : Nat) : ev (110, 47, [.ref l0, .int l1, .int l2, .int l3, .null], [.int k0, .ref k1], (sh, M, J)) = (bif (decide ((sh.2.2.1 k1).1 = 1) && true) then (ev (10, 0, [.ref k1, .int k0], [], (sh, M, J))).bind (fun r => ev (110, 50, [.ref l0, .int l1, .int l2, .int l3, .null], r.1.toList ++ [], r.2)) else none) := by
  exact ev_ca (cc := (decide ((sh.2.2.1 k1).1 = 1) && true)) (s1 := (10, 0, [.ref k1, .int k0], [], (sh, M, J))) (k := (110, 50, [.ref l0, .int l1, .int l2, .int l3, .null], [])) f_110_47 rfl
theorem b_C_moths_50 (sh : xSh) (M : Nat → Nat → Int32) (J : Nat → Nat → Int64) (l0 : Nat) (l1 : Int32) (l2 : Int32) (l3 : Int32) (k0 : Int32) : ev (110, 50, [.ref l0, .int l1, .int l2, .int l3, .null], [.int k0], (sh, M, J)) = (bif decide (k0 ≤ l1) then bif decide (k0 ≤ 0) then ev (110, 6, [.ref l0, .int l1, .int l2, .int (l3 + 1), .null], [], (sh, M, J)) else bif !decide (k0 = l1) then ev (110, 6, [.ref l0, .int l1, .int l2, .int (l3 + 1), .null], [], (sh, M, J)) else ev (110, 6, [.ref l0, .int l1, .int (l2 ||| ((1 : Int32) <<< (l3 &&& 31))), .int (l3 + 1), .null], [], (sh, M, J)) else bif decide (k0 ≤ 0) then ev (110, 6, [.ref l0, .int k0, .int 0, .int (l3 + 1), .null], [], (sh, M, J)) else bif !decide (k0 = k0) then ev (110, 6, [.ref l0, .int k0, .int 0, .int (l3 + 1), .null], [], (sh, M, J)) else ev (110, 6, [.ref l0, .int k0, .int ((0 : Int32) ||| ((1 : Int32) <<< (l3 &&& 31))), .int (l3 + 1), .null], [], (sh, M, J))) := by
  refine ev_nx (s1 := (110, 52, [.ref l0, .int l1, .int l2, .int l3, .int k0], [], (sh, M, J))) f_110_50 rfl ?_
  refine ev_nx (s1 := (110, 54, [.ref l0, .int l1, .int l2, .int l3, .int k0], [.int k0], (sh, M, J))) f_110_52 rfl ?_
  refine ev_nx (s1 := (110, 55, [.ref l0, .int l1, .int l2, .int l3, .int k0], [.int l1, .int k0], (sh, M, J))) f_110_54 rfl ?_
  refine ev_br (s1 := (110, 63, [.ref l0, .int l1, .int l2, .int l3, .int k0], [], (sh, M, J))) (s2 := (110, 58, [.ref l0, .int l1, .int l2, .int l3, .int k0], [], (sh, M, J))) f_110_55 rfl ?_ ?_
  · refine ev_nx (s1 := (110, 65, [.ref l0, .int l1, .int l2, .int l3, .int k0], [.int k0], (sh, M, J))) f_110_63 rfl ?_
    refine ev_br (s1 := (110, 80, [.ref l0, .int l1, .int l2, .int l3, .int k0], [], (sh, M, J))) (s2 := (110, 68, [.ref l0, .int l1, .int l2, .int l3, .int k0], [], (sh, M, J))) f_110_65 rfl ?_ ?_
    · refine ev_nx (s1 := (110, 83, [.ref l0, .int l1, .int l2, .int (l3 + 1), .int k0], [], (sh, M, J))) f_110_80 rfl ?_
      refine ev_nx (s1 := (110, 6, [.ref l0, .int l1, .int l2, .int (l3 + 1), .int k0], [], (sh, M, J))) f_110_83 rfl ?_
      exact (ev_kill hd_110_6).symm
    · refine ev_nx (s1 := (110, 70, [.ref l0, .int l1, .int l2, .int l3, .int k0], [.int k0], (sh, M, J))) f_110_68 rfl ?_
      refine ev_nx (s1 := (110, 71, [.ref l0, .int l1, .int l2, .int l3, .int k0], [.int l1, .int k0], (sh, M, J))) f_110_70 rfl ?_
      refine ev_br (s1 := (110, 80, [.ref l0, .int l1, .int l2, .int l3, .int k0], [], (sh, M, J))) (s2 := (110, 74, [.ref l0, .int l1, .int l2, .int l3, .int k0], [], (sh, M, J))) f_110_71 rfl ?_ ?_
      · refine ev_nx (s1 := (110, 83, [.ref l0, .int l1, .int l2, .int (l3 + 1), .int k0], [], (sh, M, J))) f_110_80 rfl ?_
        refine ev_nx (s1 := (110, 6, [.ref l0, .int l1, .int l2, .int (l3 + 1), .int k0], [], (sh, M, J))) f_110_83 rfl ?_
        exact (ev_kill hd_110_6).symm
      · refine ev_nx (s1 := (110, 75, [.ref l0, .int l1, .int l2, .int l3, .int k0], [.int l2], (sh, M, J))) f_110_74 rfl ?_
        refine ev_nx (s1 := (110, 76, [.ref l0, .int l1, .int l2, .int l3, .int k0], [.int 1, .int l2], (sh, M, J))) f_110_75 rfl ?_
        refine ev_nx (s1 := (110, 77, [.ref l0, .int l1, .int l2, .int l3, .int k0], [.int l3, .int 1, .int l2], (sh, M, J))) f_110_76 rfl ?_
        refine ev_nx (s1 := (110, 78, [.ref l0, .int l1, .int l2, .int l3, .int k0], [.int ((1 : Int32) <<< (l3 &&& 31)), .int l2], (sh, M, J))) f_110_77 rfl ?_
        refine ev_nx (s1 := (110, 79, [.ref l0, .int l1, .int l2, .int l3, .int k0], [.int (l2 ||| ((1 : Int32) <<< (l3 &&& 31)))], (sh, M, J))) f_110_78 rfl ?_
        refine ev_nx (s1 := (110, 80, [.ref l0, .int l1, .int (l2 ||| ((1 : Int32) <<< (l3 &&& 31))), .int l3, .int k0], [], (sh, M, J))) f_110_79 rfl ?_
        refine ev_nx (s1 := (110, 83, [.ref l0, .int l1, .int (l2 ||| ((1 : Int32) <<< (l3 &&& 31))), .int (l3 + 1), .int k0], [], (sh, M, J))) f_110_80 rfl ?_
        refine ev_nx (s1 := (110, 6, [.ref l0, .int l1, .int (l2 ||| ((1 : Int32) <<< (l3 &&& 31))), .int (l3 + 1), .int k0], [], (sh, M, J))) f_110_83 rfl ?_
        exact (ev_kill hd_110_6).symm
  · refine ev_nx (s1 := (110, 60, [.ref l0, .int l1, .int l2, .int l3, .int k0], [.int k0], (sh, M, J))) f_110_58 rfl ?_
    refine ev_nx (s1 := (110, 61, [.ref l0, .int k0, .int l2, .int l3, .int k0], [], (sh, M, J))) f_110_60 rfl ?_
    refine ev_nx (s1 := (110, 62, [.ref l0, .int k0, .int l2, .int l3, .int k0], [.int 0], (sh, M, J))) f_110_61 rfl ?_
    refine ev_nx (s1 := (110, 63, [.ref l0, .int k0, .int 0, .int l3, .int k0], [], (sh, M, J))) f_110_62 rfl ?_
    refine ev_nx (s1 := (110, 65, [.ref l0, .int k0, .int 0, .int l3, .int k0], [.int k0], (sh, M, J))) f_110_63 rfl ?_
    refine ev_br (s1 := (110, 80, [.ref l0, .int k0, .int 0, .int l3, .int k0], [], (sh, M, J))) (s2 := (110, 68, [.ref l0, .int k0, .int 0, .int l3, .int k0], [], (sh, M, J))) f_110_65 rfl ?_ ?_
    · refine ev_nx (s1 := (110, 83, [.ref l0, .int k0, .int 0, .int (l3 + 1), .int k0], [], (sh, M, J))) f_110_80 rfl ?_
      refine ev_nx (s1 := (110, 6, [.ref l0, .int k0, .int 0, .int (l3 + 1), .int k0], [], (sh, M, J))) f_110_83 rfl ?_
      exact (ev_kill hd_110_6).symm
    · refine ev_nx (s1 := (110, 70, [.ref l0, .int k0, .int 0, .int l3, .int k0], [.int k0], (sh, M, J))) f_110_68 rfl ?_
      refine ev_nx (s1 := (110, 71, [.ref l0, .int k0, .int 0, .int l3, .int k0], [.int k0, .int k0], (sh, M, J))) f_110_70 rfl ?_
      refine ev_br (s1 := (110, 80, [.ref l0, .int k0, .int 0, .int l3, .int k0], [], (sh, M, J))) (s2 := (110, 74, [.ref l0, .int k0, .int 0, .int l3, .int k0], [], (sh, M, J))) f_110_71 rfl ?_ ?_
      · refine ev_nx (s1 := (110, 83, [.ref l0, .int k0, .int 0, .int (l3 + 1), .int k0], [], (sh, M, J))) f_110_80 rfl ?_
        refine ev_nx (s1 := (110, 6, [.ref l0, .int k0, .int 0, .int (l3 + 1), .int k0], [], (sh, M, J))) f_110_83 rfl ?_
        exact (ev_kill hd_110_6).symm
      · refine ev_nx (s1 := (110, 75, [.ref l0, .int k0, .int 0, .int l3, .int k0], [.int 0], (sh, M, J))) f_110_74 rfl ?_
        refine ev_nx (s1 := (110, 76, [.ref l0, .int k0, .int 0, .int l3, .int k0], [.int 1, .int 0], (sh, M, J))) f_110_75 rfl ?_
        refine ev_nx (s1 := (110, 77, [.ref l0, .int k0, .int 0, .int l3, .int k0], [.int l3, .int 1, .int 0], (sh, M, J))) f_110_76 rfl ?_
        refine ev_nx (s1 := (110, 78, [.ref l0, .int k0, .int 0, .int l3, .int k0], [.int ((1 : Int32) <<< (l3 &&& 31)), .int 0], (sh, M, J))) f_110_77 rfl ?_
        refine ev_nx (s1 := (110, 79, [.ref l0, .int k0, .int 0, .int l3, .int k0], [.int ((0 : Int32) ||| ((1 : Int32) <<< (l3 &&& 31)))], (sh, M, J))) f_110_78 rfl ?_
        refine ev_nx (s1 := (110, 80, [.ref l0, .int k0, .int ((0 : Int32) ||| ((1 : Int32) <<< (l3 &&& 31))), .int l3, .int k0], [], (sh, M, J))) f_110_79 rfl ?_
        refine ev_nx (s1 := (110, 83, [.ref l0, .int k0, .int ((0 : Int32) ||| ((1 : Int32) <<< (l3 &&& 31))), .int (l3 + 1), .int k0], [], (sh, M, J))) f_110_80 rfl ?_
        refine ev_nx (s1 := (110, 6, [.ref l0, .int k0, .int ((0 : Int32) ||| ((1 : Int32) <<< (l3 &&& 31))), .int (l3 + 1), .int k0], [], (sh, M, J))) f_110_83 rfl ?_
        exact (ev_kill hd_110_6).symm
theorem f_111_0 : xfind (xnth xTs 111) 0 = some (0, .iload_n 1, 1, (0, 0, 0, 0), .null, [], 0, 0, []) := rfl
theorem f_111_1 : xfind (xnth xTs 111) 1 = some (1, .iconst 0, 1, (0, 0, 0, 0), (.int 0), [], 0, 0, []) := rfl
theorem f_111_2 : xfind (xnth xTs 111) 2 = some (2, .bipush 60, 2, (0, 0, 0, 0), (.int 60), [], 0, 0, []) := rfl
theorem f_111_4 : xfind (xnth xTs 111) 4 = some (4, .invokestatic 220, 3, (125, 3, 8, 3), .null, [], 613, 0, []) := rfl
theorem f_111_7 : xfind (xnth xTs 111) 7 = some (7, .ifCond .eq 13, 3, (0, 0, 0, 0), .null, [], 0, 0, []) := rfl
theorem f_111_10 : xfind (xnth xTs 111) 10 = some (10, .iload_n 2, 1, (0, 0, 0, 0), .null, [], 0, 0, []) := rfl
theorem f_111_11 : xfind (xnth xTs 111) 11 = some (11, .iconst 0, 1, (0, 0, 0, 0), (.int 0), [], 0, 0, []) := rfl
theorem f_111_12 : xfind (xnth xTs 111) 12 = some (12, .bipush 100, 2, (0, 0, 0, 0), (.int 100), [], 0, 0, []) := rfl
theorem f_111_14 : xfind (xnth xTs 111) 14 = some (14, .invokestatic 220, 3, (125, 3, 8, 3), .null, [], 613, 0, []) := rfl
theorem f_111_17 : xfind (xnth xTs 111) 17 = some (17, .ifCond .ne 6, 3, (0, 0, 0, 0), .null, [], 0, 0, []) := rfl
theorem f_111_20 : xfind (xnth xTs 111) 20 = some (20, .ldc 75, 2, (0, 0, 0, 0), (.int (-1000000002)), [], 329, 0, []) := rfl
theorem f_111_22 : xfind (xnth xTs 111) 22 = some (22, .ireturn, 1, (0, 0, 0, 0), .null, [], 0, 0, []) := rfl
theorem f_111_23 : xfind (xnth xTs 111) 23 = some (23, .ldc2_w 274, 3, (0, 0, 0, 0), (.long 1000000000), [], 797, 0, []) := rfl
theorem f_111_26 : xfind (xnth xTs 111) 26 = some (26, .lstore_n 3, 1, (0, 0, 0, 0), .null, [], 0, 0, []) := rfl
theorem f_111_27 : xfind (xnth xTs 111) 27 = some (27, .iconst 0, 1, (0, 0, 0, 0), (.int 0), [], 0, 0, []) := rfl
theorem f_111_28 : xfind (xnth xTs 111) 28 = some (28, .istore 5, 2, (0, 0, 0, 0), .null, [], 0, 0, []) := rfl
theorem f_111_30 : xfind (xnth xTs 111) 30 = some (30, .iload 5, 2, (0, 0, 0, 0), .null, [], 0, 1, [0, 4]) := rfl
theorem f_111_32 : xfind (xnth xTs 111) 32 = some (32, .iload_n 1, 1, (0, 0, 0, 0), .null, [], 0, 0, []) := rfl
theorem f_111_33 : xfind (xnth xTs 111) 33 = some (33, .if_icmp .ge 21, 3, (0, 0, 0, 0), .null, [], 0, 0, []) := rfl
theorem f_111_36 : xfind (xnth xTs 111) 36 = some (36, .lload_n 3, 1, (0, 0, 0, 0), .null, [], 0, 0, []) := rfl
theorem f_111_37 : xfind (xnth xTs 111) 37 = some (37, .bipush 100, 2, (0, 0, 0, 0), (.int 100), [], 0, 0, []) := rfl
theorem f_111_39 : xfind (xnth xTs 111) 39 = some (39, .iload_n 2, 1, (0, 0, 0, 0), .null, [], 0, 0, []) := rfl
theorem f_111_40 : xfind (xnth xTs 111) 40 = some (40, .isub, 1, (0, 0, 0, 0), .null, [], 0, 0, []) := rfl
theorem f_111_41 : xfind (xnth xTs 111) 41 = some (41, .i2l, 1, (0, 0, 0, 0), .null, [], 0, 0, []) := rfl
theorem f_111_42 : xfind (xnth xTs 111) 42 = some (42, .lmul, 1, (0, 0, 0, 0), .null, [], 0, 0, []) := rfl
theorem f_111_43 : xfind (xnth xTs 111) 43 = some (43, .ldc2_w 276, 3, (0, 0, 0, 0), (.long 100), [], 798, 0, []) := rfl
theorem f_111_46 : xfind (xnth xTs 111) 46 = some (46, .ldiv, 1, (0, 0, 0, 0), .null, [], 0, 0, []) := rfl
theorem f_111_47 : xfind (xnth xTs 111) 47 = some (47, .lstore_n 3, 1, (0, 0, 0, 0), .null, [], 0, 0, []) := rfl
theorem f_111_48 : xfind (xnth xTs 111) 48 = some (48, .iinc 5 1, 3, (0, 0, 0, 0), .null, [], 0, 0, []) := rfl
theorem f_111_51 : xfind (xnth xTs 111) 51 = some (51, .goto (-21), 3, (0, 0, 0, 0), .null, [], 0, 0, []) := rfl
theorem f_111_54 : xfind (xnth xTs 111) 54 = some (54, .lload_n 3, 1, (0, 0, 0, 0), .null, [], 0, 0, []) := rfl
theorem f_111_55 : xfind (xnth xTs 111) 55 = some (55, .l2i, 1, (0, 0, 0, 0), .null, [], 0, 0, []) := rfl
theorem f_111_56 : xfind (xnth xTs 111) 56 = some (56, .ireturn, 1, (0, 0, 0, 0), .null, [], 0, 0, []) := rfl
theorem hd_111_30 : xhead 111 30 = some [0, 4] := rfl
theorem b_C_thread_0 (sh : xSh) (M : Nat → Nat → Int32) (J : Nat → Nat → Int64) (l0 : Nat) (l1 : Int32) (l2 : Int32) : ev (111, 0, [.ref l0, .int l1, .int l2, .null, .null, .null], [], (sh, M, J)) = ((ev (125, 0, [.int l1, .int 0, .int 60], [], (sh, M, J))).bind (fun r => ev (111, 7, [.ref l0, .int l1, .int l2, .null, .null, .null], r.1.toList ++ [], r.2))) := by
  refine ev_nx (s1 := (111, 1, [.ref l0, .int l1, .int l2, .null, .null, .null], [.int l1], (sh, M, J))) f_111_0 rfl ?_
  refine ev_nx (s1 := (111, 2, [.ref l0, .int l1, .int l2, .null, .null, .null], [.int 0, .int l1], (sh, M, J))) f_111_1 rfl ?_
  refine ev_nx (s1 := (111, 4, [.ref l0, .int l1, .int l2, .null, .null, .null], [.int 60, .int 0, .int l1], (sh, M, J))) f_111_2 rfl ?_
  exact ev_c1 (s1 := (125, 0, [.int l1, .int 0, .int 60], [], (sh, M, J))) (k := (111, 7, [.ref l0, .int l1, .int l2, .null, .null, .null], [])) f_111_4 rfl
theorem b_C_thread_7 (sh : xSh) (M : Nat → Nat → Int32) (J : Nat → Nat → Int64) (l0 : Nat) (l1 : Int32) (l2 : Int32) (k0 : Int32) : ev (111, 7, [.ref l0, .int l1, .int l2, .null, .null, .null], [.int k0], (sh, M, J)) = (bif decide (k0 = 0) then some (some (.int (-1000000002)), (sh, M, J)) else (ev (125, 0, [.int l2, .int 0, .int 100], [], (sh, M, J))).bind (fun r => ev (111, 17, [.ref l0, .int l1, .int l2, .null, .null, .null], r.1.toList ++ [], r.2))) := by
  refine ev_br (s1 := (111, 20, [.ref l0, .int l1, .int l2, .null, .null, .null], [], (sh, M, J))) (s2 := (111, 10, [.ref l0, .int l1, .int l2, .null, .null, .null], [], (sh, M, J))) f_111_7 rfl ?_ ?_
  · refine ev_nx (s1 := (111, 22, [.ref l0, .int l1, .int l2, .null, .null, .null], [.int (-1000000002)], (sh, M, J))) f_111_20 rfl ?_
    exact ev_r1 f_111_22 rfl
  · refine ev_nx (s1 := (111, 11, [.ref l0, .int l1, .int l2, .null, .null, .null], [.int l2], (sh, M, J))) f_111_10 rfl ?_
    refine ev_nx (s1 := (111, 12, [.ref l0, .int l1, .int l2, .null, .null, .null], [.int 0, .int l2], (sh, M, J))) f_111_11 rfl ?_
    refine ev_nx (s1 := (111, 14, [.ref l0, .int l1, .int l2, .null, .null, .null], [.int 100, .int 0, .int l2], (sh, M, J))) f_111_12 rfl ?_
    exact ev_c1 (s1 := (125, 0, [.int l2, .int 0, .int 100], [], (sh, M, J))) (k := (111, 17, [.ref l0, .int l1, .int l2, .null, .null, .null], [])) f_111_14 rfl
theorem b_C_thread_17 (sh : xSh) (M : Nat → Nat → Int32) (J : Nat → Nat → Int64) (l0 : Nat) (l1 : Int32) (l2 : Int32) (k0 : Int32) : ev (111, 17, [.ref l0, .int l1, .int l2, .null, .null, .null], [.int k0], (sh, M, J)) = (bif !decide (k0 = 0) then ev (111, 30, [.null, .int l1, .int l2, .long 1000000000, .null, .int 0], [], (sh, M, J)) else some (some (.int (-1000000002)), (sh, M, J))) := by
  refine ev_br (s1 := (111, 23, [.ref l0, .int l1, .int l2, .null, .null, .null], [], (sh, M, J))) (s2 := (111, 20, [.ref l0, .int l1, .int l2, .null, .null, .null], [], (sh, M, J))) f_111_17 rfl ?_ ?_
  · refine ev_nx (s1 := (111, 26, [.ref l0, .int l1, .int l2, .null, .null, .null], [.long 1000000000], (sh, M, J))) f_111_23 rfl ?_
    refine ev_nx (s1 := (111, 27, [.ref l0, .int l1, .int l2, .long 1000000000, .null, .null], [], (sh, M, J))) f_111_26 rfl ?_
    refine ev_nx (s1 := (111, 28, [.ref l0, .int l1, .int l2, .long 1000000000, .null, .null], [.int 0], (sh, M, J))) f_111_27 rfl ?_
    refine ev_nx (s1 := (111, 30, [.ref l0, .int l1, .int l2, .long 1000000000, .null, .int 0], [], (sh, M, J))) f_111_28 rfl ?_
    exact (ev_kill hd_111_30).symm
  · refine ev_nx (s1 := (111, 22, [.ref l0, .int l1, .int l2, .null, .null, .null], [.int (-1000000002)], (sh, M, J))) f_111_20 rfl ?_
    exact ev_r1 f_111_22 rfl
theorem b_C_thread_30 (sh : xSh) (M : Nat → Nat → Int32) (J : Nat → Nat → Int64) (l1 : Int32) (l2 : Int32) (l3 : Int64) (l5 : Int32) : ev (111, 30, [.null, .int l1, .int l2, .long l3, .null, .int l5], [], (sh, M, J)) = (bif decide (l1 ≤ l5) then some (some (.int (l3 : Int64).toInt32), (sh, M, J)) else ev (111, 30, [.null, .int l1, .int l2, .long ((l3 * (((100 : Int32) - l2) : Int32).toInt64) / 100), .null, .int (l5 + 1)], [], (sh, M, J))) := by
  refine ev_nx (s1 := (111, 32, [.null, .int l1, .int l2, .long l3, .null, .int l5], [.int l5], (sh, M, J))) f_111_30 rfl ?_
  refine ev_nx (s1 := (111, 33, [.null, .int l1, .int l2, .long l3, .null, .int l5], [.int l1, .int l5], (sh, M, J))) f_111_32 rfl ?_
  refine ev_br (s1 := (111, 54, [.null, .int l1, .int l2, .long l3, .null, .int l5], [], (sh, M, J))) (s2 := (111, 36, [.null, .int l1, .int l2, .long l3, .null, .int l5], [], (sh, M, J))) f_111_33 rfl ?_ ?_
  · refine ev_nx (s1 := (111, 55, [.null, .int l1, .int l2, .long l3, .null, .int l5], [.long l3], (sh, M, J))) f_111_54 rfl ?_
    refine ev_nx (s1 := (111, 56, [.null, .int l1, .int l2, .long l3, .null, .int l5], [.int (l3 : Int64).toInt32], (sh, M, J))) f_111_55 rfl ?_
    exact ev_r1 f_111_56 rfl
  · refine ev_nx (s1 := (111, 37, [.null, .int l1, .int l2, .long l3, .null, .int l5], [.long l3], (sh, M, J))) f_111_36 rfl ?_
    refine ev_nx (s1 := (111, 39, [.null, .int l1, .int l2, .long l3, .null, .int l5], [.int 100, .long l3], (sh, M, J))) f_111_37 rfl ?_
    refine ev_nx (s1 := (111, 40, [.null, .int l1, .int l2, .long l3, .null, .int l5], [.int l2, .int 100, .long l3], (sh, M, J))) f_111_39 rfl ?_
    refine ev_nx (s1 := (111, 41, [.null, .int l1, .int l2, .long l3, .null, .int l5], [.int ((100 : Int32) - l2), .long l3], (sh, M, J))) f_111_40 rfl ?_
    refine ev_nx (s1 := (111, 42, [.null, .int l1, .int l2, .long l3, .null, .int l5], [.long (((100 : Int32) - l2) : Int32).toInt64, .long l3], (sh, M, J))) f_111_41 rfl ?_
    refine ev_nx (s1 := (111, 43, [.null, .int l1, .int l2, .long l3, .null, .int l5], [.long (l3 * (((100 : Int32) - l2) : Int32).toInt64)], (sh, M, J))) f_111_42 rfl ?_
    refine ev_nx (s1 := (111, 46, [.null, .int l1, .int l2, .long l3, .null, .int l5], [.long 100, .long (l3 * (((100 : Int32) - l2) : Int32).toInt64)], (sh, M, J))) f_111_43 rfl ?_
    refine ev_nx (s1 := (111, 47, [.null, .int l1, .int l2, .long l3, .null, .int l5], [.long ((l3 * (((100 : Int32) - l2) : Int32).toInt64) / 100)], (sh, M, J))) f_111_46 rfl ?_
    refine ev_nx (s1 := (111, 48, [.null, .int l1, .int l2, .long ((l3 * (((100 : Int32) - l2) : Int32).toInt64) / 100), .null, .int l5], [], (sh, M, J))) f_111_47 rfl ?_
    refine ev_nx (s1 := (111, 51, [.null, .int l1, .int l2, .long ((l3 * (((100 : Int32) - l2) : Int32).toInt64) / 100), .null, .int (l5 + 1)], [], (sh, M, J))) f_111_48 rfl ?_
    refine ev_nx (s1 := (111, 30, [.null, .int l1, .int l2, .long ((l3 * (((100 : Int32) - l2) : Int32).toInt64) / 100), .null, .int (l5 + 1)], [], (sh, M, J))) f_111_51 rfl ?_
    exact rfl
theorem f_112_0 : xfind (xnth xTs 112) 0 = some (0, .aload_n 0, 1, (0, 0, 0, 0), .null, [], 0, 0, []) := rfl
theorem f_112_1 : xfind (xnth xTs 112) 1 = some (1, .getfield 10, 3, (8, 0, 1, 0), .null, [], 291, 0, []) := rfl
theorem f_112_4 : xfind (xnth xTs 112) 4 = some (4, .iload_n 1, 1, (0, 0, 0, 0), .null, [], 0, 0, []) := rfl
theorem f_112_5 : xfind (xnth xTs 112) 5 = some (5, .invokevirtual 176, 3, (16, 1, 1, 2), .null, [], 590, 0, []) := rfl
theorem f_112_8 : xfind (xnth xTs 112) 8 = some (8, .ifCond .ne 6, 3, (0, 0, 0, 0), .null, [], 0, 0, []) := rfl
theorem f_112_11 : xfind (xnth xTs 112) 11 = some (11, .ldc 148, 2, (0, 0, 0, 0), (.int (-1000000001)), [], 556, 0, []) := rfl
theorem f_112_13 : xfind (xnth xTs 112) 13 = some (13, .ireturn, 1, (0, 0, 0, 0), .null, [], 0, 0, []) := rfl
theorem f_112_14 : xfind (xnth xTs 112) 14 = some (14, .aload_n 0, 1, (0, 0, 0, 0), .null, [], 0, 0, []) := rfl
theorem f_112_15 : xfind (xnth xTs 112) 15 = some (15, .getfield 50, 3, (8, 6, 1, 0), .null, [], 297, 0, []) := rfl
theorem f_112_18 : xfind (xnth xTs 112) 18 = some (18, .iload_n 1, 1, (0, 0, 0, 0), .null, [], 0, 0, []) := rfl
theorem f_112_19 : xfind (xnth xTs 112) 19 = some (19, .iload_n 2, 1, (0, 0, 0, 0), .null, [], 0, 0, []) := rfl
theorem f_112_20 : xfind (xnth xTs 112) 20 = some (20, .invokevirtual 278, 3, (31, 2, 3, 3), .null, [], 803, 0, []) := rfl
theorem f_112_23 : xfind (xnth xTs 112) 23 = some (23, .ifCond .eq 13, 3, (0, 0, 0, 0), .null, [], 0, 0, []) := rfl
theorem f_112_26 : xfind (xnth xTs 112) 26 = some (26, .aload_n 0, 1, (0, 0, 0, 0), .null, [], 0, 0, []) := rfl
theorem f_112_27 : xfind (xnth xTs 112) 27 = some (27, .getfield 50, 3, (8, 6, 1, 0), .null, [], 297, 0, []) := rfl
theorem f_112_30 : xfind (xnth xTs 112) 30 = some (30, .getfield 136, 3, (3, 0, 0, 0), .null, [], 226, 0, []) := rfl
theorem f_112_33 : xfind (xnth xTs 112) 33 = some (33, .goto 5, 3, (0, 0, 0, 0), .null, [], 0, 0, []) := rfl
theorem f_112_36 : xfind (xnth xTs 112) 36 = some (36, .ldc 83, 2, (0, 0, 0, 0), (.int (-1000000004)), [], 335, 0, []) := rfl
theorem f_112_38 : xfind (xnth xTs 112) 38 = some (38, .ireturn, 1, (0, 0, 0, 0), .null, [], 0, 0, []) := rfl
theorem b_C_see_0 (sh : xSh) (M : Nat → Nat → Int32) (J : Nat → Nat → Int64) (l0 : Nat) (l1 : Int32) (l2 : Int32) : ev (112, 0, [.ref l0, .int l1, .int l2], [], (sh, M, J)) = (bif decide ((sh.2.2.1 l0).1 = 8) then bif (decide ((sh.2.2.1 (sh.2.2.2 l0 0)).1 = 1) && true) then (ev (16, 0, [.ref (sh.2.2.2 l0 0), .int l1], [], (sh, M, J))).bind (fun r => ev (112, 8, [.ref l0, .int l1, .int l2], r.1.toList ++ [], r.2)) else none else none) := by
  refine ev_nx (s1 := (112, 1, [.ref l0, .int l1, .int l2], [.ref l0], (sh, M, J))) f_112_0 rfl ?_
  refine ev_gd (s1 := (112, 4, [.ref l0, .int l1, .int l2], [.ref (sh.2.2.2 l0 0)], (sh, M, J))) f_112_1 rfl ?_
  refine ev_nx (s1 := (112, 5, [.ref l0, .int l1, .int l2], [.int l1, .ref (sh.2.2.2 l0 0)], (sh, M, J))) f_112_4 rfl ?_
  exact ev_ca (cc := (decide ((sh.2.2.1 (sh.2.2.2 l0 0)).1 = 1) && true)) (s1 := (16, 0, [.ref (sh.2.2.2 l0 0), .int l1], [], (sh, M, J))) (k := (112, 8, [.ref l0, .int l1, .int l2], [])) f_112_5 rfl
theorem b_C_see_8 (sh : xSh) (M : Nat → Nat → Int32) (J : Nat → Nat → Int64) (l0 : Nat) (l1 : Int32) (l2 : Int32) (k0 : Int32) : ev (112, 8, [.ref l0, .int l1, .int l2], [.int k0], (sh, M, J)) = (bif !decide (k0 = 0) then bif decide ((sh.2.2.1 l0).1 = 8) then bif (decide ((sh.2.2.1 (sh.2.2.2 l0 6)).1 = 3) && true) then (ev (31, 0, [.ref (sh.2.2.2 l0 6), .int l1, .int l2], [], (sh, M, J))).bind (fun r => ev (112, 23, [.ref l0, .int l1, .int l2], r.1.toList ++ [], r.2)) else none else none else some (some (.int (-1000000001)), (sh, M, J))) := by
  refine ev_br (s1 := (112, 14, [.ref l0, .int l1, .int l2], [], (sh, M, J))) (s2 := (112, 11, [.ref l0, .int l1, .int l2], [], (sh, M, J))) f_112_8 rfl ?_ ?_
  · refine ev_nx (s1 := (112, 15, [.ref l0, .int l1, .int l2], [.ref l0], (sh, M, J))) f_112_14 rfl ?_
    refine ev_gd (s1 := (112, 18, [.ref l0, .int l1, .int l2], [.ref (sh.2.2.2 l0 6)], (sh, M, J))) f_112_15 rfl ?_
    refine ev_nx (s1 := (112, 19, [.ref l0, .int l1, .int l2], [.int l1, .ref (sh.2.2.2 l0 6)], (sh, M, J))) f_112_18 rfl ?_
    refine ev_nx (s1 := (112, 20, [.ref l0, .int l1, .int l2], [.int l2, .int l1, .ref (sh.2.2.2 l0 6)], (sh, M, J))) f_112_19 rfl ?_
    exact ev_ca (cc := (decide ((sh.2.2.1 (sh.2.2.2 l0 6)).1 = 3) && true)) (s1 := (31, 0, [.ref (sh.2.2.2 l0 6), .int l1, .int l2], [], (sh, M, J))) (k := (112, 23, [.ref l0, .int l1, .int l2], [])) f_112_20 rfl
  · refine ev_nx (s1 := (112, 13, [.ref l0, .int l1, .int l2], [.int (-1000000001)], (sh, M, J))) f_112_11 rfl ?_
    exact ev_r1 f_112_13 rfl
theorem b_C_see_23 (sh : xSh) (M : Nat → Nat → Int32) (J : Nat → Nat → Int64) (l0 : Nat) (l1 : Int32) (l2 : Int32) (k0 : Int32) : ev (112, 23, [.ref l0, .int l1, .int l2], [.int k0], (sh, M, J)) = (bif decide (k0 = 0) then some (some (.int (-1000000004)), (sh, M, J)) else bif decide ((sh.2.2.1 l0).1 = 8) then bif decide ((sh.2.2.1 (sh.2.2.2 l0 6)).1 = 3) then some (some (.int (M (sh.2.2.2 l0 6) 0)), (sh, M, J)) else none else none) := by
  refine ev_br (s1 := (112, 36, [.ref l0, .int l1, .int l2], [], (sh, M, J))) (s2 := (112, 26, [.ref l0, .int l1, .int l2], [], (sh, M, J))) f_112_23 rfl ?_ ?_
  · refine ev_nx (s1 := (112, 38, [.ref l0, .int l1, .int l2], [.int (-1000000004)], (sh, M, J))) f_112_36 rfl ?_
    exact ev_r1 f_112_38 rfl
  · refine ev_nx (s1 := (112, 27, [.ref l0, .int l1, .int l2], [.ref l0], (sh, M, J))) f_112_26 rfl ?_
    refine ev_gd (s1 := (112, 30, [.ref l0, .int l1, .int l2], [.ref (sh.2.2.2 l0 6)], (sh, M, J))) f_112_27 rfl ?_
    refine ev_gd (s1 := (112, 33, [.ref l0, .int l1, .int l2], [.int (M (sh.2.2.2 l0 6) 0)], (sh, M, J))) f_112_30 rfl ?_
    refine ev_nx (s1 := (112, 38, [.ref l0, .int l1, .int l2], [.int (M (sh.2.2.2 l0 6) 0)], (sh, M, J))) f_112_33 rfl ?_
    exact ev_r1 f_112_38 rfl
theorem f_113_0 : xfind (xnth xTs 113) 0 = some (0, .iconst 0, 1, (0, 0, 0, 0), (.int 0), [], 0, 0, []) := rfl
theorem f_113_1 : xfind (xnth xTs 113) 1 = some (1, .istore_n 1, 1, (0, 0, 0, 0), .null, [], 0, 0, []) := rfl
theorem f_113_2 : xfind (xnth xTs 113) 2 = some (2, .iconst 0, 1, (0, 0, 0, 0), (.int 0), [], 0, 0, []) := rfl
theorem f_113_3 : xfind (xnth xTs 113) 3 = some (3, .istore_n 2, 1, (0, 0, 0, 0), .null, [], 0, 0, []) := rfl
theorem f_113_4 : xfind (xnth xTs 113) 4 = some (4, .iload_n 2, 1, (0, 0, 0, 0), .null, [], 0, 1, []) := rfl
theorem f_113_5 : xfind (xnth xTs 113) 5 = some (5, .aload_n 0, 1, (0, 0, 0, 0), .null, [], 0, 0, []) := rfl
theorem f_113_6 : xfind (xnth xTs 113) 6 = some (6, .getfield 10, 3, (8, 0, 1, 0), .null, [], 291, 0, []) := rfl
theorem f_113_9 : xfind (xnth xTs 113) 9 = some (9, .invokevirtual 250, 3, (13, 0, 1, 1), .null, [], 614, 0, []) := rfl
theorem f_113_12 : xfind (xnth xTs 113) 12 = some (12, .if_icmp .ge 34, 3, (0, 0, 0, 0), .null, [], 0, 0, []) := rfl
theorem f_113_15 : xfind (xnth xTs 113) 15 = some (15, .aload_n 0, 1, (0, 0, 0, 0), .null, [], 0, 0, []) := rfl
theorem f_113_16 : xfind (xnth xTs 113) 16 = some (16, .getfield 50, 3, (8, 6, 1, 0), .null, [], 297, 0, []) := rfl
theorem f_113_19 : xfind (xnth xTs 113) 19 = some (19, .aload_n 0, 1, (0, 0, 0, 0), .null, [], 0, 0, []) := rfl
theorem f_113_20 : xfind (xnth xTs 113) 20 = some (20, .getfield 10, 3, (8, 0, 1, 0), .null, [], 291, 0, []) := rfl
theorem f_113_23 : xfind (xnth xTs 113) 23 = some (23, .aload_n 0, 1, (0, 0, 0, 0), .null, [], 0, 0, []) := rfl
theorem f_113_24 : xfind (xnth xTs 113) 24 = some (24, .getfield 19, 3, (8, 1, 1, 0), .null, [], 292, 0, []) := rfl
theorem f_113_27 : xfind (xnth xTs 113) 27 = some (27, .iload_n 2, 1, (0, 0, 0, 0), .null, [], 0, 0, []) := rfl
theorem f_113_28 : xfind (xnth xTs 113) 28 = some (28, .invokevirtual 282, 3, (33, 3, 3, 5), .null, [], 812, 0, []) := rfl
theorem f_113_31 : xfind (xnth xTs 113) 31 = some (31, .ifCond .eq 9, 3, (0, 0, 0, 0), .null, [], 0, 0, []) := rfl
theorem f_113_34 : xfind (xnth xTs 113) 34 = some (34, .iload_n 1, 1, (0, 0, 0, 0), .null, [], 0, 0, []) := rfl
theorem f_113_35 : xfind (xnth xTs 113) 35 = some (35, .iconst 1, 1, (0, 0, 0, 0), (.int 1), [], 0, 0, []) := rfl
theorem f_113_36 : xfind (xnth xTs 113) 36 = some (36, .iload_n 2, 1, (0, 0, 0, 0), .null, [], 0, 0, []) := rfl
theorem f_113_37 : xfind (xnth xTs 113) 37 = some (37, .ishl, 1, (0, 0, 0, 0), .null, [], 0, 0, []) := rfl
theorem f_113_38 : xfind (xnth xTs 113) 38 = some (38, .ior, 1, (0, 0, 0, 0), .null, [], 0, 0, []) := rfl
theorem f_113_39 : xfind (xnth xTs 113) 39 = some (39, .istore_n 1, 1, (0, 0, 0, 0), .null, [], 0, 0, []) := rfl
theorem f_113_40 : xfind (xnth xTs 113) 40 = some (40, .iinc 2 1, 3, (0, 0, 0, 0), .null, [], 0, 0, []) := rfl
theorem f_113_43 : xfind (xnth xTs 113) 43 = some (43, .goto (-39), 3, (0, 0, 0, 0), .null, [], 0, 0, []) := rfl
theorem f_113_46 : xfind (xnth xTs 113) 46 = some (46, .iload_n 1, 1, (0, 0, 0, 0), .null, [], 0, 0, []) := rfl
theorem f_113_47 : xfind (xnth xTs 113) 47 = some (47, .ireturn, 1, (0, 0, 0, 0), .null, [], 0, 0, []) := rfl
theorem hd_113_4 : xhead 113 4 = some [] := rfl
theorem b_C_wasCut_0 (sh : xSh) (M : Nat → Nat → Int32) (J : Nat → Nat → Int64) (l0 : Nat) : ev (113, 0, [.ref l0, .null, .null], [], (sh, M, J)) = (ev (113, 4, [.ref l0, .int 0, .int 0], [], (sh, M, J))) := by
  refine ev_nx (s1 := (113, 1, [.ref l0, .null, .null], [.int 0], (sh, M, J))) f_113_0 rfl ?_
  refine ev_nx (s1 := (113, 2, [.ref l0, .int 0, .null], [], (sh, M, J))) f_113_1 rfl ?_
  refine ev_nx (s1 := (113, 3, [.ref l0, .int 0, .null], [.int 0], (sh, M, J))) f_113_2 rfl ?_
  refine ev_nx (s1 := (113, 4, [.ref l0, .int 0, .int 0], [], (sh, M, J))) f_113_3 rfl ?_
  exact rfl
theorem b_C_wasCut_4 (sh : xSh) (M : Nat → Nat → Int32) (J : Nat → Nat → Int64) (l0 : Nat) (l1 : Int32) (l2 : Int32) : ev (113, 4, [.ref l0, .int l1, .int l2], [], (sh, M, J)) = (bif decide ((sh.2.2.1 l0).1 = 8) then bif (decide ((sh.2.2.1 (sh.2.2.2 l0 0)).1 = 1) && true) then (ev (13, 0, [.ref (sh.2.2.2 l0 0)], [], (sh, M, J))).bind (fun r => ev (113, 12, [.ref l0, .int l1, .int l2], r.1.toList ++ [.int l2], r.2)) else none else none) := by
  refine ev_nx (s1 := (113, 5, [.ref l0, .int l1, .int l2], [.int l2], (sh, M, J))) f_113_4 rfl ?_
  refine ev_nx (s1 := (113, 6, [.ref l0, .int l1, .int l2], [.ref l0, .int l2], (sh, M, J))) f_113_5 rfl ?_
  refine ev_gd (s1 := (113, 9, [.ref l0, .int l1, .int l2], [.ref (sh.2.2.2 l0 0), .int l2], (sh, M, J))) f_113_6 rfl ?_
  exact ev_ca (cc := (decide ((sh.2.2.1 (sh.2.2.2 l0 0)).1 = 1) && true)) (s1 := (13, 0, [.ref (sh.2.2.2 l0 0)], [], (sh, M, J))) (k := (113, 12, [.ref l0, .int l1, .int l2], [.int l2])) f_113_9 rfl
theorem b_C_wasCut_12 (sh : xSh) (M : Nat → Nat → Int32) (J : Nat → Nat → Int64) (l0 : Nat) (l1 : Int32) (l2 : Int32) (k0 : Int32) (k1 : Int32) : ev (113, 12, [.ref l0, .int l1, .int l2], [.int k0, .int k1], (sh, M, J)) = (bif decide (k0 ≤ k1) then some (some (.int l1), (sh, M, J)) else bif decide ((sh.2.2.1 l0).1 = 8) then bif decide ((sh.2.2.1 l0).1 = 8) then bif decide ((sh.2.2.1 l0).1 = 8) then bif (decide ((sh.2.2.1 (sh.2.2.2 l0 6)).1 = 3) && true) then (ev (33, 0, [.ref (sh.2.2.2 l0 6), .ref (sh.2.2.2 l0 0), .ref (sh.2.2.2 l0 1), .int l2, .null], [], (sh, M, J))).bind (fun r => ev (113, 31, [.ref l0, .int l1, .int l2], r.1.toList ++ [], r.2)) else none else none else none else none) := by
  refine ev_br (s1 := (113, 46, [.ref l0, .int l1, .int l2], [], (sh, M, J))) (s2 := (113, 15, [.ref l0, .int l1, .int l2], [], (sh, M, J))) f_113_12 rfl ?_ ?_
  · refine ev_nx (s1 := (113, 47, [.ref l0, .int l1, .int l2], [.int l1], (sh, M, J))) f_113_46 rfl ?_
    exact ev_r1 f_113_47 rfl
  · refine ev_nx (s1 := (113, 16, [.ref l0, .int l1, .int l2], [.ref l0], (sh, M, J))) f_113_15 rfl ?_
    refine ev_gd (s1 := (113, 19, [.ref l0, .int l1, .int l2], [.ref (sh.2.2.2 l0 6)], (sh, M, J))) f_113_16 rfl ?_
    refine ev_nx (s1 := (113, 20, [.ref l0, .int l1, .int l2], [.ref l0, .ref (sh.2.2.2 l0 6)], (sh, M, J))) f_113_19 rfl ?_
    refine ev_gd (s1 := (113, 23, [.ref l0, .int l1, .int l2], [.ref (sh.2.2.2 l0 0), .ref (sh.2.2.2 l0 6)], (sh, M, J))) f_113_20 rfl ?_
    refine ev_nx (s1 := (113, 24, [.ref l0, .int l1, .int l2], [.ref l0, .ref (sh.2.2.2 l0 0), .ref (sh.2.2.2 l0 6)], (sh, M, J))) f_113_23 rfl ?_
    refine ev_gd (s1 := (113, 27, [.ref l0, .int l1, .int l2], [.ref (sh.2.2.2 l0 1), .ref (sh.2.2.2 l0 0), .ref (sh.2.2.2 l0 6)], (sh, M, J))) f_113_24 rfl ?_
    refine ev_nx (s1 := (113, 28, [.ref l0, .int l1, .int l2], [.int l2, .ref (sh.2.2.2 l0 1), .ref (sh.2.2.2 l0 0), .ref (sh.2.2.2 l0 6)], (sh, M, J))) f_113_27 rfl ?_
    exact ev_ca (cc := (decide ((sh.2.2.1 (sh.2.2.2 l0 6)).1 = 3) && true)) (s1 := (33, 0, [.ref (sh.2.2.2 l0 6), .ref (sh.2.2.2 l0 0), .ref (sh.2.2.2 l0 1), .int l2, .null], [], (sh, M, J))) (k := (113, 31, [.ref l0, .int l1, .int l2], [])) f_113_28 rfl
theorem b_C_wasCut_31 (sh : xSh) (M : Nat → Nat → Int32) (J : Nat → Nat → Int64) (l0 : Nat) (l1 : Int32) (l2 : Int32) (k0 : Int32) : ev (113, 31, [.ref l0, .int l1, .int l2], [.int k0], (sh, M, J)) = (bif decide (k0 = 0) then ev (113, 4, [.ref l0, .int l1, .int (l2 + 1)], [], (sh, M, J)) else ev (113, 4, [.ref l0, .int (l1 ||| ((1 : Int32) <<< (l2 &&& 31))), .int (l2 + 1)], [], (sh, M, J))) := by
  refine ev_br (s1 := (113, 40, [.ref l0, .int l1, .int l2], [], (sh, M, J))) (s2 := (113, 34, [.ref l0, .int l1, .int l2], [], (sh, M, J))) f_113_31 rfl ?_ ?_
  · refine ev_nx (s1 := (113, 43, [.ref l0, .int l1, .int (l2 + 1)], [], (sh, M, J))) f_113_40 rfl ?_
    refine ev_nx (s1 := (113, 4, [.ref l0, .int l1, .int (l2 + 1)], [], (sh, M, J))) f_113_43 rfl ?_
    exact rfl
  · refine ev_nx (s1 := (113, 35, [.ref l0, .int l1, .int l2], [.int l1], (sh, M, J))) f_113_34 rfl ?_
    refine ev_nx (s1 := (113, 36, [.ref l0, .int l1, .int l2], [.int 1, .int l1], (sh, M, J))) f_113_35 rfl ?_
    refine ev_nx (s1 := (113, 37, [.ref l0, .int l1, .int l2], [.int l2, .int 1, .int l1], (sh, M, J))) f_113_36 rfl ?_
    refine ev_nx (s1 := (113, 38, [.ref l0, .int l1, .int l2], [.int ((1 : Int32) <<< (l2 &&& 31)), .int l1], (sh, M, J))) f_113_37 rfl ?_
    refine ev_nx (s1 := (113, 39, [.ref l0, .int l1, .int l2], [.int (l1 ||| ((1 : Int32) <<< (l2 &&& 31)))], (sh, M, J))) f_113_38 rfl ?_
    refine ev_nx (s1 := (113, 40, [.ref l0, .int (l1 ||| ((1 : Int32) <<< (l2 &&& 31))), .int l2], [], (sh, M, J))) f_113_39 rfl ?_
    refine ev_nx (s1 := (113, 43, [.ref l0, .int (l1 ||| ((1 : Int32) <<< (l2 &&& 31))), .int (l2 + 1)], [], (sh, M, J))) f_113_40 rfl ?_
    refine ev_nx (s1 := (113, 4, [.ref l0, .int (l1 ||| ((1 : Int32) <<< (l2 &&& 31))), .int (l2 + 1)], [], (sh, M, J))) f_113_43 rfl ?_
    exact rfl
theorem f_114_0 : xfind (xnth xTs 114) 0 = some (0, .aload_n 0, 1, (0, 0, 0, 0), .null, [], 0, 0, []) := rfl
theorem f_114_1 : xfind (xnth xTs 114) 1 = some (1, .invokevirtual 286, 3, (113, 0, 8, 3), .null, [], 825, 0, []) := rfl
theorem f_114_4 : xfind (xnth xTs 114) 4 = some (4, .istore_n 1, 1, (0, 0, 0, 0), .null, [], 0, 0, []) := rfl
theorem f_114_5 : xfind (xnth xTs 114) 5 = some (5, .iconst (-1), 1, (0, 0, 0, 0), (.int (-1)), [], 0, 0, []) := rfl
theorem f_114_6 : xfind (xnth xTs 114) 6 = some (6, .istore_n 2, 1, (0, 0, 0, 0), .null, [], 0, 0, []) := rfl
theorem f_114_7 : xfind (xnth xTs 114) 7 = some (7, .iload_n 1, 1, (0, 0, 0, 0), .null, [], 0, 0, []) := rfl
theorem f_114_8 : xfind (xnth xTs 114) 8 = some (8, .invokestatic 208, 3, (202, 1, 99, 1), .null, [], 646, 0, []) := rfl
theorem f_114_11 : xfind (xnth xTs 114) 11 = some (11, .istore_n 3, 1, (0, 0, 0, 0), .null, [], 0, 0, []) := rfl
theorem f_114_12 : xfind (xnth xTs 114) 12 = some (12, .iconst 0, 1, (0, 0, 0, 0), (.int 0), [], 0, 0, []) := rfl
theorem f_114_13 : xfind (xnth xTs 114) 13 = some (13, .istore 4, 2, (0, 0, 0, 0), .null, [], 0, 0, []) := rfl
theorem f_114_15 : xfind (xnth xTs 114) 15 = some (15, .iload 4, 2, (0, 0, 0, 0), .null, [], 0, 1, [5]) := rfl
theorem f_114_17 : xfind (xnth xTs 114) 17 = some (17, .aload_n 0, 1, (0, 0, 0, 0), .null, [], 0, 0, []) := rfl
theorem f_114_18 : xfind (xnth xTs 114) 18 = some (18, .getfield 10, 3, (8, 0, 1, 0), .null, [], 291, 0, []) := rfl
theorem f_114_21 : xfind (xnth xTs 114) 21 = some (21, .getfield 108, 3, (1, 2, 0, 0), .null, [], 108, 0, []) := rfl
theorem f_114_24 : xfind (xnth xTs 114) 24 = some (24, .if_icmp .ge 30, 3, (0, 0, 0, 0), .null, [], 0, 0, []) := rfl
theorem f_114_27 : xfind (xnth xTs 114) 27 = some (27, .aload_n 0, 1, (0, 0, 0, 0), .null, [], 0, 0, []) := rfl
theorem f_114_28 : xfind (xnth xTs 114) 28 = some (28, .iload 4, 2, (0, 0, 0, 0), .null, [], 0, 0, []) := rfl
theorem f_114_30 : xfind (xnth xTs 114) 30 = some (30, .iload_n 1, 1, (0, 0, 0, 0), .null, [], 0, 0, []) := rfl
theorem f_114_31 : xfind (xnth xTs 114) 31 = some (31, .invokevirtual 289, 3, (124, 2, 8, 5), .null, [], 826, 0, []) := rfl
theorem f_114_34 : xfind (xnth xTs 114) 34 = some (34, .istore 5, 2, (0, 0, 0, 0), .null, [], 0, 0, []) := rfl
theorem f_114_36 : xfind (xnth xTs 114) 36 = some (36, .iload 5, 2, (0, 0, 0, 0), .null, [], 0, 0, []) := rfl
theorem f_114_38 : xfind (xnth xTs 114) 38 = some (38, .iload_n 3, 1, (0, 0, 0, 0), .null, [], 0, 0, []) := rfl
theorem f_114_39 : xfind (xnth xTs 114) 39 = some (39, .if_icmp .ge 9, 3, (0, 0, 0, 0), .null, [], 0, 0, []) := rfl
theorem f_114_42 : xfind (xnth xTs 114) 42 = some (42, .iload 5, 2, (0, 0, 0, 0), .null, [], 0, 0, []) := rfl
theorem f_114_44 : xfind (xnth xTs 114) 44 = some (44, .istore_n 3, 1, (0, 0, 0, 0), .null, [], 0, 0, []) := rfl
theorem f_114_45 : xfind (xnth xTs 114) 45 = some (45, .iload 4, 2, (0, 0, 0, 0), .null, [], 0, 0, []) := rfl
theorem f_114_47 : xfind (xnth xTs 114) 47 = some (47, .istore_n 2, 1, (0, 0, 0, 0), .null, [], 0, 0, []) := rfl
theorem f_114_48 : xfind (xnth xTs 114) 48 = some (48, .iinc 4 1, 3, (0, 0, 0, 0), .null, [], 0, 0, []) := rfl
theorem f_114_51 : xfind (xnth xTs 114) 51 = some (51, .goto (-36), 3, (0, 0, 0, 0), .null, [], 0, 0, []) := rfl
theorem f_114_54 : xfind (xnth xTs 114) 54 = some (54, .iload_n 2, 1, (0, 0, 0, 0), .null, [], 0, 0, []) := rfl
theorem f_114_55 : xfind (xnth xTs 114) 55 = some (55, .ireturn, 1, (0, 0, 0, 0), .null, [], 0, 0, []) := rfl
theorem hd_114_15 : xhead 114 15 = some [5] := rfl
theorem b_C_watch_0 (sh : xSh) (M : Nat → Nat → Int32) (J : Nat → Nat → Int64) (l0 : Nat) : ev (114, 0, [.ref l0, .null, .null, .null, .null, .null], [], (sh, M, J)) = (bif (decide ((sh.2.2.1 l0).1 = 8) && true) then (ev (113, 0, [.ref l0, .null, .null], [], (sh, M, J))).bind (fun r => ev (114, 4, [.ref l0, .null, .null, .null, .null, .null], r.1.toList ++ [], r.2)) else none) := by
  refine ev_nx (s1 := (114, 1, [.ref l0, .null, .null, .null, .null, .null], [.ref l0], (sh, M, J))) f_114_0 rfl ?_
  exact ev_ca (cc := (decide ((sh.2.2.1 l0).1 = 8) && true)) (s1 := (113, 0, [.ref l0, .null, .null], [], (sh, M, J))) (k := (114, 4, [.ref l0, .null, .null, .null, .null, .null], [])) f_114_1 rfl
theorem b_C_watch_4 (sh : xSh) (M : Nat → Nat → Int32) (J : Nat → Nat → Int64) (l0 : Nat) (k0 : Int32) : ev (114, 4, [.ref l0, .null, .null, .null, .null, .null], [.int k0], (sh, M, J)) = ((ev (202, 0, [.int k0], [], (sh, M, J))).bind (fun r => ev (114, 11, [.ref l0, .int k0, .int (-1), .null, .null, .null], r.1.toList ++ [], r.2))) := by
  refine ev_nx (s1 := (114, 5, [.ref l0, .int k0, .null, .null, .null, .null], [], (sh, M, J))) f_114_4 rfl ?_
  refine ev_nx (s1 := (114, 6, [.ref l0, .int k0, .null, .null, .null, .null], [.int (-1)], (sh, M, J))) f_114_5 rfl ?_
  refine ev_nx (s1 := (114, 7, [.ref l0, .int k0, .int (-1), .null, .null, .null], [], (sh, M, J))) f_114_6 rfl ?_
  refine ev_nx (s1 := (114, 8, [.ref l0, .int k0, .int (-1), .null, .null, .null], [.int k0], (sh, M, J))) f_114_7 rfl ?_
  exact ev_c1 (s1 := (202, 0, [.int k0], [], (sh, M, J))) (k := (114, 11, [.ref l0, .int k0, .int (-1), .null, .null, .null], [])) f_114_8 rfl
theorem b_C_watch_11 (sh : xSh) (M : Nat → Nat → Int32) (J : Nat → Nat → Int64) (l0 : Nat) (l1 : Int32) (l2 : Int32) (k0 : Int32) : ev (114, 11, [.ref l0, .int l1, .int l2, .null, .null, .null], [.int k0], (sh, M, J)) = (ev (114, 15, [.ref l0, .int l1, .int l2, .int k0, .int 0, .null], [], (sh, M, J))) := by
  refine ev_nx (s1 := (114, 12, [.ref l0, .int l1, .int l2, .int k0, .null, .null], [], (sh, M, J))) f_114_11 rfl ?_
  refine ev_nx (s1 := (114, 13, [.ref l0, .int l1, .int l2, .int k0, .null, .null], [.int 0], (sh, M, J))) f_114_12 rfl ?_
  refine ev_nx (s1 := (114, 15, [.ref l0, .int l1, .int l2, .int k0, .int 0, .null], [], (sh, M, J))) f_114_13 rfl ?_
  exact rfl
theorem b_C_watch_15 (sh : xSh) (M : Nat → Nat → Int32) (J : Nat → Nat → Int64) (l0 : Nat) (l1 : Int32) (l2 : Int32) (l3 : Int32) (l4 : Int32) : ev (114, 15, [.ref l0, .int l1, .int l2, .int l3, .int l4, .null], [], (sh, M, J)) = (bif decide ((sh.2.2.1 l0).1 = 8) then bif decide ((sh.2.2.1 (sh.2.2.2 l0 0)).1 = 1) then bif decide ((M (sh.2.2.2 l0 0) 2) ≤ l4) then some (some (.int l2), (sh, M, J)) else bif (decide ((sh.2.2.1 l0).1 = 8) && true) then (ev (124, 0, [.ref l0, .int l4, .int l1, .null, .null], [], (sh, M, J))).bind (fun r => ev (114, 34, [.ref l0, .int l1, .int l2, .int l3, .int l4, .null], r.1.toList ++ [], r.2)) else none else none else none) := by
  refine ev_nx (s1 := (114, 17, [.ref l0, .int l1, .int l2, .int l3, .int l4, .null], [.int l4], (sh, M, J))) f_114_15 rfl ?_
  refine ev_nx (s1 := (114, 18, [.ref l0, .int l1, .int l2, .int l3, .int l4, .null], [.ref l0, .int l4], (sh, M, J))) f_114_17 rfl ?_
  refine ev_gd (s1 := (114, 21, [.ref l0, .int l1, .int l2, .int l3, .int l4, .null], [.ref (sh.2.2.2 l0 0), .int l4], (sh, M, J))) f_114_18 rfl ?_
  refine ev_gd (s1 := (114, 24, [.ref l0, .int l1, .int l2, .int l3, .int l4, .null], [.int (M (sh.2.2.2 l0 0) 2), .int l4], (sh, M, J))) f_114_21 rfl ?_
  refine ev_br (s1 := (114, 54, [.ref l0, .int l1, .int l2, .int l3, .int l4, .null], [], (sh, M, J))) (s2 := (114, 27, [.ref l0, .int l1, .int l2, .int l3, .int l4, .null], [], (sh, M, J))) f_114_24 rfl ?_ ?_
  · refine ev_nx (s1 := (114, 55, [.ref l0, .int l1, .int l2, .int l3, .int l4, .null], [.int l2], (sh, M, J))) f_114_54 rfl ?_
    exact ev_r1 f_114_55 rfl
  · refine ev_nx (s1 := (114, 28, [.ref l0, .int l1, .int l2, .int l3, .int l4, .null], [.ref l0], (sh, M, J))) f_114_27 rfl ?_
    refine ev_nx (s1 := (114, 30, [.ref l0, .int l1, .int l2, .int l3, .int l4, .null], [.int l4, .ref l0], (sh, M, J))) f_114_28 rfl ?_
    refine ev_nx (s1 := (114, 31, [.ref l0, .int l1, .int l2, .int l3, .int l4, .null], [.int l1, .int l4, .ref l0], (sh, M, J))) f_114_30 rfl ?_
    exact ev_ca (cc := (decide ((sh.2.2.1 l0).1 = 8) && true)) (s1 := (124, 0, [.ref l0, .int l4, .int l1, .null, .null], [], (sh, M, J))) (k := (114, 34, [.ref l0, .int l1, .int l2, .int l3, .int l4, .null], [])) f_114_31 rfl
theorem b_C_watch_34 (sh : xSh) (M : Nat → Nat → Int32) (J : Nat → Nat → Int64) (l0 : Nat) (l1 : Int32) (l2 : Int32) (l3 : Int32) (l4 : Int32) (k0 : Int32) : ev (114, 34, [.ref l0, .int l1, .int l2, .int l3, .int l4, .null], [.int k0], (sh, M, J)) = (bif decide (l3 ≤ k0) then ev (114, 15, [.ref l0, .int l1, .int l2, .int l3, .int (l4 + 1), .null], [], (sh, M, J)) else ev (114, 15, [.ref l0, .int l1, .int l4, .int k0, .int (l4 + 1), .null], [], (sh, M, J))) := by
  refine ev_nx (s1 := (114, 36, [.ref l0, .int l1, .int l2, .int l3, .int l4, .int k0], [], (sh, M, J))) f_114_34 rfl ?_
  refine ev_nx (s1 := (114, 38, [.ref l0, .int l1, .int l2, .int l3, .int l4, .int k0], [.int k0], (sh, M, J))) f_114_36 rfl ?_
  refine ev_nx (s1 := (114, 39, [.ref l0, .int l1, .int l2, .int l3, .int l4, .int k0], [.int l3, .int k0], (sh, M, J))) f_114_38 rfl ?_
  refine ev_br (s1 := (114, 48, [.ref l0, .int l1, .int l2, .int l3, .int l4, .int k0], [], (sh, M, J))) (s2 := (114, 42, [.ref l0, .int l1, .int l2, .int l3, .int l4, .int k0], [], (sh, M, J))) f_114_39 rfl ?_ ?_
  · refine ev_nx (s1 := (114, 51, [.ref l0, .int l1, .int l2, .int l3, .int (l4 + 1), .int k0], [], (sh, M, J))) f_114_48 rfl ?_
    refine ev_nx (s1 := (114, 15, [.ref l0, .int l1, .int l2, .int l3, .int (l4 + 1), .int k0], [], (sh, M, J))) f_114_51 rfl ?_
    exact (ev_kill hd_114_15).symm
  · refine ev_nx (s1 := (114, 44, [.ref l0, .int l1, .int l2, .int l3, .int l4, .int k0], [.int k0], (sh, M, J))) f_114_42 rfl ?_
    refine ev_nx (s1 := (114, 45, [.ref l0, .int l1, .int l2, .int k0, .int l4, .int k0], [], (sh, M, J))) f_114_44 rfl ?_
    refine ev_nx (s1 := (114, 47, [.ref l0, .int l1, .int l2, .int k0, .int l4, .int k0], [.int l4], (sh, M, J))) f_114_45 rfl ?_
    refine ev_nx (s1 := (114, 48, [.ref l0, .int l1, .int l4, .int k0, .int l4, .int k0], [], (sh, M, J))) f_114_47 rfl ?_
    refine ev_nx (s1 := (114, 51, [.ref l0, .int l1, .int l4, .int k0, .int (l4 + 1), .int k0], [], (sh, M, J))) f_114_48 rfl ?_
    refine ev_nx (s1 := (114, 15, [.ref l0, .int l1, .int l4, .int k0, .int (l4 + 1), .int k0], [], (sh, M, J))) f_114_51 rfl ?_
    exact (ev_kill hd_114_15).symm
theorem f_115_0 : xfind (xnth xTs 115) 0 = some (0, .aload_n 0, 1, (0, 0, 0, 0), .null, [], 0, 0, []) := rfl
theorem f_115_1 : xfind (xnth xTs 115) 1 = some (1, .getfield 10, 3, (8, 0, 1, 0), .null, [], 291, 0, []) := rfl
theorem f_115_4 : xfind (xnth xTs 115) 4 = some (4, .iload_n 1, 1, (0, 0, 0, 0), .null, [], 0, 0, []) := rfl
theorem f_115_5 : xfind (xnth xTs 115) 5 = some (5, .invokevirtual 176, 3, (16, 1, 1, 2), .null, [], 590, 0, []) := rfl
theorem f_115_8 : xfind (xnth xTs 115) 8 = some (8, .ifCond .ne 6, 3, (0, 0, 0, 0), .null, [], 0, 0, []) := rfl
theorem f_115_11 : xfind (xnth xTs 115) 11 = some (11, .ldc 148, 2, (0, 0, 0, 0), (.int (-1000000001)), [], 556, 0, []) := rfl
theorem f_115_13 : xfind (xnth xTs 115) 13 = some (13, .ireturn, 1, (0, 0, 0, 0), .null, [], 0, 0, []) := rfl
theorem f_115_14 : xfind (xnth xTs 115) 14 = some (14, .iload_n 2, 1, (0, 0, 0, 0), .null, [], 0, 0, []) := rfl
theorem f_115_15 : xfind (xnth xTs 115) 15 = some (15, .iconst 0, 1, (0, 0, 0, 0), (.int 0), [], 0, 0, []) := rfl
theorem f_115_16 : xfind (xnth xTs 115) 16 = some (16, .bipush 9, 2, (0, 0, 0, 0), (.int 9), [], 0, 0, []) := rfl
theorem f_115_18 : xfind (xnth xTs 115) 18 = some (18, .invokestatic 220, 3, (125, 3, 8, 3), .null, [], 613, 0, []) := rfl
theorem f_115_21 : xfind (xnth xTs 115) 21 = some (21, .ifCond .ne 6, 3, (0, 0, 0, 0), .null, [], 0, 0, []) := rfl
theorem f_115_24 : xfind (xnth xTs 115) 24 = some (24, .ldc 75, 2, (0, 0, 0, 0), (.int (-1000000002)), [], 329, 0, []) := rfl
theorem f_115_26 : xfind (xnth xTs 115) 26 = some (26, .ireturn, 1, (0, 0, 0, 0), .null, [], 0, 0, []) := rfl
theorem f_115_27 : xfind (xnth xTs 115) 27 = some (27, .aload_n 0, 1, (0, 0, 0, 0), .null, [], 0, 0, []) := rfl
theorem f_115_28 : xfind (xnth xTs 115) 28 = some (28, .getfield 50, 3, (8, 6, 1, 0), .null, [], 297, 0, []) := rfl
theorem f_115_31 : xfind (xnth xTs 115) 31 = some (31, .iload_n 1, 1, (0, 0, 0, 0), .null, [], 0, 0, []) := rfl
theorem f_115_32 : xfind (xnth xTs 115) 32 = some (32, .iload_n 2, 1, (0, 0, 0, 0), .null, [], 0, 0, []) := rfl
theorem f_115_33 : xfind (xnth xTs 115) 33 = some (33, .invokevirtual 292, 3, (32, 2, 3, 3), .null, [], 836, 0, []) := rfl
theorem f_115_36 : xfind (xnth xTs 115) 36 = some (36, .ifCond .eq 13, 3, (0, 0, 0, 0), .null, [], 0, 0, []) := rfl
theorem f_115_39 : xfind (xnth xTs 115) 39 = some (39, .aload_n 0, 1, (0, 0, 0, 0), .null, [], 0, 0, []) := rfl
theorem f_115_40 : xfind (xnth xTs 115) 40 = some (40, .getfield 50, 3, (8, 6, 1, 0), .null, [], 297, 0, []) := rfl
theorem f_115_43 : xfind (xnth xTs 115) 43 = some (43, .getfield 139, 3, (3, 1, 0, 0), .null, [], 228, 0, []) := rfl
theorem f_115_46 : xfind (xnth xTs 115) 46 = some (46, .goto 5, 3, (0, 0, 0, 0), .null, [], 0, 0, []) := rfl
theorem f_115_49 : xfind (xnth xTs 115) 49 = some (49, .ldc 83, 2, (0, 0, 0, 0), (.int (-1000000004)), [], 335, 0, []) := rfl
theorem f_115_51 : xfind (xnth xTs 115) 51 = some (51, .ireturn, 1, (0, 0, 0, 0), .null, [], 0, 0, []) := rfl
theorem b_C_write_0 (sh : xSh) (M : Nat → Nat → Int32) (J : Nat → Nat → Int64) (l0 : Nat) (l1 : Int32) (l2 : Int32) : ev (115, 0, [.ref l0, .int l1, .int l2], [], (sh, M, J)) = (bif decide ((sh.2.2.1 l0).1 = 8) then bif (decide ((sh.2.2.1 (sh.2.2.2 l0 0)).1 = 1) && true) then (ev (16, 0, [.ref (sh.2.2.2 l0 0), .int l1], [], (sh, M, J))).bind (fun r => ev (115, 8, [.ref l0, .int l1, .int l2], r.1.toList ++ [], r.2)) else none else none) := by
  refine ev_nx (s1 := (115, 1, [.ref l0, .int l1, .int l2], [.ref l0], (sh, M, J))) f_115_0 rfl ?_
  refine ev_gd (s1 := (115, 4, [.ref l0, .int l1, .int l2], [.ref (sh.2.2.2 l0 0)], (sh, M, J))) f_115_1 rfl ?_
  refine ev_nx (s1 := (115, 5, [.ref l0, .int l1, .int l2], [.int l1, .ref (sh.2.2.2 l0 0)], (sh, M, J))) f_115_4 rfl ?_
  exact ev_ca (cc := (decide ((sh.2.2.1 (sh.2.2.2 l0 0)).1 = 1) && true)) (s1 := (16, 0, [.ref (sh.2.2.2 l0 0), .int l1], [], (sh, M, J))) (k := (115, 8, [.ref l0, .int l1, .int l2], [])) f_115_5 rfl
theorem b_C_write_8 (sh : xSh) (M : Nat → Nat → Int32) (J : Nat → Nat → Int64) (l0 : Nat) (l1 : Int32) (l2 : Int32) (k0 : Int32) : ev (115, 8, [.ref l0, .int l1, .int l2], [.int k0], (sh, M, J)) = (bif !decide (k0 = 0) then (ev (125, 0, [.int l2, .int 0, .int 9], [], (sh, M, J))).bind (fun r => ev (115, 21, [.ref l0, .int l1, .int l2], r.1.toList ++ [], r.2)) else some (some (.int (-1000000001)), (sh, M, J))) := by
  refine ev_br (s1 := (115, 14, [.ref l0, .int l1, .int l2], [], (sh, M, J))) (s2 := (115, 11, [.ref l0, .int l1, .int l2], [], (sh, M, J))) f_115_8 rfl ?_ ?_
  · refine ev_nx (s1 := (115, 15, [.ref l0, .int l1, .int l2], [.int l2], (sh, M, J))) f_115_14 rfl ?_
    refine ev_nx (s1 := (115, 16, [.ref l0, .int l1, .int l2], [.int 0, .int l2], (sh, M, J))) f_115_15 rfl ?_
    refine ev_nx (s1 := (115, 18, [.ref l0, .int l1, .int l2], [.int 9, .int 0, .int l2], (sh, M, J))) f_115_16 rfl ?_
    exact ev_c1 (s1 := (125, 0, [.int l2, .int 0, .int 9], [], (sh, M, J))) (k := (115, 21, [.ref l0, .int l1, .int l2], [])) f_115_18 rfl
  · refine ev_nx (s1 := (115, 13, [.ref l0, .int l1, .int l2], [.int (-1000000001)], (sh, M, J))) f_115_11 rfl ?_
    exact ev_r1 f_115_13 rfl
theorem b_C_write_21 (sh : xSh) (M : Nat → Nat → Int32) (J : Nat → Nat → Int64) (l0 : Nat) (l1 : Int32) (l2 : Int32) (k0 : Int32) : ev (115, 21, [.ref l0, .int l1, .int l2], [.int k0], (sh, M, J)) = (bif !decide (k0 = 0) then bif decide ((sh.2.2.1 l0).1 = 8) then bif (decide ((sh.2.2.1 (sh.2.2.2 l0 6)).1 = 3) && true) then (ev (32, 0, [.ref (sh.2.2.2 l0 6), .int l1, .int l2], [], (sh, M, J))).bind (fun r => ev (115, 36, [.ref l0, .int l1, .int l2], r.1.toList ++ [], r.2)) else none else none else some (some (.int (-1000000002)), (sh, M, J))) := by
  refine ev_br (s1 := (115, 27, [.ref l0, .int l1, .int l2], [], (sh, M, J))) (s2 := (115, 24, [.ref l0, .int l1, .int l2], [], (sh, M, J))) f_115_21 rfl ?_ ?_
  · refine ev_nx (s1 := (115, 28, [.ref l0, .int l1, .int l2], [.ref l0], (sh, M, J))) f_115_27 rfl ?_
    refine ev_gd (s1 := (115, 31, [.ref l0, .int l1, .int l2], [.ref (sh.2.2.2 l0 6)], (sh, M, J))) f_115_28 rfl ?_
    refine ev_nx (s1 := (115, 32, [.ref l0, .int l1, .int l2], [.int l1, .ref (sh.2.2.2 l0 6)], (sh, M, J))) f_115_31 rfl ?_
    refine ev_nx (s1 := (115, 33, [.ref l0, .int l1, .int l2], [.int l2, .int l1, .ref (sh.2.2.2 l0 6)], (sh, M, J))) f_115_32 rfl ?_
    exact ev_ca (cc := (decide ((sh.2.2.1 (sh.2.2.2 l0 6)).1 = 3) && true)) (s1 := (32, 0, [.ref (sh.2.2.2 l0 6), .int l1, .int l2], [], (sh, M, J))) (k := (115, 36, [.ref l0, .int l1, .int l2], [])) f_115_33 rfl
  · refine ev_nx (s1 := (115, 26, [.ref l0, .int l1, .int l2], [.int (-1000000002)], (sh, M, J))) f_115_24 rfl ?_
    exact ev_r1 f_115_26 rfl
theorem b_C_write_36 (sh : xSh) (M : Nat → Nat → Int32) (J : Nat → Nat → Int64) (l0 : Nat) (l1 : Int32) (l2 : Int32) (k0 : Int32) : ev (115, 36, [.ref l0, .int l1, .int l2], [.int k0], (sh, M, J)) = (bif decide (k0 = 0) then some (some (.int (-1000000004)), (sh, M, J)) else bif decide ((sh.2.2.1 l0).1 = 8) then bif decide ((sh.2.2.1 (sh.2.2.2 l0 6)).1 = 3) then some (some (.int (M (sh.2.2.2 l0 6) 1)), (sh, M, J)) else none else none) := by
  refine ev_br (s1 := (115, 49, [.ref l0, .int l1, .int l2], [], (sh, M, J))) (s2 := (115, 39, [.ref l0, .int l1, .int l2], [], (sh, M, J))) f_115_36 rfl ?_ ?_
  · refine ev_nx (s1 := (115, 51, [.ref l0, .int l1, .int l2], [.int (-1000000004)], (sh, M, J))) f_115_49 rfl ?_
    exact ev_r1 f_115_51 rfl
  · refine ev_nx (s1 := (115, 40, [.ref l0, .int l1, .int l2], [.ref l0], (sh, M, J))) f_115_39 rfl ?_
    refine ev_gd (s1 := (115, 43, [.ref l0, .int l1, .int l2], [.ref (sh.2.2.2 l0 6)], (sh, M, J))) f_115_40 rfl ?_
    refine ev_gd (s1 := (115, 46, [.ref l0, .int l1, .int l2], [.int (M (sh.2.2.2 l0 6) 1)], (sh, M, J))) f_115_43 rfl ?_
    refine ev_nx (s1 := (115, 51, [.ref l0, .int l1, .int l2], [.int (M (sh.2.2.2 l0 6) 1)], (sh, M, J))) f_115_46 rfl ?_
    exact ev_r1 f_115_51 rfl
theorem f_116_0 : xfind (xnth xTs 116) 0 = some (0, .aload_n 0, 1, (0, 0, 0, 0), .null, [], 0, 0, []) := rfl
theorem f_116_1 : xfind (xnth xTs 116) 1 = some (1, .getfield 50, 3, (8, 6, 1, 0), .null, [], 297, 0, []) := rfl
theorem f_116_4 : xfind (xnth xTs 116) 4 = some (4, .getfield 136, 3, (3, 0, 0, 0), .null, [], 226, 0, []) := rfl
theorem f_116_7 : xfind (xnth xTs 116) 7 = some (7, .aload_n 0, 1, (0, 0, 0, 0), .null, [], 0, 0, []) := rfl
theorem f_116_8 : xfind (xnth xTs 116) 8 = some (8, .getfield 50, 3, (8, 6, 1, 0), .null, [], 297, 0, []) := rfl
theorem f_116_11 : xfind (xnth xTs 116) 11 = some (11, .getfield 139, 3, (3, 1, 0, 0), .null, [], 228, 0, []) := rfl
theorem f_116_14 : xfind (xnth xTs 116) 14 = some (14, .iadd, 1, (0, 0, 0, 0), .null, [], 0, 0, []) := rfl
theorem f_116_15 : xfind (xnth xTs 116) 15 = some (15, .istore_n 1, 1, (0, 0, 0, 0), .null, [], 0, 0, []) := rfl
theorem f_116_16 : xfind (xnth xTs 116) 16 = some (16, .aload_n 0, 1, (0, 0, 0, 0), .null, [], 0, 0, []) := rfl
theorem f_116_17 : xfind (xnth xTs 116) 17 = some (17, .getfield 50, 3, (8, 6, 1, 0), .null, [], 297, 0, []) := rfl
theorem f_116_20 : xfind (xnth xTs 116) 20 = some (20, .invokevirtual 103, 3, (30, 0, 3, 1), .null, [], 461, 0, []) := rfl
theorem f_116_23 : xfind (xnth xTs 116) 23 = some (23, .iload_n 1, 1, (0, 0, 0, 0), .null, [], 0, 0, []) := rfl
theorem f_116_24 : xfind (xnth xTs 116) 24 = some (24, .ireturn, 1, (0, 0, 0, 0), .null, [], 0, 0, []) := rfl
theorem b_C_tear_0 (sh : xSh) (M : Nat → Nat → Int32) (J : Nat → Nat → Int64) (l0 : Nat) : ev (116, 0, [.ref l0, .null], [], (sh, M, J)) = (bif decide ((sh.2.2.1 l0).1 = 8) then bif decide ((sh.2.2.1 (sh.2.2.2 l0 6)).1 = 3) then bif decide ((sh.2.2.1 l0).1 = 8) then bif decide ((sh.2.2.1 (sh.2.2.2 l0 6)).1 = 3) then bif decide ((sh.2.2.1 l0).1 = 8) then bif (decide ((sh.2.2.1 (sh.2.2.2 l0 6)).1 = 3) && true) then (ev (30, 0, [.ref (sh.2.2.2 l0 6)], [], (sh, M, J))).bind (fun r => ev (116, 23, [.ref l0, .int ((M (sh.2.2.2 l0 6) 0) + (M (sh.2.2.2 l0 6) 1))], r.1.toList ++ [], r.2)) else none else none else none else none else none else none) := by
  refine ev_nx (s1 := (116, 1, [.ref l0, .null], [.ref l0], (sh, M, J))) f_116_0 rfl ?_
  refine ev_gd (s1 := (116, 4, [.ref l0, .null], [.ref (sh.2.2.2 l0 6)], (sh, M, J))) f_116_1 rfl ?_
  refine ev_gd (s1 := (116, 7, [.ref l0, .null], [.int (M (sh.2.2.2 l0 6) 0)], (sh, M, J))) f_116_4 rfl ?_
  refine ev_nx (s1 := (116, 8, [.ref l0, .null], [.ref l0, .int (M (sh.2.2.2 l0 6) 0)], (sh, M, J))) f_116_7 rfl ?_
  refine ev_gd (s1 := (116, 11, [.ref l0, .null], [.ref (sh.2.2.2 l0 6), .int (M (sh.2.2.2 l0 6) 0)], (sh, M, J))) f_116_8 rfl ?_
  refine ev_gd (s1 := (116, 14, [.ref l0, .null], [.int (M (sh.2.2.2 l0 6) 1), .int (M (sh.2.2.2 l0 6) 0)], (sh, M, J))) f_116_11 rfl ?_
  refine ev_nx (s1 := (116, 15, [.ref l0, .null], [.int ((M (sh.2.2.2 l0 6) 0) + (M (sh.2.2.2 l0 6) 1))], (sh, M, J))) f_116_14 rfl ?_
  refine ev_nx (s1 := (116, 16, [.ref l0, .int ((M (sh.2.2.2 l0 6) 0) + (M (sh.2.2.2 l0 6) 1))], [], (sh, M, J))) f_116_15 rfl ?_
  refine ev_nx (s1 := (116, 17, [.ref l0, .int ((M (sh.2.2.2 l0 6) 0) + (M (sh.2.2.2 l0 6) 1))], [.ref l0], (sh, M, J))) f_116_16 rfl ?_
  refine ev_gd (s1 := (116, 20, [.ref l0, .int ((M (sh.2.2.2 l0 6) 0) + (M (sh.2.2.2 l0 6) 1))], [.ref (sh.2.2.2 l0 6)], (sh, M, J))) f_116_17 rfl ?_
  exact ev_ca (cc := (decide ((sh.2.2.1 (sh.2.2.2 l0 6)).1 = 3) && true)) (s1 := (30, 0, [.ref (sh.2.2.2 l0 6)], [], (sh, M, J))) (k := (116, 23, [.ref l0, .int ((M (sh.2.2.2 l0 6) 0) + (M (sh.2.2.2 l0 6) 1))], [])) f_116_20 rfl
theorem b_C_tear_23 (sh : xSh) (M : Nat → Nat → Int32) (J : Nat → Nat → Int64) (l0 : Nat) (l1 : Int32) : ev (116, 23, [.ref l0, .int l1], [], (sh, M, J)) = (some (some (.int l1), (sh, M, J))) := by
  refine ev_nx (s1 := (116, 24, [.ref l0, .int l1], [.int l1], (sh, M, J))) f_116_23 rfl ?_
  exact ev_r1 f_116_24 rfl
theorem f_117_0 : xfind (xnth xTs 117) 0 = some (0, .aload_n 0, 1, (0, 0, 0, 0), .null, [], 0, 0, []) := rfl
theorem f_117_1 : xfind (xnth xTs 117) 1 = some (1, .getfield 50, 3, (8, 6, 1, 0), .null, [], 297, 0, []) := rfl
theorem f_117_4 : xfind (xnth xTs 117) 4 = some (4, .aload_n 0, 1, (0, 0, 0, 0), .null, [], 0, 0, []) := rfl
theorem f_117_5 : xfind (xnth xTs 117) 5 = some (5, .getfield 19, 3, (8, 1, 1, 0), .null, [], 292, 0, []) := rfl
theorem f_117_8 : xfind (xnth xTs 117) 8 = some (8, .invokevirtual 295, 3, (34, 1, 3, 3), .null, [], 848, 0, []) := rfl
theorem f_117_11 : xfind (xnth xTs 117) 11 = some (11, .ireturn, 1, (0, 0, 0, 0), .null, [], 0, 0, []) := rfl
theorem b_C_judge_0 (sh : xSh) (M : Nat → Nat → Int32) (J : Nat → Nat → Int64) (l0 : Nat) : ev (117, 0, [.ref l0], [], (sh, M, J)) = (bif decide ((sh.2.2.1 l0).1 = 8) then bif decide ((sh.2.2.1 l0).1 = 8) then bif (decide ((sh.2.2.1 (sh.2.2.2 l0 6)).1 = 3) && true) then (ev (34, 0, [.ref (sh.2.2.2 l0 6), .ref (sh.2.2.2 l0 1), .null], [], (sh, M, J))).bind (fun r => ev (117, 11, [.ref l0], r.1.toList ++ [], r.2)) else none else none else none) := by
  refine ev_nx (s1 := (117, 1, [.ref l0], [.ref l0], (sh, M, J))) f_117_0 rfl ?_
  refine ev_gd (s1 := (117, 4, [.ref l0], [.ref (sh.2.2.2 l0 6)], (sh, M, J))) f_117_1 rfl ?_
  refine ev_nx (s1 := (117, 5, [.ref l0], [.ref l0, .ref (sh.2.2.2 l0 6)], (sh, M, J))) f_117_4 rfl ?_
  refine ev_gd (s1 := (117, 8, [.ref l0], [.ref (sh.2.2.2 l0 1), .ref (sh.2.2.2 l0 6)], (sh, M, J))) f_117_5 rfl ?_
  exact ev_ca (cc := (decide ((sh.2.2.1 (sh.2.2.2 l0 6)).1 = 3) && true)) (s1 := (34, 0, [.ref (sh.2.2.2 l0 6), .ref (sh.2.2.2 l0 1), .null], [], (sh, M, J))) (k := (117, 11, [.ref l0], [])) f_117_8 rfl
theorem b_C_judge_11 (sh : xSh) (M : Nat → Nat → Int32) (J : Nat → Nat → Int64) (l0 : Nat) (k0 : Int32) : ev (117, 11, [.ref l0], [.int k0], (sh, M, J)) = (some (some (.int k0), (sh, M, J))) := by
  exact ev_r1 f_117_11 rfl
theorem f_118_0 : xfind (xnth xTs 118) 0 = some (0, .iload_n 1, 1, (0, 0, 0, 0), .null, [], 0, 0, []) := rfl
theorem f_118_1 : xfind (xnth xTs 118) 1 = some (1, .ifCond .ge 6, 3, (0, 0, 0, 0), .null, [], 0, 0, []) := rfl
theorem f_118_4 : xfind (xnth xTs 118) 4 = some (4, .ldc 75, 2, (0, 0, 0, 0), (.int (-1000000002)), [], 329, 0, []) := rfl
theorem f_118_6 : xfind (xnth xTs 118) 6 = some (6, .ireturn, 1, (0, 0, 0, 0), .null, [], 0, 0, []) := rfl
theorem f_118_7 : xfind (xnth xTs 118) 7 = some (7, .aload_n 0, 1, (0, 0, 0, 0), .null, [], 0, 0, []) := rfl
theorem f_118_8 : xfind (xnth xTs 118) 8 = some (8, .getfield 72, 3, (8, 10, 0, 0), .null, [], 301, 0, []) := rfl
theorem f_118_11 : xfind (xnth xTs 118) 11 = some (11, .istore_n 2, 1, (0, 0, 0, 0), .null, [], 0, 0, []) := rfl
theorem f_118_12 : xfind (xnth xTs 118) 12 = some (12, .aload_n 0, 1, (0, 0, 0, 0), .null, [], 0, 0, []) := rfl
theorem f_118_13 : xfind (xnth xTs 118) 13 = some (13, .iload_n 1, 1, (0, 0, 0, 0), .null, [], 0, 0, []) := rfl
theorem f_118_14 : xfind (xnth xTs 118) 14 = some (14, .putfield 72, 3, (8, 10, 0, 0), .null, [], 301, 0, []) := rfl
theorem f_118_17 : xfind (xnth xTs 118) 17 = some (17, .iload_n 2, 1, (0, 0, 0, 0), .null, [], 0, 0, []) := rfl
theorem f_118_18 : xfind (xnth xTs 118) 18 = some (18, .ireturn, 1, (0, 0, 0, 0), .null, [], 0, 0, []) := rfl
theorem b_C_seed_0 (sh : xSh) (M : Nat → Nat → Int32) (J : Nat → Nat → Int64) (l0 : Nat) (l1 : Int32) : ev (118, 0, [.ref l0, .int l1, .null], [], (sh, M, J)) = (bif decide (0 ≤ l1) then bif decide ((sh.2.2.1 l0).1 = 8) then bif decide ((sh.2.2.1 l0).1 = 8) then some (some (.int (M l0 10)), (sh, (xu M l0 10 l1), J)) else none else none else some (some (.int (-1000000002)), (sh, M, J))) := by
  refine ev_nx (s1 := (118, 1, [.ref l0, .int l1, .null], [.int l1], (sh, M, J))) f_118_0 rfl ?_
  refine ev_br (s1 := (118, 7, [.ref l0, .int l1, .null], [], (sh, M, J))) (s2 := (118, 4, [.ref l0, .int l1, .null], [], (sh, M, J))) f_118_1 rfl ?_ ?_
  · refine ev_nx (s1 := (118, 8, [.ref l0, .int l1, .null], [.ref l0], (sh, M, J))) f_118_7 rfl ?_
    refine ev_gd (s1 := (118, 11, [.ref l0, .int l1, .null], [.int (M l0 10)], (sh, M, J))) f_118_8 rfl ?_
    refine ev_nx (s1 := (118, 12, [.ref l0, .int l1, .int (M l0 10)], [], (sh, M, J))) f_118_11 rfl ?_
    refine ev_nx (s1 := (118, 13, [.ref l0, .int l1, .int (M l0 10)], [.ref l0], (sh, M, J))) f_118_12 rfl ?_
    refine ev_nx (s1 := (118, 14, [.ref l0, .int l1, .int (M l0 10)], [.int l1, .ref l0], (sh, M, J))) f_118_13 rfl ?_
    refine ev_gd (s1 := (118, 17, [.ref l0, .int l1, .int (M l0 10)], [], (sh, (xu M l0 10 l1), J))) f_118_14 rfl ?_
    refine ev_nx (s1 := (118, 18, [.ref l0, .int l1, .int (M l0 10)], [.int (M l0 10)], (sh, (xu M l0 10 l1), J))) f_118_17 rfl ?_
    exact ev_r1 f_118_18 rfl
  · refine ev_nx (s1 := (118, 6, [.ref l0, .int l1, .null], [.int (-1000000002)], (sh, M, J))) f_118_4 rfl ?_
    exact ev_r1 f_118_6 rfl
theorem f_119_0 : xfind (xnth xTs 119) 0 = some (0, .iload_n 1, 1, (0, 0, 0, 0), .null, [], 0, 0, []) := rfl
theorem f_119_1 : xfind (xnth xTs 119) 1 = some (1, .iconst 0, 1, (0, 0, 0, 0), (.int 0), [], 0, 0, []) := rfl
theorem f_119_2 : xfind (xnth xTs 119) 2 = some (2, .iconst 1, 1, (0, 0, 0, 0), (.int 1), [], 0, 0, []) := rfl
theorem f_119_3 : xfind (xnth xTs 119) 3 = some (3, .invokestatic 220, 3, (125, 3, 8, 3), .null, [], 613, 0, []) := rfl
theorem f_119_6 : xfind (xnth xTs 119) 6 = some (6, .ifCond .ne 6, 3, (0, 0, 0, 0), .null, [], 0, 0, []) := rfl
theorem f_119_9 : xfind (xnth xTs 119) 9 = some (9, .ldc 148, 2, (0, 0, 0, 0), (.int (-1000000001)), [], 556, 0, []) := rfl
theorem f_119_11 : xfind (xnth xTs 119) 11 = some (11, .ireturn, 1, (0, 0, 0, 0), .null, [], 0, 0, []) := rfl
theorem f_119_12 : xfind (xnth xTs 119) 12 = some (12, .aload_n 0, 1, (0, 0, 0, 0), .null, [], 0, 0, []) := rfl
theorem f_119_13 : xfind (xnth xTs 119) 13 = some (13, .getfield 43, 3, (8, 5, 1, 0), .null, [], 296, 0, []) := rfl
theorem f_119_16 : xfind (xnth xTs 119) 16 = some (16, .iload_n 1, 1, (0, 0, 0, 0), .null, [], 0, 0, []) := rfl
theorem f_119_17 : xfind (xnth xTs 119) 17 = some (17, .aload_n 0, 1, (0, 0, 0, 0), .null, [], 0, 0, []) := rfl
theorem f_119_18 : xfind (xnth xTs 119) 18 = some (18, .getfield 19, 3, (8, 1, 1, 0), .null, [], 292, 0, []) := rfl
theorem f_119_21 : xfind (xnth xTs 119) 21 = some (21, .aload_n 0, 1, (0, 0, 0, 0), .null, [], 0, 0, []) := rfl
theorem f_119_22 : xfind (xnth xTs 119) 22 = some (22, .getfield 72, 3, (8, 10, 0, 0), .null, [], 301, 0, []) := rfl
theorem f_119_25 : xfind (xnth xTs 119) 25 = some (25, .invokevirtual 299, 3, (26, 3, 2, 4), .null, [], 861, 0, []) := rfl
theorem f_119_28 : xfind (xnth xTs 119) 28 = some (28, .aload_n 0, 1, (0, 0, 0, 0), .null, [], 0, 0, []) := rfl
theorem f_119_29 : xfind (xnth xTs 119) 29 = some (29, .getfield 36, 3, (8, 4, 1, 0), .null, [], 295, 0, []) := rfl
theorem f_119_32 : xfind (xnth xTs 119) 32 = some (32, .invokevirtual 106, 3, (1, 0, 0, 1), .null, [], 465, 0, []) := rfl
theorem f_119_35 : xfind (xnth xTs 119) 35 = some (35, .iconst 1, 1, (0, 0, 0, 0), (.int 1), [], 0, 0, []) := rfl
theorem f_119_36 : xfind (xnth xTs 119) 36 = some (36, .ireturn, 1, (0, 0, 0, 0), .null, [], 0, 0, []) := rfl
theorem b_C_keep_0 (sh : xSh) (M : Nat → Nat → Int32) (J : Nat → Nat → Int64) (l0 : Nat) (l1 : Int32) : ev (119, 0, [.ref l0, .int l1], [], (sh, M, J)) = ((ev (125, 0, [.int l1, .int 0, .int 1], [], (sh, M, J))).bind (fun r => ev (119, 6, [.ref l0, .int l1], r.1.toList ++ [], r.2))) := by
  refine ev_nx (s1 := (119, 1, [.ref l0, .int l1], [.int l1], (sh, M, J))) f_119_0 rfl ?_
  refine ev_nx (s1 := (119, 2, [.ref l0, .int l1], [.int 0, .int l1], (sh, M, J))) f_119_1 rfl ?_
  refine ev_nx (s1 := (119, 3, [.ref l0, .int l1], [.int 1, .int 0, .int l1], (sh, M, J))) f_119_2 rfl ?_
  exact ev_c1 (s1 := (125, 0, [.int l1, .int 0, .int 1], [], (sh, M, J))) (k := (119, 6, [.ref l0, .int l1], [])) f_119_3 rfl
theorem b_C_keep_6 (sh : xSh) (M : Nat → Nat → Int32) (J : Nat → Nat → Int64) (l0 : Nat) (l1 : Int32) (k0 : Int32) : ev (119, 6, [.ref l0, .int l1], [.int k0], (sh, M, J)) = (bif !decide (k0 = 0) then bif decide ((sh.2.2.1 l0).1 = 8) then bif decide ((sh.2.2.1 l0).1 = 8) then bif decide ((sh.2.2.1 l0).1 = 8) then bif (decide ((sh.2.2.1 (sh.2.2.2 l0 5)).1 = 2) && true) then (ev (26, 0, [.ref (sh.2.2.2 l0 5), .int l1, .ref (sh.2.2.2 l0 1), .int (M l0 10)], [], (sh, M, J))).bind (fun r => ev (119, 28, [.ref l0, .int l1], r.1.toList ++ [], r.2)) else none else none else none else none else some (some (.int (-1000000001)), (sh, M, J))) := by
  refine ev_br (s1 := (119, 12, [.ref l0, .int l1], [], (sh, M, J))) (s2 := (119, 9, [.ref l0, .int l1], [], (sh, M, J))) f_119_6 rfl ?_ ?_
  · refine ev_nx (s1 := (119, 13, [.ref l0, .int l1], [.ref l0], (sh, M, J))) f_119_12 rfl ?_
    refine ev_gd (s1 := (119, 16, [.ref l0, .int l1], [.ref (sh.2.2.2 l0 5)], (sh, M, J))) f_119_13 rfl ?_
    refine ev_nx (s1 := (119, 17, [.ref l0, .int l1], [.int l1, .ref (sh.2.2.2 l0 5)], (sh, M, J))) f_119_16 rfl ?_
    refine ev_nx (s1 := (119, 18, [.ref l0, .int l1], [.ref l0, .int l1, .ref (sh.2.2.2 l0 5)], (sh, M, J))) f_119_17 rfl ?_
    refine ev_gd (s1 := (119, 21, [.ref l0, .int l1], [.ref (sh.2.2.2 l0 1), .int l1, .ref (sh.2.2.2 l0 5)], (sh, M, J))) f_119_18 rfl ?_
    refine ev_nx (s1 := (119, 22, [.ref l0, .int l1], [.ref l0, .ref (sh.2.2.2 l0 1), .int l1, .ref (sh.2.2.2 l0 5)], (sh, M, J))) f_119_21 rfl ?_
    refine ev_gd (s1 := (119, 25, [.ref l0, .int l1], [.int (M l0 10), .ref (sh.2.2.2 l0 1), .int l1, .ref (sh.2.2.2 l0 5)], (sh, M, J))) f_119_22 rfl ?_
    exact ev_ca (cc := (decide ((sh.2.2.1 (sh.2.2.2 l0 5)).1 = 2) && true)) (s1 := (26, 0, [.ref (sh.2.2.2 l0 5), .int l1, .ref (sh.2.2.2 l0 1), .int (M l0 10)], [], (sh, M, J))) (k := (119, 28, [.ref l0, .int l1], [])) f_119_25 rfl
  · refine ev_nx (s1 := (119, 11, [.ref l0, .int l1], [.int (-1000000001)], (sh, M, J))) f_119_9 rfl ?_
    exact ev_r1 f_119_11 rfl
theorem b_C_keep_28 (sh : xSh) (M : Nat → Nat → Int32) (J : Nat → Nat → Int64) (l0 : Nat) (l1 : Int32) : ev (119, 28, [.ref l0, .int l1], [], (sh, M, J)) = (bif decide ((sh.2.2.1 l0).1 = 8) then bif (decide ((sh.2.2.1 (sh.2.2.2 l0 4)).1 = 0) && true) then (ev (1, 0, [.ref (sh.2.2.2 l0 4)], [], (sh, M, J))).bind (fun r => ev (119, 35, [.ref l0, .int l1], r.1.toList ++ [], r.2)) else none else none) := by
  refine ev_nx (s1 := (119, 29, [.ref l0, .int l1], [.ref l0], (sh, M, J))) f_119_28 rfl ?_
  refine ev_gd (s1 := (119, 32, [.ref l0, .int l1], [.ref (sh.2.2.2 l0 4)], (sh, M, J))) f_119_29 rfl ?_
  exact ev_ca (cc := (decide ((sh.2.2.1 (sh.2.2.2 l0 4)).1 = 0) && true)) (s1 := (1, 0, [.ref (sh.2.2.2 l0 4)], [], (sh, M, J))) (k := (119, 35, [.ref l0, .int l1], [])) f_119_32 rfl
theorem b_C_keep_35 (sh : xSh) (M : Nat → Nat → Int32) (J : Nat → Nat → Int64) (l0 : Nat) (l1 : Int32) : ev (119, 35, [.ref l0, .int l1], [], (sh, M, J)) = (some (some (.int 1), (sh, M, J))) := by
  refine ev_nx (s1 := (119, 36, [.ref l0, .int l1], [.int 1], (sh, M, J))) f_119_35 rfl ?_
  exact ev_r1 f_119_36 rfl
theorem f_120_0 : xfind (xnth xTs 120) 0 = some (0, .iload_n 1, 1, (0, 0, 0, 0), .null, [], 0, 0, []) := rfl
theorem f_120_1 : xfind (xnth xTs 120) 1 = some (1, .iconst 0, 1, (0, 0, 0, 0), (.int 0), [], 0, 0, []) := rfl
theorem f_120_2 : xfind (xnth xTs 120) 2 = some (2, .iconst 1, 1, (0, 0, 0, 0), (.int 1), [], 0, 0, []) := rfl
theorem f_120_3 : xfind (xnth xTs 120) 3 = some (3, .invokestatic 220, 3, (125, 3, 8, 3), .null, [], 613, 0, []) := rfl
theorem f_120_6 : xfind (xnth xTs 120) 6 = some (6, .ifCond .ne 6, 3, (0, 0, 0, 0), .null, [], 0, 0, []) := rfl
theorem f_120_9 : xfind (xnth xTs 120) 9 = some (9, .ldc 148, 2, (0, 0, 0, 0), (.int (-1000000001)), [], 556, 0, []) := rfl
theorem f_120_11 : xfind (xnth xTs 120) 11 = some (11, .ireturn, 1, (0, 0, 0, 0), .null, [], 0, 0, []) := rfl
theorem f_120_12 : xfind (xnth xTs 120) 12 = some (12, .aload_n 0, 1, (0, 0, 0, 0), .null, [], 0, 0, []) := rfl
theorem f_120_13 : xfind (xnth xTs 120) 13 = some (13, .getfield 43, 3, (8, 5, 1, 0), .null, [], 296, 0, []) := rfl
theorem f_120_16 : xfind (xnth xTs 120) 16 = some (16, .iload_n 1, 1, (0, 0, 0, 0), .null, [], 0, 0, []) := rfl
theorem f_120_17 : xfind (xnth xTs 120) 17 = some (17, .invokevirtual 303, 3, (25, 1, 2, 2), .null, [], 872, 0, []) := rfl
theorem f_120_20 : xfind (xnth xTs 120) 20 = some (20, .ifCond .ne 6, 3, (0, 0, 0, 0), .null, [], 0, 0, []) := rfl
theorem f_120_23 : xfind (xnth xTs 120) 23 = some (23, .ldc 203, 2, (0, 0, 0, 0), (.int (-1000000003)), [], 615, 0, []) := rfl
theorem f_120_25 : xfind (xnth xTs 120) 25 = some (25, .ireturn, 1, (0, 0, 0, 0), .null, [], 0, 0, []) := rfl
theorem f_120_26 : xfind (xnth xTs 120) 26 = some (26, .aload_n 0, 1, (0, 0, 0, 0), .null, [], 0, 0, []) := rfl
theorem f_120_27 : xfind (xnth xTs 120) 27 = some (27, .getfield 43, 3, (8, 5, 1, 0), .null, [], 296, 0, []) := rfl
theorem f_120_30 : xfind (xnth xTs 120) 30 = some (30, .iload_n 1, 1, (0, 0, 0, 0), .null, [], 0, 0, []) := rfl
theorem f_120_31 : xfind (xnth xTs 120) 31 = some (31, .aload_n 0, 1, (0, 0, 0, 0), .null, [], 0, 0, []) := rfl
theorem f_120_32 : xfind (xnth xTs 120) 32 = some (32, .getfield 19, 3, (8, 1, 1, 0), .null, [], 292, 0, []) := rfl
theorem f_120_35 : xfind (xnth xTs 120) 35 = some (35, .invokevirtual 306, 3, (27, 2, 2, 3), .null, [], 877, 0, []) := rfl
theorem f_120_38 : xfind (xnth xTs 120) 38 = some (38, .aload_n 0, 1, (0, 0, 0, 0), .null, [], 0, 0, []) := rfl
theorem f_120_39 : xfind (xnth xTs 120) 39 = some (39, .aload_n 0, 1, (0, 0, 0, 0), .null, [], 0, 0, []) := rfl
theorem f_120_40 : xfind (xnth xTs 120) 40 = some (40, .getfield 43, 3, (8, 5, 1, 0), .null, [], 296, 0, []) := rfl
theorem f_120_43 : xfind (xnth xTs 120) 43 = some (43, .iload_n 1, 1, (0, 0, 0, 0), .null, [], 0, 0, []) := rfl
theorem f_120_44 : xfind (xnth xTs 120) 44 = some (44, .invokevirtual 310, 3, (28, 1, 2, 2), .null, [], 881, 0, []) := rfl
theorem f_120_47 : xfind (xnth xTs 120) 47 = some (47, .putfield 72, 3, (8, 10, 0, 0), .null, [], 301, 0, []) := rfl
theorem f_120_50 : xfind (xnth xTs 120) 50 = some (50, .aload_n 0, 1, (0, 0, 0, 0), .null, [], 0, 0, []) := rfl
theorem f_120_51 : xfind (xnth xTs 120) 51 = some (51, .getfield 36, 3, (8, 4, 1, 0), .null, [], 295, 0, []) := rfl
theorem f_120_54 : xfind (xnth xTs 120) 54 = some (54, .invokevirtual 106, 3, (1, 0, 0, 1), .null, [], 465, 0, []) := rfl
theorem f_120_57 : xfind (xnth xTs 120) 57 = some (57, .iconst 1, 1, (0, 0, 0, 0), (.int 1), [], 0, 0, []) := rfl
theorem f_120_58 : xfind (xnth xTs 120) 58 = some (58, .ireturn, 1, (0, 0, 0, 0), .null, [], 0, 0, []) := rfl
theorem b_C_goBack_0 (sh : xSh) (M : Nat → Nat → Int32) (J : Nat → Nat → Int64) (l0 : Nat) (l1 : Int32) : ev (120, 0, [.ref l0, .int l1], [], (sh, M, J)) = ((ev (125, 0, [.int l1, .int 0, .int 1], [], (sh, M, J))).bind (fun r => ev (120, 6, [.ref l0, .int l1], r.1.toList ++ [], r.2))) := by
  refine ev_nx (s1 := (120, 1, [.ref l0, .int l1], [.int l1], (sh, M, J))) f_120_0 rfl ?_
  refine ev_nx (s1 := (120, 2, [.ref l0, .int l1], [.int 0, .int l1], (sh, M, J))) f_120_1 rfl ?_
  refine ev_nx (s1 := (120, 3, [.ref l0, .int l1], [.int 1, .int 0, .int l1], (sh, M, J))) f_120_2 rfl ?_
  exact ev_c1 (s1 := (125, 0, [.int l1, .int 0, .int 1], [], (sh, M, J))) (k := (120, 6, [.ref l0, .int l1], [])) f_120_3 rfl
theorem b_C_goBack_6 (sh : xSh) (M : Nat → Nat → Int32) (J : Nat → Nat → Int64) (l0 : Nat) (l1 : Int32) (k0 : Int32) : ev (120, 6, [.ref l0, .int l1], [.int k0], (sh, M, J)) = (bif !decide (k0 = 0) then bif decide ((sh.2.2.1 l0).1 = 8) then bif (decide ((sh.2.2.1 (sh.2.2.2 l0 5)).1 = 2) && true) then (ev (25, 0, [.ref (sh.2.2.2 l0 5), .int l1], [], (sh, M, J))).bind (fun r => ev (120, 20, [.ref l0, .int l1], r.1.toList ++ [], r.2)) else none else none else some (some (.int (-1000000001)), (sh, M, J))) := by
  refine ev_br (s1 := (120, 12, [.ref l0, .int l1], [], (sh, M, J))) (s2 := (120, 9, [.ref l0, .int l1], [], (sh, M, J))) f_120_6 rfl ?_ ?_
  · refine ev_nx (s1 := (120, 13, [.ref l0, .int l1], [.ref l0], (sh, M, J))) f_120_12 rfl ?_
    refine ev_gd (s1 := (120, 16, [.ref l0, .int l1], [.ref (sh.2.2.2 l0 5)], (sh, M, J))) f_120_13 rfl ?_
    refine ev_nx (s1 := (120, 17, [.ref l0, .int l1], [.int l1, .ref (sh.2.2.2 l0 5)], (sh, M, J))) f_120_16 rfl ?_
    exact ev_ca (cc := (decide ((sh.2.2.1 (sh.2.2.2 l0 5)).1 = 2) && true)) (s1 := (25, 0, [.ref (sh.2.2.2 l0 5), .int l1], [], (sh, M, J))) (k := (120, 20, [.ref l0, .int l1], [])) f_120_17 rfl
  · refine ev_nx (s1 := (120, 11, [.ref l0, .int l1], [.int (-1000000001)], (sh, M, J))) f_120_9 rfl ?_
    exact ev_r1 f_120_11 rfl
theorem b_C_goBack_20 (sh : xSh) (M : Nat → Nat → Int32) (J : Nat → Nat → Int64) (l0 : Nat) (l1 : Int32) (k0 : Int32) : ev (120, 20, [.ref l0, .int l1], [.int k0], (sh, M, J)) = (bif !decide (k0 = 0) then bif decide ((sh.2.2.1 l0).1 = 8) then bif decide ((sh.2.2.1 l0).1 = 8) then bif (decide ((sh.2.2.1 (sh.2.2.2 l0 5)).1 = 2) && true) then (ev (27, 0, [.ref (sh.2.2.2 l0 5), .int l1, .ref (sh.2.2.2 l0 1)], [], (sh, M, J))).bind (fun r => ev (120, 38, [.ref l0, .int l1], r.1.toList ++ [], r.2)) else none else none else none else some (some (.int (-1000000003)), (sh, M, J))) := by
  refine ev_br (s1 := (120, 26, [.ref l0, .int l1], [], (sh, M, J))) (s2 := (120, 23, [.ref l0, .int l1], [], (sh, M, J))) f_120_20 rfl ?_ ?_
  · refine ev_nx (s1 := (120, 27, [.ref l0, .int l1], [.ref l0], (sh, M, J))) f_120_26 rfl ?_
    refine ev_gd (s1 := (120, 30, [.ref l0, .int l1], [.ref (sh.2.2.2 l0 5)], (sh, M, J))) f_120_27 rfl ?_
    refine ev_nx (s1 := (120, 31, [.ref l0, .int l1], [.int l1, .ref (sh.2.2.2 l0 5)], (sh, M, J))) f_120_30 rfl ?_
    refine ev_nx (s1 := (120, 32, [.ref l0, .int l1], [.ref l0, .int l1, .ref (sh.2.2.2 l0 5)], (sh, M, J))) f_120_31 rfl ?_
    refine ev_gd (s1 := (120, 35, [.ref l0, .int l1], [.ref (sh.2.2.2 l0 1), .int l1, .ref (sh.2.2.2 l0 5)], (sh, M, J))) f_120_32 rfl ?_
    exact ev_ca (cc := (decide ((sh.2.2.1 (sh.2.2.2 l0 5)).1 = 2) && true)) (s1 := (27, 0, [.ref (sh.2.2.2 l0 5), .int l1, .ref (sh.2.2.2 l0 1)], [], (sh, M, J))) (k := (120, 38, [.ref l0, .int l1], [])) f_120_35 rfl
  · refine ev_nx (s1 := (120, 25, [.ref l0, .int l1], [.int (-1000000003)], (sh, M, J))) f_120_23 rfl ?_
    exact ev_r1 f_120_25 rfl
theorem b_C_goBack_38 (sh : xSh) (M : Nat → Nat → Int32) (J : Nat → Nat → Int64) (l0 : Nat) (l1 : Int32) : ev (120, 38, [.ref l0, .int l1], [], (sh, M, J)) = (bif decide ((sh.2.2.1 l0).1 = 8) then bif (decide ((sh.2.2.1 (sh.2.2.2 l0 5)).1 = 2) && true) then (ev (28, 0, [.ref (sh.2.2.2 l0 5), .int l1], [], (sh, M, J))).bind (fun r => ev (120, 47, [.ref l0, .int l1], r.1.toList ++ [.ref l0], r.2)) else none else none) := by
  refine ev_nx (s1 := (120, 39, [.ref l0, .int l1], [.ref l0], (sh, M, J))) f_120_38 rfl ?_
  refine ev_nx (s1 := (120, 40, [.ref l0, .int l1], [.ref l0, .ref l0], (sh, M, J))) f_120_39 rfl ?_
  refine ev_gd (s1 := (120, 43, [.ref l0, .int l1], [.ref (sh.2.2.2 l0 5), .ref l0], (sh, M, J))) f_120_40 rfl ?_
  refine ev_nx (s1 := (120, 44, [.ref l0, .int l1], [.int l1, .ref (sh.2.2.2 l0 5), .ref l0], (sh, M, J))) f_120_43 rfl ?_
  exact ev_ca (cc := (decide ((sh.2.2.1 (sh.2.2.2 l0 5)).1 = 2) && true)) (s1 := (28, 0, [.ref (sh.2.2.2 l0 5), .int l1], [], (sh, M, J))) (k := (120, 47, [.ref l0, .int l1], [.ref l0])) f_120_44 rfl
theorem b_C_goBack_47 (sh : xSh) (M : Nat → Nat → Int32) (J : Nat → Nat → Int64) (l0 : Nat) (l1 : Int32) (k0 : Int32) (k1 : Nat) : ev (120, 47, [.ref l0, .int l1], [.int k0, .ref k1], (sh, M, J)) = (bif decide ((sh.2.2.1 k1).1 = 8) then bif decide ((sh.2.2.1 l0).1 = 8) then bif (decide ((sh.2.2.1 (sh.2.2.2 l0 4)).1 = 0) && true) then (ev (1, 0, [.ref (sh.2.2.2 l0 4)], [], (sh, (xu M k1 10 k0), J))).bind (fun r => ev (120, 57, [.ref l0, .int l1], r.1.toList ++ [], r.2)) else none else none else none) := by
  refine ev_gd (s1 := (120, 50, [.ref l0, .int l1], [], (sh, (xu M k1 10 k0), J))) f_120_47 rfl ?_
  refine ev_nx (s1 := (120, 51, [.ref l0, .int l1], [.ref l0], (sh, (xu M k1 10 k0), J))) f_120_50 rfl ?_
  refine ev_gd (s1 := (120, 54, [.ref l0, .int l1], [.ref (sh.2.2.2 l0 4)], (sh, (xu M k1 10 k0), J))) f_120_51 rfl ?_
  exact ev_ca (cc := (decide ((sh.2.2.1 (sh.2.2.2 l0 4)).1 = 0) && true)) (s1 := (1, 0, [.ref (sh.2.2.2 l0 4)], [], (sh, (xu M k1 10 k0), J))) (k := (120, 57, [.ref l0, .int l1], [])) f_120_54 rfl
theorem b_C_goBack_57 (sh : xSh) (M : Nat → Nat → Int32) (J : Nat → Nat → Int64) (l0 : Nat) (l1 : Int32) : ev (120, 57, [.ref l0, .int l1], [], (sh, M, J)) = (some (some (.int 1), (sh, M, J))) := by
  refine ev_nx (s1 := (120, 58, [.ref l0, .int l1], [.int 1], (sh, M, J))) f_120_57 rfl ?_
  exact ev_r1 f_120_58 rfl
theorem f_121_0 : xfind (xnth xTs 121) 0 = some (0, .iload_n 1, 1, (0, 0, 0, 0), .null, [], 0, 0, []) := rfl
theorem f_121_1 : xfind (xnth xTs 121) 1 = some (1, .iconst 1, 1, (0, 0, 0, 0), (.int 1), [], 0, 0, []) := rfl
theorem f_121_2 : xfind (xnth xTs 121) 2 = some (2, .bipush 20, 2, (0, 0, 0, 0), (.int 20), [], 0, 0, []) := rfl
theorem f_121_4 : xfind (xnth xTs 121) 4 = some (4, .invokestatic 220, 3, (125, 3, 8, 3), .null, [], 613, 0, []) := rfl
theorem f_121_7 : xfind (xnth xTs 121) 7 = some (7, .ifCond .ne 6, 3, (0, 0, 0, 0), .null, [], 0, 0, []) := rfl
theorem f_121_10 : xfind (xnth xTs 121) 10 = some (10, .ldc 75, 2, (0, 0, 0, 0), (.int (-1000000002)), [], 329, 0, []) := rfl
theorem f_121_12 : xfind (xnth xTs 121) 12 = some (12, .ireturn, 1, (0, 0, 0, 0), .null, [], 0, 0, []) := rfl
theorem f_121_13 : xfind (xnth xTs 121) 13 = some (13, .aload_n 0, 1, (0, 0, 0, 0), .null, [], 0, 0, []) := rfl
theorem f_121_14 : xfind (xnth xTs 121) 14 = some (14, .getfield 10, 3, (8, 0, 1, 0), .null, [], 291, 0, []) := rfl
theorem f_121_17 : xfind (xnth xTs 121) 17 = some (17, .invokevirtual 250, 3, (13, 0, 1, 1), .null, [], 614, 0, []) := rfl
theorem f_121_20 : xfind (xnth xTs 121) 20 = some (20, .ifCond .ne 6, 3, (0, 0, 0, 0), .null, [], 0, 0, []) := rfl
theorem f_121_23 : xfind (xnth xTs 121) 23 = some (23, .ldc 203, 2, (0, 0, 0, 0), (.int (-1000000003)), [], 615, 0, []) := rfl
theorem f_121_25 : xfind (xnth xTs 121) 25 = some (25, .ireturn, 1, (0, 0, 0, 0), .null, [], 0, 0, []) := rfl
theorem f_121_26 : xfind (xnth xTs 121) 26 = some (26, .aload_n 0, 1, (0, 0, 0, 0), .null, [], 0, 0, []) := rfl
theorem f_121_27 : xfind (xnth xTs 121) 27 = some (27, .getfield 19, 3, (8, 1, 1, 0), .null, [], 292, 0, []) := rfl
theorem f_121_30 : xfind (xnth xTs 121) 30 = some (30, .invokevirtual 117, 3, (60, 0, 6, 1), .null, [], 481, 0, []) := rfl
theorem f_121_33 : xfind (xnth xTs 121) 33 = some (33, .sipush 9000, 3, (0, 0, 0, 0), (.int 9000), [], 0, 0, []) := rfl
theorem f_121_36 : xfind (xnth xTs 121) 36 = some (36, .if_icmp .le 8, 3, (0, 0, 0, 0), .null, [], 0, 0, []) := rfl
theorem f_121_39 : xfind (xnth xTs 121) 39 = some (39, .ldc 83, 2, (0, 0, 0, 0), (.int (-1000000004)), [], 335, 0, []) := rfl
theorem f_121_41 : xfind (xnth xTs 121) 41 = some (41, .goto 4, 3, (0, 0, 0, 0), .null, [], 0, 0, []) := rfl
theorem f_121_44 : xfind (xnth xTs 121) 44 = some (44, .iconst 0, 1, (0, 0, 0, 0), (.int 0), [], 0, 0, []) := rfl
theorem f_121_45 : xfind (xnth xTs 121) 45 = some (45, .ireturn, 1, (0, 0, 0, 0), .null, [], 0, 0, []) := rfl
theorem b_C_refusalOfNights_0 (sh : xSh) (M : Nat → Nat → Int32) (J : Nat → Nat → Int64) (l0 : Nat) (l1 : Int32) : ev (121, 0, [.ref l0, .int l1], [], (sh, M, J)) = ((ev (125, 0, [.int l1, .int 1, .int 20], [], (sh, M, J))).bind (fun r => ev (121, 7, [.ref l0, .int l1], r.1.toList ++ [], r.2))) := by
  refine ev_nx (s1 := (121, 1, [.ref l0, .int l1], [.int l1], (sh, M, J))) f_121_0 rfl ?_
  refine ev_nx (s1 := (121, 2, [.ref l0, .int l1], [.int 1, .int l1], (sh, M, J))) f_121_1 rfl ?_
  refine ev_nx (s1 := (121, 4, [.ref l0, .int l1], [.int 20, .int 1, .int l1], (sh, M, J))) f_121_2 rfl ?_
  exact ev_c1 (s1 := (125, 0, [.int l1, .int 1, .int 20], [], (sh, M, J))) (k := (121, 7, [.ref l0, .int l1], [])) f_121_4 rfl
theorem b_C_refusalOfNights_7 (sh : xSh) (M : Nat → Nat → Int32) (J : Nat → Nat → Int64) (l0 : Nat) (l1 : Int32) (k0 : Int32) : ev (121, 7, [.ref l0, .int l1], [.int k0], (sh, M, J)) = (bif !decide (k0 = 0) then bif decide ((sh.2.2.1 l0).1 = 8) then bif (decide ((sh.2.2.1 (sh.2.2.2 l0 0)).1 = 1) && true) then (ev (13, 0, [.ref (sh.2.2.2 l0 0)], [], (sh, M, J))).bind (fun r => ev (121, 20, [.ref l0, .int l1], r.1.toList ++ [], r.2)) else none else none else some (some (.int (-1000000002)), (sh, M, J))) := by
  refine ev_br (s1 := (121, 13, [.ref l0, .int l1], [], (sh, M, J))) (s2 := (121, 10, [.ref l0, .int l1], [], (sh, M, J))) f_121_7 rfl ?_ ?_
  · refine ev_nx (s1 := (121, 14, [.ref l0, .int l1], [.ref l0], (sh, M, J))) f_121_13 rfl ?_
    refine ev_gd (s1 := (121, 17, [.ref l0, .int l1], [.ref (sh.2.2.2 l0 0)], (sh, M, J))) f_121_14 rfl ?_
    exact ev_ca (cc := (decide ((sh.2.2.1 (sh.2.2.2 l0 0)).1 = 1) && true)) (s1 := (13, 0, [.ref (sh.2.2.2 l0 0)], [], (sh, M, J))) (k := (121, 20, [.ref l0, .int l1], [])) f_121_17 rfl
  · refine ev_nx (s1 := (121, 12, [.ref l0, .int l1], [.int (-1000000002)], (sh, M, J))) f_121_10 rfl ?_
    exact ev_r1 f_121_12 rfl
theorem b_C_refusalOfNights_20 (sh : xSh) (M : Nat → Nat → Int32) (J : Nat → Nat → Int64) (l0 : Nat) (l1 : Int32) (k0 : Int32) : ev (121, 20, [.ref l0, .int l1], [.int k0], (sh, M, J)) = (bif !decide (k0 = 0) then bif decide ((sh.2.2.1 l0).1 = 8) then bif (decide ((sh.2.2.1 (sh.2.2.2 l0 1)).1 = 6) && true) then (ev (60, 0, [.ref (sh.2.2.2 l0 1)], [], (sh, M, J))).bind (fun r => ev (121, 33, [.ref l0, .int l1], r.1.toList ++ [], r.2)) else none else none else some (some (.int (-1000000003)), (sh, M, J))) := by
  refine ev_br (s1 := (121, 26, [.ref l0, .int l1], [], (sh, M, J))) (s2 := (121, 23, [.ref l0, .int l1], [], (sh, M, J))) f_121_20 rfl ?_ ?_
  · refine ev_nx (s1 := (121, 27, [.ref l0, .int l1], [.ref l0], (sh, M, J))) f_121_26 rfl ?_
    refine ev_gd (s1 := (121, 30, [.ref l0, .int l1], [.ref (sh.2.2.2 l0 1)], (sh, M, J))) f_121_27 rfl ?_
    exact ev_ca (cc := (decide ((sh.2.2.1 (sh.2.2.2 l0 1)).1 = 6) && true)) (s1 := (60, 0, [.ref (sh.2.2.2 l0 1)], [], (sh, M, J))) (k := (121, 33, [.ref l0, .int l1], [])) f_121_30 rfl
  · refine ev_nx (s1 := (121, 25, [.ref l0, .int l1], [.int (-1000000003)], (sh, M, J))) f_121_23 rfl ?_
    exact ev_r1 f_121_25 rfl
theorem b_C_refusalOfNights_33 (sh : xSh) (M : Nat → Nat → Int32) (J : Nat → Nat → Int64) (l0 : Nat) (l1 : Int32) (k0 : Int32) : ev (121, 33, [.ref l0, .int l1], [.int k0], (sh, M, J)) = (bif decide (k0 ≤ 9000) then some (some (.int 0), (sh, M, J)) else some (some (.int (-1000000004)), (sh, M, J))) := by
  refine ev_nx (s1 := (121, 36, [.ref l0, .int l1], [.int 9000, .int k0], (sh, M, J))) f_121_33 rfl ?_
  refine ev_br (s1 := (121, 44, [.ref l0, .int l1], [], (sh, M, J))) (s2 := (121, 39, [.ref l0, .int l1], [], (sh, M, J))) f_121_36 rfl ?_ ?_
  · refine ev_nx (s1 := (121, 45, [.ref l0, .int l1], [.int 0], (sh, M, J))) f_121_44 rfl ?_
    exact ev_r1 f_121_45 rfl
  · refine ev_nx (s1 := (121, 41, [.ref l0, .int l1], [.int (-1000000004)], (sh, M, J))) f_121_39 rfl ?_
    refine ev_nx (s1 := (121, 45, [.ref l0, .int l1], [.int (-1000000004)], (sh, M, J))) f_121_41 rfl ?_
    exact ev_r1 f_121_45 rfl
theorem f_122_0 : xfind (xnth xTs 122) 0 = some (0, .aload_n 0, 1, (0, 0, 0, 0), .null, [], 0, 0, []) := rfl
theorem f_122_1 : xfind (xnth xTs 122) 1 = some (1, .aload_n 0, 1, (0, 0, 0, 0), .null, [], 0, 0, []) := rfl
theorem f_122_2 : xfind (xnth xTs 122) 2 = some (2, .getfield 10, 3, (8, 0, 1, 0), .null, [], 291, 0, []) := rfl
theorem f_122_5 : xfind (xnth xTs 122) 5 = some (5, .invokevirtual 250, 3, (13, 0, 1, 1), .null, [], 614, 0, []) := rfl
theorem f_122_8 : xfind (xnth xTs 122) 8 = some (8, .invokevirtual 313, 3, (123, 1, 8, 2), .null, [], 674, 0, []) := rfl
theorem f_122_11 : xfind (xnth xTs 122) 11 = some (11, .istore_n 1, 1, (0, 0, 0, 0), .null, [], 0, 0, []) := rfl
theorem f_122_12 : xfind (xnth xTs 122) 12 = some (12, .aload_n 0, 1, (0, 0, 0, 0), .null, [], 0, 0, []) := rfl
theorem f_122_13 : xfind (xnth xTs 122) 13 = some (13, .bipush 10, 2, (0, 0, 0, 0), (.int 10), [], 0, 0, []) := rfl
theorem f_122_15 : xfind (xnth xTs 122) 15 = some (15, .invokevirtual 313, 3, (123, 1, 8, 2), .null, [], 674, 0, []) := rfl
theorem f_122_18 : xfind (xnth xTs 122) 18 = some (18, .istore_n 2, 1, (0, 0, 0, 0), .null, [], 0, 0, []) := rfl
theorem f_122_19 : xfind (xnth xTs 122) 19 = some (19, .iload_n 2, 1, (0, 0, 0, 0), .null, [], 0, 0, []) := rfl
theorem f_122_20 : xfind (xnth xTs 122) 20 = some (20, .aload_n 0, 1, (0, 0, 0, 0), .null, [], 0, 0, []) := rfl
theorem f_122_21 : xfind (xnth xTs 122) 21 = some (21, .getfield 10, 3, (8, 0, 1, 0), .null, [], 291, 0, []) := rfl
theorem f_122_24 : xfind (xnth xTs 122) 24 = some (24, .aload_n 0, 1, (0, 0, 0, 0), .null, [], 0, 0, []) := rfl
theorem f_122_25 : xfind (xnth xTs 122) 25 = some (25, .getfield 19, 3, (8, 1, 1, 0), .null, [], 292, 0, []) := rfl
theorem f_122_28 : xfind (xnth xTs 122) 28 = some (28, .iload_n 1, 1, (0, 0, 0, 0), .null, [], 0, 0, []) := rfl
theorem f_122_29 : xfind (xnth xTs 122) 29 = some (29, .invokevirtual 149, 3, (61, 1, 6, 2), .null, [], 557, 0, []) := rfl
theorem f_122_32 : xfind (xnth xTs 122) 32 = some (32, .invokevirtual 170, 3, (10, 1, 1, 2), .null, [], 584, 0, []) := rfl
theorem f_122_35 : xfind (xnth xTs 122) 35 = some (35, .if_icmp .ge 11, 3, (0, 0, 0, 0), .null, [], 0, 0, []) := rfl
theorem f_122_38 : xfind (xnth xTs 122) 38 = some (38, .aload_n 0, 1, (0, 0, 0, 0), .null, [], 0, 0, []) := rfl
theorem f_122_39 : xfind (xnth xTs 122) 39 = some (39, .getfield 19, 3, (8, 1, 1, 0), .null, [], 292, 0, []) := rfl
theorem f_122_42 : xfind (xnth xTs 122) 42 = some (42, .iload_n 1, 1, (0, 0, 0, 0), .null, [], 0, 0, []) := rfl
theorem f_122_43 : xfind (xnth xTs 122) 43 = some (43, .invokevirtual 204, 3, (69, 1, 6, 2), .null, [], 645, 0, []) := rfl
theorem f_122_46 : xfind (xnth xTs 122) 46 = some (46, .return_, 1, (0, 0, 0, 0), .null, [], 0, 0, []) := rfl
theorem b_C_letMothsIn_0 (sh : xSh) (M : Nat → Nat → Int32) (J : Nat → Nat → Int64) (l0 : Nat) : ev (122, 0, [.ref l0, .null, .null], [], (sh, M, J)) = (bif decide ((sh.2.2.1 l0).1 = 8) then bif (decide ((sh.2.2.1 (sh.2.2.2 l0 0)).1 = 1) && true) then (ev (13, 0, [.ref (sh.2.2.2 l0 0)], [], (sh, M, J))).bind (fun r => ev (122, 8, [.ref l0, .null, .null], r.1.toList ++ [.ref l0], r.2)) else none else none) := by
  refine ev_nx (s1 := (122, 1, [.ref l0, .null, .null], [.ref l0], (sh, M, J))) f_122_0 rfl ?_
  refine ev_nx (s1 := (122, 2, [.ref l0, .null, .null], [.ref l0, .ref l0], (sh, M, J))) f_122_1 rfl ?_
  refine ev_gd (s1 := (122, 5, [.ref l0, .null, .null], [.ref (sh.2.2.2 l0 0), .ref l0], (sh, M, J))) f_122_2 rfl ?_
  exact ev_ca (cc := (decide ((sh.2.2.1 (sh.2.2.2 l0 0)).1 = 1) && true)) (s1 := (13, 0, [.ref (sh.2.2.2 l0 0)], [], (sh, M, J))) (k := (122, 8, [.ref l0, .null, .null], [.ref l0])) f_122_5 rfl
theorem b_C_letMothsIn_8 (sh : xSh) (M : Nat → Nat → Int32) (J : Nat → Nat → Int64) (l0 : Nat) (k0 : Int32) (k1 : Nat) : ev (122, 8, [.ref l0, .null, .null], [.int k0, .ref k1], (sh, M, J)) = (bif (decide ((sh.2.2.1 k1).1 = 8) && true) then (ev (123, 0, [.ref k1, .int k0], [], (sh, M, J))).bind (fun r => ev (122, 11, [.ref l0, .null, .null], r.1.toList ++ [], r.2)) else none) := by
  exact ev_ca (cc := (decide ((sh.2.2.1 k1).1 = 8) && true)) (s1 := (123, 0, [.ref k1, .int k0], [], (sh, M, J))) (k := (122, 11, [.ref l0, .null, .null], [])) f_122_8 rfl
theorem b_C_letMothsIn_11 (sh : xSh) (M : Nat → Nat → Int32) (J : Nat → Nat → Int64) (l0 : Nat) (k0 : Int32) : ev (122, 11, [.ref l0, .null, .null], [.int k0], (sh, M, J)) = (bif (decide ((sh.2.2.1 l0).1 = 8) && true) then (ev (123, 0, [.ref l0, .int 10], [], (sh, M, J))).bind (fun r => ev (122, 18, [.ref l0, .int k0, .null], r.1.toList ++ [], r.2)) else none) := by
  refine ev_nx (s1 := (122, 12, [.ref l0, .int k0, .null], [], (sh, M, J))) f_122_11 rfl ?_
  refine ev_nx (s1 := (122, 13, [.ref l0, .int k0, .null], [.ref l0], (sh, M, J))) f_122_12 rfl ?_
  refine ev_nx (s1 := (122, 15, [.ref l0, .int k0, .null], [.int 10, .ref l0], (sh, M, J))) f_122_13 rfl ?_
  exact ev_ca (cc := (decide ((sh.2.2.1 l0).1 = 8) && true)) (s1 := (123, 0, [.ref l0, .int 10], [], (sh, M, J))) (k := (122, 18, [.ref l0, .int k0, .null], [])) f_122_15 rfl
theorem b_C_letMothsIn_18 (sh : xSh) (M : Nat → Nat → Int32) (J : Nat → Nat → Int64) (l0 : Nat) (l1 : Int32) (k0 : Int32) : ev (122, 18, [.ref l0, .int l1, .null], [.int k0], (sh, M, J)) = (bif decide ((sh.2.2.1 l0).1 = 8) then bif decide ((sh.2.2.1 l0).1 = 8) then bif (decide ((sh.2.2.1 (sh.2.2.2 l0 1)).1 = 6) && true) then (ev (61, 0, [.ref (sh.2.2.2 l0 1), .int l1], [], (sh, M, J))).bind (fun r => ev (122, 32, [.ref l0, .int l1, .int k0], r.1.toList ++ [.ref (sh.2.2.2 l0 0), .int k0], r.2)) else none else none else none) := by
  refine ev_nx (s1 := (122, 19, [.ref l0, .int l1, .int k0], [], (sh, M, J))) f_122_18 rfl ?_
  refine ev_nx (s1 := (122, 20, [.ref l0, .int l1, .int k0], [.int k0], (sh, M, J))) f_122_19 rfl ?_
  refine ev_nx (s1 := (122, 21, [.ref l0, .int l1, .int k0], [.ref l0, .int k0], (sh, M, J))) f_122_20 rfl ?_
  refine ev_gd (s1 := (122, 24, [.ref l0, .int l1, .int k0], [.ref (sh.2.2.2 l0 0), .int k0], (sh, M, J))) f_122_21 rfl ?_
  refine ev_nx (s1 := (122, 25, [.ref l0, .int l1, .int k0], [.ref l0, .ref (sh.2.2.2 l0 0), .int k0], (sh, M, J))) f_122_24 rfl ?_
  refine ev_gd (s1 := (122, 28, [.ref l0, .int l1, .int k0], [.ref (sh.2.2.2 l0 1), .ref (sh.2.2.2 l0 0), .int k0], (sh, M, J))) f_122_25 rfl ?_
  refine ev_nx (s1 := (122, 29, [.ref l0, .int l1, .int k0], [.int l1, .ref (sh.2.2.2 l0 1), .ref (sh.2.2.2 l0 0), .int k0], (sh, M, J))) f_122_28 rfl ?_
  exact ev_ca (cc := (decide ((sh.2.2.1 (sh.2.2.2 l0 1)).1 = 6) && true)) (s1 := (61, 0, [.ref (sh.2.2.2 l0 1), .int l1], [], (sh, M, J))) (k := (122, 32, [.ref l0, .int l1, .int k0], [.ref (sh.2.2.2 l0 0), .int k0])) f_122_29 rfl
theorem b_C_letMothsIn_32 (sh : xSh) (M : Nat → Nat → Int32) (J : Nat → Nat → Int64) (l0 : Nat) (l1 : Int32) (l2 : Int32) (k0 : Int32) (k1 : Nat) (k2 : Int32) : ev (122, 32, [.ref l0, .int l1, .int l2], [.int k0, .ref k1, .int k2], (sh, M, J)) = (bif (decide ((sh.2.2.1 k1).1 = 1) && true) then (ev (10, 0, [.ref k1, .int k0], [], (sh, M, J))).bind (fun r => ev (122, 35, [.ref l0, .int l1, .int l2], r.1.toList ++ [.int k2], r.2)) else none) := by
  exact ev_ca (cc := (decide ((sh.2.2.1 k1).1 = 1) && true)) (s1 := (10, 0, [.ref k1, .int k0], [], (sh, M, J))) (k := (122, 35, [.ref l0, .int l1, .int l2], [.int k2])) f_122_32 rfl
theorem b_C_letMothsIn_35 (sh : xSh) (M : Nat → Nat → Int32) (J : Nat → Nat → Int64) (l0 : Nat) (l1 : Int32) (l2 : Int32) (k0 : Int32) (k1 : Int32) : ev (122, 35, [.ref l0, .int l1, .int l2], [.int k0, .int k1], (sh, M, J)) = (bif decide (k0 ≤ k1) then some (none, (sh, M, J)) else bif decide ((sh.2.2.1 l0).1 = 8) then bif (decide ((sh.2.2.1 (sh.2.2.2 l0 1)).1 = 6) && true) then (ev (69, 0, [.ref (sh.2.2.2 l0 1), .int l1], [], (sh, M, J))).bind (fun r => ev (122, 46, [.ref l0, .int l1, .int l2], r.1.toList ++ [], r.2)) else none else none) := by
  refine ev_br (s1 := (122, 46, [.ref l0, .int l1, .int l2], [], (sh, M, J))) (s2 := (122, 38, [.ref l0, .int l1, .int l2], [], (sh, M, J))) f_122_35 rfl ?_ ?_
  · exact ev_r1 f_122_46 rfl
  · refine ev_nx (s1 := (122, 39, [.ref l0, .int l1, .int l2], [.ref l0], (sh, M, J))) f_122_38 rfl ?_
    refine ev_gd (s1 := (122, 42, [.ref l0, .int l1, .int l2], [.ref (sh.2.2.2 l0 1)], (sh, M, J))) f_122_39 rfl ?_
    refine ev_nx (s1 := (122, 43, [.ref l0, .int l1, .int l2], [.int l1, .ref (sh.2.2.2 l0 1)], (sh, M, J))) f_122_42 rfl ?_
    exact ev_ca (cc := (decide ((sh.2.2.1 (sh.2.2.2 l0 1)).1 = 6) && true)) (s1 := (69, 0, [.ref (sh.2.2.2 l0 1), .int l1], [], (sh, M, J))) (k := (122, 46, [.ref l0, .int l1, .int l2], [])) f_122_43 rfl
theorem b_C_letMothsIn_46 (sh : xSh) (M : Nat → Nat → Int32) (J : Nat → Nat → Int64) (l0 : Nat) (l1 : Int32) (l2 : Int32) : ev (122, 46, [.ref l0, .int l1, .int l2], [], (sh, M, J)) = (some (none, (sh, M, J))) := by
  exact ev_r1 f_122_46 rfl
theorem f_123_0 : xfind (xnth xTs 123) 0 = some (0, .aload_n 0, 1, (0, 0, 0, 0), .null, [], 0, 0, []) := rfl
theorem f_123_1 : xfind (xnth xTs 123) 1 = some (1, .aload_n 0, 1, (0, 0, 0, 0), .null, [], 0, 0, []) := rfl
theorem f_123_2 : xfind (xnth xTs 123) 2 = some (2, .getfield 72, 3, (8, 10, 0, 0), .null, [], 301, 0, []) := rfl
theorem f_123_5 : xfind (xnth xTs 123) 5 = some (5, .i2l, 1, (0, 0, 0, 0), .null, [], 0, 0, []) := rfl
theorem f_123_6 : xfind (xnth xTs 123) 6 = some (6, .ldc2_w 316, 3, (0, 0, 0, 0), (.long 1103515245), [], 678, 0, []) := rfl
theorem f_123_9 : xfind (xnth xTs 123) 9 = some (9, .lmul, 1, (0, 0, 0, 0), .null, [], 0, 0, []) := rfl
theorem f_123_10 : xfind (xnth xTs 123) 10 = some (10, .ldc2_w 318, 3, (0, 0, 0, 0), (.long 12345), [], 679, 0, []) := rfl
theorem f_123_13 : xfind (xnth xTs 123) 13 = some (13, .ladd, 1, (0, 0, 0, 0), .null, [], 0, 0, []) := rfl
theorem f_123_14 : xfind (xnth xTs 123) 14 = some (14, .ldc2_w 320, 3, (0, 0, 0, 0), (.long 2147483647), [], 680, 0, []) := rfl
theorem f_123_17 : xfind (xnth xTs 123) 17 = some (17, .land, 1, (0, 0, 0, 0), .null, [], 0, 0, []) := rfl
theorem f_123_18 : xfind (xnth xTs 123) 18 = some (18, .l2i, 1, (0, 0, 0, 0), .null, [], 0, 0, []) := rfl
theorem f_123_19 : xfind (xnth xTs 123) 19 = some (19, .putfield 72, 3, (8, 10, 0, 0), .null, [], 301, 0, []) := rfl
theorem f_123_22 : xfind (xnth xTs 123) 22 = some (22, .iload_n 1, 1, (0, 0, 0, 0), .null, [], 0, 0, []) := rfl
theorem f_123_23 : xfind (xnth xTs 123) 23 = some (23, .ifCond .le 16, 3, (0, 0, 0, 0), .null, [], 0, 0, []) := rfl
theorem f_123_26 : xfind (xnth xTs 123) 26 = some (26, .aload_n 0, 1, (0, 0, 0, 0), .null, [], 0, 0, []) := rfl
theorem f_123_27 : xfind (xnth xTs 123) 27 = some (27, .getfield 72, 3, (8, 10, 0, 0), .null, [], 301, 0, []) := rfl
theorem f_123_30 : xfind (xnth xTs 123) 30 = some (30, .ldc_w 322, 3, (0, 0, 0, 0), (.int 65536), [], 681, 0, []) := rfl
theorem f_123_33 : xfind (xnth xTs 123) 33 = some (33, .idiv, 1, (0, 0, 0, 0), .null, [], 0, 0, []) := rfl
theorem f_123_34 : xfind (xnth xTs 123) 34 = some (34, .iload_n 1, 1, (0, 0, 0, 0), .null, [], 0, 0, []) := rfl
theorem f_123_35 : xfind (xnth xTs 123) 35 = some (35, .irem, 1, (0, 0, 0, 0), .null, [], 0, 0, []) := rfl
theorem f_123_36 : xfind (xnth xTs 123) 36 = some (36, .goto 4, 3, (0, 0, 0, 0), .null, [], 0, 0, []) := rfl
theorem f_123_39 : xfind (xnth xTs 123) 39 = some (39, .iconst 0, 1, (0, 0, 0, 0), (.int 0), [], 0, 0, []) := rfl
theorem f_123_40 : xfind (xnth xTs 123) 40 = some (40, .ireturn, 1, (0, 0, 0, 0), .null, [], 0, 0, []) := rfl
theorem b_C_draw_0 (sh : xSh) (M : Nat → Nat → Int32) (J : Nat → Nat → Int64) (l0 : Nat) (l1 : Int32) : ev (123, 0, [.ref l0, .int l1], [], (sh, M, J)) = (bif decide ((sh.2.2.1 l0).1 = 8) then bif decide ((sh.2.2.1 l0).1 = 8) then bif decide (l1 ≤ 0) then some (some (.int 0), (sh, (xu M l0 10 ((((((M l0 10) : Int32).toInt64 * 1103515245) + 12345) &&& 2147483647) : Int64).toInt32), J)) else bif decide ((sh.2.2.1 l0).1 = 8) then bif !decide (l1 = 0) then some (some (.int (xrem (((xu M l0 10 ((((((M l0 10) : Int32).toInt64 * 1103515245) + 12345) &&& 2147483647) : Int64).toInt32) l0 10) / 65536) l1)), (sh, (xu M l0 10 ((((((M l0 10) : Int32).toInt64 * 1103515245) + 12345) &&& 2147483647) : Int64).toInt32), J)) else none else none else none else none) := by
  refine ev_nx (s1 := (123, 1, [.ref l0, .int l1], [.ref l0], (sh, M, J))) f_123_0 rfl ?_
  refine ev_nx (s1 := (123, 2, [.ref l0, .int l1], [.ref l0, .ref l0], (sh, M, J))) f_123_1 rfl ?_
  refine ev_gd (s1 := (123, 5, [.ref l0, .int l1], [.int (M l0 10), .ref l0], (sh, M, J))) f_123_2 rfl ?_
  refine ev_nx (s1 := (123, 6, [.ref l0, .int l1], [.long ((M l0 10) : Int32).toInt64, .ref l0], (sh, M, J))) f_123_5 rfl ?_
  refine ev_nx (s1 := (123, 9, [.ref l0, .int l1], [.long 1103515245, .long ((M l0 10) : Int32).toInt64, .ref l0], (sh, M, J))) f_123_6 rfl ?_
  refine ev_nx (s1 := (123, 10, [.ref l0, .int l1], [.long (((M l0 10) : Int32).toInt64 * 1103515245), .ref l0], (sh, M, J))) f_123_9 rfl ?_
  refine ev_nx (s1 := (123, 13, [.ref l0, .int l1], [.long 12345, .long (((M l0 10) : Int32).toInt64 * 1103515245), .ref l0], (sh, M, J))) f_123_10 rfl ?_
  refine ev_nx (s1 := (123, 14, [.ref l0, .int l1], [.long ((((M l0 10) : Int32).toInt64 * 1103515245) + 12345), .ref l0], (sh, M, J))) f_123_13 rfl ?_
  refine ev_nx (s1 := (123, 17, [.ref l0, .int l1], [.long 2147483647, .long ((((M l0 10) : Int32).toInt64 * 1103515245) + 12345), .ref l0], (sh, M, J))) f_123_14 rfl ?_
  refine ev_nx (s1 := (123, 18, [.ref l0, .int l1], [.long (((((M l0 10) : Int32).toInt64 * 1103515245) + 12345) &&& 2147483647), .ref l0], (sh, M, J))) f_123_17 rfl ?_
  refine ev_nx (s1 := (123, 19, [.ref l0, .int l1], [.int ((((((M l0 10) : Int32).toInt64 * 1103515245) + 12345) &&& 2147483647) : Int64).toInt32, .ref l0], (sh, M, J))) f_123_18 rfl ?_
  refine ev_gd (s1 := (123, 22, [.ref l0, .int l1], [], (sh, (xu M l0 10 ((((((M l0 10) : Int32).toInt64 * 1103515245) + 12345) &&& 2147483647) : Int64).toInt32), J))) f_123_19 rfl ?_
  refine ev_nx (s1 := (123, 23, [.ref l0, .int l1], [.int l1], (sh, (xu M l0 10 ((((((M l0 10) : Int32).toInt64 * 1103515245) + 12345) &&& 2147483647) : Int64).toInt32), J))) f_123_22 rfl ?_
  refine ev_br (s1 := (123, 39, [.ref l0, .int l1], [], (sh, (xu M l0 10 ((((((M l0 10) : Int32).toInt64 * 1103515245) + 12345) &&& 2147483647) : Int64).toInt32), J))) (s2 := (123, 26, [.ref l0, .int l1], [], (sh, (xu M l0 10 ((((((M l0 10) : Int32).toInt64 * 1103515245) + 12345) &&& 2147483647) : Int64).toInt32), J))) f_123_23 rfl ?_ ?_
  · refine ev_nx (s1 := (123, 40, [.ref l0, .int l1], [.int 0], (sh, (xu M l0 10 ((((((M l0 10) : Int32).toInt64 * 1103515245) + 12345) &&& 2147483647) : Int64).toInt32), J))) f_123_39 rfl ?_
    exact ev_r1 f_123_40 rfl
  · refine ev_nx (s1 := (123, 27, [.ref l0, .int l1], [.ref l0], (sh, (xu M l0 10 ((((((M l0 10) : Int32).toInt64 * 1103515245) + 12345) &&& 2147483647) : Int64).toInt32), J))) f_123_26 rfl ?_
    refine ev_gd (s1 := (123, 30, [.ref l0, .int l1], [.int ((xu M l0 10 ((((((M l0 10) : Int32).toInt64 * 1103515245) + 12345) &&& 2147483647) : Int64).toInt32) l0 10)], (sh, (xu M l0 10 ((((((M l0 10) : Int32).toInt64 * 1103515245) + 12345) &&& 2147483647) : Int64).toInt32), J))) f_123_27 rfl ?_
    refine ev_nx (s1 := (123, 33, [.ref l0, .int l1], [.int 65536, .int ((xu M l0 10 ((((((M l0 10) : Int32).toInt64 * 1103515245) + 12345) &&& 2147483647) : Int64).toInt32) l0 10)], (sh, (xu M l0 10 ((((((M l0 10) : Int32).toInt64 * 1103515245) + 12345) &&& 2147483647) : Int64).toInt32), J))) f_123_30 rfl ?_
    refine ev_nx (s1 := (123, 34, [.ref l0, .int l1], [.int (((xu M l0 10 ((((((M l0 10) : Int32).toInt64 * 1103515245) + 12345) &&& 2147483647) : Int64).toInt32) l0 10) / 65536)], (sh, (xu M l0 10 ((((((M l0 10) : Int32).toInt64 * 1103515245) + 12345) &&& 2147483647) : Int64).toInt32), J))) f_123_33 rfl ?_
    refine ev_nx (s1 := (123, 35, [.ref l0, .int l1], [.int l1, .int (((xu M l0 10 ((((((M l0 10) : Int32).toInt64 * 1103515245) + 12345) &&& 2147483647) : Int64).toInt32) l0 10) / 65536)], (sh, (xu M l0 10 ((((((M l0 10) : Int32).toInt64 * 1103515245) + 12345) &&& 2147483647) : Int64).toInt32), J))) f_123_34 rfl ?_
    refine ev_gd (s1 := (123, 36, [.ref l0, .int l1], [.int (xrem (((xu M l0 10 ((((((M l0 10) : Int32).toInt64 * 1103515245) + 12345) &&& 2147483647) : Int64).toInt32) l0 10) / 65536) l1)], (sh, (xu M l0 10 ((((((M l0 10) : Int32).toInt64 * 1103515245) + 12345) &&& 2147483647) : Int64).toInt32), J))) f_123_35 rfl ?_
    refine ev_nx (s1 := (123, 40, [.ref l0, .int l1], [.int (xrem (((xu M l0 10 ((((((M l0 10) : Int32).toInt64 * 1103515245) + 12345) &&& 2147483647) : Int64).toInt32) l0 10) / 65536) l1)], (sh, (xu M l0 10 ((((((M l0 10) : Int32).toInt64 * 1103515245) + 12345) &&& 2147483647) : Int64).toInt32), J))) f_123_36 rfl ?_
    exact ev_r1 f_123_40 rfl
theorem f_124_0 : xfind (xnth xTs 124) 0 = some (0, .iconst 0, 1, (0, 0, 0, 0), (.int 0), [], 0, 0, []) := rfl
theorem f_124_1 : xfind (xnth xTs 124) 1 = some (1, .istore_n 3, 1, (0, 0, 0, 0), .null, [], 0, 0, []) := rfl
theorem f_124_2 : xfind (xnth xTs 124) 2 = some (2, .iconst 0, 1, (0, 0, 0, 0), (.int 0), [], 0, 0, []) := rfl
theorem f_124_3 : xfind (xnth xTs 124) 3 = some (3, .istore 4, 2, (0, 0, 0, 0), .null, [], 0, 0, []) := rfl
theorem f_124_5 : xfind (xnth xTs 124) 5 = some (5, .iload 4, 2, (0, 0, 0, 0), .null, [], 0, 1, []) := rfl
theorem f_124_7 : xfind (xnth xTs 124) 7 = some (7, .aload_n 0, 1, (0, 0, 0, 0), .null, [], 0, 0, []) := rfl
theorem f_124_8 : xfind (xnth xTs 124) 8 = some (8, .getfield 10, 3, (8, 0, 1, 0), .null, [], 291, 0, []) := rfl
theorem f_124_11 : xfind (xnth xTs 124) 11 = some (11, .invokevirtual 250, 3, (13, 0, 1, 1), .null, [], 614, 0, []) := rfl
theorem f_124_14 : xfind (xnth xTs 124) 14 = some (14, .if_icmp .ge 38, 3, (0, 0, 0, 0), .null, [], 0, 0, []) := rfl
theorem f_124_17 : xfind (xnth xTs 124) 17 = some (17, .iload_n 2, 1, (0, 0, 0, 0), .null, [], 0, 0, []) := rfl
theorem f_124_18 : xfind (xnth xTs 124) 18 = some (18, .iload 4, 2, (0, 0, 0, 0), .null, [], 0, 0, []) := rfl
theorem f_124_20 : xfind (xnth xTs 124) 20 = some (20, .invokestatic 153, 3, (127, 2, 8, 2), .null, [], 558, 0, []) := rfl
theorem f_124_23 : xfind (xnth xTs 124) 23 = some (23, .ifCond .eq 23, 3, (0, 0, 0, 0), .null, [], 0, 0, []) := rfl
theorem f_124_26 : xfind (xnth xTs 124) 26 = some (26, .aload_n 0, 1, (0, 0, 0, 0), .null, [], 0, 0, []) := rfl
theorem f_124_27 : xfind (xnth xTs 124) 27 = some (27, .getfield 19, 3, (8, 1, 1, 0), .null, [], 292, 0, []) := rfl
theorem f_124_30 : xfind (xnth xTs 124) 30 = some (30, .aload_n 0, 1, (0, 0, 0, 0), .null, [], 0, 0, []) := rfl
theorem f_124_31 : xfind (xnth xTs 124) 31 = some (31, .getfield 10, 3, (8, 0, 1, 0), .null, [], 291, 0, []) := rfl
theorem f_124_34 : xfind (xnth xTs 124) 34 = some (34, .iload_n 1, 1, (0, 0, 0, 0), .null, [], 0, 0, []) := rfl
theorem f_124_35 : xfind (xnth xTs 124) 35 = some (35, .iload 4, 2, (0, 0, 0, 0), .null, [], 0, 0, []) := rfl
theorem f_124_37 : xfind (xnth xTs 124) 37 = some (37, .invokevirtual 323, 3, (77, 3, 6, 5), .null, [], 830, 0, []) := rfl
theorem f_124_40 : xfind (xnth xTs 124) 40 = some (40, .ifCond .eq 6, 3, (0, 0, 0, 0), .null, [], 0, 0, []) := rfl
theorem f_124_43 : xfind (xnth xTs 124) 43 = some (43, .iinc 3 1, 3, (0, 0, 0, 0), .null, [], 0, 0, []) := rfl
theorem f_124_46 : xfind (xnth xTs 124) 46 = some (46, .iinc 4 1, 3, (0, 0, 0, 0), .null, [], 0, 0, []) := rfl
theorem f_124_49 : xfind (xnth xTs 124) 49 = some (49, .goto (-44), 3, (0, 0, 0, 0), .null, [], 0, 0, []) := rfl
theorem f_124_52 : xfind (xnth xTs 124) 52 = some (52, .iload_n 3, 1, (0, 0, 0, 0), .null, [], 0, 0, []) := rfl
theorem f_124_53 : xfind (xnth xTs 124) 53 = some (53, .iload_n 2, 1, (0, 0, 0, 0), .null, [], 0, 0, []) := rfl
theorem f_124_54 : xfind (xnth xTs 124) 54 = some (54, .invokestatic 208, 3, (202, 1, 99, 1), .null, [], 646, 0, []) := rfl
theorem f_124_57 : xfind (xnth xTs 124) 57 = some (57, .iload_n 3, 1, (0, 0, 0, 0), .null, [], 0, 0, []) := rfl
theorem f_124_58 : xfind (xnth xTs 124) 58 = some (58, .isub, 1, (0, 0, 0, 0), .null, [], 0, 0, []) := rfl
theorem f_124_59 : xfind (xnth xTs 124) 59 = some (59, .invokestatic 327, 3, (997, 0, 0, 0), .null, [], 831, 0, []) := rfl
theorem f_124_62 : xfind (xnth xTs 124) 62 = some (62, .ireturn, 1, (0, 0, 0, 0), .null, [], 0, 0, []) := rfl
theorem hd_124_5 : xhead 124 5 = some [] := rfl
theorem b_C_greatestPart_0 (sh : xSh) (M : Nat → Nat → Int32) (J : Nat → Nat → Int64) (l0 : Nat) (l1 : Int32) (l2 : Int32) : ev (124, 0, [.ref l0, .int l1, .int l2, .null, .null], [], (sh, M, J)) = (ev (124, 5, [.ref l0, .int l1, .int l2, .int 0, .int 0], [], (sh, M, J))) := by
  refine ev_nx (s1 := (124, 1, [.ref l0, .int l1, .int l2, .null, .null], [.int 0], (sh, M, J))) f_124_0 rfl ?_
  refine ev_nx (s1 := (124, 2, [.ref l0, .int l1, .int l2, .int 0, .null], [], (sh, M, J))) f_124_1 rfl ?_
  refine ev_nx (s1 := (124, 3, [.ref l0, .int l1, .int l2, .int 0, .null], [.int 0], (sh, M, J))) f_124_2 rfl ?_
  refine ev_nx (s1 := (124, 5, [.ref l0, .int l1, .int l2, .int 0, .int 0], [], (sh, M, J))) f_124_3 rfl ?_
  exact rfl
theorem b_C_greatestPart_5 (sh : xSh) (M : Nat → Nat → Int32) (J : Nat → Nat → Int64) (l0 : Nat) (l1 : Int32) (l2 : Int32) (l3 : Int32) (l4 : Int32) : ev (124, 5, [.ref l0, .int l1, .int l2, .int l3, .int l4], [], (sh, M, J)) = (bif decide ((sh.2.2.1 l0).1 = 8) then bif (decide ((sh.2.2.1 (sh.2.2.2 l0 0)).1 = 1) && true) then (ev (13, 0, [.ref (sh.2.2.2 l0 0)], [], (sh, M, J))).bind (fun r => ev (124, 14, [.ref l0, .int l1, .int l2, .int l3, .int l4], r.1.toList ++ [.int l4], r.2)) else none else none) := by
  refine ev_nx (s1 := (124, 7, [.ref l0, .int l1, .int l2, .int l3, .int l4], [.int l4], (sh, M, J))) f_124_5 rfl ?_
  refine ev_nx (s1 := (124, 8, [.ref l0, .int l1, .int l2, .int l3, .int l4], [.ref l0, .int l4], (sh, M, J))) f_124_7 rfl ?_
  refine ev_gd (s1 := (124, 11, [.ref l0, .int l1, .int l2, .int l3, .int l4], [.ref (sh.2.2.2 l0 0), .int l4], (sh, M, J))) f_124_8 rfl ?_
  exact ev_ca (cc := (decide ((sh.2.2.1 (sh.2.2.2 l0 0)).1 = 1) && true)) (s1 := (13, 0, [.ref (sh.2.2.2 l0 0)], [], (sh, M, J))) (k := (124, 14, [.ref l0, .int l1, .int l2, .int l3, .int l4], [.int l4])) f_124_11 rfl
theorem b_C_greatestPart_14 (sh : xSh) (M : Nat → Nat → Int32) (J : Nat → Nat → Int64) (l0 : Nat) (l1 : Int32) (l2 : Int32) (l3 : Int32) (l4 : Int32) (k0 : Int32) (k1 : Int32) : ev (124, 14, [.ref l0, .int l1, .int l2, .int l3, .int l4], [.int k0, .int k1], (sh, M, J)) = (bif decide (k0 ≤ k1) then (ev (202, 0, [.int l2], [], (sh, M, J))).bind (fun r => ev (124, 57, [.ref l0, .int l1, .int l2, .int l3, .int l4], r.1.toList ++ [.int l3], r.2)) else (ev (127, 0, [.int l2, .int l4], [], (sh, M, J))).bind (fun r => ev (124, 23, [.ref l0, .int l1, .int l2, .int l3, .int l4], r.1.toList ++ [], r.2))) := by
  refine ev_br (s1 := (124, 52, [.ref l0, .int l1, .int l2, .int l3, .int l4], [], (sh, M, J))) (s2 := (124, 17, [.ref l0, .int l1, .int l2, .int l3, .int l4], [], (sh, M, J))) f_124_14 rfl ?_ ?_
  · refine ev_nx (s1 := (124, 53, [.ref l0, .int l1, .int l2, .int l3, .int l4], [.int l3], (sh, M, J))) f_124_52 rfl ?_
    refine ev_nx (s1 := (124, 54, [.ref l0, .int l1, .int l2, .int l3, .int l4], [.int l2, .int l3], (sh, M, J))) f_124_53 rfl ?_
    exact ev_c1 (s1 := (202, 0, [.int l2], [], (sh, M, J))) (k := (124, 57, [.ref l0, .int l1, .int l2, .int l3, .int l4], [.int l3])) f_124_54 rfl
  · refine ev_nx (s1 := (124, 18, [.ref l0, .int l1, .int l2, .int l3, .int l4], [.int l2], (sh, M, J))) f_124_17 rfl ?_
    refine ev_nx (s1 := (124, 20, [.ref l0, .int l1, .int l2, .int l3, .int l4], [.int l4, .int l2], (sh, M, J))) f_124_18 rfl ?_
    exact ev_c1 (s1 := (127, 0, [.int l2, .int l4], [], (sh, M, J))) (k := (124, 23, [.ref l0, .int l1, .int l2, .int l3, .int l4], [])) f_124_20 rfl
theorem b_C_greatestPart_23 (sh : xSh) (M : Nat → Nat → Int32) (J : Nat → Nat → Int64) (l0 : Nat) (l1 : Int32) (l2 : Int32) (l3 : Int32) (l4 : Int32) (k0 : Int32) : ev (124, 23, [.ref l0, .int l1, .int l2, .int l3, .int l4], [.int k0], (sh, M, J)) = (bif decide (k0 = 0) then ev (124, 5, [.ref l0, .int l1, .int l2, .int l3, .int (l4 + 1)], [], (sh, M, J)) else bif decide ((sh.2.2.1 l0).1 = 8) then bif decide ((sh.2.2.1 l0).1 = 8) then bif (decide ((sh.2.2.1 (sh.2.2.2 l0 1)).1 = 6) && true) then (ev (77, 0, [.ref (sh.2.2.2 l0 1), .ref (sh.2.2.2 l0 0), .int l1, .int l4, .null], [], (sh, M, J))).bind (fun r => ev (124, 40, [.ref l0, .int l1, .int l2, .int l3, .int l4], r.1.toList ++ [], r.2)) else none else none else none) := by
  refine ev_br (s1 := (124, 46, [.ref l0, .int l1, .int l2, .int l3, .int l4], [], (sh, M, J))) (s2 := (124, 26, [.ref l0, .int l1, .int l2, .int l3, .int l4], [], (sh, M, J))) f_124_23 rfl ?_ ?_
  · refine ev_nx (s1 := (124, 49, [.ref l0, .int l1, .int l2, .int l3, .int (l4 + 1)], [], (sh, M, J))) f_124_46 rfl ?_
    refine ev_nx (s1 := (124, 5, [.ref l0, .int l1, .int l2, .int l3, .int (l4 + 1)], [], (sh, M, J))) f_124_49 rfl ?_
    exact rfl
  · refine ev_nx (s1 := (124, 27, [.ref l0, .int l1, .int l2, .int l3, .int l4], [.ref l0], (sh, M, J))) f_124_26 rfl ?_
    refine ev_gd (s1 := (124, 30, [.ref l0, .int l1, .int l2, .int l3, .int l4], [.ref (sh.2.2.2 l0 1)], (sh, M, J))) f_124_27 rfl ?_
    refine ev_nx (s1 := (124, 31, [.ref l0, .int l1, .int l2, .int l3, .int l4], [.ref l0, .ref (sh.2.2.2 l0 1)], (sh, M, J))) f_124_30 rfl ?_
    refine ev_gd (s1 := (124, 34, [.ref l0, .int l1, .int l2, .int l3, .int l4], [.ref (sh.2.2.2 l0 0), .ref (sh.2.2.2 l0 1)], (sh, M, J))) f_124_31 rfl ?_
    refine ev_nx (s1 := (124, 35, [.ref l0, .int l1, .int l2, .int l3, .int l4], [.int l1, .ref (sh.2.2.2 l0 0), .ref (sh.2.2.2 l0 1)], (sh, M, J))) f_124_34 rfl ?_
    refine ev_nx (s1 := (124, 37, [.ref l0, .int l1, .int l2, .int l3, .int l4], [.int l4, .int l1, .ref (sh.2.2.2 l0 0), .ref (sh.2.2.2 l0 1)], (sh, M, J))) f_124_35 rfl ?_
    exact ev_ca (cc := (decide ((sh.2.2.1 (sh.2.2.2 l0 1)).1 = 6) && true)) (s1 := (77, 0, [.ref (sh.2.2.2 l0 1), .ref (sh.2.2.2 l0 0), .int l1, .int l4, .null], [], (sh, M, J))) (k := (124, 40, [.ref l0, .int l1, .int l2, .int l3, .int l4], [])) f_124_37 rfl
theorem b_C_greatestPart_40 (sh : xSh) (M : Nat → Nat → Int32) (J : Nat → Nat → Int64) (l0 : Nat) (l1 : Int32) (l2 : Int32) (l3 : Int32) (l4 : Int32) (k0 : Int32) : ev (124, 40, [.ref l0, .int l1, .int l2, .int l3, .int l4], [.int k0], (sh, M, J)) = (bif decide (k0 = 0) then ev (124, 5, [.ref l0, .int l1, .int l2, .int l3, .int (l4 + 1)], [], (sh, M, J)) else ev (124, 5, [.ref l0, .int l1, .int l2, .int (l3 + 1), .int (l4 + 1)], [], (sh, M, J))) := by
  refine ev_br (s1 := (124, 46, [.ref l0, .int l1, .int l2, .int l3, .int l4], [], (sh, M, J))) (s2 := (124, 43, [.ref l0, .int l1, .int l2, .int l3, .int l4], [], (sh, M, J))) f_124_40 rfl ?_ ?_
  · refine ev_nx (s1 := (124, 49, [.ref l0, .int l1, .int l2, .int l3, .int (l4 + 1)], [], (sh, M, J))) f_124_46 rfl ?_
    refine ev_nx (s1 := (124, 5, [.ref l0, .int l1, .int l2, .int l3, .int (l4 + 1)], [], (sh, M, J))) f_124_49 rfl ?_
    exact rfl
  · refine ev_nx (s1 := (124, 46, [.ref l0, .int l1, .int l2, .int (l3 + 1), .int l4], [], (sh, M, J))) f_124_43 rfl ?_
    refine ev_nx (s1 := (124, 49, [.ref l0, .int l1, .int l2, .int (l3 + 1), .int (l4 + 1)], [], (sh, M, J))) f_124_46 rfl ?_
    refine ev_nx (s1 := (124, 5, [.ref l0, .int l1, .int l2, .int (l3 + 1), .int (l4 + 1)], [], (sh, M, J))) f_124_49 rfl ?_
    exact rfl
theorem b_C_greatestPart_57 (sh : xSh) (M : Nat → Nat → Int32) (J : Nat → Nat → Int64) (l0 : Nat) (l1 : Int32) (l2 : Int32) (l3 : Int32) (l4 : Int32) (k0 : Int32) (k1 : Int32) : ev (124, 57, [.ref l0, .int l1, .int l2, .int l3, .int l4], [.int k0, .int k1], (sh, M, J)) = (some (some (.int (xmax k1 (k0 - l3))), (sh, M, J))) := by
  refine ev_nx (s1 := (124, 58, [.ref l0, .int l1, .int l2, .int l3, .int l4], [.int l3, .int k0, .int k1], (sh, M, J))) f_124_57 rfl ?_
  refine ev_nx (s1 := (124, 59, [.ref l0, .int l1, .int l2, .int l3, .int l4], [.int (k0 - l3), .int k1], (sh, M, J))) f_124_58 rfl ?_
  refine ev_nx (s1 := (124, 62, [.ref l0, .int l1, .int l2, .int l3, .int l4], [.int (xmax k1 (k0 - l3))], (sh, M, J))) f_124_59 rfl ?_
  exact ev_r1 f_124_62 rfl
theorem f_125_0 : xfind (xnth xTs 125) 0 = some (0, .iload_n 0, 1, (0, 0, 0, 0), .null, [], 0, 0, []) := rfl
theorem f_125_1 : xfind (xnth xTs 125) 1 = some (1, .iload_n 1, 1, (0, 0, 0, 0), .null, [], 0, 0, []) := rfl
theorem f_125_2 : xfind (xnth xTs 125) 2 = some (2, .if_icmp .lt 12, 3, (0, 0, 0, 0), .null, [], 0, 0, []) := rfl
theorem f_125_5 : xfind (xnth xTs 125) 5 = some (5, .iload_n 0, 1, (0, 0, 0, 0), .null, [], 0, 0, []) := rfl
theorem f_125_6 : xfind (xnth xTs 125) 6 = some (6, .iload_n 2, 1, (0, 0, 0, 0), .null, [], 0, 0, []) := rfl
theorem f_125_7 : xfind (xnth xTs 125) 7 = some (7, .if_icmp .gt 7, 3, (0, 0, 0, 0), .null, [], 0, 0, []) := rfl
theorem f_125_10 : xfind (xnth xTs 125) 10 = some (10, .iconst 1, 1, (0, 0, 0, 0), (.int 1), [], 0, 0, []) := rfl
theorem f_125_11 : xfind (xnth xTs 125) 11 = some (11, .goto 4, 3, (0, 0, 0, 0), .null, [], 0, 0, []) := rfl
theorem f_125_14 : xfind (xnth xTs 125) 14 = some (14, .iconst 0, 1, (0, 0, 0, 0), (.int 0), [], 0, 0, []) := rfl
theorem f_125_15 : xfind (xnth xTs 125) 15 = some (15, .ireturn, 1, (1, 0, 0, 0), .null, [], 0, 0, []) := rfl
theorem b_C_isWithin_0 (sh : xSh) (M : Nat → Nat → Int32) (J : Nat → Nat → Int64) (l0 : Int32) (l1 : Int32) (l2 : Int32) : ev (125, 0, [.int l0, .int l1, .int l2], [], (sh, M, J)) = (bif decide (l0 < l1) then some (some (.int 0), (sh, M, J)) else bif decide (l2 < l0) then some (some (.int 0), (sh, M, J)) else some (some (.int 1), (sh, M, J))) := by
  refine ev_nx (s1 := (125, 1, [.int l0, .int l1, .int l2], [.int l0], (sh, M, J))) f_125_0 rfl ?_
  refine ev_nx (s1 := (125, 2, [.int l0, .int l1, .int l2], [.int l1, .int l0], (sh, M, J))) f_125_1 rfl ?_
  refine ev_br (s1 := (125, 14, [.int l0, .int l1, .int l2], [], (sh, M, J))) (s2 := (125, 5, [.int l0, .int l1, .int l2], [], (sh, M, J))) f_125_2 rfl ?_ ?_
  · refine ev_nx (s1 := (125, 15, [.int l0, .int l1, .int l2], [.int 0], (sh, M, J))) f_125_14 rfl ?_
    exact ev_r1 f_125_15 rfl
  · refine ev_nx (s1 := (125, 6, [.int l0, .int l1, .int l2], [.int l0], (sh, M, J))) f_125_5 rfl ?_
    refine ev_nx (s1 := (125, 7, [.int l0, .int l1, .int l2], [.int l2, .int l0], (sh, M, J))) f_125_6 rfl ?_
    refine ev_br (s1 := (125, 14, [.int l0, .int l1, .int l2], [], (sh, M, J))) (s2 := (125, 10, [.int l0, .int l1, .int l2], [], (sh, M, J))) f_125_7 rfl ?_ ?_
    · refine ev_nx (s1 := (125, 15, [.int l0, .int l1, .int l2], [.int 0], (sh, M, J))) f_125_14 rfl ?_
      exact ev_r1 f_125_15 rfl
    · refine ev_nx (s1 := (125, 11, [.int l0, .int l1, .int l2], [.int 1], (sh, M, J))) f_125_10 rfl ?_
      refine ev_nx (s1 := (125, 15, [.int l0, .int l1, .int l2], [.int 1], (sh, M, J))) f_125_11 rfl ?_
      exact ev_r1 f_125_15 rfl
theorem f_126_0 : xfind (xnth xTs 126) 0 = some (0, .iload_n 0, 1, (0, 0, 0, 0), .null, [], 0, 0, []) := rfl
theorem f_126_1 : xfind (xnth xTs 126) 1 = some (1, .ifCond .lt 12, 3, (0, 0, 0, 0), .null, [], 0, 0, []) := rfl
theorem f_126_4 : xfind (xnth xTs 126) 4 = some (4, .iload_n 0, 1, (0, 0, 0, 0), .null, [], 0, 0, []) := rfl
theorem f_126_5 : xfind (xnth xTs 126) 5 = some (5, .iconst 5, 1, (0, 0, 0, 0), (.int 5), [], 0, 0, []) := rfl
theorem f_126_6 : xfind (xnth xTs 126) 6 = some (6, .if_icmp .ge 7, 3, (0, 0, 0, 0), .null, [], 0, 0, []) := rfl
theorem f_126_9 : xfind (xnth xTs 126) 9 = some (9, .iconst 1, 1, (0, 0, 0, 0), (.int 1), [], 0, 0, []) := rfl
theorem f_126_10 : xfind (xnth xTs 126) 10 = some (10, .goto 4, 3, (0, 0, 0, 0), .null, [], 0, 0, []) := rfl
theorem f_126_13 : xfind (xnth xTs 126) 13 = some (13, .iconst 0, 1, (0, 0, 0, 0), (.int 0), [], 0, 0, []) := rfl
theorem f_126_14 : xfind (xnth xTs 126) 14 = some (14, .ireturn, 1, (1, 0, 0, 0), .null, [], 0, 0, []) := rfl
theorem b_C_isCloth_0 (sh : xSh) (M : Nat → Nat → Int32) (J : Nat → Nat → Int64) (l0 : Int32) : ev (126, 0, [.int l0], [], (sh, M, J)) = (bif decide (l0 < 0) then some (some (.int 0), (sh, M, J)) else bif decide (5 ≤ l0) then some (some (.int 0), (sh, M, J)) else some (some (.int 1), (sh, M, J))) := by
  refine ev_nx (s1 := (126, 1, [.int l0], [.int l0], (sh, M, J))) f_126_0 rfl ?_
  refine ev_br (s1 := (126, 13, [.int l0], [], (sh, M, J))) (s2 := (126, 4, [.int l0], [], (sh, M, J))) f_126_1 rfl ?_ ?_
  · refine ev_nx (s1 := (126, 14, [.int l0], [.int 0], (sh, M, J))) f_126_13 rfl ?_
    exact ev_r1 f_126_14 rfl
  · refine ev_nx (s1 := (126, 5, [.int l0], [.int l0], (sh, M, J))) f_126_4 rfl ?_
    refine ev_nx (s1 := (126, 6, [.int l0], [.int 5, .int l0], (sh, M, J))) f_126_5 rfl ?_
    refine ev_br (s1 := (126, 13, [.int l0], [], (sh, M, J))) (s2 := (126, 9, [.int l0], [], (sh, M, J))) f_126_6 rfl ?_ ?_
    · refine ev_nx (s1 := (126, 14, [.int l0], [.int 0], (sh, M, J))) f_126_13 rfl ?_
      exact ev_r1 f_126_14 rfl
    · refine ev_nx (s1 := (126, 10, [.int l0], [.int 1], (sh, M, J))) f_126_9 rfl ?_
      refine ev_nx (s1 := (126, 14, [.int l0], [.int 1], (sh, M, J))) f_126_10 rfl ?_
      exact ev_r1 f_126_14 rfl
theorem f_127_0 : xfind (xnth xTs 127) 0 = some (0, .iload_n 1, 1, (0, 0, 0, 0), .null, [], 0, 0, []) := rfl
theorem f_127_1 : xfind (xnth xTs 127) 1 = some (1, .ifCond .lt 22, 3, (0, 0, 0, 0), .null, [], 0, 0, []) := rfl
theorem f_127_4 : xfind (xnth xTs 127) 4 = some (4, .iload_n 1, 1, (0, 0, 0, 0), .null, [], 0, 0, []) := rfl
theorem f_127_5 : xfind (xnth xTs 127) 5 = some (5, .bipush 31, 2, (0, 0, 0, 0), (.int 31), [], 0, 0, []) := rfl
theorem f_127_7 : xfind (xnth xTs 127) 7 = some (7, .if_icmp .ge 16, 3, (0, 0, 0, 0), .null, [], 0, 0, []) := rfl
theorem f_127_10 : xfind (xnth xTs 127) 10 = some (10, .iload_n 0, 1, (0, 0, 0, 0), .null, [], 0, 0, []) := rfl
theorem f_127_11 : xfind (xnth xTs 127) 11 = some (11, .iload_n 1, 1, (0, 0, 0, 0), .null, [], 0, 0, []) := rfl
theorem f_127_12 : xfind (xnth xTs 127) 12 = some (12, .ishr, 1, (0, 0, 0, 0), .null, [], 0, 0, []) := rfl
theorem f_127_13 : xfind (xnth xTs 127) 13 = some (13, .iconst 1, 1, (0, 0, 0, 0), (.int 1), [], 0, 0, []) := rfl
theorem f_127_14 : xfind (xnth xTs 127) 14 = some (14, .iand, 1, (0, 0, 0, 0), .null, [], 0, 0, []) := rfl
theorem f_127_15 : xfind (xnth xTs 127) 15 = some (15, .iconst 1, 1, (0, 0, 0, 0), (.int 1), [], 0, 0, []) := rfl
theorem f_127_16 : xfind (xnth xTs 127) 16 = some (16, .if_icmp .ne 7, 3, (0, 0, 0, 0), .null, [], 0, 0, []) := rfl
theorem f_127_19 : xfind (xnth xTs 127) 19 = some (19, .iconst 1, 1, (0, 0, 0, 0), (.int 1), [], 0, 0, []) := rfl
theorem f_127_20 : xfind (xnth xTs 127) 20 = some (20, .goto 4, 3, (0, 0, 0, 0), .null, [], 0, 0, []) := rfl
theorem f_127_23 : xfind (xnth xTs 127) 23 = some (23, .iconst 0, 1, (0, 0, 0, 0), (.int 0), [], 0, 0, []) := rfl
theorem f_127_24 : xfind (xnth xTs 127) 24 = some (24, .ireturn, 1, (1, 0, 0, 0), .null, [], 0, 0, []) := rfl
theorem b_C_hasBit_0 (sh : xSh) (M : Nat → Nat → Int32) (J : Nat → Nat → Int64) (l0 : Int32) (l1 : Int32) : ev (127, 0, [.int l0, .int l1], [], (sh, M, J)) = (bif decide (l1 < 0) then some (some (.int 0), (sh, M, J)) else bif decide (31 ≤ l1) then some (some (.int 0), (sh, M, J)) else bif !decide ((((l0 : Int32) >>> (l1 &&& 31)) &&& 1) = 1) then some (some (.int 0), (sh, M, J)) else some (some (.int 1), (sh, M, J))) := by
  refine ev_nx (s1 := (127, 1, [.int l0, .int l1], [.int l1], (sh, M, J))) f_127_0 rfl ?_
  refine ev_br (s1 := (127, 23, [.int l0, .int l1], [], (sh, M, J))) (s2 := (127, 4, [.int l0, .int l1], [], (sh, M, J))) f_127_1 rfl ?_ ?_
  · refine ev_nx (s1 := (127, 24, [.int l0, .int l1], [.int 0], (sh, M, J))) f_127_23 rfl ?_
    exact ev_r1 f_127_24 rfl
  · refine ev_nx (s1 := (127, 5, [.int l0, .int l1], [.int l1], (sh, M, J))) f_127_4 rfl ?_
    refine ev_nx (s1 := (127, 7, [.int l0, .int l1], [.int 31, .int l1], (sh, M, J))) f_127_5 rfl ?_
    refine ev_br (s1 := (127, 23, [.int l0, .int l1], [], (sh, M, J))) (s2 := (127, 10, [.int l0, .int l1], [], (sh, M, J))) f_127_7 rfl ?_ ?_
    · refine ev_nx (s1 := (127, 24, [.int l0, .int l1], [.int 0], (sh, M, J))) f_127_23 rfl ?_
      exact ev_r1 f_127_24 rfl
    · refine ev_nx (s1 := (127, 11, [.int l0, .int l1], [.int l0], (sh, M, J))) f_127_10 rfl ?_
      refine ev_nx (s1 := (127, 12, [.int l0, .int l1], [.int l1, .int l0], (sh, M, J))) f_127_11 rfl ?_
      refine ev_nx (s1 := (127, 13, [.int l0, .int l1], [.int ((l0 : Int32) >>> (l1 &&& 31))], (sh, M, J))) f_127_12 rfl ?_
      refine ev_nx (s1 := (127, 14, [.int l0, .int l1], [.int 1, .int ((l0 : Int32) >>> (l1 &&& 31))], (sh, M, J))) f_127_13 rfl ?_
      refine ev_nx (s1 := (127, 15, [.int l0, .int l1], [.int (((l0 : Int32) >>> (l1 &&& 31)) &&& 1)], (sh, M, J))) f_127_14 rfl ?_
      refine ev_nx (s1 := (127, 16, [.int l0, .int l1], [.int 1, .int (((l0 : Int32) >>> (l1 &&& 31)) &&& 1)], (sh, M, J))) f_127_15 rfl ?_
      refine ev_br (s1 := (127, 23, [.int l0, .int l1], [], (sh, M, J))) (s2 := (127, 19, [.int l0, .int l1], [], (sh, M, J))) f_127_16 rfl ?_ ?_
      · refine ev_nx (s1 := (127, 24, [.int l0, .int l1], [.int 0], (sh, M, J))) f_127_23 rfl ?_
        exact ev_r1 f_127_24 rfl
      · refine ev_nx (s1 := (127, 20, [.int l0, .int l1], [.int 1], (sh, M, J))) f_127_19 rfl ?_
        refine ev_nx (s1 := (127, 24, [.int l0, .int l1], [.int 1], (sh, M, J))) f_127_20 rfl ?_
        exact ev_r1 f_127_24 rfl
theorem f_128_0 : xfind (xnth xTs 128) 0 = some (0, .iload_n 0, 1, (0, 0, 0, 0), .null, [], 0, 0, []) := rfl
theorem f_128_1 : xfind (xnth xTs 128) 1 = some (1, .bipush 50, 2, (0, 0, 0, 0), (.int 50), [], 0, 0, []) := rfl
theorem f_128_3 : xfind (xnth xTs 128) 3 = some (3, .idiv, 1, (0, 0, 0, 0), .null, [], 0, 0, []) := rfl
theorem f_128_4 : xfind (xnth xTs 128) 4 = some (4, .ireturn, 1, (0, 0, 0, 0), .null, [], 0, 0, []) := rfl
theorem b_C_lateBy_0 (sh : xSh) (M : Nat → Nat → Int32) (J : Nat → Nat → Int64) (l0 : Int32) : ev (128, 0, [.int l0], [], (sh, M, J)) = (some (some (.int (l0 / 50)), (sh, M, J))) := by
  refine ev_nx (s1 := (128, 1, [.int l0], [.int l0], (sh, M, J))) f_128_0 rfl ?_
  refine ev_nx (s1 := (128, 3, [.int l0], [.int 50, .int l0], (sh, M, J))) f_128_1 rfl ?_
  refine ev_nx (s1 := (128, 4, [.int l0], [.int (l0 / 50)], (sh, M, J))) f_128_3 rfl ?_
  exact ev_r1 f_128_4 rfl
theorem f_129_0 : xfind (xnth xTs 129) 0 = some (0, .iload_n 1, 1, (0, 0, 0, 0), .null, [], 0, 0, []) := rfl
theorem f_129_1 : xfind (xnth xTs 129) 1 = some (1, .ifCond .lt 15, 3, (0, 0, 0, 0), .null, [], 0, 0, []) := rfl
theorem f_129_4 : xfind (xnth xTs 129) 4 = some (4, .iload_n 1, 1, (0, 0, 0, 0), .null, [], 0, 0, []) := rfl
theorem f_129_5 : xfind (xnth xTs 129) 5 = some (5, .aload_n 0, 1, (0, 0, 0, 0), .null, [], 0, 0, []) := rfl
theorem f_129_6 : xfind (xnth xTs 129) 6 = some (6, .arraylength, 1, (0, 0, 0, 0), .null, [], 0, 0, []) := rfl
theorem f_129_7 : xfind (xnth xTs 129) 7 = some (7, .if_icmp .ge 9, 3, (0, 0, 0, 0), .null, [], 0, 0, []) := rfl
theorem f_129_10 : xfind (xnth xTs 129) 10 = some (10, .aload_n 0, 1, (0, 0, 0, 0), .null, [], 0, 0, []) := rfl
theorem f_129_11 : xfind (xnth xTs 129) 11 = some (11, .iload_n 1, 1, (0, 0, 0, 0), .null, [], 0, 0, []) := rfl
theorem f_129_12 : xfind (xnth xTs 129) 12 = some (12, .iaload, 1, (0, 0, 0, 0), .null, [], 0, 0, []) := rfl
theorem f_129_13 : xfind (xnth xTs 129) 13 = some (13, .goto 4, 3, (0, 0, 0, 0), .null, [], 0, 0, []) := rfl
theorem f_129_16 : xfind (xnth xTs 129) 16 = some (16, .iconst 0, 1, (0, 0, 0, 0), (.int 0), [], 0, 0, []) := rfl
theorem f_129_17 : xfind (xnth xTs 129) 17 = some (17, .ireturn, 1, (0, 0, 0, 0), .null, [], 0, 0, []) := rfl
theorem b_C_at_0 (sh : xSh) (M : Nat → Nat → Int32) (J : Nat → Nat → Int64) (l0 : Nat) (l1 : Int32) : ev (129, 0, [.ref l0, .int l1], [], (sh, M, J)) = (bif decide (l1 < 0) then some (some (.int 0), (sh, M, J)) else bif decide ((sh.2.2.1 l0).1 = 11) then bif decide ((Int32.ofNat (sh.2.2.1 l0).2) ≤ l1) then some (some (.int 0), (sh, M, J)) else bif (decide ((sh.2.2.1 l0).1 = 11) && xin l1 (sh.2.2.1 l0).2) then some (some (.int (M l0 (l1 : Int32).toNatClampNeg)), (sh, M, J)) else none else none) := by
  refine ev_nx (s1 := (129, 1, [.ref l0, .int l1], [.int l1], (sh, M, J))) f_129_0 rfl ?_
  refine ev_br (s1 := (129, 16, [.ref l0, .int l1], [], (sh, M, J))) (s2 := (129, 4, [.ref l0, .int l1], [], (sh, M, J))) f_129_1 rfl ?_ ?_
  · refine ev_nx (s1 := (129, 17, [.ref l0, .int l1], [.int 0], (sh, M, J))) f_129_16 rfl ?_
    exact ev_r1 f_129_17 rfl
  · refine ev_nx (s1 := (129, 5, [.ref l0, .int l1], [.int l1], (sh, M, J))) f_129_4 rfl ?_
    refine ev_nx (s1 := (129, 6, [.ref l0, .int l1], [.ref l0, .int l1], (sh, M, J))) f_129_5 rfl ?_
    refine ev_gd (s1 := (129, 7, [.ref l0, .int l1], [.int (Int32.ofNat (sh.2.2.1 l0).2), .int l1], (sh, M, J))) f_129_6 rfl ?_
    refine ev_br (s1 := (129, 16, [.ref l0, .int l1], [], (sh, M, J))) (s2 := (129, 10, [.ref l0, .int l1], [], (sh, M, J))) f_129_7 rfl ?_ ?_
    · refine ev_nx (s1 := (129, 17, [.ref l0, .int l1], [.int 0], (sh, M, J))) f_129_16 rfl ?_
      exact ev_r1 f_129_17 rfl
    · refine ev_nx (s1 := (129, 11, [.ref l0, .int l1], [.ref l0], (sh, M, J))) f_129_10 rfl ?_
      refine ev_nx (s1 := (129, 12, [.ref l0, .int l1], [.int l1, .ref l0], (sh, M, J))) f_129_11 rfl ?_
      refine ev_gd (s1 := (129, 13, [.ref l0, .int l1], [.int (M l0 (l1 : Int32).toNatClampNeg)], (sh, M, J))) f_129_12 rfl ?_
      refine ev_nx (s1 := (129, 17, [.ref l0, .int l1], [.int (M l0 (l1 : Int32).toNatClampNeg)], (sh, M, J))) f_129_13 rfl ?_
      exact ev_r1 f_129_17 rfl
theorem f_130_0 : xfind (xnth xTs 130) 0 = some (0, .iload_n 1, 1, (0, 0, 0, 0), .null, [], 0, 0, []) := rfl
theorem f_130_1 : xfind (xnth xTs 130) 1 = some (1, .ifCond .lt 13, 3, (0, 0, 0, 0), .null, [], 0, 0, []) := rfl
theorem f_130_4 : xfind (xnth xTs 130) 4 = some (4, .iload_n 1, 1, (0, 0, 0, 0), .null, [], 0, 0, []) := rfl
theorem f_130_5 : xfind (xnth xTs 130) 5 = some (5, .aload_n 0, 1, (0, 0, 0, 0), .null, [], 0, 0, []) := rfl
theorem f_130_6 : xfind (xnth xTs 130) 6 = some (6, .arraylength, 1, (0, 0, 0, 0), .null, [], 0, 0, []) := rfl
theorem f_130_7 : xfind (xnth xTs 130) 7 = some (7, .if_icmp .ge 7, 3, (0, 0, 0, 0), .null, [], 0, 0, []) := rfl
theorem f_130_10 : xfind (xnth xTs 130) 10 = some (10, .aload_n 0, 1, (0, 0, 0, 0), .null, [], 0, 0, []) := rfl
theorem f_130_11 : xfind (xnth xTs 130) 11 = some (11, .iload_n 1, 1, (0, 0, 0, 0), .null, [], 0, 0, []) := rfl
theorem f_130_12 : xfind (xnth xTs 130) 12 = some (12, .iload_n 2, 1, (0, 0, 0, 0), .null, [], 0, 0, []) := rfl
theorem f_130_13 : xfind (xnth xTs 130) 13 = some (13, .iastore, 1, (0, 0, 0, 0), .null, [], 0, 0, []) := rfl
theorem f_130_14 : xfind (xnth xTs 130) 14 = some (14, .return_, 1, (0, 0, 0, 0), .null, [], 0, 0, []) := rfl
theorem b_C_put_0 (sh : xSh) (M : Nat → Nat → Int32) (J : Nat → Nat → Int64) (l0 : Nat) (l1 : Int32) (l2 : Int32) : ev (130, 0, [.ref l0, .int l1, .int l2], [], (sh, M, J)) = (bif decide (l1 < 0) then some (none, (sh, M, J)) else bif decide ((sh.2.2.1 l0).1 = 11) then bif decide ((Int32.ofNat (sh.2.2.1 l0).2) ≤ l1) then some (none, (sh, M, J)) else bif (decide ((sh.2.2.1 l0).1 = 11) && xin l1 (sh.2.2.1 l0).2) then some (none, (sh, (xu M l0 (l1 : Int32).toNatClampNeg l2), J)) else none else none) := by
  refine ev_nx (s1 := (130, 1, [.ref l0, .int l1, .int l2], [.int l1], (sh, M, J))) f_130_0 rfl ?_
  refine ev_br (s1 := (130, 14, [.ref l0, .int l1, .int l2], [], (sh, M, J))) (s2 := (130, 4, [.ref l0, .int l1, .int l2], [], (sh, M, J))) f_130_1 rfl ?_ ?_
  · exact ev_r1 f_130_14 rfl
  · refine ev_nx (s1 := (130, 5, [.ref l0, .int l1, .int l2], [.int l1], (sh, M, J))) f_130_4 rfl ?_
    refine ev_nx (s1 := (130, 6, [.ref l0, .int l1, .int l2], [.ref l0, .int l1], (sh, M, J))) f_130_5 rfl ?_
    refine ev_gd (s1 := (130, 7, [.ref l0, .int l1, .int l2], [.int (Int32.ofNat (sh.2.2.1 l0).2), .int l1], (sh, M, J))) f_130_6 rfl ?_
    refine ev_br (s1 := (130, 14, [.ref l0, .int l1, .int l2], [], (sh, M, J))) (s2 := (130, 10, [.ref l0, .int l1, .int l2], [], (sh, M, J))) f_130_7 rfl ?_ ?_
    · exact ev_r1 f_130_14 rfl
    · refine ev_nx (s1 := (130, 11, [.ref l0, .int l1, .int l2], [.ref l0], (sh, M, J))) f_130_10 rfl ?_
      refine ev_nx (s1 := (130, 12, [.ref l0, .int l1, .int l2], [.int l1, .ref l0], (sh, M, J))) f_130_11 rfl ?_
      refine ev_nx (s1 := (130, 13, [.ref l0, .int l1, .int l2], [.int l2, .int l1, .ref l0], (sh, M, J))) f_130_12 rfl ?_
      refine ev_gd (s1 := (130, 14, [.ref l0, .int l1, .int l2], [], (sh, (xu M l0 (l1 : Int32).toNatClampNeg l2), J))) f_130_13 rfl ?_
      exact ev_r1 f_130_14 rfl
theorem f_201_0 : xfind (xnth xTs 201) 0 = some (0, .iload_n 0, 1, (0, 0, 0, 0), .null, [], 0, 0, []) := rfl
theorem f_201_1 : xfind (xnth xTs 201) 1 = some (1, .iload_n 1, 1, (0, 0, 0, 0), .null, [], 0, 0, []) := rfl
theorem f_201_2 : xfind (xnth xTs 201) 2 = some (2, .if_icmp .ge 7, 3, (0, 0, 0, 0), .null, [], 0, 0, []) := rfl
theorem f_201_5 : xfind (xnth xTs 201) 5 = some (5, .iconst (-1), 1, (0, 0, 0, 0), (.int (-1)), [], 0, 0, []) := rfl
theorem f_201_6 : xfind (xnth xTs 201) 6 = some (6, .goto 13, 3, (0, 0, 0, 0), .null, [], 0, 0, []) := rfl
theorem f_201_9 : xfind (xnth xTs 201) 9 = some (9, .iload_n 0, 1, (0, 0, 0, 0), .null, [], 0, 0, []) := rfl
theorem f_201_10 : xfind (xnth xTs 201) 10 = some (10, .iload_n 1, 1, (0, 0, 0, 0), .null, [], 0, 0, []) := rfl
theorem f_201_11 : xfind (xnth xTs 201) 11 = some (11, .if_icmp .ne 7, 3, (0, 0, 0, 0), .null, [], 0, 0, []) := rfl
theorem f_201_14 : xfind (xnth xTs 201) 14 = some (14, .iconst 0, 1, (0, 0, 0, 0), (.int 0), [], 0, 0, []) := rfl
theorem f_201_15 : xfind (xnth xTs 201) 15 = some (15, .goto 4, 3, (0, 0, 0, 0), .null, [], 0, 0, []) := rfl
theorem f_201_18 : xfind (xnth xTs 201) 18 = some (18, .iconst 1, 1, (0, 0, 0, 0), (.int 1), [], 0, 0, []) := rfl
theorem f_201_19 : xfind (xnth xTs 201) 19 = some (19, .ireturn, 1, (0, 0, 0, 0), .null, [], 0, 0, []) := rfl
theorem b_Integer_compare_0 (sh : xSh) (M : Nat → Nat → Int32) (J : Nat → Nat → Int64) (l0 : Int32) (l1 : Int32) : ev (201, 0, [.int l0, .int l1], [], (sh, M, J)) = (bif decide (l1 ≤ l0) then bif !decide (l0 = l1) then some (some (.int 1), (sh, M, J)) else some (some (.int 0), (sh, M, J)) else some (some (.int (-1)), (sh, M, J))) := by
  refine ev_nx (s1 := (201, 1, [.int l0, .int l1], [.int l0], (sh, M, J))) f_201_0 rfl ?_
  refine ev_nx (s1 := (201, 2, [.int l0, .int l1], [.int l1, .int l0], (sh, M, J))) f_201_1 rfl ?_
  refine ev_br (s1 := (201, 9, [.int l0, .int l1], [], (sh, M, J))) (s2 := (201, 5, [.int l0, .int l1], [], (sh, M, J))) f_201_2 rfl ?_ ?_
  · refine ev_nx (s1 := (201, 10, [.int l0, .int l1], [.int l0], (sh, M, J))) f_201_9 rfl ?_
    refine ev_nx (s1 := (201, 11, [.int l0, .int l1], [.int l1, .int l0], (sh, M, J))) f_201_10 rfl ?_
    refine ev_br (s1 := (201, 18, [.int l0, .int l1], [], (sh, M, J))) (s2 := (201, 14, [.int l0, .int l1], [], (sh, M, J))) f_201_11 rfl ?_ ?_
    · refine ev_nx (s1 := (201, 19, [.int l0, .int l1], [.int 1], (sh, M, J))) f_201_18 rfl ?_
      exact ev_r1 f_201_19 rfl
    · refine ev_nx (s1 := (201, 15, [.int l0, .int l1], [.int 0], (sh, M, J))) f_201_14 rfl ?_
      refine ev_nx (s1 := (201, 19, [.int l0, .int l1], [.int 0], (sh, M, J))) f_201_15 rfl ?_
      exact ev_r1 f_201_19 rfl
  · refine ev_nx (s1 := (201, 6, [.int l0, .int l1], [.int (-1)], (sh, M, J))) f_201_5 rfl ?_
    refine ev_nx (s1 := (201, 19, [.int l0, .int l1], [.int (-1)], (sh, M, J))) f_201_6 rfl ?_
    exact ev_r1 f_201_19 rfl
theorem f_202_0 : xfind (xnth xTs 202) 0 = some (0, .iload_n 0, 1, (0, 0, 0, 0), .null, [], 0, 0, []) := rfl
theorem f_202_1 : xfind (xnth xTs 202) 1 = some (1, .iload_n 0, 1, (0, 0, 0, 0), .null, [], 0, 0, []) := rfl
theorem f_202_2 : xfind (xnth xTs 202) 2 = some (2, .iconst 1, 1, (0, 0, 0, 0), (.int 1), [], 0, 0, []) := rfl
theorem f_202_3 : xfind (xnth xTs 202) 3 = some (3, .iushr, 1, (0, 0, 0, 0), .null, [], 0, 0, []) := rfl
theorem f_202_4 : xfind (xnth xTs 202) 4 = some (4, .ldc_w 265, 3, (0, 0, 0, 0), (.int 1431655765), [], 649, 0, []) := rfl
theorem f_202_7 : xfind (xnth xTs 202) 7 = some (7, .iand, 1, (0, 0, 0, 0), .null, [], 0, 0, []) := rfl
theorem f_202_8 : xfind (xnth xTs 202) 8 = some (8, .isub, 1, (0, 0, 0, 0), .null, [], 0, 0, []) := rfl
theorem f_202_9 : xfind (xnth xTs 202) 9 = some (9, .istore_n 0, 1, (0, 0, 0, 0), .null, [], 0, 0, []) := rfl
theorem f_202_10 : xfind (xnth xTs 202) 10 = some (10, .iload_n 0, 1, (0, 0, 0, 0), .null, [], 0, 0, []) := rfl
theorem f_202_11 : xfind (xnth xTs 202) 11 = some (11, .ldc_w 266, 3, (0, 0, 0, 0), (.int 858993459), [], 650, 0, []) := rfl
theorem f_202_14 : xfind (xnth xTs 202) 14 = some (14, .iand, 1, (0, 0, 0, 0), .null, [], 0, 0, []) := rfl
theorem f_202_15 : xfind (xnth xTs 202) 15 = some (15, .iload_n 0, 1, (0, 0, 0, 0), .null, [], 0, 0, []) := rfl
theorem f_202_16 : xfind (xnth xTs 202) 16 = some (16, .iconst 2, 1, (0, 0, 0, 0), (.int 2), [], 0, 0, []) := rfl
theorem f_202_17 : xfind (xnth xTs 202) 17 = some (17, .iushr, 1, (0, 0, 0, 0), .null, [], 0, 0, []) := rfl
theorem f_202_18 : xfind (xnth xTs 202) 18 = some (18, .ldc_w 266, 3, (0, 0, 0, 0), (.int 858993459), [], 650, 0, []) := rfl
theorem f_202_21 : xfind (xnth xTs 202) 21 = some (21, .iand, 1, (0, 0, 0, 0), .null, [], 0, 0, []) := rfl
theorem f_202_22 : xfind (xnth xTs 202) 22 = some (22, .iadd, 1, (0, 0, 0, 0), .null, [], 0, 0, []) := rfl
theorem f_202_23 : xfind (xnth xTs 202) 23 = some (23, .istore_n 0, 1, (0, 0, 0, 0), .null, [], 0, 0, []) := rfl
theorem f_202_24 : xfind (xnth xTs 202) 24 = some (24, .iload_n 0, 1, (0, 0, 0, 0), .null, [], 0, 0, []) := rfl
theorem f_202_25 : xfind (xnth xTs 202) 25 = some (25, .iload_n 0, 1, (0, 0, 0, 0), .null, [], 0, 0, []) := rfl
theorem f_202_26 : xfind (xnth xTs 202) 26 = some (26, .iconst 4, 1, (0, 0, 0, 0), (.int 4), [], 0, 0, []) := rfl
theorem f_202_27 : xfind (xnth xTs 202) 27 = some (27, .iushr, 1, (0, 0, 0, 0), .null, [], 0, 0, []) := rfl
theorem f_202_28 : xfind (xnth xTs 202) 28 = some (28, .iadd, 1, (0, 0, 0, 0), .null, [], 0, 0, []) := rfl
theorem f_202_29 : xfind (xnth xTs 202) 29 = some (29, .ldc_w 267, 3, (0, 0, 0, 0), (.int 252645135), [], 651, 0, []) := rfl
theorem f_202_32 : xfind (xnth xTs 202) 32 = some (32, .iand, 1, (0, 0, 0, 0), .null, [], 0, 0, []) := rfl
theorem f_202_33 : xfind (xnth xTs 202) 33 = some (33, .istore_n 0, 1, (0, 0, 0, 0), .null, [], 0, 0, []) := rfl
theorem f_202_34 : xfind (xnth xTs 202) 34 = some (34, .iload_n 0, 1, (0, 0, 0, 0), .null, [], 0, 0, []) := rfl
theorem f_202_35 : xfind (xnth xTs 202) 35 = some (35, .iload_n 0, 1, (0, 0, 0, 0), .null, [], 0, 0, []) := rfl
theorem f_202_36 : xfind (xnth xTs 202) 36 = some (36, .bipush 8, 2, (0, 0, 0, 0), (.int 8), [], 0, 0, []) := rfl
theorem f_202_38 : xfind (xnth xTs 202) 38 = some (38, .iushr, 1, (0, 0, 0, 0), .null, [], 0, 0, []) := rfl
theorem f_202_39 : xfind (xnth xTs 202) 39 = some (39, .iadd, 1, (0, 0, 0, 0), .null, [], 0, 0, []) := rfl
theorem f_202_40 : xfind (xnth xTs 202) 40 = some (40, .istore_n 0, 1, (0, 0, 0, 0), .null, [], 0, 0, []) := rfl
theorem f_202_41 : xfind (xnth xTs 202) 41 = some (41, .iload_n 0, 1, (0, 0, 0, 0), .null, [], 0, 0, []) := rfl
theorem f_202_42 : xfind (xnth xTs 202) 42 = some (42, .iload_n 0, 1, (0, 0, 0, 0), .null, [], 0, 0, []) := rfl
theorem f_202_43 : xfind (xnth xTs 202) 43 = some (43, .bipush 16, 2, (0, 0, 0, 0), (.int 16), [], 0, 0, []) := rfl
theorem f_202_45 : xfind (xnth xTs 202) 45 = some (45, .iushr, 1, (0, 0, 0, 0), .null, [], 0, 0, []) := rfl
theorem f_202_46 : xfind (xnth xTs 202) 46 = some (46, .iadd, 1, (0, 0, 0, 0), .null, [], 0, 0, []) := rfl
theorem f_202_47 : xfind (xnth xTs 202) 47 = some (47, .istore_n 0, 1, (0, 0, 0, 0), .null, [], 0, 0, []) := rfl
theorem f_202_48 : xfind (xnth xTs 202) 48 = some (48, .iload_n 0, 1, (0, 0, 0, 0), .null, [], 0, 0, []) := rfl
theorem f_202_49 : xfind (xnth xTs 202) 49 = some (49, .bipush 63, 2, (0, 0, 0, 0), (.int 63), [], 0, 0, []) := rfl
theorem f_202_51 : xfind (xnth xTs 202) 51 = some (51, .iand, 1, (0, 0, 0, 0), .null, [], 0, 0, []) := rfl
theorem f_202_52 : xfind (xnth xTs 202) 52 = some (52, .ireturn, 1, (0, 0, 0, 0), .null, [], 0, 0, []) := rfl
theorem b_Integer_bitCount_0 (sh : xSh) (M : Nat → Nat → Int32) (J : Nat → Nat → Int64) (l0 : Int32) : ev (202, 0, [.int l0], [], (sh, M, J)) = (some (some (.int ((((((((l0 - (((l0 : Int32).toUInt32 >>> ((1 : Int32).toUInt32 &&& Int32.toUInt32 31)).toInt32 &&& 1431655765)) &&& 858993459) + ((((l0 - (((l0 : Int32).toUInt32 >>> ((1 : Int32).toUInt32 &&& Int32.toUInt32 31)).toInt32 &&& 1431655765)) : Int32).toUInt32 >>> ((2 : Int32).toUInt32 &&& Int32.toUInt32 31)).toInt32 &&& 858993459)) + (((((l0 - (((l0 : Int32).toUInt32 >>> ((1 : Int32).toUInt32 &&& Int32.toUInt32 31)).toInt32 &&& 1431655765)) &&& 858993459) + ((((l0 - (((l0 : Int32).toUInt32 >>> ((1 : Int32).toUInt32 &&& Int32.toUInt32 31)).toInt32 &&& 1431655765)) : Int32).toUInt32 >>> ((2 : Int32).toUInt32 &&& Int32.toUInt32 31)).toInt32 &&& 858993459)) : Int32).toUInt32 >>> ((4 : Int32).toUInt32 &&& Int32.toUInt32 31)).toInt32) &&& 252645135) + (((((((l0 - (((l0 : Int32).toUInt32 >>> ((1 : Int32).toUInt32 &&& Int32.toUInt32 31)).toInt32 &&& 1431655765)) &&& 858993459) + ((((l0 - (((l0 : Int32).toUInt32 >>> ((1 : Int32).toUInt32 &&& Int32.toUInt32 31)).toInt32 &&& 1431655765)) : Int32).toUInt32 >>> ((2 : Int32).toUInt32 &&& Int32.toUInt32 31)).toInt32 &&& 858993459)) + (((((l0 - (((l0 : Int32).toUInt32 >>> ((1 : Int32).toUInt32 &&& Int32.toUInt32 31)).toInt32 &&& 1431655765)) &&& 858993459) + ((((l0 - (((l0 : Int32).toUInt32 >>> ((1 : Int32).toUInt32 &&& Int32.toUInt32 31)).toInt32 &&& 1431655765)) : Int32).toUInt32 >>> ((2 : Int32).toUInt32 &&& Int32.toUInt32 31)).toInt32 &&& 858993459)) : Int32).toUInt32 >>> ((4 : Int32).toUInt32 &&& Int32.toUInt32 31)).toInt32) &&& 252645135) : Int32).toUInt32 >>> ((8 : Int32).toUInt32 &&& Int32.toUInt32 31)).toInt32) + ((((((((l0 - (((l0 : Int32).toUInt32 >>> ((1 : Int32).toUInt32 &&& Int32.toUInt32 31)).toInt32 &&& 1431655765)) &&& 858993459) + ((((l0 - (((l0 : Int32).toUInt32 >>> ((1 : Int32).toUInt32 &&& Int32.toUInt32 31)).toInt32 &&& 1431655765)) : Int32).toUInt32 >>> ((2 : Int32).toUInt32 &&& Int32.toUInt32 31)).toInt32 &&& 858993459)) + (((((l0 - (((l0 : Int32).toUInt32 >>> ((1 : Int32).toUInt32 &&& Int32.toUInt32 31)).toInt32 &&& 1431655765)) &&& 858993459) + ((((l0 - (((l0 : Int32).toUInt32 >>> ((1 : Int32).toUInt32 &&& Int32.toUInt32 31)).toInt32 &&& 1431655765)) : Int32).toUInt32 >>> ((2 : Int32).toUInt32 &&& Int32.toUInt32 31)).toInt32 &&& 858993459)) : Int32).toUInt32 >>> ((4 : Int32).toUInt32 &&& Int32.toUInt32 31)).toInt32) &&& 252645135) + (((((((l0 - (((l0 : Int32).toUInt32 >>> ((1 : Int32).toUInt32 &&& Int32.toUInt32 31)).toInt32 &&& 1431655765)) &&& 858993459) + ((((l0 - (((l0 : Int32).toUInt32 >>> ((1 : Int32).toUInt32 &&& Int32.toUInt32 31)).toInt32 &&& 1431655765)) : Int32).toUInt32 >>> ((2 : Int32).toUInt32 &&& Int32.toUInt32 31)).toInt32 &&& 858993459)) + (((((l0 - (((l0 : Int32).toUInt32 >>> ((1 : Int32).toUInt32 &&& Int32.toUInt32 31)).toInt32 &&& 1431655765)) &&& 858993459) + ((((l0 - (((l0 : Int32).toUInt32 >>> ((1 : Int32).toUInt32 &&& Int32.toUInt32 31)).toInt32 &&& 1431655765)) : Int32).toUInt32 >>> ((2 : Int32).toUInt32 &&& Int32.toUInt32 31)).toInt32 &&& 858993459)) : Int32).toUInt32 >>> ((4 : Int32).toUInt32 &&& Int32.toUInt32 31)).toInt32) &&& 252645135) : Int32).toUInt32 >>> ((8 : Int32).toUInt32 &&& Int32.toUInt32 31)).toInt32) : Int32).toUInt32 >>> ((16 : Int32).toUInt32 &&& Int32.toUInt32 31)).toInt32) &&& 63)), (sh, M, J))) := by
  refine ev_nx (s1 := (202, 1, [.int l0], [.int l0], (sh, M, J))) f_202_0 rfl ?_
  refine ev_nx (s1 := (202, 2, [.int l0], [.int l0, .int l0], (sh, M, J))) f_202_1 rfl ?_
  refine ev_nx (s1 := (202, 3, [.int l0], [.int 1, .int l0, .int l0], (sh, M, J))) f_202_2 rfl ?_
  refine ev_nx (s1 := (202, 4, [.int l0], [.int ((l0 : Int32).toUInt32 >>> ((1 : Int32).toUInt32 &&& Int32.toUInt32 31)).toInt32, .int l0], (sh, M, J))) f_202_3 rfl ?_
  refine ev_nx (s1 := (202, 7, [.int l0], [.int 1431655765, .int ((l0 : Int32).toUInt32 >>> ((1 : Int32).toUInt32 &&& Int32.toUInt32 31)).toInt32, .int l0], (sh, M, J))) f_202_4 rfl ?_
  refine ev_nx (s1 := (202, 8, [.int l0], [.int (((l0 : Int32).toUInt32 >>> ((1 : Int32).toUInt32 &&& Int32.toUInt32 31)).toInt32 &&& 1431655765), .int l0], (sh, M, J))) f_202_7 rfl ?_
  refine ev_nx (s1 := (202, 9, [.int l0], [.int (l0 - (((l0 : Int32).toUInt32 >>> ((1 : Int32).toUInt32 &&& Int32.toUInt32 31)).toInt32 &&& 1431655765))], (sh, M, J))) f_202_8 rfl ?_
  refine ev_nx (s1 := (202, 10, [.int (l0 - (((l0 : Int32).toUInt32 >>> ((1 : Int32).toUInt32 &&& Int32.toUInt32 31)).toInt32 &&& 1431655765))], [], (sh, M, J))) f_202_9 rfl ?_
  refine ev_nx (s1 := (202, 11, [.int (l0 - (((l0 : Int32).toUInt32 >>> ((1 : Int32).toUInt32 &&& Int32.toUInt32 31)).toInt32 &&& 1431655765))], [.int (l0 - (((l0 : Int32).toUInt32 >>> ((1 : Int32).toUInt32 &&& Int32.toUInt32 31)).toInt32 &&& 1431655765))], (sh, M, J))) f_202_10 rfl ?_
  refine ev_nx (s1 := (202, 14, [.int (l0 - (((l0 : Int32).toUInt32 >>> ((1 : Int32).toUInt32 &&& Int32.toUInt32 31)).toInt32 &&& 1431655765))], [.int 858993459, .int (l0 - (((l0 : Int32).toUInt32 >>> ((1 : Int32).toUInt32 &&& Int32.toUInt32 31)).toInt32 &&& 1431655765))], (sh, M, J))) f_202_11 rfl ?_
  refine ev_nx (s1 := (202, 15, [.int (l0 - (((l0 : Int32).toUInt32 >>> ((1 : Int32).toUInt32 &&& Int32.toUInt32 31)).toInt32 &&& 1431655765))], [.int ((l0 - (((l0 : Int32).toUInt32 >>> ((1 : Int32).toUInt32 &&& Int32.toUInt32 31)).toInt32 &&& 1431655765)) &&& 858993459)], (sh, M, J))) f_202_14 rfl ?_
  refine ev_nx (s1 := (202, 16, [.int (l0 - (((l0 : Int32).toUInt32 >>> ((1 : Int32).toUInt32 &&& Int32.toUInt32 31)).toInt32 &&& 1431655765))], [.int (l0 - (((l0 : Int32).toUInt32 >>> ((1 : Int32).toUInt32 &&& Int32.toUInt32 31)).toInt32 &&& 1431655765)), .int ((l0 - (((l0 : Int32).toUInt32 >>> ((1 : Int32).toUInt32 &&& Int32.toUInt32 31)).toInt32 &&& 1431655765)) &&& 858993459)], (sh, M, J))) f_202_15 rfl ?_
  refine ev_nx (s1 := (202, 17, [.int (l0 - (((l0 : Int32).toUInt32 >>> ((1 : Int32).toUInt32 &&& Int32.toUInt32 31)).toInt32 &&& 1431655765))], [.int 2, .int (l0 - (((l0 : Int32).toUInt32 >>> ((1 : Int32).toUInt32 &&& Int32.toUInt32 31)).toInt32 &&& 1431655765)), .int ((l0 - (((l0 : Int32).toUInt32 >>> ((1 : Int32).toUInt32 &&& Int32.toUInt32 31)).toInt32 &&& 1431655765)) &&& 858993459)], (sh, M, J))) f_202_16 rfl ?_
  refine ev_nx (s1 := (202, 18, [.int (l0 - (((l0 : Int32).toUInt32 >>> ((1 : Int32).toUInt32 &&& Int32.toUInt32 31)).toInt32 &&& 1431655765))], [.int (((l0 - (((l0 : Int32).toUInt32 >>> ((1 : Int32).toUInt32 &&& Int32.toUInt32 31)).toInt32 &&& 1431655765)) : Int32).toUInt32 >>> ((2 : Int32).toUInt32 &&& Int32.toUInt32 31)).toInt32, .int ((l0 - (((l0 : Int32).toUInt32 >>> ((1 : Int32).toUInt32 &&& Int32.toUInt32 31)).toInt32 &&& 1431655765)) &&& 858993459)], (sh, M, J))) f_202_17 rfl ?_
  refine ev_nx (s1 := (202, 21, [.int (l0 - (((l0 : Int32).toUInt32 >>> ((1 : Int32).toUInt32 &&& Int32.toUInt32 31)).toInt32 &&& 1431655765))], [.int 858993459, .int (((l0 - (((l0 : Int32).toUInt32 >>> ((1 : Int32).toUInt32 &&& Int32.toUInt32 31)).toInt32 &&& 1431655765)) : Int32).toUInt32 >>> ((2 : Int32).toUInt32 &&& Int32.toUInt32 31)).toInt32, .int ((l0 - (((l0 : Int32).toUInt32 >>> ((1 : Int32).toUInt32 &&& Int32.toUInt32 31)).toInt32 &&& 1431655765)) &&& 858993459)], (sh, M, J))) f_202_18 rfl ?_
  refine ev_nx (s1 := (202, 22, [.int (l0 - (((l0 : Int32).toUInt32 >>> ((1 : Int32).toUInt32 &&& Int32.toUInt32 31)).toInt32 &&& 1431655765))], [.int ((((l0 - (((l0 : Int32).toUInt32 >>> ((1 : Int32).toUInt32 &&& Int32.toUInt32 31)).toInt32 &&& 1431655765)) : Int32).toUInt32 >>> ((2 : Int32).toUInt32 &&& Int32.toUInt32 31)).toInt32 &&& 858993459), .int ((l0 - (((l0 : Int32).toUInt32 >>> ((1 : Int32).toUInt32 &&& Int32.toUInt32 31)).toInt32 &&& 1431655765)) &&& 858993459)], (sh, M, J))) f_202_21 rfl ?_
  refine ev_nx (s1 := (202, 23, [.int (l0 - (((l0 : Int32).toUInt32 >>> ((1 : Int32).toUInt32 &&& Int32.toUInt32 31)).toInt32 &&& 1431655765))], [.int (((l0 - (((l0 : Int32).toUInt32 >>> ((1 : Int32).toUInt32 &&& Int32.toUInt32 31)).toInt32 &&& 1431655765)) &&& 858993459) + ((((l0 - (((l0 : Int32).toUInt32 >>> ((1 : Int32).toUInt32 &&& Int32.toUInt32 31)).toInt32 &&& 1431655765)) : Int32).toUInt32 >>> ((2 : Int32).toUInt32 &&& Int32.toUInt32 31)).toInt32 &&& 858993459))], (sh, M, J))) f_202_22 rfl ?_
  refine ev_nx (s1 := (202, 24, [.int (((l0 - (((l0 : Int32).toUInt32 >>> ((1 : Int32).toUInt32 &&& Int32.toUInt32 31)).toInt32 &&& 1431655765)) &&& 858993459) + ((((l0 - (((l0 : Int32).toUInt32 >>> ((1 : Int32).toUInt32 &&& Int32.toUInt32 31)).toInt32 &&& 1431655765)) : Int32).toUInt32 >>> ((2 : Int32).toUInt32 &&& Int32.toUInt32 31)).toInt32 &&& 858993459))], [], (sh, M, J))) f_202_23 rfl ?_
  refine ev_nx (s1 := (202, 25, [.int (((l0 - (((l0 : Int32).toUInt32 >>> ((1 : Int32).toUInt32 &&& Int32.toUInt32 31)).toInt32 &&& 1431655765)) &&& 858993459) + ((((l0 - (((l0 : Int32).toUInt32 >>> ((1 : Int32).toUInt32 &&& Int32.toUInt32 31)).toInt32 &&& 1431655765)) : Int32).toUInt32 >>> ((2 : Int32).toUInt32 &&& Int32.toUInt32 31)).toInt32 &&& 858993459))], [.int (((l0 - (((l0 : Int32).toUInt32 >>> ((1 : Int32).toUInt32 &&& Int32.toUInt32 31)).toInt32 &&& 1431655765)) &&& 858993459) + ((((l0 - (((l0 : Int32).toUInt32 >>> ((1 : Int32).toUInt32 &&& Int32.toUInt32 31)).toInt32 &&& 1431655765)) : Int32).toUInt32 >>> ((2 : Int32).toUInt32 &&& Int32.toUInt32 31)).toInt32 &&& 858993459))], (sh, M, J))) f_202_24 rfl ?_
  refine ev_nx (s1 := (202, 26, [.int (((l0 - (((l0 : Int32).toUInt32 >>> ((1 : Int32).toUInt32 &&& Int32.toUInt32 31)).toInt32 &&& 1431655765)) &&& 858993459) + ((((l0 - (((l0 : Int32).toUInt32 >>> ((1 : Int32).toUInt32 &&& Int32.toUInt32 31)).toInt32 &&& 1431655765)) : Int32).toUInt32 >>> ((2 : Int32).toUInt32 &&& Int32.toUInt32 31)).toInt32 &&& 858993459))], [.int (((l0 - (((l0 : Int32).toUInt32 >>> ((1 : Int32).toUInt32 &&& Int32.toUInt32 31)).toInt32 &&& 1431655765)) &&& 858993459) + ((((l0 - (((l0 : Int32).toUInt32 >>> ((1 : Int32).toUInt32 &&& Int32.toUInt32 31)).toInt32 &&& 1431655765)) : Int32).toUInt32 >>> ((2 : Int32).toUInt32 &&& Int32.toUInt32 31)).toInt32 &&& 858993459)), .int (((l0 - (((l0 : Int32).toUInt32 >>> ((1 : Int32).toUInt32 &&& Int32.toUInt32 31)).toInt32 &&& 1431655765)) &&& 858993459) + ((((l0 - (((l0 : Int32).toUInt32 >>> ((1 : Int32).toUInt32 &&& Int32.toUInt32 31)).toInt32 &&& 1431655765)) : Int32).toUInt32 >>> ((2 : Int32).toUInt32 &&& Int32.toUInt32 31)).toInt32 &&& 858993459))], (sh, M, J))) f_202_25 rfl ?_
  refine ev_nx (s1 := (202, 27, [.int (((l0 - (((l0 : Int32).toUInt32 >>> ((1 : Int32).toUInt32 &&& Int32.toUInt32 31)).toInt32 &&& 1431655765)) &&& 858993459) + ((((l0 - (((l0 : Int32).toUInt32 >>> ((1 : Int32).toUInt32 &&& Int32.toUInt32 31)).toInt32 &&& 1431655765)) : Int32).toUInt32 >>> ((2 : Int32).toUInt32 &&& Int32.toUInt32 31)).toInt32 &&& 858993459))], [.int 4, .int (((l0 - (((l0 : Int32).toUInt32 >>> ((1 : Int32).toUInt32 &&& Int32.toUInt32 31)).toInt32 &&& 1431655765)) &&& 858993459) + ((((l0 - (((l0 : Int32).toUInt32 >>> ((1 : Int32).toUInt32 &&& Int32.toUInt32 31)).toInt32 &&& 1431655765)) : Int32).toUInt32 >>> ((2 : Int32).toUInt32 &&& Int32.toUInt32 31)).toInt32 &&& 858993459)), .int (((l0 - (((l0 : Int32).toUInt32 >>> ((1 : Int32).toUInt32 &&& Int32.toUInt32 31)).toInt32 &&& 1431655765)) &&& 858993459) + ((((l0 - (((l0 : Int32).toUInt32 >>> ((1 : Int32).toUInt32 &&& Int32.toUInt32 31)).toInt32 &&& 1431655765)) : Int32).toUInt32 >>> ((2 : Int32).toUInt32 &&& Int32.toUInt32 31)).toInt32 &&& 858993459))], (sh, M, J))) f_202_26 rfl ?_
  refine ev_nx (s1 := (202, 28, [.int (((l0 - (((l0 : Int32).toUInt32 >>> ((1 : Int32).toUInt32 &&& Int32.toUInt32 31)).toInt32 &&& 1431655765)) &&& 858993459) + ((((l0 - (((l0 : Int32).toUInt32 >>> ((1 : Int32).toUInt32 &&& Int32.toUInt32 31)).toInt32 &&& 1431655765)) : Int32).toUInt32 >>> ((2 : Int32).toUInt32 &&& Int32.toUInt32 31)).toInt32 &&& 858993459))], [.int (((((l0 - (((l0 : Int32).toUInt32 >>> ((1 : Int32).toUInt32 &&& Int32.toUInt32 31)).toInt32 &&& 1431655765)) &&& 858993459) + ((((l0 - (((l0 : Int32).toUInt32 >>> ((1 : Int32).toUInt32 &&& Int32.toUInt32 31)).toInt32 &&& 1431655765)) : Int32).toUInt32 >>> ((2 : Int32).toUInt32 &&& Int32.toUInt32 31)).toInt32 &&& 858993459)) : Int32).toUInt32 >>> ((4 : Int32).toUInt32 &&& Int32.toUInt32 31)).toInt32, .int (((l0 - (((l0 : Int32).toUInt32 >>> ((1 : Int32).toUInt32 &&& Int32.toUInt32 31)).toInt32 &&& 1431655765)) &&& 858993459) + ((((l0 - (((l0 : Int32).toUInt32 >>> ((1 : Int32).toUInt32 &&& Int32.toUInt32 31)).toInt32 &&& 1431655765)) : Int32).toUInt32 >>> ((2 : Int32).toUInt32 &&& Int32.toUInt32 31)).toInt32 &&& 858993459))], (sh, M, J))) f_202_27 rfl ?_
  refine ev_nx (s1 := (202, 29, [.int (((l0 - (((l0 : Int32).toUInt32 >>> ((1 : Int32).toUInt32 &&& Int32.toUInt32 31)).toInt32 &&& 1431655765)) &&& 858993459) + ((((l0 - (((l0 : Int32).toUInt32 >>> ((1 : Int32).toUInt32 &&& Int32.toUInt32 31)).toInt32 &&& 1431655765)) : Int32).toUInt32 >>> ((2 : Int32).toUInt32 &&& Int32.toUInt32 31)).toInt32 &&& 858993459))], [.int ((((l0 - (((l0 : Int32).toUInt32 >>> ((1 : Int32).toUInt32 &&& Int32.toUInt32 31)).toInt32 &&& 1431655765)) &&& 858993459) + ((((l0 - (((l0 : Int32).toUInt32 >>> ((1 : Int32).toUInt32 &&& Int32.toUInt32 31)).toInt32 &&& 1431655765)) : Int32).toUInt32 >>> ((2 : Int32).toUInt32 &&& Int32.toUInt32 31)).toInt32 &&& 858993459)) + (((((l0 - (((l0 : Int32).toUInt32 >>> ((1 : Int32).toUInt32 &&& Int32.toUInt32 31)).toInt32 &&& 1431655765)) &&& 858993459) + ((((l0 - (((l0 : Int32).toUInt32 >>> ((1 : Int32).toUInt32 &&& Int32.toUInt32 31)).toInt32 &&& 1431655765)) : Int32).toUInt32 >>> ((2 : Int32).toUInt32 &&& Int32.toUInt32 31)).toInt32 &&& 858993459)) : Int32).toUInt32 >>> ((4 : Int32).toUInt32 &&& Int32.toUInt32 31)).toInt32)], (sh, M, J))) f_202_28 rfl ?_
  refine ev_nx (s1 := (202, 32, [.int (((l0 - (((l0 : Int32).toUInt32 >>> ((1 : Int32).toUInt32 &&& Int32.toUInt32 31)).toInt32 &&& 1431655765)) &&& 858993459) + ((((l0 - (((l0 : Int32).toUInt32 >>> ((1 : Int32).toUInt32 &&& Int32.toUInt32 31)).toInt32 &&& 1431655765)) : Int32).toUInt32 >>> ((2 : Int32).toUInt32 &&& Int32.toUInt32 31)).toInt32 &&& 858993459))], [.int 252645135, .int ((((l0 - (((l0 : Int32).toUInt32 >>> ((1 : Int32).toUInt32 &&& Int32.toUInt32 31)).toInt32 &&& 1431655765)) &&& 858993459) + ((((l0 - (((l0 : Int32).toUInt32 >>> ((1 : Int32).toUInt32 &&& Int32.toUInt32 31)).toInt32 &&& 1431655765)) : Int32).toUInt32 >>> ((2 : Int32).toUInt32 &&& Int32.toUInt32 31)).toInt32 &&& 858993459)) + (((((l0 - (((l0 : Int32).toUInt32 >>> ((1 : Int32).toUInt32 &&& Int32.toUInt32 31)).toInt32 &&& 1431655765)) &&& 858993459) + ((((l0 - (((l0 : Int32).toUInt32 >>> ((1 : Int32).toUInt32 &&& Int32.toUInt32 31)).toInt32 &&& 1431655765)) : Int32).toUInt32 >>> ((2 : Int32).toUInt32 &&& Int32.toUInt32 31)).toInt32 &&& 858993459)) : Int32).toUInt32 >>> ((4 : Int32).toUInt32 &&& Int32.toUInt32 31)).toInt32)], (sh, M, J))) f_202_29 rfl ?_
  refine ev_nx (s1 := (202, 33, [.int (((l0 - (((l0 : Int32).toUInt32 >>> ((1 : Int32).toUInt32 &&& Int32.toUInt32 31)).toInt32 &&& 1431655765)) &&& 858993459) + ((((l0 - (((l0 : Int32).toUInt32 >>> ((1 : Int32).toUInt32 &&& Int32.toUInt32 31)).toInt32 &&& 1431655765)) : Int32).toUInt32 >>> ((2 : Int32).toUInt32 &&& Int32.toUInt32 31)).toInt32 &&& 858993459))], [.int (((((l0 - (((l0 : Int32).toUInt32 >>> ((1 : Int32).toUInt32 &&& Int32.toUInt32 31)).toInt32 &&& 1431655765)) &&& 858993459) + ((((l0 - (((l0 : Int32).toUInt32 >>> ((1 : Int32).toUInt32 &&& Int32.toUInt32 31)).toInt32 &&& 1431655765)) : Int32).toUInt32 >>> ((2 : Int32).toUInt32 &&& Int32.toUInt32 31)).toInt32 &&& 858993459)) + (((((l0 - (((l0 : Int32).toUInt32 >>> ((1 : Int32).toUInt32 &&& Int32.toUInt32 31)).toInt32 &&& 1431655765)) &&& 858993459) + ((((l0 - (((l0 : Int32).toUInt32 >>> ((1 : Int32).toUInt32 &&& Int32.toUInt32 31)).toInt32 &&& 1431655765)) : Int32).toUInt32 >>> ((2 : Int32).toUInt32 &&& Int32.toUInt32 31)).toInt32 &&& 858993459)) : Int32).toUInt32 >>> ((4 : Int32).toUInt32 &&& Int32.toUInt32 31)).toInt32) &&& 252645135)], (sh, M, J))) f_202_32 rfl ?_
  refine ev_nx (s1 := (202, 34, [.int (((((l0 - (((l0 : Int32).toUInt32 >>> ((1 : Int32).toUInt32 &&& Int32.toUInt32 31)).toInt32 &&& 1431655765)) &&& 858993459) + ((((l0 - (((l0 : Int32).toUInt32 >>> ((1 : Int32).toUInt32 &&& Int32.toUInt32 31)).toInt32 &&& 1431655765)) : Int32).toUInt32 >>> ((2 : Int32).toUInt32 &&& Int32.toUInt32 31)).toInt32 &&& 858993459)) + (((((l0 - (((l0 : Int32).toUInt32 >>> ((1 : Int32).toUInt32 &&& Int32.toUInt32 31)).toInt32 &&& 1431655765)) &&& 858993459) + ((((l0 - (((l0 : Int32).toUInt32 >>> ((1 : Int32).toUInt32 &&& Int32.toUInt32 31)).toInt32 &&& 1431655765)) : Int32).toUInt32 >>> ((2 : Int32).toUInt32 &&& Int32.toUInt32 31)).toInt32 &&& 858993459)) : Int32).toUInt32 >>> ((4 : Int32).toUInt32 &&& Int32.toUInt32 31)).toInt32) &&& 252645135)], [], (sh, M, J))) f_202_33 rfl ?_
  refine ev_nx (s1 := (202, 35, [.int (((((l0 - (((l0 : Int32).toUInt32 >>> ((1 : Int32).toUInt32 &&& Int32.toUInt32 31)).toInt32 &&& 1431655765)) &&& 858993459) + ((((l0 - (((l0 : Int32).toUInt32 >>> ((1 : Int32).toUInt32 &&& Int32.toUInt32 31)).toInt32 &&& 1431655765)) : Int32).toUInt32 >>> ((2 : Int32).toUInt32 &&& Int32.toUInt32 31)).toInt32 &&& 858993459)) + (((((l0 - (((l0 : Int32).toUInt32 >>> ((1 : Int32).toUInt32 &&& Int32.toUInt32 31)).toInt32 &&& 1431655765)) &&& 858993459) + ((((l0 - (((l0 : Int32).toUInt32 >>> ((1 : Int32).toUInt32 &&& Int32.toUInt32 31)).toInt32 &&& 1431655765)) : Int32).toUInt32 >>> ((2 : Int32).toUInt32 &&& Int32.toUInt32 31)).toInt32 &&& 858993459)) : Int32).toUInt32 >>> ((4 : Int32).toUInt32 &&& Int32.toUInt32 31)).toInt32) &&& 252645135)], [.int (((((l0 - (((l0 : Int32).toUInt32 >>> ((1 : Int32).toUInt32 &&& Int32.toUInt32 31)).toInt32 &&& 1431655765)) &&& 858993459) + ((((l0 - (((l0 : Int32).toUInt32 >>> ((1 : Int32).toUInt32 &&& Int32.toUInt32 31)).toInt32 &&& 1431655765)) : Int32).toUInt32 >>> ((2 : Int32).toUInt32 &&& Int32.toUInt32 31)).toInt32 &&& 858993459)) + (((((l0 - (((l0 : Int32).toUInt32 >>> ((1 : Int32).toUInt32 &&& Int32.toUInt32 31)).toInt32 &&& 1431655765)) &&& 858993459) + ((((l0 - (((l0 : Int32).toUInt32 >>> ((1 : Int32).toUInt32 &&& Int32.toUInt32 31)).toInt32 &&& 1431655765)) : Int32).toUInt32 >>> ((2 : Int32).toUInt32 &&& Int32.toUInt32 31)).toInt32 &&& 858993459)) : Int32).toUInt32 >>> ((4 : Int32).toUInt32 &&& Int32.toUInt32 31)).toInt32) &&& 252645135)], (sh, M, J))) f_202_34 rfl ?_
  refine ev_nx (s1 := (202, 36, [.int (((((l0 - (((l0 : Int32).toUInt32 >>> ((1 : Int32).toUInt32 &&& Int32.toUInt32 31)).toInt32 &&& 1431655765)) &&& 858993459) + ((((l0 - (((l0 : Int32).toUInt32 >>> ((1 : Int32).toUInt32 &&& Int32.toUInt32 31)).toInt32 &&& 1431655765)) : Int32).toUInt32 >>> ((2 : Int32).toUInt32 &&& Int32.toUInt32 31)).toInt32 &&& 858993459)) + (((((l0 - (((l0 : Int32).toUInt32 >>> ((1 : Int32).toUInt32 &&& Int32.toUInt32 31)).toInt32 &&& 1431655765)) &&& 858993459) + ((((l0 - (((l0 : Int32).toUInt32 >>> ((1 : Int32).toUInt32 &&& Int32.toUInt32 31)).toInt32 &&& 1431655765)) : Int32).toUInt32 >>> ((2 : Int32).toUInt32 &&& Int32.toUInt32 31)).toInt32 &&& 858993459)) : Int32).toUInt32 >>> ((4 : Int32).toUInt32 &&& Int32.toUInt32 31)).toInt32) &&& 252645135)], [.int (((((l0 - (((l0 : Int32).toUInt32 >>> ((1 : Int32).toUInt32 &&& Int32.toUInt32 31)).toInt32 &&& 1431655765)) &&& 858993459) + ((((l0 - (((l0 : Int32).toUInt32 >>> ((1 : Int32).toUInt32 &&& Int32.toUInt32 31)).toInt32 &&& 1431655765)) : Int32).toUInt32 >>> ((2 : Int32).toUInt32 &&& Int32.toUInt32 31)).toInt32 &&& 858993459)) + (((((l0 - (((l0 : Int32).toUInt32 >>> ((1 : Int32).toUInt32 &&& Int32.toUInt32 31)).toInt32 &&& 1431655765)) &&& 858993459) + ((((l0 - (((l0 : Int32).toUInt32 >>> ((1 : Int32).toUInt32 &&& Int32.toUInt32 31)).toInt32 &&& 1431655765)) : Int32).toUInt32 >>> ((2 : Int32).toUInt32 &&& Int32.toUInt32 31)).toInt32 &&& 858993459)) : Int32).toUInt32 >>> ((4 : Int32).toUInt32 &&& Int32.toUInt32 31)).toInt32) &&& 252645135), .int (((((l0 - (((l0 : Int32).toUInt32 >>> ((1 : Int32).toUInt32 &&& Int32.toUInt32 31)).toInt32 &&& 1431655765)) &&& 858993459) + ((((l0 - (((l0 : Int32).toUInt32 >>> ((1 : Int32).toUInt32 &&& Int32.toUInt32 31)).toInt32 &&& 1431655765)) : Int32).toUInt32 >>> ((2 : Int32).toUInt32 &&& Int32.toUInt32 31)).toInt32 &&& 858993459)) + (((((l0 - (((l0 : Int32).toUInt32 >>> ((1 : Int32).toUInt32 &&& Int32.toUInt32 31)).toInt32 &&& 1431655765)) &&& 858993459) + ((((l0 - (((l0 : Int32).toUInt32 >>> ((1 : Int32).toUInt32 &&& Int32.toUInt32 31)).toInt32 &&& 1431655765)) : Int32).toUInt32 >>> ((2 : Int32).toUInt32 &&& Int32.toUInt32 31)).toInt32 &&& 858993459)) : Int32).toUInt32 >>> ((4 : Int32).toUInt32 &&& Int32.toUInt32 31)).toInt32) &&& 252645135)], (sh, M, J))) f_202_35 rfl ?_
  refine ev_nx (s1 := (202, 38, [.int (((((l0 - (((l0 : Int32).toUInt32 >>> ((1 : Int32).toUInt32 &&& Int32.toUInt32 31)).toInt32 &&& 1431655765)) &&& 858993459) + ((((l0 - (((l0 : Int32).toUInt32 >>> ((1 : Int32).toUInt32 &&& Int32.toUInt32 31)).toInt32 &&& 1431655765)) : Int32).toUInt32 >>> ((2 : Int32).toUInt32 &&& Int32.toUInt32 31)).toInt32 &&& 858993459)) + (((((l0 - (((l0 : Int32).toUInt32 >>> ((1 : Int32).toUInt32 &&& Int32.toUInt32 31)).toInt32 &&& 1431655765)) &&& 858993459) + ((((l0 - (((l0 : Int32).toUInt32 >>> ((1 : Int32).toUInt32 &&& Int32.toUInt32 31)).toInt32 &&& 1431655765)) : Int32).toUInt32 >>> ((2 : Int32).toUInt32 &&& Int32.toUInt32 31)).toInt32 &&& 858993459)) : Int32).toUInt32 >>> ((4 : Int32).toUInt32 &&& Int32.toUInt32 31)).toInt32) &&& 252645135)], [.int 8, .int (((((l0 - (((l0 : Int32).toUInt32 >>> ((1 : Int32).toUInt32 &&& Int32.toUInt32 31)).toInt32 &&& 1431655765)) &&& 858993459) + ((((l0 - (((l0 : Int32).toUInt32 >>> ((1 : Int32).toUInt32 &&& Int32.toUInt32 31)).toInt32 &&& 1431655765)) : Int32).toUInt32 >>> ((2 : Int32).toUInt32 &&& Int32.toUInt32 31)).toInt32 &&& 858993459)) + (((((l0 - (((l0 : Int32).toUInt32 >>> ((1 : Int32).toUInt32 &&& Int32.toUInt32 31)).toInt32 &&& 1431655765)) &&& 858993459) + ((((l0 - (((l0 : Int32).toUInt32 >>> ((1 : Int32).toUInt32 &&& Int32.toUInt32 31)).toInt32 &&& 1431655765)) : Int32).toUInt32 >>> ((2 : Int32).toUInt32 &&& Int32.toUInt32 31)).toInt32 &&& 858993459)) : Int32).toUInt32 >>> ((4 : Int32).toUInt32 &&& Int32.toUInt32 31)).toInt32) &&& 252645135), .int (((((l0 - (((l0 : Int32).toUInt32 >>> ((1 : Int32).toUInt32 &&& Int32.toUInt32 31)).toInt32 &&& 1431655765)) &&& 858993459) + ((((l0 - (((l0 : Int32).toUInt32 >>> ((1 : Int32).toUInt32 &&& Int32.toUInt32 31)).toInt32 &&& 1431655765)) : Int32).toUInt32 >>> ((2 : Int32).toUInt32 &&& Int32.toUInt32 31)).toInt32 &&& 858993459)) + (((((l0 - (((l0 : Int32).toUInt32 >>> ((1 : Int32).toUInt32 &&& Int32.toUInt32 31)).toInt32 &&& 1431655765)) &&& 858993459) + ((((l0 - (((l0 : Int32).toUInt32 >>> ((1 : Int32).toUInt32 &&& Int32.toUInt32 31)).toInt32 &&& 1431655765)) : Int32).toUInt32 >>> ((2 : Int32).toUInt32 &&& Int32.toUInt32 31)).toInt32 &&& 858993459)) : Int32).toUInt32 >>> ((4 : Int32).toUInt32 &&& Int32.toUInt32 31)).toInt32) &&& 252645135)], (sh, M, J))) f_202_36 rfl ?_
  refine ev_nx (s1 := (202, 39, [.int (((((l0 - (((l0 : Int32).toUInt32 >>> ((1 : Int32).toUInt32 &&& Int32.toUInt32 31)).toInt32 &&& 1431655765)) &&& 858993459) + ((((l0 - (((l0 : Int32).toUInt32 >>> ((1 : Int32).toUInt32 &&& Int32.toUInt32 31)).toInt32 &&& 1431655765)) : Int32).toUInt32 >>> ((2 : Int32).toUInt32 &&& Int32.toUInt32 31)).toInt32 &&& 858993459)) + (((((l0 - (((l0 : Int32).toUInt32 >>> ((1 : Int32).toUInt32 &&& Int32.toUInt32 31)).toInt32 &&& 1431655765)) &&& 858993459) + ((((l0 - (((l0 : Int32).toUInt32 >>> ((1 : Int32).toUInt32 &&& Int32.toUInt32 31)).toInt32 &&& 1431655765)) : Int32).toUInt32 >>> ((2 : Int32).toUInt32 &&& Int32.toUInt32 31)).toInt32 &&& 858993459)) : Int32).toUInt32 >>> ((4 : Int32).toUInt32 &&& Int32.toUInt32 31)).toInt32) &&& 252645135)], [.int (((((((l0 - (((l0 : Int32).toUInt32 >>> ((1 : Int32).toUInt32 &&& Int32.toUInt32 31)).toInt32 &&& 1431655765)) &&& 858993459) + ((((l0 - (((l0 : Int32).toUInt32 >>> ((1 : Int32).toUInt32 &&& Int32.toUInt32 31)).toInt32 &&& 1431655765)) : Int32).toUInt32 >>> ((2 : Int32).toUInt32 &&& Int32.toUInt32 31)).toInt32 &&& 858993459)) + (((((l0 - (((l0 : Int32).toUInt32 >>> ((1 : Int32).toUInt32 &&& Int32.toUInt32 31)).toInt32 &&& 1431655765)) &&& 858993459) + ((((l0 - (((l0 : Int32).toUInt32 >>> ((1 : Int32).toUInt32 &&& Int32.toUInt32 31)).toInt32 &&& 1431655765)) : Int32).toUInt32 >>> ((2 : Int32).toUInt32 &&& Int32.toUInt32 31)).toInt32 &&& 858993459)) : Int32).toUInt32 >>> ((4 : Int32).toUInt32 &&& Int32.toUInt32 31)).toInt32) &&& 252645135) : Int32).toUInt32 >>> ((8 : Int32).toUInt32 &&& Int32.toUInt32 31)).toInt32, .int (((((l0 - (((l0 : Int32).toUInt32 >>> ((1 : Int32).toUInt32 &&& Int32.toUInt32 31)).toInt32 &&& 1431655765)) &&& 858993459) + ((((l0 - (((l0 : Int32).toUInt32 >>> ((1 : Int32).toUInt32 &&& Int32.toUInt32 31)).toInt32 &&& 1431655765)) : Int32).toUInt32 >>> ((2 : Int32).toUInt32 &&& Int32.toUInt32 31)).toInt32 &&& 858993459)) + (((((l0 - (((l0 : Int32).toUInt32 >>> ((1 : Int32).toUInt32 &&& Int32.toUInt32 31)).toInt32 &&& 1431655765)) &&& 858993459) + ((((l0 - (((l0 : Int32).toUInt32 >>> ((1 : Int32).toUInt32 &&& Int32.toUInt32 31)).toInt32 &&& 1431655765)) : Int32).toUInt32 >>> ((2 : Int32).toUInt32 &&& Int32.toUInt32 31)).toInt32 &&& 858993459)) : Int32).toUInt32 >>> ((4 : Int32).toUInt32 &&& Int32.toUInt32 31)).toInt32) &&& 252645135)], (sh, M, J))) f_202_38 rfl ?_
  refine ev_nx (s1 := (202, 40, [.int (((((l0 - (((l0 : Int32).toUInt32 >>> ((1 : Int32).toUInt32 &&& Int32.toUInt32 31)).toInt32 &&& 1431655765)) &&& 858993459) + ((((l0 - (((l0 : Int32).toUInt32 >>> ((1 : Int32).toUInt32 &&& Int32.toUInt32 31)).toInt32 &&& 1431655765)) : Int32).toUInt32 >>> ((2 : Int32).toUInt32 &&& Int32.toUInt32 31)).toInt32 &&& 858993459)) + (((((l0 - (((l0 : Int32).toUInt32 >>> ((1 : Int32).toUInt32 &&& Int32.toUInt32 31)).toInt32 &&& 1431655765)) &&& 858993459) + ((((l0 - (((l0 : Int32).toUInt32 >>> ((1 : Int32).toUInt32 &&& Int32.toUInt32 31)).toInt32 &&& 1431655765)) : Int32).toUInt32 >>> ((2 : Int32).toUInt32 &&& Int32.toUInt32 31)).toInt32 &&& 858993459)) : Int32).toUInt32 >>> ((4 : Int32).toUInt32 &&& Int32.toUInt32 31)).toInt32) &&& 252645135)], [.int ((((((l0 - (((l0 : Int32).toUInt32 >>> ((1 : Int32).toUInt32 &&& Int32.toUInt32 31)).toInt32 &&& 1431655765)) &&& 858993459) + ((((l0 - (((l0 : Int32).toUInt32 >>> ((1 : Int32).toUInt32 &&& Int32.toUInt32 31)).toInt32 &&& 1431655765)) : Int32).toUInt32 >>> ((2 : Int32).toUInt32 &&& Int32.toUInt32 31)).toInt32 &&& 858993459)) + (((((l0 - (((l0 : Int32).toUInt32 >>> ((1 : Int32).toUInt32 &&& Int32.toUInt32 31)).toInt32 &&& 1431655765)) &&& 858993459) + ((((l0 - (((l0 : Int32).toUInt32 >>> ((1 : Int32).toUInt32 &&& Int32.toUInt32 31)).toInt32 &&& 1431655765)) : Int32).toUInt32 >>> ((2 : Int32).toUInt32 &&& Int32.toUInt32 31)).toInt32 &&& 858993459)) : Int32).toUInt32 >>> ((4 : Int32).toUInt32 &&& Int32.toUInt32 31)).toInt32) &&& 252645135) + (((((((l0 - (((l0 : Int32).toUInt32 >>> ((1 : Int32).toUInt32 &&& Int32.toUInt32 31)).toInt32 &&& 1431655765)) &&& 858993459) + ((((l0 - (((l0 : Int32).toUInt32 >>> ((1 : Int32).toUInt32 &&& Int32.toUInt32 31)).toInt32 &&& 1431655765)) : Int32).toUInt32 >>> ((2 : Int32).toUInt32 &&& Int32.toUInt32 31)).toInt32 &&& 858993459)) + (((((l0 - (((l0 : Int32).toUInt32 >>> ((1 : Int32).toUInt32 &&& Int32.toUInt32 31)).toInt32 &&& 1431655765)) &&& 858993459) + ((((l0 - (((l0 : Int32).toUInt32 >>> ((1 : Int32).toUInt32 &&& Int32.toUInt32 31)).toInt32 &&& 1431655765)) : Int32).toUInt32 >>> ((2 : Int32).toUInt32 &&& Int32.toUInt32 31)).toInt32 &&& 858993459)) : Int32).toUInt32 >>> ((4 : Int32).toUInt32 &&& Int32.toUInt32 31)).toInt32) &&& 252645135) : Int32).toUInt32 >>> ((8 : Int32).toUInt32 &&& Int32.toUInt32 31)).toInt32)], (sh, M, J))) f_202_39 rfl ?_
  refine ev_nx (s1 := (202, 41, [.int ((((((l0 - (((l0 : Int32).toUInt32 >>> ((1 : Int32).toUInt32 &&& Int32.toUInt32 31)).toInt32 &&& 1431655765)) &&& 858993459) + ((((l0 - (((l0 : Int32).toUInt32 >>> ((1 : Int32).toUInt32 &&& Int32.toUInt32 31)).toInt32 &&& 1431655765)) : Int32).toUInt32 >>> ((2 : Int32).toUInt32 &&& Int32.toUInt32 31)).toInt32 &&& 858993459)) + (((((l0 - (((l0 : Int32).toUInt32 >>> ((1 : Int32).toUInt32 &&& Int32.toUInt32 31)).toInt32 &&& 1431655765)) &&& 858993459) + ((((l0 - (((l0 : Int32).toUInt32 >>> ((1 : Int32).toUInt32 &&& Int32.toUInt32 31)).toInt32 &&& 1431655765)) : Int32).toUInt32 >>> ((2 : Int32).toUInt32 &&& Int32.toUInt32 31)).toInt32 &&& 858993459)) : Int32).toUInt32 >>> ((4 : Int32).toUInt32 &&& Int32.toUInt32 31)).toInt32) &&& 252645135) + (((((((l0 - (((l0 : Int32).toUInt32 >>> ((1 : Int32).toUInt32 &&& Int32.toUInt32 31)).toInt32 &&& 1431655765)) &&& 858993459) + ((((l0 - (((l0 : Int32).toUInt32 >>> ((1 : Int32).toUInt32 &&& Int32.toUInt32 31)).toInt32 &&& 1431655765)) : Int32).toUInt32 >>> ((2 : Int32).toUInt32 &&& Int32.toUInt32 31)).toInt32 &&& 858993459)) + (((((l0 - (((l0 : Int32).toUInt32 >>> ((1 : Int32).toUInt32 &&& Int32.toUInt32 31)).toInt32 &&& 1431655765)) &&& 858993459) + ((((l0 - (((l0 : Int32).toUInt32 >>> ((1 : Int32).toUInt32 &&& Int32.toUInt32 31)).toInt32 &&& 1431655765)) : Int32).toUInt32 >>> ((2 : Int32).toUInt32 &&& Int32.toUInt32 31)).toInt32 &&& 858993459)) : Int32).toUInt32 >>> ((4 : Int32).toUInt32 &&& Int32.toUInt32 31)).toInt32) &&& 252645135) : Int32).toUInt32 >>> ((8 : Int32).toUInt32 &&& Int32.toUInt32 31)).toInt32)], [], (sh, M, J))) f_202_40 rfl ?_
  refine ev_nx (s1 := (202, 42, [.int ((((((l0 - (((l0 : Int32).toUInt32 >>> ((1 : Int32).toUInt32 &&& Int32.toUInt32 31)).toInt32 &&& 1431655765)) &&& 858993459) + ((((l0 - (((l0 : Int32).toUInt32 >>> ((1 : Int32).toUInt32 &&& Int32.toUInt32 31)).toInt32 &&& 1431655765)) : Int32).toUInt32 >>> ((2 : Int32).toUInt32 &&& Int32.toUInt32 31)).toInt32 &&& 858993459)) + (((((l0 - (((l0 : Int32).toUInt32 >>> ((1 : Int32).toUInt32 &&& Int32.toUInt32 31)).toInt32 &&& 1431655765)) &&& 858993459) + ((((l0 - (((l0 : Int32).toUInt32 >>> ((1 : Int32).toUInt32 &&& Int32.toUInt32 31)).toInt32 &&& 1431655765)) : Int32).toUInt32 >>> ((2 : Int32).toUInt32 &&& Int32.toUInt32 31)).toInt32 &&& 858993459)) : Int32).toUInt32 >>> ((4 : Int32).toUInt32 &&& Int32.toUInt32 31)).toInt32) &&& 252645135) + (((((((l0 - (((l0 : Int32).toUInt32 >>> ((1 : Int32).toUInt32 &&& Int32.toUInt32 31)).toInt32 &&& 1431655765)) &&& 858993459) + ((((l0 - (((l0 : Int32).toUInt32 >>> ((1 : Int32).toUInt32 &&& Int32.toUInt32 31)).toInt32 &&& 1431655765)) : Int32).toUInt32 >>> ((2 : Int32).toUInt32 &&& Int32.toUInt32 31)).toInt32 &&& 858993459)) + (((((l0 - (((l0 : Int32).toUInt32 >>> ((1 : Int32).toUInt32 &&& Int32.toUInt32 31)).toInt32 &&& 1431655765)) &&& 858993459) + ((((l0 - (((l0 : Int32).toUInt32 >>> ((1 : Int32).toUInt32 &&& Int32.toUInt32 31)).toInt32 &&& 1431655765)) : Int32).toUInt32 >>> ((2 : Int32).toUInt32 &&& Int32.toUInt32 31)).toInt32 &&& 858993459)) : Int32).toUInt32 >>> ((4 : Int32).toUInt32 &&& Int32.toUInt32 31)).toInt32) &&& 252645135) : Int32).toUInt32 >>> ((8 : Int32).toUInt32 &&& Int32.toUInt32 31)).toInt32)], [.int ((((((l0 - (((l0 : Int32).toUInt32 >>> ((1 : Int32).toUInt32 &&& Int32.toUInt32 31)).toInt32 &&& 1431655765)) &&& 858993459) + ((((l0 - (((l0 : Int32).toUInt32 >>> ((1 : Int32).toUInt32 &&& Int32.toUInt32 31)).toInt32 &&& 1431655765)) : Int32).toUInt32 >>> ((2 : Int32).toUInt32 &&& Int32.toUInt32 31)).toInt32 &&& 858993459)) + (((((l0 - (((l0 : Int32).toUInt32 >>> ((1 : Int32).toUInt32 &&& Int32.toUInt32 31)).toInt32 &&& 1431655765)) &&& 858993459) + ((((l0 - (((l0 : Int32).toUInt32 >>> ((1 : Int32).toUInt32 &&& Int32.toUInt32 31)).toInt32 &&& 1431655765)) : Int32).toUInt32 >>> ((2 : Int32).toUInt32 &&& Int32.toUInt32 31)).toInt32 &&& 858993459)) : Int32).toUInt32 >>> ((4 : Int32).toUInt32 &&& Int32.toUInt32 31)).toInt32) &&& 252645135) + (((((((l0 - (((l0 : Int32).toUInt32 >>> ((1 : Int32).toUInt32 &&& Int32.toUInt32 31)).toInt32 &&& 1431655765)) &&& 858993459) + ((((l0 - (((l0 : Int32).toUInt32 >>> ((1 : Int32).toUInt32 &&& Int32.toUInt32 31)).toInt32 &&& 1431655765)) : Int32).toUInt32 >>> ((2 : Int32).toUInt32 &&& Int32.toUInt32 31)).toInt32 &&& 858993459)) + (((((l0 - (((l0 : Int32).toUInt32 >>> ((1 : Int32).toUInt32 &&& Int32.toUInt32 31)).toInt32 &&& 1431655765)) &&& 858993459) + ((((l0 - (((l0 : Int32).toUInt32 >>> ((1 : Int32).toUInt32 &&& Int32.toUInt32 31)).toInt32 &&& 1431655765)) : Int32).toUInt32 >>> ((2 : Int32).toUInt32 &&& Int32.toUInt32 31)).toInt32 &&& 858993459)) : Int32).toUInt32 >>> ((4 : Int32).toUInt32 &&& Int32.toUInt32 31)).toInt32) &&& 252645135) : Int32).toUInt32 >>> ((8 : Int32).toUInt32 &&& Int32.toUInt32 31)).toInt32)], (sh, M, J))) f_202_41 rfl ?_
  refine ev_nx (s1 := (202, 43, [.int ((((((l0 - (((l0 : Int32).toUInt32 >>> ((1 : Int32).toUInt32 &&& Int32.toUInt32 31)).toInt32 &&& 1431655765)) &&& 858993459) + ((((l0 - (((l0 : Int32).toUInt32 >>> ((1 : Int32).toUInt32 &&& Int32.toUInt32 31)).toInt32 &&& 1431655765)) : Int32).toUInt32 >>> ((2 : Int32).toUInt32 &&& Int32.toUInt32 31)).toInt32 &&& 858993459)) + (((((l0 - (((l0 : Int32).toUInt32 >>> ((1 : Int32).toUInt32 &&& Int32.toUInt32 31)).toInt32 &&& 1431655765)) &&& 858993459) + ((((l0 - (((l0 : Int32).toUInt32 >>> ((1 : Int32).toUInt32 &&& Int32.toUInt32 31)).toInt32 &&& 1431655765)) : Int32).toUInt32 >>> ((2 : Int32).toUInt32 &&& Int32.toUInt32 31)).toInt32 &&& 858993459)) : Int32).toUInt32 >>> ((4 : Int32).toUInt32 &&& Int32.toUInt32 31)).toInt32) &&& 252645135) + (((((((l0 - (((l0 : Int32).toUInt32 >>> ((1 : Int32).toUInt32 &&& Int32.toUInt32 31)).toInt32 &&& 1431655765)) &&& 858993459) + ((((l0 - (((l0 : Int32).toUInt32 >>> ((1 : Int32).toUInt32 &&& Int32.toUInt32 31)).toInt32 &&& 1431655765)) : Int32).toUInt32 >>> ((2 : Int32).toUInt32 &&& Int32.toUInt32 31)).toInt32 &&& 858993459)) + (((((l0 - (((l0 : Int32).toUInt32 >>> ((1 : Int32).toUInt32 &&& Int32.toUInt32 31)).toInt32 &&& 1431655765)) &&& 858993459) + ((((l0 - (((l0 : Int32).toUInt32 >>> ((1 : Int32).toUInt32 &&& Int32.toUInt32 31)).toInt32 &&& 1431655765)) : Int32).toUInt32 >>> ((2 : Int32).toUInt32 &&& Int32.toUInt32 31)).toInt32 &&& 858993459)) : Int32).toUInt32 >>> ((4 : Int32).toUInt32 &&& Int32.toUInt32 31)).toInt32) &&& 252645135) : Int32).toUInt32 >>> ((8 : Int32).toUInt32 &&& Int32.toUInt32 31)).toInt32)], [.int ((((((l0 - (((l0 : Int32).toUInt32 >>> ((1 : Int32).toUInt32 &&& Int32.toUInt32 31)).toInt32 &&& 1431655765)) &&& 858993459) + ((((l0 - (((l0 : Int32).toUInt32 >>> ((1 : Int32).toUInt32 &&& Int32.toUInt32 31)).toInt32 &&& 1431655765)) : Int32).toUInt32 >>> ((2 : Int32).toUInt32 &&& Int32.toUInt32 31)).toInt32 &&& 858993459)) + (((((l0 - (((l0 : Int32).toUInt32 >>> ((1 : Int32).toUInt32 &&& Int32.toUInt32 31)).toInt32 &&& 1431655765)) &&& 858993459) + ((((l0 - (((l0 : Int32).toUInt32 >>> ((1 : Int32).toUInt32 &&& Int32.toUInt32 31)).toInt32 &&& 1431655765)) : Int32).toUInt32 >>> ((2 : Int32).toUInt32 &&& Int32.toUInt32 31)).toInt32 &&& 858993459)) : Int32).toUInt32 >>> ((4 : Int32).toUInt32 &&& Int32.toUInt32 31)).toInt32) &&& 252645135) + (((((((l0 - (((l0 : Int32).toUInt32 >>> ((1 : Int32).toUInt32 &&& Int32.toUInt32 31)).toInt32 &&& 1431655765)) &&& 858993459) + ((((l0 - (((l0 : Int32).toUInt32 >>> ((1 : Int32).toUInt32 &&& Int32.toUInt32 31)).toInt32 &&& 1431655765)) : Int32).toUInt32 >>> ((2 : Int32).toUInt32 &&& Int32.toUInt32 31)).toInt32 &&& 858993459)) + (((((l0 - (((l0 : Int32).toUInt32 >>> ((1 : Int32).toUInt32 &&& Int32.toUInt32 31)).toInt32 &&& 1431655765)) &&& 858993459) + ((((l0 - (((l0 : Int32).toUInt32 >>> ((1 : Int32).toUInt32 &&& Int32.toUInt32 31)).toInt32 &&& 1431655765)) : Int32).toUInt32 >>> ((2 : Int32).toUInt32 &&& Int32.toUInt32 31)).toInt32 &&& 858993459)) : Int32).toUInt32 >>> ((4 : Int32).toUInt32 &&& Int32.toUInt32 31)).toInt32) &&& 252645135) : Int32).toUInt32 >>> ((8 : Int32).toUInt32 &&& Int32.toUInt32 31)).toInt32), .int ((((((l0 - (((l0 : Int32).toUInt32 >>> ((1 : Int32).toUInt32 &&& Int32.toUInt32 31)).toInt32 &&& 1431655765)) &&& 858993459) + ((((l0 - (((l0 : Int32).toUInt32 >>> ((1 : Int32).toUInt32 &&& Int32.toUInt32 31)).toInt32 &&& 1431655765)) : Int32).toUInt32 >>> ((2 : Int32).toUInt32 &&& Int32.toUInt32 31)).toInt32 &&& 858993459)) + (((((l0 - (((l0 : Int32).toUInt32 >>> ((1 : Int32).toUInt32 &&& Int32.toUInt32 31)).toInt32 &&& 1431655765)) &&& 858993459) + ((((l0 - (((l0 : Int32).toUInt32 >>> ((1 : Int32).toUInt32 &&& Int32.toUInt32 31)).toInt32 &&& 1431655765)) : Int32).toUInt32 >>> ((2 : Int32).toUInt32 &&& Int32.toUInt32 31)).toInt32 &&& 858993459)) : Int32).toUInt32 >>> ((4 : Int32).toUInt32 &&& Int32.toUInt32 31)).toInt32) &&& 252645135) + (((((((l0 - (((l0 : Int32).toUInt32 >>> ((1 : Int32).toUInt32 &&& Int32.toUInt32 31)).toInt32 &&& 1431655765)) &&& 858993459) + ((((l0 - (((l0 : Int32).toUInt32 >>> ((1 : Int32).toUInt32 &&& Int32.toUInt32 31)).toInt32 &&& 1431655765)) : Int32).toUInt32 >>> ((2 : Int32).toUInt32 &&& Int32.toUInt32 31)).toInt32 &&& 858993459)) + (((((l0 - (((l0 : Int32).toUInt32 >>> ((1 : Int32).toUInt32 &&& Int32.toUInt32 31)).toInt32 &&& 1431655765)) &&& 858993459) + ((((l0 - (((l0 : Int32).toUInt32 >>> ((1 : Int32).toUInt32 &&& Int32.toUInt32 31)).toInt32 &&& 1431655765)) : Int32).toUInt32 >>> ((2 : Int32).toUInt32 &&& Int32.toUInt32 31)).toInt32 &&& 858993459)) : Int32).toUInt32 >>> ((4 : Int32).toUInt32 &&& Int32.toUInt32 31)).toInt32) &&& 252645135) : Int32).toUInt32 >>> ((8 : Int32).toUInt32 &&& Int32.toUInt32 31)).toInt32)], (sh, M, J))) f_202_42 rfl ?_
  refine ev_nx (s1 := (202, 45, [.int ((((((l0 - (((l0 : Int32).toUInt32 >>> ((1 : Int32).toUInt32 &&& Int32.toUInt32 31)).toInt32 &&& 1431655765)) &&& 858993459) + ((((l0 - (((l0 : Int32).toUInt32 >>> ((1 : Int32).toUInt32 &&& Int32.toUInt32 31)).toInt32 &&& 1431655765)) : Int32).toUInt32 >>> ((2 : Int32).toUInt32 &&& Int32.toUInt32 31)).toInt32 &&& 858993459)) + (((((l0 - (((l0 : Int32).toUInt32 >>> ((1 : Int32).toUInt32 &&& Int32.toUInt32 31)).toInt32 &&& 1431655765)) &&& 858993459) + ((((l0 - (((l0 : Int32).toUInt32 >>> ((1 : Int32).toUInt32 &&& Int32.toUInt32 31)).toInt32 &&& 1431655765)) : Int32).toUInt32 >>> ((2 : Int32).toUInt32 &&& Int32.toUInt32 31)).toInt32 &&& 858993459)) : Int32).toUInt32 >>> ((4 : Int32).toUInt32 &&& Int32.toUInt32 31)).toInt32) &&& 252645135) + (((((((l0 - (((l0 : Int32).toUInt32 >>> ((1 : Int32).toUInt32 &&& Int32.toUInt32 31)).toInt32 &&& 1431655765)) &&& 858993459) + ((((l0 - (((l0 : Int32).toUInt32 >>> ((1 : Int32).toUInt32 &&& Int32.toUInt32 31)).toInt32 &&& 1431655765)) : Int32).toUInt32 >>> ((2 : Int32).toUInt32 &&& Int32.toUInt32 31)).toInt32 &&& 858993459)) + (((((l0 - (((l0 : Int32).toUInt32 >>> ((1 : Int32).toUInt32 &&& Int32.toUInt32 31)).toInt32 &&& 1431655765)) &&& 858993459) + ((((l0 - (((l0 : Int32).toUInt32 >>> ((1 : Int32).toUInt32 &&& Int32.toUInt32 31)).toInt32 &&& 1431655765)) : Int32).toUInt32 >>> ((2 : Int32).toUInt32 &&& Int32.toUInt32 31)).toInt32 &&& 858993459)) : Int32).toUInt32 >>> ((4 : Int32).toUInt32 &&& Int32.toUInt32 31)).toInt32) &&& 252645135) : Int32).toUInt32 >>> ((8 : Int32).toUInt32 &&& Int32.toUInt32 31)).toInt32)], [.int 16, .int ((((((l0 - (((l0 : Int32).toUInt32 >>> ((1 : Int32).toUInt32 &&& Int32.toUInt32 31)).toInt32 &&& 1431655765)) &&& 858993459) + ((((l0 - (((l0 : Int32).toUInt32 >>> ((1 : Int32).toUInt32 &&& Int32.toUInt32 31)).toInt32 &&& 1431655765)) : Int32).toUInt32 >>> ((2 : Int32).toUInt32 &&& Int32.toUInt32 31)).toInt32 &&& 858993459)) + (((((l0 - (((l0 : Int32).toUInt32 >>> ((1 : Int32).toUInt32 &&& Int32.toUInt32 31)).toInt32 &&& 1431655765)) &&& 858993459) + ((((l0 - (((l0 : Int32).toUInt32 >>> ((1 : Int32).toUInt32 &&& Int32.toUInt32 31)).toInt32 &&& 1431655765)) : Int32).toUInt32 >>> ((2 : Int32).toUInt32 &&& Int32.toUInt32 31)).toInt32 &&& 858993459)) : Int32).toUInt32 >>> ((4 : Int32).toUInt32 &&& Int32.toUInt32 31)).toInt32) &&& 252645135) + (((((((l0 - (((l0 : Int32).toUInt32 >>> ((1 : Int32).toUInt32 &&& Int32.toUInt32 31)).toInt32 &&& 1431655765)) &&& 858993459) + ((((l0 - (((l0 : Int32).toUInt32 >>> ((1 : Int32).toUInt32 &&& Int32.toUInt32 31)).toInt32 &&& 1431655765)) : Int32).toUInt32 >>> ((2 : Int32).toUInt32 &&& Int32.toUInt32 31)).toInt32 &&& 858993459)) + (((((l0 - (((l0 : Int32).toUInt32 >>> ((1 : Int32).toUInt32 &&& Int32.toUInt32 31)).toInt32 &&& 1431655765)) &&& 858993459) + ((((l0 - (((l0 : Int32).toUInt32 >>> ((1 : Int32).toUInt32 &&& Int32.toUInt32 31)).toInt32 &&& 1431655765)) : Int32).toUInt32 >>> ((2 : Int32).toUInt32 &&& Int32.toUInt32 31)).toInt32 &&& 858993459)) : Int32).toUInt32 >>> ((4 : Int32).toUInt32 &&& Int32.toUInt32 31)).toInt32) &&& 252645135) : Int32).toUInt32 >>> ((8 : Int32).toUInt32 &&& Int32.toUInt32 31)).toInt32), .int ((((((l0 - (((l0 : Int32).toUInt32 >>> ((1 : Int32).toUInt32 &&& Int32.toUInt32 31)).toInt32 &&& 1431655765)) &&& 858993459) + ((((l0 - (((l0 : Int32).toUInt32 >>> ((1 : Int32).toUInt32 &&& Int32.toUInt32 31)).toInt32 &&& 1431655765)) : Int32).toUInt32 >>> ((2 : Int32).toUInt32 &&& Int32.toUInt32 31)).toInt32 &&& 858993459)) + (((((l0 - (((l0 : Int32).toUInt32 >>> ((1 : Int32).toUInt32 &&& Int32.toUInt32 31)).toInt32 &&& 1431655765)) &&& 858993459) + ((((l0 - (((l0 : Int32).toUInt32 >>> ((1 : Int32).toUInt32 &&& Int32.toUInt32 31)).toInt32 &&& 1431655765)) : Int32).toUInt32 >>> ((2 : Int32).toUInt32 &&& Int32.toUInt32 31)).toInt32 &&& 858993459)) : Int32).toUInt32 >>> ((4 : Int32).toUInt32 &&& Int32.toUInt32 31)).toInt32) &&& 252645135) + (((((((l0 - (((l0 : Int32).toUInt32 >>> ((1 : Int32).toUInt32 &&& Int32.toUInt32 31)).toInt32 &&& 1431655765)) &&& 858993459) + ((((l0 - (((l0 : Int32).toUInt32 >>> ((1 : Int32).toUInt32 &&& Int32.toUInt32 31)).toInt32 &&& 1431655765)) : Int32).toUInt32 >>> ((2 : Int32).toUInt32 &&& Int32.toUInt32 31)).toInt32 &&& 858993459)) + (((((l0 - (((l0 : Int32).toUInt32 >>> ((1 : Int32).toUInt32 &&& Int32.toUInt32 31)).toInt32 &&& 1431655765)) &&& 858993459) + ((((l0 - (((l0 : Int32).toUInt32 >>> ((1 : Int32).toUInt32 &&& Int32.toUInt32 31)).toInt32 &&& 1431655765)) : Int32).toUInt32 >>> ((2 : Int32).toUInt32 &&& Int32.toUInt32 31)).toInt32 &&& 858993459)) : Int32).toUInt32 >>> ((4 : Int32).toUInt32 &&& Int32.toUInt32 31)).toInt32) &&& 252645135) : Int32).toUInt32 >>> ((8 : Int32).toUInt32 &&& Int32.toUInt32 31)).toInt32)], (sh, M, J))) f_202_43 rfl ?_
  refine ev_nx (s1 := (202, 46, [.int ((((((l0 - (((l0 : Int32).toUInt32 >>> ((1 : Int32).toUInt32 &&& Int32.toUInt32 31)).toInt32 &&& 1431655765)) &&& 858993459) + ((((l0 - (((l0 : Int32).toUInt32 >>> ((1 : Int32).toUInt32 &&& Int32.toUInt32 31)).toInt32 &&& 1431655765)) : Int32).toUInt32 >>> ((2 : Int32).toUInt32 &&& Int32.toUInt32 31)).toInt32 &&& 858993459)) + (((((l0 - (((l0 : Int32).toUInt32 >>> ((1 : Int32).toUInt32 &&& Int32.toUInt32 31)).toInt32 &&& 1431655765)) &&& 858993459) + ((((l0 - (((l0 : Int32).toUInt32 >>> ((1 : Int32).toUInt32 &&& Int32.toUInt32 31)).toInt32 &&& 1431655765)) : Int32).toUInt32 >>> ((2 : Int32).toUInt32 &&& Int32.toUInt32 31)).toInt32 &&& 858993459)) : Int32).toUInt32 >>> ((4 : Int32).toUInt32 &&& Int32.toUInt32 31)).toInt32) &&& 252645135) + (((((((l0 - (((l0 : Int32).toUInt32 >>> ((1 : Int32).toUInt32 &&& Int32.toUInt32 31)).toInt32 &&& 1431655765)) &&& 858993459) + ((((l0 - (((l0 : Int32).toUInt32 >>> ((1 : Int32).toUInt32 &&& Int32.toUInt32 31)).toInt32 &&& 1431655765)) : Int32).toUInt32 >>> ((2 : Int32).toUInt32 &&& Int32.toUInt32 31)).toInt32 &&& 858993459)) + (((((l0 - (((l0 : Int32).toUInt32 >>> ((1 : Int32).toUInt32 &&& Int32.toUInt32 31)).toInt32 &&& 1431655765)) &&& 858993459) + ((((l0 - (((l0 : Int32).toUInt32 >>> ((1 : Int32).toUInt32 &&& Int32.toUInt32 31)).toInt32 &&& 1431655765)) : Int32).toUInt32 >>> ((2 : Int32).toUInt32 &&& Int32.toUInt32 31)).toInt32 &&& 858993459)) : Int32).toUInt32 >>> ((4 : Int32).toUInt32 &&& Int32.toUInt32 31)).toInt32) &&& 252645135) : Int32).toUInt32 >>> ((8 : Int32).toUInt32 &&& Int32.toUInt32 31)).toInt32)], [.int ((((((((l0 - (((l0 : Int32).toUInt32 >>> ((1 : Int32).toUInt32 &&& Int32.toUInt32 31)).toInt32 &&& 1431655765)) &&& 858993459) + ((((l0 - (((l0 : Int32).toUInt32 >>> ((1 : Int32).toUInt32 &&& Int32.toUInt32 31)).toInt32 &&& 1431655765)) : Int32).toUInt32 >>> ((2 : Int32).toUInt32 &&& Int32.toUInt32 31)).toInt32 &&& 858993459)) + (((((l0 - (((l0 : Int32).toUInt32 >>> ((1 : Int32).toUInt32 &&& Int32.toUInt32 31)).toInt32 &&& 1431655765)) &&& 858993459) + ((((l0 - (((l0 : Int32).toUInt32 >>> ((1 : Int32).toUInt32 &&& Int32.toUInt32 31)).toInt32 &&& 1431655765)) : Int32).toUInt32 >>> ((2 : Int32).toUInt32 &&& Int32.toUInt32 31)).toInt32 &&& 858993459)) : Int32).toUInt32 >>> ((4 : Int32).toUInt32 &&& Int32.toUInt32 31)).toInt32) &&& 252645135) + (((((((l0 - (((l0 : Int32).toUInt32 >>> ((1 : Int32).toUInt32 &&& Int32.toUInt32 31)).toInt32 &&& 1431655765)) &&& 858993459) + ((((l0 - (((l0 : Int32).toUInt32 >>> ((1 : Int32).toUInt32 &&& Int32.toUInt32 31)).toInt32 &&& 1431655765)) : Int32).toUInt32 >>> ((2 : Int32).toUInt32 &&& Int32.toUInt32 31)).toInt32 &&& 858993459)) + (((((l0 - (((l0 : Int32).toUInt32 >>> ((1 : Int32).toUInt32 &&& Int32.toUInt32 31)).toInt32 &&& 1431655765)) &&& 858993459) + ((((l0 - (((l0 : Int32).toUInt32 >>> ((1 : Int32).toUInt32 &&& Int32.toUInt32 31)).toInt32 &&& 1431655765)) : Int32).toUInt32 >>> ((2 : Int32).toUInt32 &&& Int32.toUInt32 31)).toInt32 &&& 858993459)) : Int32).toUInt32 >>> ((4 : Int32).toUInt32 &&& Int32.toUInt32 31)).toInt32) &&& 252645135) : Int32).toUInt32 >>> ((8 : Int32).toUInt32 &&& Int32.toUInt32 31)).toInt32) : Int32).toUInt32 >>> ((16 : Int32).toUInt32 &&& Int32.toUInt32 31)).toInt32, .int ((((((l0 - (((l0 : Int32).toUInt32 >>> ((1 : Int32).toUInt32 &&& Int32.toUInt32 31)).toInt32 &&& 1431655765)) &&& 858993459) + ((((l0 - (((l0 : Int32).toUInt32 >>> ((1 : Int32).toUInt32 &&& Int32.toUInt32 31)).toInt32 &&& 1431655765)) : Int32).toUInt32 >>> ((2 : Int32).toUInt32 &&& Int32.toUInt32 31)).toInt32 &&& 858993459)) + (((((l0 - (((l0 : Int32).toUInt32 >>> ((1 : Int32).toUInt32 &&& Int32.toUInt32 31)).toInt32 &&& 1431655765)) &&& 858993459) + ((((l0 - (((l0 : Int32).toUInt32 >>> ((1 : Int32).toUInt32 &&& Int32.toUInt32 31)).toInt32 &&& 1431655765)) : Int32).toUInt32 >>> ((2 : Int32).toUInt32 &&& Int32.toUInt32 31)).toInt32 &&& 858993459)) : Int32).toUInt32 >>> ((4 : Int32).toUInt32 &&& Int32.toUInt32 31)).toInt32) &&& 252645135) + (((((((l0 - (((l0 : Int32).toUInt32 >>> ((1 : Int32).toUInt32 &&& Int32.toUInt32 31)).toInt32 &&& 1431655765)) &&& 858993459) + ((((l0 - (((l0 : Int32).toUInt32 >>> ((1 : Int32).toUInt32 &&& Int32.toUInt32 31)).toInt32 &&& 1431655765)) : Int32).toUInt32 >>> ((2 : Int32).toUInt32 &&& Int32.toUInt32 31)).toInt32 &&& 858993459)) + (((((l0 - (((l0 : Int32).toUInt32 >>> ((1 : Int32).toUInt32 &&& Int32.toUInt32 31)).toInt32 &&& 1431655765)) &&& 858993459) + ((((l0 - (((l0 : Int32).toUInt32 >>> ((1 : Int32).toUInt32 &&& Int32.toUInt32 31)).toInt32 &&& 1431655765)) : Int32).toUInt32 >>> ((2 : Int32).toUInt32 &&& Int32.toUInt32 31)).toInt32 &&& 858993459)) : Int32).toUInt32 >>> ((4 : Int32).toUInt32 &&& Int32.toUInt32 31)).toInt32) &&& 252645135) : Int32).toUInt32 >>> ((8 : Int32).toUInt32 &&& Int32.toUInt32 31)).toInt32)], (sh, M, J))) f_202_45 rfl ?_
  refine ev_nx (s1 := (202, 47, [.int ((((((l0 - (((l0 : Int32).toUInt32 >>> ((1 : Int32).toUInt32 &&& Int32.toUInt32 31)).toInt32 &&& 1431655765)) &&& 858993459) + ((((l0 - (((l0 : Int32).toUInt32 >>> ((1 : Int32).toUInt32 &&& Int32.toUInt32 31)).toInt32 &&& 1431655765)) : Int32).toUInt32 >>> ((2 : Int32).toUInt32 &&& Int32.toUInt32 31)).toInt32 &&& 858993459)) + (((((l0 - (((l0 : Int32).toUInt32 >>> ((1 : Int32).toUInt32 &&& Int32.toUInt32 31)).toInt32 &&& 1431655765)) &&& 858993459) + ((((l0 - (((l0 : Int32).toUInt32 >>> ((1 : Int32).toUInt32 &&& Int32.toUInt32 31)).toInt32 &&& 1431655765)) : Int32).toUInt32 >>> ((2 : Int32).toUInt32 &&& Int32.toUInt32 31)).toInt32 &&& 858993459)) : Int32).toUInt32 >>> ((4 : Int32).toUInt32 &&& Int32.toUInt32 31)).toInt32) &&& 252645135) + (((((((l0 - (((l0 : Int32).toUInt32 >>> ((1 : Int32).toUInt32 &&& Int32.toUInt32 31)).toInt32 &&& 1431655765)) &&& 858993459) + ((((l0 - (((l0 : Int32).toUInt32 >>> ((1 : Int32).toUInt32 &&& Int32.toUInt32 31)).toInt32 &&& 1431655765)) : Int32).toUInt32 >>> ((2 : Int32).toUInt32 &&& Int32.toUInt32 31)).toInt32 &&& 858993459)) + (((((l0 - (((l0 : Int32).toUInt32 >>> ((1 : Int32).toUInt32 &&& Int32.toUInt32 31)).toInt32 &&& 1431655765)) &&& 858993459) + ((((l0 - (((l0 : Int32).toUInt32 >>> ((1 : Int32).toUInt32 &&& Int32.toUInt32 31)).toInt32 &&& 1431655765)) : Int32).toUInt32 >>> ((2 : Int32).toUInt32 &&& Int32.toUInt32 31)).toInt32 &&& 858993459)) : Int32).toUInt32 >>> ((4 : Int32).toUInt32 &&& Int32.toUInt32 31)).toInt32) &&& 252645135) : Int32).toUInt32 >>> ((8 : Int32).toUInt32 &&& Int32.toUInt32 31)).toInt32)], [.int (((((((l0 - (((l0 : Int32).toUInt32 >>> ((1 : Int32).toUInt32 &&& Int32.toUInt32 31)).toInt32 &&& 1431655765)) &&& 858993459) + ((((l0 - (((l0 : Int32).toUInt32 >>> ((1 : Int32).toUInt32 &&& Int32.toUInt32 31)).toInt32 &&& 1431655765)) : Int32).toUInt32 >>> ((2 : Int32).toUInt32 &&& Int32.toUInt32 31)).toInt32 &&& 858993459)) + (((((l0 - (((l0 : Int32).toUInt32 >>> ((1 : Int32).toUInt32 &&& Int32.toUInt32 31)).toInt32 &&& 1431655765)) &&& 858993459) + ((((l0 - (((l0 : Int32).toUInt32 >>> ((1 : Int32).toUInt32 &&& Int32.toUInt32 31)).toInt32 &&& 1431655765)) : Int32).toUInt32 >>> ((2 : Int32).toUInt32 &&& Int32.toUInt32 31)).toInt32 &&& 858993459)) : Int32).toUInt32 >>> ((4 : Int32).toUInt32 &&& Int32.toUInt32 31)).toInt32) &&& 252645135) + (((((((l0 - (((l0 : Int32).toUInt32 >>> ((1 : Int32).toUInt32 &&& Int32.toUInt32 31)).toInt32 &&& 1431655765)) &&& 858993459) + ((((l0 - (((l0 : Int32).toUInt32 >>> ((1 : Int32).toUInt32 &&& Int32.toUInt32 31)).toInt32 &&& 1431655765)) : Int32).toUInt32 >>> ((2 : Int32).toUInt32 &&& Int32.toUInt32 31)).toInt32 &&& 858993459)) + (((((l0 - (((l0 : Int32).toUInt32 >>> ((1 : Int32).toUInt32 &&& Int32.toUInt32 31)).toInt32 &&& 1431655765)) &&& 858993459) + ((((l0 - (((l0 : Int32).toUInt32 >>> ((1 : Int32).toUInt32 &&& Int32.toUInt32 31)).toInt32 &&& 1431655765)) : Int32).toUInt32 >>> ((2 : Int32).toUInt32 &&& Int32.toUInt32 31)).toInt32 &&& 858993459)) : Int32).toUInt32 >>> ((4 : Int32).toUInt32 &&& Int32.toUInt32 31)).toInt32) &&& 252645135) : Int32).toUInt32 >>> ((8 : Int32).toUInt32 &&& Int32.toUInt32 31)).toInt32) + ((((((((l0 - (((l0 : Int32).toUInt32 >>> ((1 : Int32).toUInt32 &&& Int32.toUInt32 31)).toInt32 &&& 1431655765)) &&& 858993459) + ((((l0 - (((l0 : Int32).toUInt32 >>> ((1 : Int32).toUInt32 &&& Int32.toUInt32 31)).toInt32 &&& 1431655765)) : Int32).toUInt32 >>> ((2 : Int32).toUInt32 &&& Int32.toUInt32 31)).toInt32 &&& 858993459)) + (((((l0 - (((l0 : Int32).toUInt32 >>> ((1 : Int32).toUInt32 &&& Int32.toUInt32 31)).toInt32 &&& 1431655765)) &&& 858993459) + ((((l0 - (((l0 : Int32).toUInt32 >>> ((1 : Int32).toUInt32 &&& Int32.toUInt32 31)).toInt32 &&& 1431655765)) : Int32).toUInt32 >>> ((2 : Int32).toUInt32 &&& Int32.toUInt32 31)).toInt32 &&& 858993459)) : Int32).toUInt32 >>> ((4 : Int32).toUInt32 &&& Int32.toUInt32 31)).toInt32) &&& 252645135) + (((((((l0 - (((l0 : Int32).toUInt32 >>> ((1 : Int32).toUInt32 &&& Int32.toUInt32 31)).toInt32 &&& 1431655765)) &&& 858993459) + ((((l0 - (((l0 : Int32).toUInt32 >>> ((1 : Int32).toUInt32 &&& Int32.toUInt32 31)).toInt32 &&& 1431655765)) : Int32).toUInt32 >>> ((2 : Int32).toUInt32 &&& Int32.toUInt32 31)).toInt32 &&& 858993459)) + (((((l0 - (((l0 : Int32).toUInt32 >>> ((1 : Int32).toUInt32 &&& Int32.toUInt32 31)).toInt32 &&& 1431655765)) &&& 858993459) + ((((l0 - (((l0 : Int32).toUInt32 >>> ((1 : Int32).toUInt32 &&& Int32.toUInt32 31)).toInt32 &&& 1431655765)) : Int32).toUInt32 >>> ((2 : Int32).toUInt32 &&& Int32.toUInt32 31)).toInt32 &&& 858993459)) : Int32).toUInt32 >>> ((4 : Int32).toUInt32 &&& Int32.toUInt32 31)).toInt32) &&& 252645135) : Int32).toUInt32 >>> ((8 : Int32).toUInt32 &&& Int32.toUInt32 31)).toInt32) : Int32).toUInt32 >>> ((16 : Int32).toUInt32 &&& Int32.toUInt32 31)).toInt32)], (sh, M, J))) f_202_46 rfl ?_
  refine ev_nx (s1 := (202, 48, [.int (((((((l0 - (((l0 : Int32).toUInt32 >>> ((1 : Int32).toUInt32 &&& Int32.toUInt32 31)).toInt32 &&& 1431655765)) &&& 858993459) + ((((l0 - (((l0 : Int32).toUInt32 >>> ((1 : Int32).toUInt32 &&& Int32.toUInt32 31)).toInt32 &&& 1431655765)) : Int32).toUInt32 >>> ((2 : Int32).toUInt32 &&& Int32.toUInt32 31)).toInt32 &&& 858993459)) + (((((l0 - (((l0 : Int32).toUInt32 >>> ((1 : Int32).toUInt32 &&& Int32.toUInt32 31)).toInt32 &&& 1431655765)) &&& 858993459) + ((((l0 - (((l0 : Int32).toUInt32 >>> ((1 : Int32).toUInt32 &&& Int32.toUInt32 31)).toInt32 &&& 1431655765)) : Int32).toUInt32 >>> ((2 : Int32).toUInt32 &&& Int32.toUInt32 31)).toInt32 &&& 858993459)) : Int32).toUInt32 >>> ((4 : Int32).toUInt32 &&& Int32.toUInt32 31)).toInt32) &&& 252645135) + (((((((l0 - (((l0 : Int32).toUInt32 >>> ((1 : Int32).toUInt32 &&& Int32.toUInt32 31)).toInt32 &&& 1431655765)) &&& 858993459) + ((((l0 - (((l0 : Int32).toUInt32 >>> ((1 : Int32).toUInt32 &&& Int32.toUInt32 31)).toInt32 &&& 1431655765)) : Int32).toUInt32 >>> ((2 : Int32).toUInt32 &&& Int32.toUInt32 31)).toInt32 &&& 858993459)) + (((((l0 - (((l0 : Int32).toUInt32 >>> ((1 : Int32).toUInt32 &&& Int32.toUInt32 31)).toInt32 &&& 1431655765)) &&& 858993459) + ((((l0 - (((l0 : Int32).toUInt32 >>> ((1 : Int32).toUInt32 &&& Int32.toUInt32 31)).toInt32 &&& 1431655765)) : Int32).toUInt32 >>> ((2 : Int32).toUInt32 &&& Int32.toUInt32 31)).toInt32 &&& 858993459)) : Int32).toUInt32 >>> ((4 : Int32).toUInt32 &&& Int32.toUInt32 31)).toInt32) &&& 252645135) : Int32).toUInt32 >>> ((8 : Int32).toUInt32 &&& Int32.toUInt32 31)).toInt32) + ((((((((l0 - (((l0 : Int32).toUInt32 >>> ((1 : Int32).toUInt32 &&& Int32.toUInt32 31)).toInt32 &&& 1431655765)) &&& 858993459) + ((((l0 - (((l0 : Int32).toUInt32 >>> ((1 : Int32).toUInt32 &&& Int32.toUInt32 31)).toInt32 &&& 1431655765)) : Int32).toUInt32 >>> ((2 : Int32).toUInt32 &&& Int32.toUInt32 31)).toInt32 &&& 858993459)) + (((((l0 - (((l0 : Int32).toUInt32 >>> ((1 : Int32).toUInt32 &&& Int32.toUInt32 31)).toInt32 &&& 1431655765)) &&& 858993459) + ((((l0 - (((l0 : Int32).toUInt32 >>> ((1 : Int32).toUInt32 &&& Int32.toUInt32 31)).toInt32 &&& 1431655765)) : Int32).toUInt32 >>> ((2 : Int32).toUInt32 &&& Int32.toUInt32 31)).toInt32 &&& 858993459)) : Int32).toUInt32 >>> ((4 : Int32).toUInt32 &&& Int32.toUInt32 31)).toInt32) &&& 252645135) + (((((((l0 - (((l0 : Int32).toUInt32 >>> ((1 : Int32).toUInt32 &&& Int32.toUInt32 31)).toInt32 &&& 1431655765)) &&& 858993459) + ((((l0 - (((l0 : Int32).toUInt32 >>> ((1 : Int32).toUInt32 &&& Int32.toUInt32 31)).toInt32 &&& 1431655765)) : Int32).toUInt32 >>> ((2 : Int32).toUInt32 &&& Int32.toUInt32 31)).toInt32 &&& 858993459)) + (((((l0 - (((l0 : Int32).toUInt32 >>> ((1 : Int32).toUInt32 &&& Int32.toUInt32 31)).toInt32 &&& 1431655765)) &&& 858993459) + ((((l0 - (((l0 : Int32).toUInt32 >>> ((1 : Int32).toUInt32 &&& Int32.toUInt32 31)).toInt32 &&& 1431655765)) : Int32).toUInt32 >>> ((2 : Int32).toUInt32 &&& Int32.toUInt32 31)).toInt32 &&& 858993459)) : Int32).toUInt32 >>> ((4 : Int32).toUInt32 &&& Int32.toUInt32 31)).toInt32) &&& 252645135) : Int32).toUInt32 >>> ((8 : Int32).toUInt32 &&& Int32.toUInt32 31)).toInt32) : Int32).toUInt32 >>> ((16 : Int32).toUInt32 &&& Int32.toUInt32 31)).toInt32)], [], (sh, M, J))) f_202_47 rfl ?_
  refine ev_nx (s1 := (202, 49, [.int (((((((l0 - (((l0 : Int32).toUInt32 >>> ((1 : Int32).toUInt32 &&& Int32.toUInt32 31)).toInt32 &&& 1431655765)) &&& 858993459) + ((((l0 - (((l0 : Int32).toUInt32 >>> ((1 : Int32).toUInt32 &&& Int32.toUInt32 31)).toInt32 &&& 1431655765)) : Int32).toUInt32 >>> ((2 : Int32).toUInt32 &&& Int32.toUInt32 31)).toInt32 &&& 858993459)) + (((((l0 - (((l0 : Int32).toUInt32 >>> ((1 : Int32).toUInt32 &&& Int32.toUInt32 31)).toInt32 &&& 1431655765)) &&& 858993459) + ((((l0 - (((l0 : Int32).toUInt32 >>> ((1 : Int32).toUInt32 &&& Int32.toUInt32 31)).toInt32 &&& 1431655765)) : Int32).toUInt32 >>> ((2 : Int32).toUInt32 &&& Int32.toUInt32 31)).toInt32 &&& 858993459)) : Int32).toUInt32 >>> ((4 : Int32).toUInt32 &&& Int32.toUInt32 31)).toInt32) &&& 252645135) + (((((((l0 - (((l0 : Int32).toUInt32 >>> ((1 : Int32).toUInt32 &&& Int32.toUInt32 31)).toInt32 &&& 1431655765)) &&& 858993459) + ((((l0 - (((l0 : Int32).toUInt32 >>> ((1 : Int32).toUInt32 &&& Int32.toUInt32 31)).toInt32 &&& 1431655765)) : Int32).toUInt32 >>> ((2 : Int32).toUInt32 &&& Int32.toUInt32 31)).toInt32 &&& 858993459)) + (((((l0 - (((l0 : Int32).toUInt32 >>> ((1 : Int32).toUInt32 &&& Int32.toUInt32 31)).toInt32 &&& 1431655765)) &&& 858993459) + ((((l0 - (((l0 : Int32).toUInt32 >>> ((1 : Int32).toUInt32 &&& Int32.toUInt32 31)).toInt32 &&& 1431655765)) : Int32).toUInt32 >>> ((2 : Int32).toUInt32 &&& Int32.toUInt32 31)).toInt32 &&& 858993459)) : Int32).toUInt32 >>> ((4 : Int32).toUInt32 &&& Int32.toUInt32 31)).toInt32) &&& 252645135) : Int32).toUInt32 >>> ((8 : Int32).toUInt32 &&& Int32.toUInt32 31)).toInt32) + ((((((((l0 - (((l0 : Int32).toUInt32 >>> ((1 : Int32).toUInt32 &&& Int32.toUInt32 31)).toInt32 &&& 1431655765)) &&& 858993459) + ((((l0 - (((l0 : Int32).toUInt32 >>> ((1 : Int32).toUInt32 &&& Int32.toUInt32 31)).toInt32 &&& 1431655765)) : Int32).toUInt32 >>> ((2 : Int32).toUInt32 &&& Int32.toUInt32 31)).toInt32 &&& 858993459)) + (((((l0 - (((l0 : Int32).toUInt32 >>> ((1 : Int32).toUInt32 &&& Int32.toUInt32 31)).toInt32 &&& 1431655765)) &&& 858993459) + ((((l0 - (((l0 : Int32).toUInt32 >>> ((1 : Int32).toUInt32 &&& Int32.toUInt32 31)).toInt32 &&& 1431655765)) : Int32).toUInt32 >>> ((2 : Int32).toUInt32 &&& Int32.toUInt32 31)).toInt32 &&& 858993459)) : Int32).toUInt32 >>> ((4 : Int32).toUInt32 &&& Int32.toUInt32 31)).toInt32) &&& 252645135) + (((((((l0 - (((l0 : Int32).toUInt32 >>> ((1 : Int32).toUInt32 &&& Int32.toUInt32 31)).toInt32 &&& 1431655765)) &&& 858993459) + ((((l0 - (((l0 : Int32).toUInt32 >>> ((1 : Int32).toUInt32 &&& Int32.toUInt32 31)).toInt32 &&& 1431655765)) : Int32).toUInt32 >>> ((2 : Int32).toUInt32 &&& Int32.toUInt32 31)).toInt32 &&& 858993459)) + (((((l0 - (((l0 : Int32).toUInt32 >>> ((1 : Int32).toUInt32 &&& Int32.toUInt32 31)).toInt32 &&& 1431655765)) &&& 858993459) + ((((l0 - (((l0 : Int32).toUInt32 >>> ((1 : Int32).toUInt32 &&& Int32.toUInt32 31)).toInt32 &&& 1431655765)) : Int32).toUInt32 >>> ((2 : Int32).toUInt32 &&& Int32.toUInt32 31)).toInt32 &&& 858993459)) : Int32).toUInt32 >>> ((4 : Int32).toUInt32 &&& Int32.toUInt32 31)).toInt32) &&& 252645135) : Int32).toUInt32 >>> ((8 : Int32).toUInt32 &&& Int32.toUInt32 31)).toInt32) : Int32).toUInt32 >>> ((16 : Int32).toUInt32 &&& Int32.toUInt32 31)).toInt32)], [.int (((((((l0 - (((l0 : Int32).toUInt32 >>> ((1 : Int32).toUInt32 &&& Int32.toUInt32 31)).toInt32 &&& 1431655765)) &&& 858993459) + ((((l0 - (((l0 : Int32).toUInt32 >>> ((1 : Int32).toUInt32 &&& Int32.toUInt32 31)).toInt32 &&& 1431655765)) : Int32).toUInt32 >>> ((2 : Int32).toUInt32 &&& Int32.toUInt32 31)).toInt32 &&& 858993459)) + (((((l0 - (((l0 : Int32).toUInt32 >>> ((1 : Int32).toUInt32 &&& Int32.toUInt32 31)).toInt32 &&& 1431655765)) &&& 858993459) + ((((l0 - (((l0 : Int32).toUInt32 >>> ((1 : Int32).toUInt32 &&& Int32.toUInt32 31)).toInt32 &&& 1431655765)) : Int32).toUInt32 >>> ((2 : Int32).toUInt32 &&& Int32.toUInt32 31)).toInt32 &&& 858993459)) : Int32).toUInt32 >>> ((4 : Int32).toUInt32 &&& Int32.toUInt32 31)).toInt32) &&& 252645135) + (((((((l0 - (((l0 : Int32).toUInt32 >>> ((1 : Int32).toUInt32 &&& Int32.toUInt32 31)).toInt32 &&& 1431655765)) &&& 858993459) + ((((l0 - (((l0 : Int32).toUInt32 >>> ((1 : Int32).toUInt32 &&& Int32.toUInt32 31)).toInt32 &&& 1431655765)) : Int32).toUInt32 >>> ((2 : Int32).toUInt32 &&& Int32.toUInt32 31)).toInt32 &&& 858993459)) + (((((l0 - (((l0 : Int32).toUInt32 >>> ((1 : Int32).toUInt32 &&& Int32.toUInt32 31)).toInt32 &&& 1431655765)) &&& 858993459) + ((((l0 - (((l0 : Int32).toUInt32 >>> ((1 : Int32).toUInt32 &&& Int32.toUInt32 31)).toInt32 &&& 1431655765)) : Int32).toUInt32 >>> ((2 : Int32).toUInt32 &&& Int32.toUInt32 31)).toInt32 &&& 858993459)) : Int32).toUInt32 >>> ((4 : Int32).toUInt32 &&& Int32.toUInt32 31)).toInt32) &&& 252645135) : Int32).toUInt32 >>> ((8 : Int32).toUInt32 &&& Int32.toUInt32 31)).toInt32) + ((((((((l0 - (((l0 : Int32).toUInt32 >>> ((1 : Int32).toUInt32 &&& Int32.toUInt32 31)).toInt32 &&& 1431655765)) &&& 858993459) + ((((l0 - (((l0 : Int32).toUInt32 >>> ((1 : Int32).toUInt32 &&& Int32.toUInt32 31)).toInt32 &&& 1431655765)) : Int32).toUInt32 >>> ((2 : Int32).toUInt32 &&& Int32.toUInt32 31)).toInt32 &&& 858993459)) + (((((l0 - (((l0 : Int32).toUInt32 >>> ((1 : Int32).toUInt32 &&& Int32.toUInt32 31)).toInt32 &&& 1431655765)) &&& 858993459) + ((((l0 - (((l0 : Int32).toUInt32 >>> ((1 : Int32).toUInt32 &&& Int32.toUInt32 31)).toInt32 &&& 1431655765)) : Int32).toUInt32 >>> ((2 : Int32).toUInt32 &&& Int32.toUInt32 31)).toInt32 &&& 858993459)) : Int32).toUInt32 >>> ((4 : Int32).toUInt32 &&& Int32.toUInt32 31)).toInt32) &&& 252645135) + (((((((l0 - (((l0 : Int32).toUInt32 >>> ((1 : Int32).toUInt32 &&& Int32.toUInt32 31)).toInt32 &&& 1431655765)) &&& 858993459) + ((((l0 - (((l0 : Int32).toUInt32 >>> ((1 : Int32).toUInt32 &&& Int32.toUInt32 31)).toInt32 &&& 1431655765)) : Int32).toUInt32 >>> ((2 : Int32).toUInt32 &&& Int32.toUInt32 31)).toInt32 &&& 858993459)) + (((((l0 - (((l0 : Int32).toUInt32 >>> ((1 : Int32).toUInt32 &&& Int32.toUInt32 31)).toInt32 &&& 1431655765)) &&& 858993459) + ((((l0 - (((l0 : Int32).toUInt32 >>> ((1 : Int32).toUInt32 &&& Int32.toUInt32 31)).toInt32 &&& 1431655765)) : Int32).toUInt32 >>> ((2 : Int32).toUInt32 &&& Int32.toUInt32 31)).toInt32 &&& 858993459)) : Int32).toUInt32 >>> ((4 : Int32).toUInt32 &&& Int32.toUInt32 31)).toInt32) &&& 252645135) : Int32).toUInt32 >>> ((8 : Int32).toUInt32 &&& Int32.toUInt32 31)).toInt32) : Int32).toUInt32 >>> ((16 : Int32).toUInt32 &&& Int32.toUInt32 31)).toInt32)], (sh, M, J))) f_202_48 rfl ?_
  refine ev_nx (s1 := (202, 51, [.int (((((((l0 - (((l0 : Int32).toUInt32 >>> ((1 : Int32).toUInt32 &&& Int32.toUInt32 31)).toInt32 &&& 1431655765)) &&& 858993459) + ((((l0 - (((l0 : Int32).toUInt32 >>> ((1 : Int32).toUInt32 &&& Int32.toUInt32 31)).toInt32 &&& 1431655765)) : Int32).toUInt32 >>> ((2 : Int32).toUInt32 &&& Int32.toUInt32 31)).toInt32 &&& 858993459)) + (((((l0 - (((l0 : Int32).toUInt32 >>> ((1 : Int32).toUInt32 &&& Int32.toUInt32 31)).toInt32 &&& 1431655765)) &&& 858993459) + ((((l0 - (((l0 : Int32).toUInt32 >>> ((1 : Int32).toUInt32 &&& Int32.toUInt32 31)).toInt32 &&& 1431655765)) : Int32).toUInt32 >>> ((2 : Int32).toUInt32 &&& Int32.toUInt32 31)).toInt32 &&& 858993459)) : Int32).toUInt32 >>> ((4 : Int32).toUInt32 &&& Int32.toUInt32 31)).toInt32) &&& 252645135) + (((((((l0 - (((l0 : Int32).toUInt32 >>> ((1 : Int32).toUInt32 &&& Int32.toUInt32 31)).toInt32 &&& 1431655765)) &&& 858993459) + ((((l0 - (((l0 : Int32).toUInt32 >>> ((1 : Int32).toUInt32 &&& Int32.toUInt32 31)).toInt32 &&& 1431655765)) : Int32).toUInt32 >>> ((2 : Int32).toUInt32 &&& Int32.toUInt32 31)).toInt32 &&& 858993459)) + (((((l0 - (((l0 : Int32).toUInt32 >>> ((1 : Int32).toUInt32 &&& Int32.toUInt32 31)).toInt32 &&& 1431655765)) &&& 858993459) + ((((l0 - (((l0 : Int32).toUInt32 >>> ((1 : Int32).toUInt32 &&& Int32.toUInt32 31)).toInt32 &&& 1431655765)) : Int32).toUInt32 >>> ((2 : Int32).toUInt32 &&& Int32.toUInt32 31)).toInt32 &&& 858993459)) : Int32).toUInt32 >>> ((4 : Int32).toUInt32 &&& Int32.toUInt32 31)).toInt32) &&& 252645135) : Int32).toUInt32 >>> ((8 : Int32).toUInt32 &&& Int32.toUInt32 31)).toInt32) + ((((((((l0 - (((l0 : Int32).toUInt32 >>> ((1 : Int32).toUInt32 &&& Int32.toUInt32 31)).toInt32 &&& 1431655765)) &&& 858993459) + ((((l0 - (((l0 : Int32).toUInt32 >>> ((1 : Int32).toUInt32 &&& Int32.toUInt32 31)).toInt32 &&& 1431655765)) : Int32).toUInt32 >>> ((2 : Int32).toUInt32 &&& Int32.toUInt32 31)).toInt32 &&& 858993459)) + (((((l0 - (((l0 : Int32).toUInt32 >>> ((1 : Int32).toUInt32 &&& Int32.toUInt32 31)).toInt32 &&& 1431655765)) &&& 858993459) + ((((l0 - (((l0 : Int32).toUInt32 >>> ((1 : Int32).toUInt32 &&& Int32.toUInt32 31)).toInt32 &&& 1431655765)) : Int32).toUInt32 >>> ((2 : Int32).toUInt32 &&& Int32.toUInt32 31)).toInt32 &&& 858993459)) : Int32).toUInt32 >>> ((4 : Int32).toUInt32 &&& Int32.toUInt32 31)).toInt32) &&& 252645135) + (((((((l0 - (((l0 : Int32).toUInt32 >>> ((1 : Int32).toUInt32 &&& Int32.toUInt32 31)).toInt32 &&& 1431655765)) &&& 858993459) + ((((l0 - (((l0 : Int32).toUInt32 >>> ((1 : Int32).toUInt32 &&& Int32.toUInt32 31)).toInt32 &&& 1431655765)) : Int32).toUInt32 >>> ((2 : Int32).toUInt32 &&& Int32.toUInt32 31)).toInt32 &&& 858993459)) + (((((l0 - (((l0 : Int32).toUInt32 >>> ((1 : Int32).toUInt32 &&& Int32.toUInt32 31)).toInt32 &&& 1431655765)) &&& 858993459) + ((((l0 - (((l0 : Int32).toUInt32 >>> ((1 : Int32).toUInt32 &&& Int32.toUInt32 31)).toInt32 &&& 1431655765)) : Int32).toUInt32 >>> ((2 : Int32).toUInt32 &&& Int32.toUInt32 31)).toInt32 &&& 858993459)) : Int32).toUInt32 >>> ((4 : Int32).toUInt32 &&& Int32.toUInt32 31)).toInt32) &&& 252645135) : Int32).toUInt32 >>> ((8 : Int32).toUInt32 &&& Int32.toUInt32 31)).toInt32) : Int32).toUInt32 >>> ((16 : Int32).toUInt32 &&& Int32.toUInt32 31)).toInt32)], [.int 63, .int (((((((l0 - (((l0 : Int32).toUInt32 >>> ((1 : Int32).toUInt32 &&& Int32.toUInt32 31)).toInt32 &&& 1431655765)) &&& 858993459) + ((((l0 - (((l0 : Int32).toUInt32 >>> ((1 : Int32).toUInt32 &&& Int32.toUInt32 31)).toInt32 &&& 1431655765)) : Int32).toUInt32 >>> ((2 : Int32).toUInt32 &&& Int32.toUInt32 31)).toInt32 &&& 858993459)) + (((((l0 - (((l0 : Int32).toUInt32 >>> ((1 : Int32).toUInt32 &&& Int32.toUInt32 31)).toInt32 &&& 1431655765)) &&& 858993459) + ((((l0 - (((l0 : Int32).toUInt32 >>> ((1 : Int32).toUInt32 &&& Int32.toUInt32 31)).toInt32 &&& 1431655765)) : Int32).toUInt32 >>> ((2 : Int32).toUInt32 &&& Int32.toUInt32 31)).toInt32 &&& 858993459)) : Int32).toUInt32 >>> ((4 : Int32).toUInt32 &&& Int32.toUInt32 31)).toInt32) &&& 252645135) + (((((((l0 - (((l0 : Int32).toUInt32 >>> ((1 : Int32).toUInt32 &&& Int32.toUInt32 31)).toInt32 &&& 1431655765)) &&& 858993459) + ((((l0 - (((l0 : Int32).toUInt32 >>> ((1 : Int32).toUInt32 &&& Int32.toUInt32 31)).toInt32 &&& 1431655765)) : Int32).toUInt32 >>> ((2 : Int32).toUInt32 &&& Int32.toUInt32 31)).toInt32 &&& 858993459)) + (((((l0 - (((l0 : Int32).toUInt32 >>> ((1 : Int32).toUInt32 &&& Int32.toUInt32 31)).toInt32 &&& 1431655765)) &&& 858993459) + ((((l0 - (((l0 : Int32).toUInt32 >>> ((1 : Int32).toUInt32 &&& Int32.toUInt32 31)).toInt32 &&& 1431655765)) : Int32).toUInt32 >>> ((2 : Int32).toUInt32 &&& Int32.toUInt32 31)).toInt32 &&& 858993459)) : Int32).toUInt32 >>> ((4 : Int32).toUInt32 &&& Int32.toUInt32 31)).toInt32) &&& 252645135) : Int32).toUInt32 >>> ((8 : Int32).toUInt32 &&& Int32.toUInt32 31)).toInt32) + ((((((((l0 - (((l0 : Int32).toUInt32 >>> ((1 : Int32).toUInt32 &&& Int32.toUInt32 31)).toInt32 &&& 1431655765)) &&& 858993459) + ((((l0 - (((l0 : Int32).toUInt32 >>> ((1 : Int32).toUInt32 &&& Int32.toUInt32 31)).toInt32 &&& 1431655765)) : Int32).toUInt32 >>> ((2 : Int32).toUInt32 &&& Int32.toUInt32 31)).toInt32 &&& 858993459)) + (((((l0 - (((l0 : Int32).toUInt32 >>> ((1 : Int32).toUInt32 &&& Int32.toUInt32 31)).toInt32 &&& 1431655765)) &&& 858993459) + ((((l0 - (((l0 : Int32).toUInt32 >>> ((1 : Int32).toUInt32 &&& Int32.toUInt32 31)).toInt32 &&& 1431655765)) : Int32).toUInt32 >>> ((2 : Int32).toUInt32 &&& Int32.toUInt32 31)).toInt32 &&& 858993459)) : Int32).toUInt32 >>> ((4 : Int32).toUInt32 &&& Int32.toUInt32 31)).toInt32) &&& 252645135) + (((((((l0 - (((l0 : Int32).toUInt32 >>> ((1 : Int32).toUInt32 &&& Int32.toUInt32 31)).toInt32 &&& 1431655765)) &&& 858993459) + ((((l0 - (((l0 : Int32).toUInt32 >>> ((1 : Int32).toUInt32 &&& Int32.toUInt32 31)).toInt32 &&& 1431655765)) : Int32).toUInt32 >>> ((2 : Int32).toUInt32 &&& Int32.toUInt32 31)).toInt32 &&& 858993459)) + (((((l0 - (((l0 : Int32).toUInt32 >>> ((1 : Int32).toUInt32 &&& Int32.toUInt32 31)).toInt32 &&& 1431655765)) &&& 858993459) + ((((l0 - (((l0 : Int32).toUInt32 >>> ((1 : Int32).toUInt32 &&& Int32.toUInt32 31)).toInt32 &&& 1431655765)) : Int32).toUInt32 >>> ((2 : Int32).toUInt32 &&& Int32.toUInt32 31)).toInt32 &&& 858993459)) : Int32).toUInt32 >>> ((4 : Int32).toUInt32 &&& Int32.toUInt32 31)).toInt32) &&& 252645135) : Int32).toUInt32 >>> ((8 : Int32).toUInt32 &&& Int32.toUInt32 31)).toInt32) : Int32).toUInt32 >>> ((16 : Int32).toUInt32 &&& Int32.toUInt32 31)).toInt32)], (sh, M, J))) f_202_49 rfl ?_
  refine ev_nx (s1 := (202, 52, [.int (((((((l0 - (((l0 : Int32).toUInt32 >>> ((1 : Int32).toUInt32 &&& Int32.toUInt32 31)).toInt32 &&& 1431655765)) &&& 858993459) + ((((l0 - (((l0 : Int32).toUInt32 >>> ((1 : Int32).toUInt32 &&& Int32.toUInt32 31)).toInt32 &&& 1431655765)) : Int32).toUInt32 >>> ((2 : Int32).toUInt32 &&& Int32.toUInt32 31)).toInt32 &&& 858993459)) + (((((l0 - (((l0 : Int32).toUInt32 >>> ((1 : Int32).toUInt32 &&& Int32.toUInt32 31)).toInt32 &&& 1431655765)) &&& 858993459) + ((((l0 - (((l0 : Int32).toUInt32 >>> ((1 : Int32).toUInt32 &&& Int32.toUInt32 31)).toInt32 &&& 1431655765)) : Int32).toUInt32 >>> ((2 : Int32).toUInt32 &&& Int32.toUInt32 31)).toInt32 &&& 858993459)) : Int32).toUInt32 >>> ((4 : Int32).toUInt32 &&& Int32.toUInt32 31)).toInt32) &&& 252645135) + (((((((l0 - (((l0 : Int32).toUInt32 >>> ((1 : Int32).toUInt32 &&& Int32.toUInt32 31)).toInt32 &&& 1431655765)) &&& 858993459) + ((((l0 - (((l0 : Int32).toUInt32 >>> ((1 : Int32).toUInt32 &&& Int32.toUInt32 31)).toInt32 &&& 1431655765)) : Int32).toUInt32 >>> ((2 : Int32).toUInt32 &&& Int32.toUInt32 31)).toInt32 &&& 858993459)) + (((((l0 - (((l0 : Int32).toUInt32 >>> ((1 : Int32).toUInt32 &&& Int32.toUInt32 31)).toInt32 &&& 1431655765)) &&& 858993459) + ((((l0 - (((l0 : Int32).toUInt32 >>> ((1 : Int32).toUInt32 &&& Int32.toUInt32 31)).toInt32 &&& 1431655765)) : Int32).toUInt32 >>> ((2 : Int32).toUInt32 &&& Int32.toUInt32 31)).toInt32 &&& 858993459)) : Int32).toUInt32 >>> ((4 : Int32).toUInt32 &&& Int32.toUInt32 31)).toInt32) &&& 252645135) : Int32).toUInt32 >>> ((8 : Int32).toUInt32 &&& Int32.toUInt32 31)).toInt32) + ((((((((l0 - (((l0 : Int32).toUInt32 >>> ((1 : Int32).toUInt32 &&& Int32.toUInt32 31)).toInt32 &&& 1431655765)) &&& 858993459) + ((((l0 - (((l0 : Int32).toUInt32 >>> ((1 : Int32).toUInt32 &&& Int32.toUInt32 31)).toInt32 &&& 1431655765)) : Int32).toUInt32 >>> ((2 : Int32).toUInt32 &&& Int32.toUInt32 31)).toInt32 &&& 858993459)) + (((((l0 - (((l0 : Int32).toUInt32 >>> ((1 : Int32).toUInt32 &&& Int32.toUInt32 31)).toInt32 &&& 1431655765)) &&& 858993459) + ((((l0 - (((l0 : Int32).toUInt32 >>> ((1 : Int32).toUInt32 &&& Int32.toUInt32 31)).toInt32 &&& 1431655765)) : Int32).toUInt32 >>> ((2 : Int32).toUInt32 &&& Int32.toUInt32 31)).toInt32 &&& 858993459)) : Int32).toUInt32 >>> ((4 : Int32).toUInt32 &&& Int32.toUInt32 31)).toInt32) &&& 252645135) + (((((((l0 - (((l0 : Int32).toUInt32 >>> ((1 : Int32).toUInt32 &&& Int32.toUInt32 31)).toInt32 &&& 1431655765)) &&& 858993459) + ((((l0 - (((l0 : Int32).toUInt32 >>> ((1 : Int32).toUInt32 &&& Int32.toUInt32 31)).toInt32 &&& 1431655765)) : Int32).toUInt32 >>> ((2 : Int32).toUInt32 &&& Int32.toUInt32 31)).toInt32 &&& 858993459)) + (((((l0 - (((l0 : Int32).toUInt32 >>> ((1 : Int32).toUInt32 &&& Int32.toUInt32 31)).toInt32 &&& 1431655765)) &&& 858993459) + ((((l0 - (((l0 : Int32).toUInt32 >>> ((1 : Int32).toUInt32 &&& Int32.toUInt32 31)).toInt32 &&& 1431655765)) : Int32).toUInt32 >>> ((2 : Int32).toUInt32 &&& Int32.toUInt32 31)).toInt32 &&& 858993459)) : Int32).toUInt32 >>> ((4 : Int32).toUInt32 &&& Int32.toUInt32 31)).toInt32) &&& 252645135) : Int32).toUInt32 >>> ((8 : Int32).toUInt32 &&& Int32.toUInt32 31)).toInt32) : Int32).toUInt32 >>> ((16 : Int32).toUInt32 &&& Int32.toUInt32 31)).toInt32)], [.int ((((((((l0 - (((l0 : Int32).toUInt32 >>> ((1 : Int32).toUInt32 &&& Int32.toUInt32 31)).toInt32 &&& 1431655765)) &&& 858993459) + ((((l0 - (((l0 : Int32).toUInt32 >>> ((1 : Int32).toUInt32 &&& Int32.toUInt32 31)).toInt32 &&& 1431655765)) : Int32).toUInt32 >>> ((2 : Int32).toUInt32 &&& Int32.toUInt32 31)).toInt32 &&& 858993459)) + (((((l0 - (((l0 : Int32).toUInt32 >>> ((1 : Int32).toUInt32 &&& Int32.toUInt32 31)).toInt32 &&& 1431655765)) &&& 858993459) + ((((l0 - (((l0 : Int32).toUInt32 >>> ((1 : Int32).toUInt32 &&& Int32.toUInt32 31)).toInt32 &&& 1431655765)) : Int32).toUInt32 >>> ((2 : Int32).toUInt32 &&& Int32.toUInt32 31)).toInt32 &&& 858993459)) : Int32).toUInt32 >>> ((4 : Int32).toUInt32 &&& Int32.toUInt32 31)).toInt32) &&& 252645135) + (((((((l0 - (((l0 : Int32).toUInt32 >>> ((1 : Int32).toUInt32 &&& Int32.toUInt32 31)).toInt32 &&& 1431655765)) &&& 858993459) + ((((l0 - (((l0 : Int32).toUInt32 >>> ((1 : Int32).toUInt32 &&& Int32.toUInt32 31)).toInt32 &&& 1431655765)) : Int32).toUInt32 >>> ((2 : Int32).toUInt32 &&& Int32.toUInt32 31)).toInt32 &&& 858993459)) + (((((l0 - (((l0 : Int32).toUInt32 >>> ((1 : Int32).toUInt32 &&& Int32.toUInt32 31)).toInt32 &&& 1431655765)) &&& 858993459) + ((((l0 - (((l0 : Int32).toUInt32 >>> ((1 : Int32).toUInt32 &&& Int32.toUInt32 31)).toInt32 &&& 1431655765)) : Int32).toUInt32 >>> ((2 : Int32).toUInt32 &&& Int32.toUInt32 31)).toInt32 &&& 858993459)) : Int32).toUInt32 >>> ((4 : Int32).toUInt32 &&& Int32.toUInt32 31)).toInt32) &&& 252645135) : Int32).toUInt32 >>> ((8 : Int32).toUInt32 &&& Int32.toUInt32 31)).toInt32) + ((((((((l0 - (((l0 : Int32).toUInt32 >>> ((1 : Int32).toUInt32 &&& Int32.toUInt32 31)).toInt32 &&& 1431655765)) &&& 858993459) + ((((l0 - (((l0 : Int32).toUInt32 >>> ((1 : Int32).toUInt32 &&& Int32.toUInt32 31)).toInt32 &&& 1431655765)) : Int32).toUInt32 >>> ((2 : Int32).toUInt32 &&& Int32.toUInt32 31)).toInt32 &&& 858993459)) + (((((l0 - (((l0 : Int32).toUInt32 >>> ((1 : Int32).toUInt32 &&& Int32.toUInt32 31)).toInt32 &&& 1431655765)) &&& 858993459) + ((((l0 - (((l0 : Int32).toUInt32 >>> ((1 : Int32).toUInt32 &&& Int32.toUInt32 31)).toInt32 &&& 1431655765)) : Int32).toUInt32 >>> ((2 : Int32).toUInt32 &&& Int32.toUInt32 31)).toInt32 &&& 858993459)) : Int32).toUInt32 >>> ((4 : Int32).toUInt32 &&& Int32.toUInt32 31)).toInt32) &&& 252645135) + (((((((l0 - (((l0 : Int32).toUInt32 >>> ((1 : Int32).toUInt32 &&& Int32.toUInt32 31)).toInt32 &&& 1431655765)) &&& 858993459) + ((((l0 - (((l0 : Int32).toUInt32 >>> ((1 : Int32).toUInt32 &&& Int32.toUInt32 31)).toInt32 &&& 1431655765)) : Int32).toUInt32 >>> ((2 : Int32).toUInt32 &&& Int32.toUInt32 31)).toInt32 &&& 858993459)) + (((((l0 - (((l0 : Int32).toUInt32 >>> ((1 : Int32).toUInt32 &&& Int32.toUInt32 31)).toInt32 &&& 1431655765)) &&& 858993459) + ((((l0 - (((l0 : Int32).toUInt32 >>> ((1 : Int32).toUInt32 &&& Int32.toUInt32 31)).toInt32 &&& 1431655765)) : Int32).toUInt32 >>> ((2 : Int32).toUInt32 &&& Int32.toUInt32 31)).toInt32 &&& 858993459)) : Int32).toUInt32 >>> ((4 : Int32).toUInt32 &&& Int32.toUInt32 31)).toInt32) &&& 252645135) : Int32).toUInt32 >>> ((8 : Int32).toUInt32 &&& Int32.toUInt32 31)).toInt32) : Int32).toUInt32 >>> ((16 : Int32).toUInt32 &&& Int32.toUInt32 31)).toInt32) &&& 63)], (sh, M, J))) f_202_51 rfl ?_
  exact ev_r1 f_202_52 rfl
