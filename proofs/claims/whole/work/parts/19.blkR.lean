theorem f_132_0 : xfind (xnth xTs 132) 0 = some (0, .lload_n 0, 1, (0, 0, 0, 0), .null, [], 0, 0, []) := rfl
theorem f_132_1 : xfind (xnth xTs 132) 1 = some (1, .lload_n 2, 1, (0, 0, 0, 0), .null, [], 0, 0, []) := rfl
theorem f_132_2 : xfind (xnth xTs 132) 2 = some (2, .lcmp, 1, (0, 0, 0, 0), .null, [], 0, 0, []) := rfl
theorem f_132_3 : xfind (xnth xTs 132) 3 = some (3, .ifCond .lt 14, 3, (0, 0, 0, 0), .null, [], 0, 0, []) := rfl
theorem f_132_6 : xfind (xnth xTs 132) 6 = some (6, .lload_n 0, 1, (0, 0, 0, 0), .null, [], 0, 0, []) := rfl
theorem f_132_7 : xfind (xnth xTs 132) 7 = some (7, .lload 4, 2, (0, 0, 0, 0), .null, [], 0, 0, []) := rfl
theorem f_132_9 : xfind (xnth xTs 132) 9 = some (9, .lcmp, 1, (0, 0, 0, 0), .null, [], 0, 0, []) := rfl
theorem f_132_10 : xfind (xnth xTs 132) 10 = some (10, .ifCond .gt 7, 3, (0, 0, 0, 0), .null, [], 0, 0, []) := rfl
theorem f_132_13 : xfind (xnth xTs 132) 13 = some (13, .iconst 1, 1, (0, 0, 0, 0), (.int 1), [], 0, 0, []) := rfl
theorem f_132_14 : xfind (xnth xTs 132) 14 = some (14, .goto 4, 3, (0, 0, 0, 0), .null, [], 0, 0, []) := rfl
theorem f_132_17 : xfind (xnth xTs 132) 17 = some (17, .iconst 0, 1, (0, 0, 0, 0), (.int 0), [], 0, 0, []) := rfl
theorem f_132_18 : xfind (xnth xTs 132) 18 = some (18, .ireturn, 1, (1, 0, 0, 0), .null, [], 0, 0, []) := rfl
theorem b_R_in_0 (sh : xSh) (M : Nat → Nat → Int32) (J : Nat → Nat → Int64) (l0 : Int64) (l2 : Int64) (l4 : Int64) : ev (132, 0, [.long l0, .null, .long l2, .null, .long l4, .null], [], (sh, M, J)) = (bif decide ((lg_cmp l0 l2) < 0) then some (some (.int 0), (sh, M, J)) else bif decide (0 < (lg_cmp l0 l4)) then some (some (.int 0), (sh, M, J)) else some (some (.int 1), (sh, M, J))) := by
  refine ev_nx (s1 := (132, 1, [.long l0, .null, .long l2, .null, .long l4, .null], [.long l0], (sh, M, J))) f_132_0 rfl ?_
  refine ev_nx (s1 := (132, 2, [.long l0, .null, .long l2, .null, .long l4, .null], [.long l2, .long l0], (sh, M, J))) f_132_1 rfl ?_
  refine ev_nx (s1 := (132, 3, [.long l0, .null, .long l2, .null, .long l4, .null], [.int (lg_cmp l0 l2)], (sh, M, J))) f_132_2 rfl ?_
  refine ev_br (s1 := (132, 17, [.long l0, .null, .long l2, .null, .long l4, .null], [], (sh, M, J))) (s2 := (132, 6, [.long l0, .null, .long l2, .null, .long l4, .null], [], (sh, M, J))) f_132_3 rfl ?_ ?_
  · refine ev_nx (s1 := (132, 18, [.long l0, .null, .long l2, .null, .long l4, .null], [.int 0], (sh, M, J))) f_132_17 rfl ?_
    exact ev_r1 f_132_18 rfl
  · refine ev_nx (s1 := (132, 7, [.long l0, .null, .long l2, .null, .long l4, .null], [.long l0], (sh, M, J))) f_132_6 rfl ?_
    refine ev_nx (s1 := (132, 9, [.long l0, .null, .long l2, .null, .long l4, .null], [.long l4, .long l0], (sh, M, J))) f_132_7 rfl ?_
    refine ev_nx (s1 := (132, 10, [.long l0, .null, .long l2, .null, .long l4, .null], [.int (lg_cmp l0 l4)], (sh, M, J))) f_132_9 rfl ?_
    refine ev_br (s1 := (132, 17, [.long l0, .null, .long l2, .null, .long l4, .null], [], (sh, M, J))) (s2 := (132, 13, [.long l0, .null, .long l2, .null, .long l4, .null], [], (sh, M, J))) f_132_10 rfl ?_ ?_
    · refine ev_nx (s1 := (132, 18, [.long l0, .null, .long l2, .null, .long l4, .null], [.int 0], (sh, M, J))) f_132_17 rfl ?_
      exact ev_r1 f_132_18 rfl
    · refine ev_nx (s1 := (132, 14, [.long l0, .null, .long l2, .null, .long l4, .null], [.int 1], (sh, M, J))) f_132_13 rfl ?_
      refine ev_nx (s1 := (132, 18, [.long l0, .null, .long l2, .null, .long l4, .null], [.int 1], (sh, M, J))) f_132_14 rfl ?_
      exact ev_r1 f_132_18 rfl
theorem f_133_0 : xfind (xnth xTs 133) 0 = some (0, .iload_n 0, 1, (0, 0, 0, 0), .null, [], 0, 0, []) := rfl
theorem f_133_1 : xfind (xnth xTs 133) 1 = some (1, .iload_n 1, 1, (0, 0, 0, 0), .null, [], 0, 0, []) := rfl
theorem f_133_2 : xfind (xnth xTs 133) 2 = some (2, .ishr, 1, (0, 0, 0, 0), .null, [], 0, 0, []) := rfl
theorem f_133_3 : xfind (xnth xTs 133) 3 = some (3, .iconst 1, 1, (0, 0, 0, 0), (.int 1), [], 0, 0, []) := rfl
theorem f_133_4 : xfind (xnth xTs 133) 4 = some (4, .iand, 1, (0, 0, 0, 0), .null, [], 0, 0, []) := rfl
theorem f_133_5 : xfind (xnth xTs 133) 5 = some (5, .iconst 1, 1, (0, 0, 0, 0), (.int 1), [], 0, 0, []) := rfl
theorem f_133_6 : xfind (xnth xTs 133) 6 = some (6, .if_icmp .ne 7, 3, (0, 0, 0, 0), .null, [], 0, 0, []) := rfl
theorem f_133_9 : xfind (xnth xTs 133) 9 = some (9, .iconst 1, 1, (0, 0, 0, 0), (.int 1), [], 0, 0, []) := rfl
theorem f_133_10 : xfind (xnth xTs 133) 10 = some (10, .goto 4, 3, (0, 0, 0, 0), .null, [], 0, 0, []) := rfl
theorem f_133_13 : xfind (xnth xTs 133) 13 = some (13, .iconst 0, 1, (0, 0, 0, 0), (.int 0), [], 0, 0, []) := rfl
theorem f_133_14 : xfind (xnth xTs 133) 14 = some (14, .ireturn, 1, (1, 0, 0, 0), .null, [], 0, 0, []) := rfl
theorem b_R_has_0 (sh : xSh) (M : Nat → Nat → Int32) (J : Nat → Nat → Int64) (l0 : Int32) (l1 : Int32) : ev (133, 0, [.int l0, .int l1], [], (sh, M, J)) = (bif !decide ((((l0 : Int32) >>> (l1 &&& 31)) &&& 1) = 1) then some (some (.int 0), (sh, M, J)) else some (some (.int 1), (sh, M, J))) := by
  refine ev_nx (s1 := (133, 1, [.int l0, .int l1], [.int l0], (sh, M, J))) f_133_0 rfl ?_
  refine ev_nx (s1 := (133, 2, [.int l0, .int l1], [.int l1, .int l0], (sh, M, J))) f_133_1 rfl ?_
  refine ev_nx (s1 := (133, 3, [.int l0, .int l1], [.int ((l0 : Int32) >>> (l1 &&& 31))], (sh, M, J))) f_133_2 rfl ?_
  refine ev_nx (s1 := (133, 4, [.int l0, .int l1], [.int 1, .int ((l0 : Int32) >>> (l1 &&& 31))], (sh, M, J))) f_133_3 rfl ?_
  refine ev_nx (s1 := (133, 5, [.int l0, .int l1], [.int (((l0 : Int32) >>> (l1 &&& 31)) &&& 1)], (sh, M, J))) f_133_4 rfl ?_
  refine ev_nx (s1 := (133, 6, [.int l0, .int l1], [.int 1, .int (((l0 : Int32) >>> (l1 &&& 31)) &&& 1)], (sh, M, J))) f_133_5 rfl ?_
  refine ev_br (s1 := (133, 13, [.int l0, .int l1], [], (sh, M, J))) (s2 := (133, 9, [.int l0, .int l1], [], (sh, M, J))) f_133_6 rfl ?_ ?_
  · refine ev_nx (s1 := (133, 14, [.int l0, .int l1], [.int 0], (sh, M, J))) f_133_13 rfl ?_
    exact ev_r1 f_133_14 rfl
  · refine ev_nx (s1 := (133, 10, [.int l0, .int l1], [.int 1], (sh, M, J))) f_133_9 rfl ?_
    refine ev_nx (s1 := (133, 14, [.int l0, .int l1], [.int 1], (sh, M, J))) f_133_10 rfl ?_
    exact ev_r1 f_133_14 rfl
theorem f_134_0 : xfind (xnth xTs 134) 0 = some (0, .iconst 0, 1, (0, 0, 0, 0), (.int 0), [], 0, 0, []) := rfl
theorem f_134_1 : xfind (xnth xTs 134) 1 = some (1, .istore_n 1, 1, (0, 0, 0, 0), .null, [], 0, 0, []) := rfl
theorem f_134_2 : xfind (xnth xTs 134) 2 = some (2, .iload_n 0, 1, (0, 0, 0, 0), .null, [], 0, 0, []) := rfl
theorem f_134_3 : xfind (xnth xTs 134) 3 = some (3, .istore_n 2, 1, (0, 0, 0, 0), .null, [], 0, 0, []) := rfl
theorem f_134_4 : xfind (xnth xTs 134) 4 = some (4, .iload_n 2, 1, (0, 0, 0, 0), .null, [], 0, 1, [0]) := rfl
theorem f_134_5 : xfind (xnth xTs 134) 5 = some (5, .ifCond .eq 15, 3, (0, 0, 0, 0), .null, [], 0, 0, []) := rfl
theorem f_134_8 : xfind (xnth xTs 134) 8 = some (8, .iinc 1 1, 3, (0, 0, 0, 0), .null, [], 0, 0, []) := rfl
theorem f_134_11 : xfind (xnth xTs 134) 11 = some (11, .iload_n 2, 1, (0, 0, 0, 0), .null, [], 0, 0, []) := rfl
theorem f_134_12 : xfind (xnth xTs 134) 12 = some (12, .iload_n 2, 1, (0, 0, 0, 0), .null, [], 0, 0, []) := rfl
theorem f_134_13 : xfind (xnth xTs 134) 13 = some (13, .iconst 1, 1, (0, 0, 0, 0), (.int 1), [], 0, 0, []) := rfl
theorem f_134_14 : xfind (xnth xTs 134) 14 = some (14, .isub, 1, (0, 0, 0, 0), .null, [], 0, 0, []) := rfl
theorem f_134_15 : xfind (xnth xTs 134) 15 = some (15, .iand, 1, (0, 0, 0, 0), .null, [], 0, 0, []) := rfl
theorem f_134_16 : xfind (xnth xTs 134) 16 = some (16, .istore_n 2, 1, (0, 0, 0, 0), .null, [], 0, 0, []) := rfl
theorem f_134_17 : xfind (xnth xTs 134) 17 = some (17, .goto (-13), 3, (0, 0, 0, 0), .null, [], 0, 0, []) := rfl
theorem f_134_20 : xfind (xnth xTs 134) 20 = some (20, .iload_n 1, 1, (0, 0, 0, 0), .null, [], 0, 0, []) := rfl
theorem f_134_21 : xfind (xnth xTs 134) 21 = some (21, .ireturn, 1, (0, 0, 0, 0), .null, [], 0, 0, []) := rfl
theorem hd_134_4 : xhead 134 4 = some [0] := rfl
theorem b_R_bits_0 (sh : xSh) (M : Nat → Nat → Int32) (J : Nat → Nat → Int64) (l0 : Int32) : ev (134, 0, [.int l0, .null, .null], [], (sh, M, J)) = (ev (134, 4, [.null, .int 0, .int l0], [], (sh, M, J))) := by
  refine ev_nx (s1 := (134, 1, [.int l0, .null, .null], [.int 0], (sh, M, J))) f_134_0 rfl ?_
  refine ev_nx (s1 := (134, 2, [.int l0, .int 0, .null], [], (sh, M, J))) f_134_1 rfl ?_
  refine ev_nx (s1 := (134, 3, [.int l0, .int 0, .null], [.int l0], (sh, M, J))) f_134_2 rfl ?_
  refine ev_nx (s1 := (134, 4, [.int l0, .int 0, .int l0], [], (sh, M, J))) f_134_3 rfl ?_
  exact (ev_kill hd_134_4).symm
theorem b_R_bits_4 (sh : xSh) (M : Nat → Nat → Int32) (J : Nat → Nat → Int64) (l1 : Int32) (l2 : Int32) : ev (134, 4, [.null, .int l1, .int l2], [], (sh, M, J)) = (bif decide (l2 = 0) then some (some (.int l1), (sh, M, J)) else ev (134, 4, [.null, .int (l1 + 1), .int (l2 &&& (l2 - 1))], [], (sh, M, J))) := by
  refine ev_nx (s1 := (134, 5, [.null, .int l1, .int l2], [.int l2], (sh, M, J))) f_134_4 rfl ?_
  refine ev_br (s1 := (134, 20, [.null, .int l1, .int l2], [], (sh, M, J))) (s2 := (134, 8, [.null, .int l1, .int l2], [], (sh, M, J))) f_134_5 rfl ?_ ?_
  · refine ev_nx (s1 := (134, 21, [.null, .int l1, .int l2], [.int l1], (sh, M, J))) f_134_20 rfl ?_
    exact ev_r1 f_134_21 rfl
  · refine ev_nx (s1 := (134, 11, [.null, .int (l1 + 1), .int l2], [], (sh, M, J))) f_134_8 rfl ?_
    refine ev_nx (s1 := (134, 12, [.null, .int (l1 + 1), .int l2], [.int l2], (sh, M, J))) f_134_11 rfl ?_
    refine ev_nx (s1 := (134, 13, [.null, .int (l1 + 1), .int l2], [.int l2, .int l2], (sh, M, J))) f_134_12 rfl ?_
    refine ev_nx (s1 := (134, 14, [.null, .int (l1 + 1), .int l2], [.int 1, .int l2, .int l2], (sh, M, J))) f_134_13 rfl ?_
    refine ev_nx (s1 := (134, 15, [.null, .int (l1 + 1), .int l2], [.int (l2 - 1), .int l2], (sh, M, J))) f_134_14 rfl ?_
    refine ev_nx (s1 := (134, 16, [.null, .int (l1 + 1), .int l2], [.int (l2 &&& (l2 - 1))], (sh, M, J))) f_134_15 rfl ?_
    refine ev_nx (s1 := (134, 17, [.null, .int (l1 + 1), .int (l2 &&& (l2 - 1))], [], (sh, M, J))) f_134_16 rfl ?_
    refine ev_nx (s1 := (134, 4, [.null, .int (l1 + 1), .int (l2 &&& (l2 - 1))], [], (sh, M, J))) f_134_17 rfl ?_
    exact rfl
theorem f_135_0 : xfind (xnth xTs 135) 0 = some (0, .iconst 0, 1, (0, 0, 0, 0), (.int 0), [], 0, 0, []) := rfl
theorem f_135_1 : xfind (xnth xTs 135) 1 = some (1, .istore_n 1, 1, (0, 0, 0, 0), .null, [], 0, 0, []) := rfl
theorem f_135_2 : xfind (xnth xTs 135) 2 = some (2, .iload_n 1, 1, (0, 0, 0, 0), .null, [], 0, 1, []) := rfl
theorem f_135_3 : xfind (xnth xTs 135) 3 = some (3, .bipush 41, 2, (0, 0, 0, 0), (.int 41), [], 0, 0, []) := rfl
theorem f_135_5 : xfind (xnth xTs 135) 5 = some (5, .if_icmp .ge 50, 3, (0, 0, 0, 0), .null, [], 0, 0, []) := rfl
theorem f_135_8 : xfind (xnth xTs 135) 8 = some (8, .aload_n 0, 1, (0, 0, 0, 0), .null, [], 0, 0, []) := rfl
theorem f_135_9 : xfind (xnth xTs 135) 9 = some (9, .iload_n 1, 1, (0, 0, 0, 0), .null, [], 0, 0, []) := rfl
theorem f_135_10 : xfind (xnth xTs 135) 10 = some (10, .iload_n 1, 1, (0, 0, 0, 0), .null, [], 0, 0, []) := rfl
theorem f_135_11 : xfind (xnth xTs 135) 11 = some (11, .i2l, 1, (0, 0, 0, 0), .null, [], 0, 0, []) := rfl
theorem f_135_12 : xfind (xnth xTs 135) 12 = some (12, .ldc2_w 64, 3, (0, 0, 0, 0), (.long 5), [], 895, 0, []) := rfl
theorem f_135_15 : xfind (xnth xTs 135) 15 = some (15, .ldc2_w 66, 3, (0, 0, 0, 0), (.long 9), [], 896, 0, []) := rfl
theorem f_135_18 : xfind (xnth xTs 135) 18 = some (18, .invokestatic 68, 3, (132, 3, 9, 6), .null, [], 897, 0, []) := rfl
theorem f_135_21 : xfind (xnth xTs 135) 21 = some (21, .ifCond .eq 8, 3, (0, 0, 0, 0), .null, [], 0, 0, []) := rfl
theorem f_135_24 : xfind (xnth xTs 135) 24 = some (24, .bipush 10, 2, (0, 0, 0, 0), (.int 10), [], 0, 0, []) := rfl
theorem f_135_26 : xfind (xnth xTs 135) 26 = some (26, .goto 22, 3, (0, 0, 0, 0), .null, [], 0, 0, []) := rfl
theorem f_135_29 : xfind (xnth xTs 135) 29 = some (29, .iload_n 1, 1, (0, 0, 0, 0), .null, [], 0, 0, []) := rfl
theorem f_135_30 : xfind (xnth xTs 135) 30 = some (30, .i2l, 1, (0, 0, 0, 0), .null, [], 0, 0, []) := rfl
theorem f_135_31 : xfind (xnth xTs 135) 31 = some (31, .ldc2_w 72, 3, (0, 0, 0, 0), (.long 15), [], 900, 0, []) := rfl
theorem f_135_34 : xfind (xnth xTs 135) 34 = some (34, .ldc2_w 74, 3, (0, 0, 0, 0), (.long 19), [], 901, 0, []) := rfl
theorem f_135_37 : xfind (xnth xTs 135) 37 = some (37, .invokestatic 68, 3, (132, 3, 9, 6), .null, [], 897, 0, []) := rfl
theorem f_135_40 : xfind (xnth xTs 135) 40 = some (40, .ifCond .eq 7, 3, (0, 0, 0, 0), .null, [], 0, 0, []) := rfl
theorem f_135_43 : xfind (xnth xTs 135) 43 = some (43, .iconst 5, 1, (0, 0, 0, 0), (.int 5), [], 0, 0, []) := rfl
theorem f_135_44 : xfind (xnth xTs 135) 44 = some (44, .goto 4, 3, (0, 0, 0, 0), .null, [], 0, 0, []) := rfl
theorem f_135_47 : xfind (xnth xTs 135) 47 = some (47, .iconst 0, 1, (0, 0, 0, 0), (.int 0), [], 0, 0, []) := rfl
theorem f_135_48 : xfind (xnth xTs 135) 48 = some (48, .iastore, 1, (0, 0, 0, 0), .null, [], 0, 0, []) := rfl
theorem f_135_49 : xfind (xnth xTs 135) 49 = some (49, .iinc 1 1, 3, (0, 0, 0, 0), .null, [], 0, 0, []) := rfl
theorem f_135_52 : xfind (xnth xTs 135) 52 = some (52, .goto (-50), 3, (0, 0, 0, 0), .null, [], 0, 0, []) := rfl
theorem f_135_55 : xfind (xnth xTs 135) 55 = some (55, .return_, 1, (0, 0, 0, 0), .null, [], 0, 0, []) := rfl
theorem hd_135_2 : xhead 135 2 = some [] := rfl
theorem b_R_blank_0 (sh : xSh) (M : Nat → Nat → Int32) (J : Nat → Nat → Int64) (l0 : Nat) : ev (135, 0, [.ref l0, .null], [], (sh, M, J)) = (ev (135, 2, [.ref l0, .int 0], [], (sh, M, J))) := by
  refine ev_nx (s1 := (135, 1, [.ref l0, .null], [.int 0], (sh, M, J))) f_135_0 rfl ?_
  refine ev_nx (s1 := (135, 2, [.ref l0, .int 0], [], (sh, M, J))) f_135_1 rfl ?_
  exact rfl
theorem b_R_blank_2 (sh : xSh) (M : Nat → Nat → Int32) (J : Nat → Nat → Int64) (l0 : Nat) (l1 : Int32) : ev (135, 2, [.ref l0, .int l1], [], (sh, M, J)) = (bif decide (41 ≤ l1) then some (none, (sh, M, J)) else (ev (132, 0, [.long (l1 : Int32).toInt64, .null, .long 5, .null, .long 9, .null], [], (sh, M, J))).bind (fun r => ev (135, 21, [.ref l0, .int l1], r.1.toList ++ [.int l1, .ref l0], r.2))) := by
  refine ev_nx (s1 := (135, 3, [.ref l0, .int l1], [.int l1], (sh, M, J))) f_135_2 rfl ?_
  refine ev_nx (s1 := (135, 5, [.ref l0, .int l1], [.int 41, .int l1], (sh, M, J))) f_135_3 rfl ?_
  refine ev_br (s1 := (135, 55, [.ref l0, .int l1], [], (sh, M, J))) (s2 := (135, 8, [.ref l0, .int l1], [], (sh, M, J))) f_135_5 rfl ?_ ?_
  · exact ev_r1 f_135_55 rfl
  · refine ev_nx (s1 := (135, 9, [.ref l0, .int l1], [.ref l0], (sh, M, J))) f_135_8 rfl ?_
    refine ev_nx (s1 := (135, 10, [.ref l0, .int l1], [.int l1, .ref l0], (sh, M, J))) f_135_9 rfl ?_
    refine ev_nx (s1 := (135, 11, [.ref l0, .int l1], [.int l1, .int l1, .ref l0], (sh, M, J))) f_135_10 rfl ?_
    refine ev_nx (s1 := (135, 12, [.ref l0, .int l1], [.long (l1 : Int32).toInt64, .int l1, .ref l0], (sh, M, J))) f_135_11 rfl ?_
    refine ev_nx (s1 := (135, 15, [.ref l0, .int l1], [.long 5, .long (l1 : Int32).toInt64, .int l1, .ref l0], (sh, M, J))) f_135_12 rfl ?_
    refine ev_nx (s1 := (135, 18, [.ref l0, .int l1], [.long 9, .long 5, .long (l1 : Int32).toInt64, .int l1, .ref l0], (sh, M, J))) f_135_15 rfl ?_
    exact ev_c1 (s1 := (132, 0, [.long (l1 : Int32).toInt64, .null, .long 5, .null, .long 9, .null], [], (sh, M, J))) (k := (135, 21, [.ref l0, .int l1], [.int l1, .ref l0])) f_135_18 rfl
theorem b_R_blank_21 (sh : xSh) (M : Nat → Nat → Int32) (J : Nat → Nat → Int64) (l0 : Nat) (l1 : Int32) (k0 : Int32) (k1 : Int32) (k2 : Nat) : ev (135, 21, [.ref l0, .int l1], [.int k0, .int k1, .ref k2], (sh, M, J)) = (bif decide (k0 = 0) then (ev (132, 0, [.long (l1 : Int32).toInt64, .null, .long 15, .null, .long 19, .null], [], (sh, M, J))).bind (fun r => ev (135, 40, [.ref l0, .int l1], r.1.toList ++ [.int k1, .ref k2], r.2)) else bif (decide ((sh.2.2.1 k2).1 = 11) && xin k1 (sh.2.2.1 k2).2) then ev (135, 2, [.ref l0, .int (l1 + 1)], [], (sh, (xu M k2 (k1 : Int32).toNatClampNeg 10), J)) else none) := by
  refine ev_br (s1 := (135, 29, [.ref l0, .int l1], [.int k1, .ref k2], (sh, M, J))) (s2 := (135, 24, [.ref l0, .int l1], [.int k1, .ref k2], (sh, M, J))) f_135_21 rfl ?_ ?_
  · refine ev_nx (s1 := (135, 30, [.ref l0, .int l1], [.int l1, .int k1, .ref k2], (sh, M, J))) f_135_29 rfl ?_
    refine ev_nx (s1 := (135, 31, [.ref l0, .int l1], [.long (l1 : Int32).toInt64, .int k1, .ref k2], (sh, M, J))) f_135_30 rfl ?_
    refine ev_nx (s1 := (135, 34, [.ref l0, .int l1], [.long 15, .long (l1 : Int32).toInt64, .int k1, .ref k2], (sh, M, J))) f_135_31 rfl ?_
    refine ev_nx (s1 := (135, 37, [.ref l0, .int l1], [.long 19, .long 15, .long (l1 : Int32).toInt64, .int k1, .ref k2], (sh, M, J))) f_135_34 rfl ?_
    exact ev_c1 (s1 := (132, 0, [.long (l1 : Int32).toInt64, .null, .long 15, .null, .long 19, .null], [], (sh, M, J))) (k := (135, 40, [.ref l0, .int l1], [.int k1, .ref k2])) f_135_37 rfl
  · refine ev_nx (s1 := (135, 26, [.ref l0, .int l1], [.int 10, .int k1, .ref k2], (sh, M, J))) f_135_24 rfl ?_
    refine ev_nx (s1 := (135, 48, [.ref l0, .int l1], [.int 10, .int k1, .ref k2], (sh, M, J))) f_135_26 rfl ?_
    refine ev_gd (s1 := (135, 49, [.ref l0, .int l1], [], (sh, (xu M k2 (k1 : Int32).toNatClampNeg 10), J))) f_135_48 rfl ?_
    refine ev_nx (s1 := (135, 52, [.ref l0, .int (l1 + 1)], [], (sh, (xu M k2 (k1 : Int32).toNatClampNeg 10), J))) f_135_49 rfl ?_
    refine ev_nx (s1 := (135, 2, [.ref l0, .int (l1 + 1)], [], (sh, (xu M k2 (k1 : Int32).toNatClampNeg 10), J))) f_135_52 rfl ?_
    exact rfl
theorem b_R_blank_40 (sh : xSh) (M : Nat → Nat → Int32) (J : Nat → Nat → Int64) (l0 : Nat) (l1 : Int32) (k0 : Int32) (k1 : Int32) (k2 : Nat) : ev (135, 40, [.ref l0, .int l1], [.int k0, .int k1, .ref k2], (sh, M, J)) = (bif decide (k0 = 0) then bif (decide ((sh.2.2.1 k2).1 = 11) && xin k1 (sh.2.2.1 k2).2) then ev (135, 2, [.ref l0, .int (l1 + 1)], [], (sh, (xu M k2 (k1 : Int32).toNatClampNeg 0), J)) else none else bif (decide ((sh.2.2.1 k2).1 = 11) && xin k1 (sh.2.2.1 k2).2) then ev (135, 2, [.ref l0, .int (l1 + 1)], [], (sh, (xu M k2 (k1 : Int32).toNatClampNeg 5), J)) else none) := by
  refine ev_br (s1 := (135, 47, [.ref l0, .int l1], [.int k1, .ref k2], (sh, M, J))) (s2 := (135, 43, [.ref l0, .int l1], [.int k1, .ref k2], (sh, M, J))) f_135_40 rfl ?_ ?_
  · refine ev_nx (s1 := (135, 48, [.ref l0, .int l1], [.int 0, .int k1, .ref k2], (sh, M, J))) f_135_47 rfl ?_
    refine ev_gd (s1 := (135, 49, [.ref l0, .int l1], [], (sh, (xu M k2 (k1 : Int32).toNatClampNeg 0), J))) f_135_48 rfl ?_
    refine ev_nx (s1 := (135, 52, [.ref l0, .int (l1 + 1)], [], (sh, (xu M k2 (k1 : Int32).toNatClampNeg 0), J))) f_135_49 rfl ?_
    refine ev_nx (s1 := (135, 2, [.ref l0, .int (l1 + 1)], [], (sh, (xu M k2 (k1 : Int32).toNatClampNeg 0), J))) f_135_52 rfl ?_
    exact rfl
  · refine ev_nx (s1 := (135, 44, [.ref l0, .int l1], [.int 5, .int k1, .ref k2], (sh, M, J))) f_135_43 rfl ?_
    refine ev_nx (s1 := (135, 48, [.ref l0, .int l1], [.int 5, .int k1, .ref k2], (sh, M, J))) f_135_44 rfl ?_
    refine ev_gd (s1 := (135, 49, [.ref l0, .int l1], [], (sh, (xu M k2 (k1 : Int32).toNatClampNeg 5), J))) f_135_48 rfl ?_
    refine ev_nx (s1 := (135, 52, [.ref l0, .int (l1 + 1)], [], (sh, (xu M k2 (k1 : Int32).toNatClampNeg 5), J))) f_135_49 rfl ?_
    refine ev_nx (s1 := (135, 2, [.ref l0, .int (l1 + 1)], [], (sh, (xu M k2 (k1 : Int32).toNatClampNeg 5), J))) f_135_52 rfl ?_
    exact rfl
theorem f_136_0 : xfind (xnth xTs 136) 0 = some (0, .iconst 0, 1, (0, 0, 0, 0), (.int 0), [], 0, 0, []) := rfl
theorem f_136_1 : xfind (xnth xTs 136) 1 = some (1, .istore 5, 2, (0, 0, 0, 0), .null, [], 0, 0, []) := rfl
theorem f_136_3 : xfind (xnth xTs 136) 3 = some (3, .iload 5, 2, (0, 0, 0, 0), .null, [], 0, 1, []) := rfl
theorem f_136_5 : xfind (xnth xTs 136) 5 = some (5, .iload 4, 2, (0, 0, 0, 0), .null, [], 0, 0, []) := rfl
theorem f_136_7 : xfind (xnth xTs 136) 7 = some (7, .if_icmp .ge 21, 3, (0, 0, 0, 0), .null, [], 0, 0, []) := rfl
theorem f_136_10 : xfind (xnth xTs 136) 10 = some (10, .aload_n 2, 1, (0, 0, 0, 0), .null, [], 0, 0, []) := rfl
theorem f_136_11 : xfind (xnth xTs 136) 11 = some (11, .iload_n 3, 1, (0, 0, 0, 0), .null, [], 0, 0, []) := rfl
theorem f_136_12 : xfind (xnth xTs 136) 12 = some (12, .iload 5, 2, (0, 0, 0, 0), .null, [], 0, 0, []) := rfl
theorem f_136_14 : xfind (xnth xTs 136) 14 = some (14, .iadd, 1, (0, 0, 0, 0), .null, [], 0, 0, []) := rfl
theorem f_136_15 : xfind (xnth xTs 136) 15 = some (15, .aload_n 0, 1, (0, 0, 0, 0), .null, [], 0, 0, []) := rfl
theorem f_136_16 : xfind (xnth xTs 136) 16 = some (16, .iload_n 1, 1, (0, 0, 0, 0), .null, [], 0, 0, []) := rfl
theorem f_136_17 : xfind (xnth xTs 136) 17 = some (17, .iload 5, 2, (0, 0, 0, 0), .null, [], 0, 0, []) := rfl
theorem f_136_19 : xfind (xnth xTs 136) 19 = some (19, .iadd, 1, (0, 0, 0, 0), .null, [], 0, 0, []) := rfl
theorem f_136_20 : xfind (xnth xTs 136) 20 = some (20, .iaload, 1, (0, 0, 0, 0), .null, [], 0, 0, []) := rfl
theorem f_136_21 : xfind (xnth xTs 136) 21 = some (21, .iastore, 1, (0, 0, 0, 0), .null, [], 0, 0, []) := rfl
theorem f_136_22 : xfind (xnth xTs 136) 22 = some (22, .iinc 5 1, 3, (0, 0, 0, 0), .null, [], 0, 0, []) := rfl
theorem f_136_25 : xfind (xnth xTs 136) 25 = some (25, .goto (-22), 3, (0, 0, 0, 0), .null, [], 0, 0, []) := rfl
theorem f_136_28 : xfind (xnth xTs 136) 28 = some (28, .return_, 1, (0, 0, 0, 0), .null, [], 0, 0, []) := rfl
theorem hd_136_3 : xhead 136 3 = some [] := rfl
theorem b_R_copies_0 (sh : xSh) (M : Nat → Nat → Int32) (J : Nat → Nat → Int64) (l0 : Nat) (l1 : Int32) (l2 : Nat) (l3 : Int32) (l4 : Int32) : ev (136, 0, [.ref l0, .int l1, .ref l2, .int l3, .int l4, .null], [], (sh, M, J)) = (ev (136, 3, [.ref l0, .int l1, .ref l2, .int l3, .int l4, .int 0], [], (sh, M, J))) := by
  refine ev_nx (s1 := (136, 1, [.ref l0, .int l1, .ref l2, .int l3, .int l4, .null], [.int 0], (sh, M, J))) f_136_0 rfl ?_
  refine ev_nx (s1 := (136, 3, [.ref l0, .int l1, .ref l2, .int l3, .int l4, .int 0], [], (sh, M, J))) f_136_1 rfl ?_
  exact rfl
theorem b_R_copies_3 (sh : xSh) (M : Nat → Nat → Int32) (J : Nat → Nat → Int64) (l0 : Nat) (l1 : Int32) (l2 : Nat) (l3 : Int32) (l4 : Int32) (l5 : Int32) : ev (136, 3, [.ref l0, .int l1, .ref l2, .int l3, .int l4, .int l5], [], (sh, M, J)) = (bif decide (l4 ≤ l5) then some (none, (sh, M, J)) else bif (decide ((sh.2.2.1 l0).1 = 11) && xin (l1 + l5) (sh.2.2.1 l0).2) then bif (decide ((sh.2.2.1 l2).1 = 11) && xin (l3 + l5) (sh.2.2.1 l2).2) then ev (136, 3, [.ref l0, .int l1, .ref l2, .int l3, .int l4, .int (l5 + 1)], [], (sh, (xu M l2 ((l3 + l5) : Int32).toNatClampNeg (M l0 ((l1 + l5) : Int32).toNatClampNeg)), J)) else none else none) := by
  refine ev_nx (s1 := (136, 5, [.ref l0, .int l1, .ref l2, .int l3, .int l4, .int l5], [.int l5], (sh, M, J))) f_136_3 rfl ?_
  refine ev_nx (s1 := (136, 7, [.ref l0, .int l1, .ref l2, .int l3, .int l4, .int l5], [.int l4, .int l5], (sh, M, J))) f_136_5 rfl ?_
  refine ev_br (s1 := (136, 28, [.ref l0, .int l1, .ref l2, .int l3, .int l4, .int l5], [], (sh, M, J))) (s2 := (136, 10, [.ref l0, .int l1, .ref l2, .int l3, .int l4, .int l5], [], (sh, M, J))) f_136_7 rfl ?_ ?_
  · exact ev_r1 f_136_28 rfl
  · refine ev_nx (s1 := (136, 11, [.ref l0, .int l1, .ref l2, .int l3, .int l4, .int l5], [.ref l2], (sh, M, J))) f_136_10 rfl ?_
    refine ev_nx (s1 := (136, 12, [.ref l0, .int l1, .ref l2, .int l3, .int l4, .int l5], [.int l3, .ref l2], (sh, M, J))) f_136_11 rfl ?_
    refine ev_nx (s1 := (136, 14, [.ref l0, .int l1, .ref l2, .int l3, .int l4, .int l5], [.int l5, .int l3, .ref l2], (sh, M, J))) f_136_12 rfl ?_
    refine ev_nx (s1 := (136, 15, [.ref l0, .int l1, .ref l2, .int l3, .int l4, .int l5], [.int (l3 + l5), .ref l2], (sh, M, J))) f_136_14 rfl ?_
    refine ev_nx (s1 := (136, 16, [.ref l0, .int l1, .ref l2, .int l3, .int l4, .int l5], [.ref l0, .int (l3 + l5), .ref l2], (sh, M, J))) f_136_15 rfl ?_
    refine ev_nx (s1 := (136, 17, [.ref l0, .int l1, .ref l2, .int l3, .int l4, .int l5], [.int l1, .ref l0, .int (l3 + l5), .ref l2], (sh, M, J))) f_136_16 rfl ?_
    refine ev_nx (s1 := (136, 19, [.ref l0, .int l1, .ref l2, .int l3, .int l4, .int l5], [.int l5, .int l1, .ref l0, .int (l3 + l5), .ref l2], (sh, M, J))) f_136_17 rfl ?_
    refine ev_nx (s1 := (136, 20, [.ref l0, .int l1, .ref l2, .int l3, .int l4, .int l5], [.int (l1 + l5), .ref l0, .int (l3 + l5), .ref l2], (sh, M, J))) f_136_19 rfl ?_
    refine ev_gd (s1 := (136, 21, [.ref l0, .int l1, .ref l2, .int l3, .int l4, .int l5], [.int (M l0 ((l1 + l5) : Int32).toNatClampNeg), .int (l3 + l5), .ref l2], (sh, M, J))) f_136_20 rfl ?_
    refine ev_gd (s1 := (136, 22, [.ref l0, .int l1, .ref l2, .int l3, .int l4, .int l5], [], (sh, (xu M l2 ((l3 + l5) : Int32).toNatClampNeg (M l0 ((l1 + l5) : Int32).toNatClampNeg)), J))) f_136_21 rfl ?_
    refine ev_nx (s1 := (136, 25, [.ref l0, .int l1, .ref l2, .int l3, .int l4, .int (l5 + 1)], [], (sh, (xu M l2 ((l3 + l5) : Int32).toNatClampNeg (M l0 ((l1 + l5) : Int32).toNatClampNeg)), J))) f_136_22 rfl ?_
    refine ev_nx (s1 := (136, 3, [.ref l0, .int l1, .ref l2, .int l3, .int l4, .int (l5 + 1)], [], (sh, (xu M l2 ((l3 + l5) : Int32).toNatClampNeg (M l0 ((l1 + l5) : Int32).toNatClampNeg)), J))) f_136_25 rfl ?_
    exact rfl
theorem f_137_0 : xfind (xnth xTs 137) 0 = some (0, .iconst 0, 1, (0, 0, 0, 0), (.int 0), [], 0, 0, []) := rfl
theorem f_137_1 : xfind (xnth xTs 137) 1 = some (1, .istore_n 1, 1, (0, 0, 0, 0), .null, [], 0, 0, []) := rfl
theorem f_137_2 : xfind (xnth xTs 137) 2 = some (2, .iload_n 1, 1, (0, 0, 0, 0), .null, [], 0, 1, []) := rfl
theorem f_137_3 : xfind (xnth xTs 137) 3 = some (3, .bipush 62, 2, (0, 0, 0, 0), (.int 62), [], 0, 0, []) := rfl
theorem f_137_5 : xfind (xnth xTs 137) 5 = some (5, .if_icmp .ge 31, 3, (0, 0, 0, 0), .null, [], 0, 0, []) := rfl
theorem f_137_8 : xfind (xnth xTs 137) 8 = some (8, .aload_n 0, 1, (0, 0, 0, 0), .null, [], 0, 0, []) := rfl
theorem f_137_9 : xfind (xnth xTs 137) 9 = some (9, .getfield 16, 3, (9, 2, 1, 0), .null, [], 911, 0, []) := rfl
theorem f_137_12 : xfind (xnth xTs 137) 12 = some (12, .iload_n 1, 1, (0, 0, 0, 0), .null, [], 0, 0, []) := rfl
theorem f_137_13 : xfind (xnth xTs 137) 13 = some (13, .iload_n 1, 1, (0, 0, 0, 0), .null, [], 0, 0, []) := rfl
theorem f_137_14 : xfind (xnth xTs 137) 14 = some (14, .bipush 20, 2, (0, 0, 0, 0), (.int 20), [], 0, 0, []) := rfl
theorem f_137_16 : xfind (xnth xTs 137) 16 = some (16, .if_icmp .ge 12, 3, (0, 0, 0, 0), .null, [], 0, 0, []) := rfl
theorem f_137_19 : xfind (xnth xTs 137) 19 = some (19, .aload_n 0, 1, (0, 0, 0, 0), .null, [], 0, 0, []) := rfl
theorem f_137_20 : xfind (xnth xTs 137) 20 = some (20, .getfield 7, 3, (9, 0, 1, 0), .null, [], 909, 0, []) := rfl
theorem f_137_23 : xfind (xnth xTs 137) 23 = some (23, .iconst 3, 1, (0, 0, 0, 0), (.int 3), [], 0, 0, []) := rfl
theorem f_137_24 : xfind (xnth xTs 137) 24 = some (24, .iaload, 1, (0, 0, 0, 0), .null, [], 0, 0, []) := rfl
theorem f_137_25 : xfind (xnth xTs 137) 25 = some (25, .goto 4, 3, (0, 0, 0, 0), .null, [], 0, 0, []) := rfl
theorem f_137_28 : xfind (xnth xTs 137) 28 = some (28, .iconst 0, 1, (0, 0, 0, 0), (.int 0), [], 0, 0, []) := rfl
theorem f_137_29 : xfind (xnth xTs 137) 29 = some (29, .iastore, 1, (0, 0, 0, 0), .null, [], 0, 0, []) := rfl
theorem f_137_30 : xfind (xnth xTs 137) 30 = some (30, .iinc 1 1, 3, (0, 0, 0, 0), .null, [], 0, 0, []) := rfl
theorem f_137_33 : xfind (xnth xTs 137) 33 = some (33, .goto (-31), 3, (0, 0, 0, 0), .null, [], 0, 0, []) := rfl
theorem f_137_36 : xfind (xnth xTs 137) 36 = some (36, .aload_n 0, 1, (0, 0, 0, 0), .null, [], 0, 0, []) := rfl
theorem f_137_37 : xfind (xnth xTs 137) 37 = some (37, .getfield 16, 3, (9, 2, 1, 0), .null, [], 911, 0, []) := rfl
theorem f_137_40 : xfind (xnth xTs 137) 40 = some (40, .bipush 20, 2, (0, 0, 0, 0), (.int 20), [], 0, 0, []) := rfl
theorem f_137_42 : xfind (xnth xTs 137) 42 = some (42, .aload_n 0, 1, (0, 0, 0, 0), .null, [], 0, 0, []) := rfl
theorem f_137_43 : xfind (xnth xTs 137) 43 = some (43, .getfield 7, 3, (9, 0, 1, 0), .null, [], 909, 0, []) := rfl
theorem f_137_46 : xfind (xnth xTs 137) 46 = some (46, .iconst 4, 1, (0, 0, 0, 0), (.int 4), [], 0, 0, []) := rfl
theorem f_137_47 : xfind (xnth xTs 137) 47 = some (47, .iaload, 1, (0, 0, 0, 0), .null, [], 0, 0, []) := rfl
theorem f_137_48 : xfind (xnth xTs 137) 48 = some (48, .iastore, 1, (0, 0, 0, 0), .null, [], 0, 0, []) := rfl
theorem f_137_49 : xfind (xnth xTs 137) 49 = some (49, .aload_n 0, 1, (0, 0, 0, 0), .null, [], 0, 0, []) := rfl
theorem f_137_50 : xfind (xnth xTs 137) 50 = some (50, .getfield 7, 3, (9, 0, 1, 0), .null, [], 909, 0, []) := rfl
theorem f_137_53 : xfind (xnth xTs 137) 53 = some (53, .bipush 25, 2, (0, 0, 0, 0), (.int 25), [], 0, 0, []) := rfl
theorem f_137_55 : xfind (xnth xTs 137) 55 = some (55, .aload_n 0, 1, (0, 0, 0, 0), .null, [], 0, 0, []) := rfl
theorem f_137_56 : xfind (xnth xTs 137) 56 = some (56, .getfield 16, 3, (9, 2, 1, 0), .null, [], 911, 0, []) := rfl
theorem f_137_59 : xfind (xnth xTs 137) 59 = some (59, .bipush 41, 2, (0, 0, 0, 0), (.int 41), [], 0, 0, []) := rfl
theorem f_137_61 : xfind (xnth xTs 137) 61 = some (61, .bipush 15, 2, (0, 0, 0, 0), (.int 15), [], 0, 0, []) := rfl
theorem f_137_63 : xfind (xnth xTs 137) 63 = some (63, .invokestatic 76, 3, (136, 5, 9, 6), .null, [], 906, 0, []) := rfl
theorem f_137_66 : xfind (xnth xTs 137) 66 = some (66, .aload_n 0, 1, (0, 0, 0, 0), .null, [], 0, 0, []) := rfl
theorem f_137_67 : xfind (xnth xTs 137) 67 = some (67, .iconst 0, 1, (0, 0, 0, 0), (.int 0), [], 0, 0, []) := rfl
theorem f_137_68 : xfind (xnth xTs 137) 68 = some (68, .putfield 80, 3, (9, 5, 0, 0), .null, [], 914, 0, []) := rfl
theorem f_137_71 : xfind (xnth xTs 137) 71 = some (71, .aload_n 0, 1, (0, 0, 0, 0), .null, [], 0, 0, []) := rfl
theorem f_137_72 : xfind (xnth xTs 137) 72 = some (72, .iconst 0, 1, (0, 0, 0, 0), (.int 0), [], 0, 0, []) := rfl
theorem f_137_73 : xfind (xnth xTs 137) 73 = some (73, .putfield 83, 3, (9, 13, 0, 0), .null, [], 922, 0, []) := rfl
theorem f_137_76 : xfind (xnth xTs 137) 76 = some (76, .aload_n 0, 1, (0, 0, 0, 0), .null, [], 0, 0, []) := rfl
theorem f_137_77 : xfind (xnth xTs 137) 77 = some (77, .iconst 0, 1, (0, 0, 0, 0), (.int 0), [], 0, 0, []) := rfl
theorem f_137_78 : xfind (xnth xTs 137) 78 = some (78, .putfield 86, 3, (9, 15, 0, 0), .null, [], 924, 0, []) := rfl
theorem f_137_81 : xfind (xnth xTs 137) 81 = some (81, .aload_n 0, 1, (0, 0, 0, 0), .null, [], 0, 0, []) := rfl
theorem f_137_82 : xfind (xnth xTs 137) 82 = some (82, .getfield 28, 3, (9, 7, 1, 0), .null, [], 916, 0, []) := rfl
theorem f_137_85 : xfind (xnth xTs 137) 85 = some (85, .iconst 0, 1, (0, 0, 0, 0), (.int 0), [], 0, 0, []) := rfl
theorem f_137_86 : xfind (xnth xTs 137) 86 = some (86, .iconst 0, 1, (0, 0, 0, 0), (.int 0), [], 0, 0, []) := rfl
theorem f_137_87 : xfind (xnth xTs 137) 87 = some (87, .bastore, 1, (0, 0, 0, 0), .null, [], 0, 0, []) := rfl
theorem f_137_88 : xfind (xnth xTs 137) 88 = some (88, .aload_n 0, 1, (0, 0, 0, 0), .null, [], 0, 0, []) := rfl
theorem f_137_89 : xfind (xnth xTs 137) 89 = some (89, .getfield 28, 3, (9, 7, 1, 0), .null, [], 916, 0, []) := rfl
theorem f_137_92 : xfind (xnth xTs 137) 92 = some (92, .iconst 1, 1, (0, 0, 0, 0), (.int 1), [], 0, 0, []) := rfl
theorem f_137_93 : xfind (xnth xTs 137) 93 = some (93, .iconst 0, 1, (0, 0, 0, 0), (.int 0), [], 0, 0, []) := rfl
theorem f_137_94 : xfind (xnth xTs 137) 94 = some (94, .bastore, 1, (0, 0, 0, 0), .null, [], 0, 0, []) := rfl
theorem f_137_95 : xfind (xnth xTs 137) 95 = some (95, .return_, 1, (0, 0, 0, 0), .null, [], 0, 0, []) := rfl
theorem hd_137_2 : xhead 137 2 = some [] := rfl
theorem b_R_begins_0 (sh : xSh) (M : Nat → Nat → Int32) (J : Nat → Nat → Int64) (l0 : Nat) : ev (137, 0, [.ref l0, .null], [], (sh, M, J)) = (ev (137, 2, [.ref l0, .int 0], [], (sh, M, J))) := by
  refine ev_nx (s1 := (137, 1, [.ref l0, .null], [.int 0], (sh, M, J))) f_137_0 rfl ?_
  refine ev_nx (s1 := (137, 2, [.ref l0, .int 0], [], (sh, M, J))) f_137_1 rfl ?_
  exact rfl
theorem b_R_begins_2 (sh : xSh) (M : Nat → Nat → Int32) (J : Nat → Nat → Int64) (l0 : Nat) (l1 : Int32) : ev (137, 2, [.ref l0, .int l1], [], (sh, M, J)) = (bif decide (62 ≤ l1) then bif decide ((sh.2.2.1 l0).1 = 9) then bif decide ((sh.2.2.1 l0).1 = 9) then bif (decide ((sh.2.2.1 (sh.2.2.2 l0 0)).1 = 11) && xin 4 (sh.2.2.1 (sh.2.2.2 l0 0)).2) then bif (decide ((sh.2.2.1 (sh.2.2.2 l0 2)).1 = 11) && xin 20 (sh.2.2.1 (sh.2.2.2 l0 2)).2) then bif decide ((sh.2.2.1 l0).1 = 9) then bif decide ((sh.2.2.1 l0).1 = 9) then (ev (136, 0, [.ref (sh.2.2.2 l0 0), .int 25, .ref (sh.2.2.2 l0 2), .int 41, .int 15, .null], [], (sh, (xu M (sh.2.2.2 l0 2) (20 : Int32).toNatClampNeg (M (sh.2.2.2 l0 0) (4 : Int32).toNatClampNeg)), J))).bind (fun r => ev (137, 66, [.ref l0, .int l1], r.1.toList ++ [], r.2)) else none else none else none else none else none else none else bif decide ((sh.2.2.1 l0).1 = 9) then bif decide (20 ≤ l1) then bif (decide ((sh.2.2.1 (sh.2.2.2 l0 2)).1 = 11) && xin l1 (sh.2.2.1 (sh.2.2.2 l0 2)).2) then ev (137, 2, [.ref l0, .int (l1 + 1)], [], (sh, (xu M (sh.2.2.2 l0 2) (l1 : Int32).toNatClampNeg 0), J)) else none else bif decide ((sh.2.2.1 l0).1 = 9) then bif (decide ((sh.2.2.1 (sh.2.2.2 l0 0)).1 = 11) && xin 3 (sh.2.2.1 (sh.2.2.2 l0 0)).2) then bif (decide ((sh.2.2.1 (sh.2.2.2 l0 2)).1 = 11) && xin l1 (sh.2.2.1 (sh.2.2.2 l0 2)).2) then ev (137, 2, [.ref l0, .int (l1 + 1)], [], (sh, (xu M (sh.2.2.2 l0 2) (l1 : Int32).toNatClampNeg (M (sh.2.2.2 l0 0) (3 : Int32).toNatClampNeg)), J)) else none else none else none else none) := by
  refine ev_nx (s1 := (137, 3, [.ref l0, .int l1], [.int l1], (sh, M, J))) f_137_2 rfl ?_
  refine ev_nx (s1 := (137, 5, [.ref l0, .int l1], [.int 62, .int l1], (sh, M, J))) f_137_3 rfl ?_
  refine ev_br (s1 := (137, 36, [.ref l0, .int l1], [], (sh, M, J))) (s2 := (137, 8, [.ref l0, .int l1], [], (sh, M, J))) f_137_5 rfl ?_ ?_
  · refine ev_nx (s1 := (137, 37, [.ref l0, .int l1], [.ref l0], (sh, M, J))) f_137_36 rfl ?_
    refine ev_gd (s1 := (137, 40, [.ref l0, .int l1], [.ref (sh.2.2.2 l0 2)], (sh, M, J))) f_137_37 rfl ?_
    refine ev_nx (s1 := (137, 42, [.ref l0, .int l1], [.int 20, .ref (sh.2.2.2 l0 2)], (sh, M, J))) f_137_40 rfl ?_
    refine ev_nx (s1 := (137, 43, [.ref l0, .int l1], [.ref l0, .int 20, .ref (sh.2.2.2 l0 2)], (sh, M, J))) f_137_42 rfl ?_
    refine ev_gd (s1 := (137, 46, [.ref l0, .int l1], [.ref (sh.2.2.2 l0 0), .int 20, .ref (sh.2.2.2 l0 2)], (sh, M, J))) f_137_43 rfl ?_
    refine ev_nx (s1 := (137, 47, [.ref l0, .int l1], [.int 4, .ref (sh.2.2.2 l0 0), .int 20, .ref (sh.2.2.2 l0 2)], (sh, M, J))) f_137_46 rfl ?_
    refine ev_gd (s1 := (137, 48, [.ref l0, .int l1], [.int (M (sh.2.2.2 l0 0) (4 : Int32).toNatClampNeg), .int 20, .ref (sh.2.2.2 l0 2)], (sh, M, J))) f_137_47 rfl ?_
    refine ev_gd (s1 := (137, 49, [.ref l0, .int l1], [], (sh, (xu M (sh.2.2.2 l0 2) (20 : Int32).toNatClampNeg (M (sh.2.2.2 l0 0) (4 : Int32).toNatClampNeg)), J))) f_137_48 rfl ?_
    refine ev_nx (s1 := (137, 50, [.ref l0, .int l1], [.ref l0], (sh, (xu M (sh.2.2.2 l0 2) (20 : Int32).toNatClampNeg (M (sh.2.2.2 l0 0) (4 : Int32).toNatClampNeg)), J))) f_137_49 rfl ?_
    refine ev_gd (s1 := (137, 53, [.ref l0, .int l1], [.ref (sh.2.2.2 l0 0)], (sh, (xu M (sh.2.2.2 l0 2) (20 : Int32).toNatClampNeg (M (sh.2.2.2 l0 0) (4 : Int32).toNatClampNeg)), J))) f_137_50 rfl ?_
    refine ev_nx (s1 := (137, 55, [.ref l0, .int l1], [.int 25, .ref (sh.2.2.2 l0 0)], (sh, (xu M (sh.2.2.2 l0 2) (20 : Int32).toNatClampNeg (M (sh.2.2.2 l0 0) (4 : Int32).toNatClampNeg)), J))) f_137_53 rfl ?_
    refine ev_nx (s1 := (137, 56, [.ref l0, .int l1], [.ref l0, .int 25, .ref (sh.2.2.2 l0 0)], (sh, (xu M (sh.2.2.2 l0 2) (20 : Int32).toNatClampNeg (M (sh.2.2.2 l0 0) (4 : Int32).toNatClampNeg)), J))) f_137_55 rfl ?_
    refine ev_gd (s1 := (137, 59, [.ref l0, .int l1], [.ref (sh.2.2.2 l0 2), .int 25, .ref (sh.2.2.2 l0 0)], (sh, (xu M (sh.2.2.2 l0 2) (20 : Int32).toNatClampNeg (M (sh.2.2.2 l0 0) (4 : Int32).toNatClampNeg)), J))) f_137_56 rfl ?_
    refine ev_nx (s1 := (137, 61, [.ref l0, .int l1], [.int 41, .ref (sh.2.2.2 l0 2), .int 25, .ref (sh.2.2.2 l0 0)], (sh, (xu M (sh.2.2.2 l0 2) (20 : Int32).toNatClampNeg (M (sh.2.2.2 l0 0) (4 : Int32).toNatClampNeg)), J))) f_137_59 rfl ?_
    refine ev_nx (s1 := (137, 63, [.ref l0, .int l1], [.int 15, .int 41, .ref (sh.2.2.2 l0 2), .int 25, .ref (sh.2.2.2 l0 0)], (sh, (xu M (sh.2.2.2 l0 2) (20 : Int32).toNatClampNeg (M (sh.2.2.2 l0 0) (4 : Int32).toNatClampNeg)), J))) f_137_61 rfl ?_
    exact ev_c1 (s1 := (136, 0, [.ref (sh.2.2.2 l0 0), .int 25, .ref (sh.2.2.2 l0 2), .int 41, .int 15, .null], [], (sh, (xu M (sh.2.2.2 l0 2) (20 : Int32).toNatClampNeg (M (sh.2.2.2 l0 0) (4 : Int32).toNatClampNeg)), J))) (k := (137, 66, [.ref l0, .int l1], [])) f_137_63 rfl
  · refine ev_nx (s1 := (137, 9, [.ref l0, .int l1], [.ref l0], (sh, M, J))) f_137_8 rfl ?_
    refine ev_gd (s1 := (137, 12, [.ref l0, .int l1], [.ref (sh.2.2.2 l0 2)], (sh, M, J))) f_137_9 rfl ?_
    refine ev_nx (s1 := (137, 13, [.ref l0, .int l1], [.int l1, .ref (sh.2.2.2 l0 2)], (sh, M, J))) f_137_12 rfl ?_
    refine ev_nx (s1 := (137, 14, [.ref l0, .int l1], [.int l1, .int l1, .ref (sh.2.2.2 l0 2)], (sh, M, J))) f_137_13 rfl ?_
    refine ev_nx (s1 := (137, 16, [.ref l0, .int l1], [.int 20, .int l1, .int l1, .ref (sh.2.2.2 l0 2)], (sh, M, J))) f_137_14 rfl ?_
    refine ev_br (s1 := (137, 28, [.ref l0, .int l1], [.int l1, .ref (sh.2.2.2 l0 2)], (sh, M, J))) (s2 := (137, 19, [.ref l0, .int l1], [.int l1, .ref (sh.2.2.2 l0 2)], (sh, M, J))) f_137_16 rfl ?_ ?_
    · refine ev_nx (s1 := (137, 29, [.ref l0, .int l1], [.int 0, .int l1, .ref (sh.2.2.2 l0 2)], (sh, M, J))) f_137_28 rfl ?_
      refine ev_gd (s1 := (137, 30, [.ref l0, .int l1], [], (sh, (xu M (sh.2.2.2 l0 2) (l1 : Int32).toNatClampNeg 0), J))) f_137_29 rfl ?_
      refine ev_nx (s1 := (137, 33, [.ref l0, .int (l1 + 1)], [], (sh, (xu M (sh.2.2.2 l0 2) (l1 : Int32).toNatClampNeg 0), J))) f_137_30 rfl ?_
      refine ev_nx (s1 := (137, 2, [.ref l0, .int (l1 + 1)], [], (sh, (xu M (sh.2.2.2 l0 2) (l1 : Int32).toNatClampNeg 0), J))) f_137_33 rfl ?_
      exact rfl
    · refine ev_nx (s1 := (137, 20, [.ref l0, .int l1], [.ref l0, .int l1, .ref (sh.2.2.2 l0 2)], (sh, M, J))) f_137_19 rfl ?_
      refine ev_gd (s1 := (137, 23, [.ref l0, .int l1], [.ref (sh.2.2.2 l0 0), .int l1, .ref (sh.2.2.2 l0 2)], (sh, M, J))) f_137_20 rfl ?_
      refine ev_nx (s1 := (137, 24, [.ref l0, .int l1], [.int 3, .ref (sh.2.2.2 l0 0), .int l1, .ref (sh.2.2.2 l0 2)], (sh, M, J))) f_137_23 rfl ?_
      refine ev_gd (s1 := (137, 25, [.ref l0, .int l1], [.int (M (sh.2.2.2 l0 0) (3 : Int32).toNatClampNeg), .int l1, .ref (sh.2.2.2 l0 2)], (sh, M, J))) f_137_24 rfl ?_
      refine ev_nx (s1 := (137, 29, [.ref l0, .int l1], [.int (M (sh.2.2.2 l0 0) (3 : Int32).toNatClampNeg), .int l1, .ref (sh.2.2.2 l0 2)], (sh, M, J))) f_137_25 rfl ?_
      refine ev_gd (s1 := (137, 30, [.ref l0, .int l1], [], (sh, (xu M (sh.2.2.2 l0 2) (l1 : Int32).toNatClampNeg (M (sh.2.2.2 l0 0) (3 : Int32).toNatClampNeg)), J))) f_137_29 rfl ?_
      refine ev_nx (s1 := (137, 33, [.ref l0, .int (l1 + 1)], [], (sh, (xu M (sh.2.2.2 l0 2) (l1 : Int32).toNatClampNeg (M (sh.2.2.2 l0 0) (3 : Int32).toNatClampNeg)), J))) f_137_30 rfl ?_
      refine ev_nx (s1 := (137, 2, [.ref l0, .int (l1 + 1)], [], (sh, (xu M (sh.2.2.2 l0 2) (l1 : Int32).toNatClampNeg (M (sh.2.2.2 l0 0) (3 : Int32).toNatClampNeg)), J))) f_137_33 rfl ?_
      exact rfl
theorem b_R_begins_66 (sh : xSh) (M : Nat → Nat → Int32) (J : Nat → Nat → Int64) (l0 : Nat) (l1 : Int32) : ev (137, 66, [.ref l0, .int l1], [], (sh, M, J)) = (bif decide ((sh.2.2.1 l0).1 = 9) then bif decide ((sh.2.2.1 l0).1 = 9) then bif decide ((sh.2.2.1 l0).1 = 9) then bif decide ((sh.2.2.1 l0).1 = 9) then bif (decide ((sh.2.2.1 (sh.2.2.2 l0 7)).1 = 10) && xin 0 (sh.2.2.1 (sh.2.2.2 l0 7)).2) then bif decide ((sh.2.2.1 l0).1 = 9) then bif (decide ((sh.2.2.1 (sh.2.2.2 l0 7)).1 = 10) && xin 1 (sh.2.2.1 (sh.2.2.2 l0 7)).2) then some (none, (sh, (xu (xu (xu (xu (xu M l0 5 0) l0 13 0) l0 15 0) (sh.2.2.2 l0 7) (0 : Int32).toNatClampNeg ((0 : Int32) &&& 1)) (sh.2.2.2 l0 7) (1 : Int32).toNatClampNeg ((0 : Int32) &&& 1)), J)) else none else none else none else none else none else none else none) := by
  refine ev_nx (s1 := (137, 67, [.ref l0, .int l1], [.ref l0], (sh, M, J))) f_137_66 rfl ?_
  refine ev_nx (s1 := (137, 68, [.ref l0, .int l1], [.int 0, .ref l0], (sh, M, J))) f_137_67 rfl ?_
  refine ev_gd (s1 := (137, 71, [.ref l0, .int l1], [], (sh, (xu M l0 5 0), J))) f_137_68 rfl ?_
  refine ev_nx (s1 := (137, 72, [.ref l0, .int l1], [.ref l0], (sh, (xu M l0 5 0), J))) f_137_71 rfl ?_
  refine ev_nx (s1 := (137, 73, [.ref l0, .int l1], [.int 0, .ref l0], (sh, (xu M l0 5 0), J))) f_137_72 rfl ?_
  refine ev_gd (s1 := (137, 76, [.ref l0, .int l1], [], (sh, (xu (xu M l0 5 0) l0 13 0), J))) f_137_73 rfl ?_
  refine ev_nx (s1 := (137, 77, [.ref l0, .int l1], [.ref l0], (sh, (xu (xu M l0 5 0) l0 13 0), J))) f_137_76 rfl ?_
  refine ev_nx (s1 := (137, 78, [.ref l0, .int l1], [.int 0, .ref l0], (sh, (xu (xu M l0 5 0) l0 13 0), J))) f_137_77 rfl ?_
  refine ev_gd (s1 := (137, 81, [.ref l0, .int l1], [], (sh, (xu (xu (xu M l0 5 0) l0 13 0) l0 15 0), J))) f_137_78 rfl ?_
  refine ev_nx (s1 := (137, 82, [.ref l0, .int l1], [.ref l0], (sh, (xu (xu (xu M l0 5 0) l0 13 0) l0 15 0), J))) f_137_81 rfl ?_
  refine ev_gd (s1 := (137, 85, [.ref l0, .int l1], [.ref (sh.2.2.2 l0 7)], (sh, (xu (xu (xu M l0 5 0) l0 13 0) l0 15 0), J))) f_137_82 rfl ?_
  refine ev_nx (s1 := (137, 86, [.ref l0, .int l1], [.int 0, .ref (sh.2.2.2 l0 7)], (sh, (xu (xu (xu M l0 5 0) l0 13 0) l0 15 0), J))) f_137_85 rfl ?_
  refine ev_nx (s1 := (137, 87, [.ref l0, .int l1], [.int 0, .int 0, .ref (sh.2.2.2 l0 7)], (sh, (xu (xu (xu M l0 5 0) l0 13 0) l0 15 0), J))) f_137_86 rfl ?_
  refine ev_gd (s1 := (137, 88, [.ref l0, .int l1], [], (sh, (xu (xu (xu (xu M l0 5 0) l0 13 0) l0 15 0) (sh.2.2.2 l0 7) (0 : Int32).toNatClampNeg ((0 : Int32) &&& 1)), J))) f_137_87 rfl ?_
  refine ev_nx (s1 := (137, 89, [.ref l0, .int l1], [.ref l0], (sh, (xu (xu (xu (xu M l0 5 0) l0 13 0) l0 15 0) (sh.2.2.2 l0 7) (0 : Int32).toNatClampNeg ((0 : Int32) &&& 1)), J))) f_137_88 rfl ?_
  refine ev_gd (s1 := (137, 92, [.ref l0, .int l1], [.ref (sh.2.2.2 l0 7)], (sh, (xu (xu (xu (xu M l0 5 0) l0 13 0) l0 15 0) (sh.2.2.2 l0 7) (0 : Int32).toNatClampNeg ((0 : Int32) &&& 1)), J))) f_137_89 rfl ?_
  refine ev_nx (s1 := (137, 93, [.ref l0, .int l1], [.int 1, .ref (sh.2.2.2 l0 7)], (sh, (xu (xu (xu (xu M l0 5 0) l0 13 0) l0 15 0) (sh.2.2.2 l0 7) (0 : Int32).toNatClampNeg ((0 : Int32) &&& 1)), J))) f_137_92 rfl ?_
  refine ev_nx (s1 := (137, 94, [.ref l0, .int l1], [.int 0, .int 1, .ref (sh.2.2.2 l0 7)], (sh, (xu (xu (xu (xu M l0 5 0) l0 13 0) l0 15 0) (sh.2.2.2 l0 7) (0 : Int32).toNatClampNeg ((0 : Int32) &&& 1)), J))) f_137_93 rfl ?_
  refine ev_gd (s1 := (137, 95, [.ref l0, .int l1], [], (sh, (xu (xu (xu (xu (xu M l0 5 0) l0 13 0) l0 15 0) (sh.2.2.2 l0 7) (0 : Int32).toNatClampNeg ((0 : Int32) &&& 1)) (sh.2.2.2 l0 7) (1 : Int32).toNatClampNeg ((0 : Int32) &&& 1)), J))) f_137_94 rfl ?_
  exact ev_r1 f_137_95 rfl
theorem f_138_0 : xfind (xnth xTs 138) 0 = some (0, .iload_n 1, 1, (0, 0, 0, 0), .null, [], 0, 0, []) := rfl
theorem f_138_1 : xfind (xnth xTs 138) 1 = some (1, .i2l, 1, (0, 0, 0, 0), .null, [], 0, 0, []) := rfl
theorem f_138_2 : xfind (xnth xTs 138) 2 = some (2, .lconst 0, 1, (0, 0, 0, 0), (.long 0), [], 0, 0, []) := rfl
theorem f_138_3 : xfind (xnth xTs 138) 3 = some (3, .ldc2_w 89, 3, (0, 0, 0, 0), (.long 255), [], 993, 0, []) := rfl
theorem f_138_6 : xfind (xnth xTs 138) 6 = some (6, .invokestatic 68, 3, (132, 3, 9, 6), .null, [], 897, 0, []) := rfl
theorem f_138_9 : xfind (xnth xTs 138) 9 = some (9, .ifCond .ne 6, 3, (0, 0, 0, 0), .null, [], 0, 0, []) := rfl
theorem f_138_12 : xfind (xnth xTs 138) 12 = some (12, .ldc 91, 2, (0, 0, 0, 0), (.int (-1000000002)), [], 994, 0, []) := rfl
theorem f_138_14 : xfind (xnth xTs 138) 14 = some (14, .ireturn, 1, (0, 0, 0, 0), .null, [], 0, 0, []) := rfl
theorem f_138_15 : xfind (xnth xTs 138) 15 = some (15, .aload_n 0, 1, (0, 0, 0, 0), .null, [], 0, 0, []) := rfl
theorem f_138_16 : xfind (xnth xTs 138) 16 = some (16, .getfield 92, 3, (9, 10, 0, 0), .null, [], 919, 0, []) := rfl
theorem f_138_19 : xfind (xnth xTs 138) 19 = some (19, .sipush 240, 3, (0, 0, 0, 0), (.int 240), [], 0, 0, []) := rfl
theorem f_138_22 : xfind (xnth xTs 138) 22 = some (22, .if_icmp .ne 6, 3, (0, 0, 0, 0), .null, [], 0, 0, []) := rfl
theorem f_138_25 : xfind (xnth xTs 138) 25 = some (25, .ldc 95, 2, (0, 0, 0, 0), (.int (-1000000004)), [], 995, 0, []) := rfl
theorem f_138_27 : xfind (xnth xTs 138) 27 = some (27, .ireturn, 1, (0, 0, 0, 0), .null, [], 0, 0, []) := rfl
theorem f_138_28 : xfind (xnth xTs 138) 28 = some (28, .aload_n 0, 1, (0, 0, 0, 0), .null, [], 0, 0, []) := rfl
theorem f_138_29 : xfind (xnth xTs 138) 29 = some (29, .getfield 32, 3, (9, 9, 1, 0), .null, [], 918, 0, []) := rfl
theorem f_138_32 : xfind (xnth xTs 138) 32 = some (32, .aload_n 0, 1, (0, 0, 0, 0), .null, [], 0, 0, []) := rfl
theorem f_138_33 : xfind (xnth xTs 138) 33 = some (33, .getfield 92, 3, (9, 10, 0, 0), .null, [], 919, 0, []) := rfl
theorem f_138_36 : xfind (xnth xTs 138) 36 = some (36, .iload_n 1, 1, (0, 0, 0, 0), .null, [], 0, 0, []) := rfl
theorem f_138_37 : xfind (xnth xTs 138) 37 = some (37, .iastore, 1, (0, 0, 0, 0), .null, [], 0, 0, []) := rfl
theorem f_138_38 : xfind (xnth xTs 138) 38 = some (38, .aload_n 0, 1, (0, 0, 0, 0), .null, [], 0, 0, []) := rfl
theorem f_138_39 : xfind (xnth xTs 138) 39 = some (39, .dup, 1, (0, 0, 0, 0), .null, [], 0, 0, []) := rfl
theorem f_138_40 : xfind (xnth xTs 138) 40 = some (40, .getfield 92, 3, (9, 10, 0, 0), .null, [], 919, 0, []) := rfl
theorem f_138_43 : xfind (xnth xTs 138) 43 = some (43, .iconst 1, 1, (0, 0, 0, 0), (.int 1), [], 0, 0, []) := rfl
theorem f_138_44 : xfind (xnth xTs 138) 44 = some (44, .iadd, 1, (0, 0, 0, 0), .null, [], 0, 0, []) := rfl
theorem f_138_45 : xfind (xnth xTs 138) 45 = some (45, .putfield 92, 3, (9, 10, 0, 0), .null, [], 919, 0, []) := rfl
theorem f_138_48 : xfind (xnth xTs 138) 48 = some (48, .aload_n 0, 1, (0, 0, 0, 0), .null, [], 0, 0, []) := rfl
theorem f_138_49 : xfind (xnth xTs 138) 49 = some (49, .getfield 92, 3, (9, 10, 0, 0), .null, [], 919, 0, []) := rfl
theorem f_138_52 : xfind (xnth xTs 138) 52 = some (52, .ireturn, 1, (0, 0, 0, 0), .null, [], 0, 0, []) := rfl
theorem b_R_feed_0 (sh : xSh) (M : Nat → Nat → Int32) (J : Nat → Nat → Int64) (l0 : Nat) (l1 : Int32) : ev (138, 0, [.ref l0, .int l1], [], (sh, M, J)) = ((ev (132, 0, [.long (l1 : Int32).toInt64, .null, .long 0, .null, .long 255, .null], [], (sh, M, J))).bind (fun r => ev (138, 9, [.ref l0, .int l1], r.1.toList ++ [], r.2))) := by
  refine ev_nx (s1 := (138, 1, [.ref l0, .int l1], [.int l1], (sh, M, J))) f_138_0 rfl ?_
  refine ev_nx (s1 := (138, 2, [.ref l0, .int l1], [.long (l1 : Int32).toInt64], (sh, M, J))) f_138_1 rfl ?_
  refine ev_nx (s1 := (138, 3, [.ref l0, .int l1], [.long 0, .long (l1 : Int32).toInt64], (sh, M, J))) f_138_2 rfl ?_
  refine ev_nx (s1 := (138, 6, [.ref l0, .int l1], [.long 255, .long 0, .long (l1 : Int32).toInt64], (sh, M, J))) f_138_3 rfl ?_
  exact ev_c1 (s1 := (132, 0, [.long (l1 : Int32).toInt64, .null, .long 0, .null, .long 255, .null], [], (sh, M, J))) (k := (138, 9, [.ref l0, .int l1], [])) f_138_6 rfl
theorem b_R_feed_9 (sh : xSh) (M : Nat → Nat → Int32) (J : Nat → Nat → Int64) (l0 : Nat) (l1 : Int32) (k0 : Int32) : ev (138, 9, [.ref l0, .int l1], [.int k0], (sh, M, J)) = (bif !decide (k0 = 0) then bif decide ((sh.2.2.1 l0).1 = 9) then bif !decide ((M l0 10) = 240) then bif decide ((sh.2.2.1 l0).1 = 9) then bif decide ((sh.2.2.1 l0).1 = 9) then bif (decide ((sh.2.2.1 (sh.2.2.2 l0 9)).1 = 11) && xin (M l0 10) (sh.2.2.1 (sh.2.2.2 l0 9)).2) then bif decide ((sh.2.2.1 l0).1 = 9) then bif decide ((sh.2.2.1 l0).1 = 9) then bif decide ((sh.2.2.1 l0).1 = 9) then some (some (.int ((xu (xu M (sh.2.2.2 l0 9) ((M l0 10) : Int32).toNatClampNeg l1) l0 10 (((xu M (sh.2.2.2 l0 9) ((M l0 10) : Int32).toNatClampNeg l1) l0 10) + 1)) l0 10)), (sh, (xu (xu M (sh.2.2.2 l0 9) ((M l0 10) : Int32).toNatClampNeg l1) l0 10 (((xu M (sh.2.2.2 l0 9) ((M l0 10) : Int32).toNatClampNeg l1) l0 10) + 1)), J)) else none else none else none else none else none else none else some (some (.int (-1000000004)), (sh, M, J)) else none else some (some (.int (-1000000002)), (sh, M, J))) := by
  refine ev_br (s1 := (138, 15, [.ref l0, .int l1], [], (sh, M, J))) (s2 := (138, 12, [.ref l0, .int l1], [], (sh, M, J))) f_138_9 rfl ?_ ?_
  · refine ev_nx (s1 := (138, 16, [.ref l0, .int l1], [.ref l0], (sh, M, J))) f_138_15 rfl ?_
    refine ev_gd (s1 := (138, 19, [.ref l0, .int l1], [.int (M l0 10)], (sh, M, J))) f_138_16 rfl ?_
    refine ev_nx (s1 := (138, 22, [.ref l0, .int l1], [.int 240, .int (M l0 10)], (sh, M, J))) f_138_19 rfl ?_
    refine ev_br (s1 := (138, 28, [.ref l0, .int l1], [], (sh, M, J))) (s2 := (138, 25, [.ref l0, .int l1], [], (sh, M, J))) f_138_22 rfl ?_ ?_
    · refine ev_nx (s1 := (138, 29, [.ref l0, .int l1], [.ref l0], (sh, M, J))) f_138_28 rfl ?_
      refine ev_gd (s1 := (138, 32, [.ref l0, .int l1], [.ref (sh.2.2.2 l0 9)], (sh, M, J))) f_138_29 rfl ?_
      refine ev_nx (s1 := (138, 33, [.ref l0, .int l1], [.ref l0, .ref (sh.2.2.2 l0 9)], (sh, M, J))) f_138_32 rfl ?_
      refine ev_gd (s1 := (138, 36, [.ref l0, .int l1], [.int (M l0 10), .ref (sh.2.2.2 l0 9)], (sh, M, J))) f_138_33 rfl ?_
      refine ev_nx (s1 := (138, 37, [.ref l0, .int l1], [.int l1, .int (M l0 10), .ref (sh.2.2.2 l0 9)], (sh, M, J))) f_138_36 rfl ?_
      refine ev_gd (s1 := (138, 38, [.ref l0, .int l1], [], (sh, (xu M (sh.2.2.2 l0 9) ((M l0 10) : Int32).toNatClampNeg l1), J))) f_138_37 rfl ?_
      refine ev_nx (s1 := (138, 39, [.ref l0, .int l1], [.ref l0], (sh, (xu M (sh.2.2.2 l0 9) ((M l0 10) : Int32).toNatClampNeg l1), J))) f_138_38 rfl ?_
      refine ev_nx (s1 := (138, 40, [.ref l0, .int l1], [.ref l0, .ref l0], (sh, (xu M (sh.2.2.2 l0 9) ((M l0 10) : Int32).toNatClampNeg l1), J))) f_138_39 rfl ?_
      refine ev_gd (s1 := (138, 43, [.ref l0, .int l1], [.int ((xu M (sh.2.2.2 l0 9) ((M l0 10) : Int32).toNatClampNeg l1) l0 10), .ref l0], (sh, (xu M (sh.2.2.2 l0 9) ((M l0 10) : Int32).toNatClampNeg l1), J))) f_138_40 rfl ?_
      refine ev_nx (s1 := (138, 44, [.ref l0, .int l1], [.int 1, .int ((xu M (sh.2.2.2 l0 9) ((M l0 10) : Int32).toNatClampNeg l1) l0 10), .ref l0], (sh, (xu M (sh.2.2.2 l0 9) ((M l0 10) : Int32).toNatClampNeg l1), J))) f_138_43 rfl ?_
      refine ev_nx (s1 := (138, 45, [.ref l0, .int l1], [.int (((xu M (sh.2.2.2 l0 9) ((M l0 10) : Int32).toNatClampNeg l1) l0 10) + 1), .ref l0], (sh, (xu M (sh.2.2.2 l0 9) ((M l0 10) : Int32).toNatClampNeg l1), J))) f_138_44 rfl ?_
      refine ev_gd (s1 := (138, 48, [.ref l0, .int l1], [], (sh, (xu (xu M (sh.2.2.2 l0 9) ((M l0 10) : Int32).toNatClampNeg l1) l0 10 (((xu M (sh.2.2.2 l0 9) ((M l0 10) : Int32).toNatClampNeg l1) l0 10) + 1)), J))) f_138_45 rfl ?_
      refine ev_nx (s1 := (138, 49, [.ref l0, .int l1], [.ref l0], (sh, (xu (xu M (sh.2.2.2 l0 9) ((M l0 10) : Int32).toNatClampNeg l1) l0 10 (((xu M (sh.2.2.2 l0 9) ((M l0 10) : Int32).toNatClampNeg l1) l0 10) + 1)), J))) f_138_48 rfl ?_
      refine ev_gd (s1 := (138, 52, [.ref l0, .int l1], [.int ((xu (xu M (sh.2.2.2 l0 9) ((M l0 10) : Int32).toNatClampNeg l1) l0 10 (((xu M (sh.2.2.2 l0 9) ((M l0 10) : Int32).toNatClampNeg l1) l0 10) + 1)) l0 10)], (sh, (xu (xu M (sh.2.2.2 l0 9) ((M l0 10) : Int32).toNatClampNeg l1) l0 10 (((xu M (sh.2.2.2 l0 9) ((M l0 10) : Int32).toNatClampNeg l1) l0 10) + 1)), J))) f_138_49 rfl ?_
      exact ev_r1 f_138_52 rfl
    · refine ev_nx (s1 := (138, 27, [.ref l0, .int l1], [.int (-1000000004)], (sh, M, J))) f_138_25 rfl ?_
      exact ev_r1 f_138_27 rfl
  · refine ev_nx (s1 := (138, 14, [.ref l0, .int l1], [.int (-1000000002)], (sh, M, J))) f_138_12 rfl ?_
    exact ev_r1 f_138_14 rfl
theorem f_139_0 : xfind (xnth xTs 139) 0 = some (0, .aload_n 0, 1, (0, 0, 0, 0), .null, [], 0, 0, []) := rfl
theorem f_139_1 : xfind (xnth xTs 139) 1 = some (1, .getfield 96, 3, (9, 16, 0, 0), .null, [], 925, 0, []) := rfl
theorem f_139_4 : xfind (xnth xTs 139) 4 = some (4, .aload_n 0, 1, (0, 0, 0, 0), .null, [], 0, 0, []) := rfl
theorem f_139_5 : xfind (xnth xTs 139) 5 = some (5, .getfield 92, 3, (9, 10, 0, 0), .null, [], 919, 0, []) := rfl
theorem f_139_8 : xfind (xnth xTs 139) 8 = some (8, .if_icmp .ge 15, 3, (0, 0, 0, 0), .null, [], 0, 0, []) := rfl
theorem f_139_11 : xfind (xnth xTs 139) 11 = some (11, .aload_n 0, 1, (0, 0, 0, 0), .null, [], 0, 0, []) := rfl
theorem f_139_12 : xfind (xnth xTs 139) 12 = some (12, .getfield 32, 3, (9, 9, 1, 0), .null, [], 918, 0, []) := rfl
theorem f_139_15 : xfind (xnth xTs 139) 15 = some (15, .aload_n 0, 1, (0, 0, 0, 0), .null, [], 0, 0, []) := rfl
theorem f_139_16 : xfind (xnth xTs 139) 16 = some (16, .getfield 96, 3, (9, 16, 0, 0), .null, [], 925, 0, []) := rfl
theorem f_139_19 : xfind (xnth xTs 139) 19 = some (19, .iaload, 1, (0, 0, 0, 0), .null, [], 0, 0, []) := rfl
theorem f_139_20 : xfind (xnth xTs 139) 20 = some (20, .goto 4, 3, (0, 0, 0, 0), .null, [], 0, 0, []) := rfl
theorem f_139_23 : xfind (xnth xTs 139) 23 = some (23, .iconst (-1), 1, (0, 0, 0, 0), (.int (-1)), [], 0, 0, []) := rfl
theorem f_139_24 : xfind (xnth xTs 139) 24 = some (24, .ireturn, 1, (0, 0, 0, 0), .null, [], 0, 0, []) := rfl
theorem b_R_here_0 (sh : xSh) (M : Nat → Nat → Int32) (J : Nat → Nat → Int64) (l0 : Nat) : ev (139, 0, [.ref l0], [], (sh, M, J)) = (bif decide ((sh.2.2.1 l0).1 = 9) then bif decide ((sh.2.2.1 l0).1 = 9) then bif decide ((M l0 10) ≤ (M l0 16)) then some (some (.int (-1)), (sh, M, J)) else bif decide ((sh.2.2.1 l0).1 = 9) then bif decide ((sh.2.2.1 l0).1 = 9) then bif (decide ((sh.2.2.1 (sh.2.2.2 l0 9)).1 = 11) && xin (M l0 16) (sh.2.2.1 (sh.2.2.2 l0 9)).2) then some (some (.int (M (sh.2.2.2 l0 9) ((M l0 16) : Int32).toNatClampNeg)), (sh, M, J)) else none else none else none else none else none) := by
  refine ev_nx (s1 := (139, 1, [.ref l0], [.ref l0], (sh, M, J))) f_139_0 rfl ?_
  refine ev_gd (s1 := (139, 4, [.ref l0], [.int (M l0 16)], (sh, M, J))) f_139_1 rfl ?_
  refine ev_nx (s1 := (139, 5, [.ref l0], [.ref l0, .int (M l0 16)], (sh, M, J))) f_139_4 rfl ?_
  refine ev_gd (s1 := (139, 8, [.ref l0], [.int (M l0 10), .int (M l0 16)], (sh, M, J))) f_139_5 rfl ?_
  refine ev_br (s1 := (139, 23, [.ref l0], [], (sh, M, J))) (s2 := (139, 11, [.ref l0], [], (sh, M, J))) f_139_8 rfl ?_ ?_
  · refine ev_nx (s1 := (139, 24, [.ref l0], [.int (-1)], (sh, M, J))) f_139_23 rfl ?_
    exact ev_r1 f_139_24 rfl
  · refine ev_nx (s1 := (139, 12, [.ref l0], [.ref l0], (sh, M, J))) f_139_11 rfl ?_
    refine ev_gd (s1 := (139, 15, [.ref l0], [.ref (sh.2.2.2 l0 9)], (sh, M, J))) f_139_12 rfl ?_
    refine ev_nx (s1 := (139, 16, [.ref l0], [.ref l0, .ref (sh.2.2.2 l0 9)], (sh, M, J))) f_139_15 rfl ?_
    refine ev_gd (s1 := (139, 19, [.ref l0], [.int (M l0 16), .ref (sh.2.2.2 l0 9)], (sh, M, J))) f_139_16 rfl ?_
    refine ev_gd (s1 := (139, 20, [.ref l0], [.int (M (sh.2.2.2 l0 9) ((M l0 16) : Int32).toNatClampNeg)], (sh, M, J))) f_139_19 rfl ?_
    refine ev_nx (s1 := (139, 24, [.ref l0], [.int (M (sh.2.2.2 l0 9) ((M l0 16) : Int32).toNatClampNeg)], (sh, M, J))) f_139_20 rfl ?_
    exact ev_r1 f_139_24 rfl
theorem f_140_0 : xfind (xnth xTs 140) 0 = some (0, .aload_n 0, 1, (0, 0, 0, 0), .null, [], 0, 1, []) := rfl
theorem f_140_1 : xfind (xnth xTs 140) 1 = some (1, .invokevirtual 99, 3, (139, 0, 9, 1), .null, [], 1004, 0, []) := rfl
theorem f_140_4 : xfind (xnth xTs 140) 4 = some (4, .bipush 32, 2, (0, 0, 0, 0), (.int 32), [], 0, 0, []) := rfl
theorem f_140_6 : xfind (xnth xTs 140) 6 = some (6, .if_icmp .ne 16, 3, (0, 0, 0, 0), .null, [], 0, 0, []) := rfl
theorem f_140_9 : xfind (xnth xTs 140) 9 = some (9, .aload_n 0, 1, (0, 0, 0, 0), .null, [], 0, 0, []) := rfl
theorem f_140_10 : xfind (xnth xTs 140) 10 = some (10, .dup, 1, (0, 0, 0, 0), .null, [], 0, 0, []) := rfl
theorem f_140_11 : xfind (xnth xTs 140) 11 = some (11, .getfield 96, 3, (9, 16, 0, 0), .null, [], 925, 0, []) := rfl
theorem f_140_14 : xfind (xnth xTs 140) 14 = some (14, .iconst 1, 1, (0, 0, 0, 0), (.int 1), [], 0, 0, []) := rfl
theorem f_140_15 : xfind (xnth xTs 140) 15 = some (15, .iadd, 1, (0, 0, 0, 0), .null, [], 0, 0, []) := rfl
theorem f_140_16 : xfind (xnth xTs 140) 16 = some (16, .putfield 96, 3, (9, 16, 0, 0), .null, [], 925, 0, []) := rfl
theorem f_140_19 : xfind (xnth xTs 140) 19 = some (19, .goto (-19), 3, (0, 0, 0, 0), .null, [], 0, 0, []) := rfl
theorem f_140_22 : xfind (xnth xTs 140) 22 = some (22, .aload_n 0, 1, (0, 0, 0, 0), .null, [], 0, 0, []) := rfl
theorem f_140_23 : xfind (xnth xTs 140) 23 = some (23, .aload_n 0, 1, (0, 0, 0, 0), .null, [], 0, 0, []) := rfl
theorem f_140_24 : xfind (xnth xTs 140) 24 = some (24, .getfield 96, 3, (9, 16, 0, 0), .null, [], 925, 0, []) := rfl
theorem f_140_27 : xfind (xnth xTs 140) 27 = some (27, .putfield 103, 3, (9, 17, 0, 0), .null, [], 926, 0, []) := rfl
theorem f_140_30 : xfind (xnth xTs 140) 30 = some (30, .aload_n 0, 1, (0, 0, 0, 0), .null, [], 0, 0, []) := rfl
theorem f_140_31 : xfind (xnth xTs 140) 31 = some (31, .aload_n 0, 1, (0, 0, 0, 0), .null, [], 0, 0, []) := rfl
theorem f_140_32 : xfind (xnth xTs 140) 32 = some (32, .invokevirtual 99, 3, (139, 0, 9, 1), .null, [], 1004, 0, []) := rfl
theorem f_140_35 : xfind (xnth xTs 140) 35 = some (35, .putfield 106, 3, (9, 18, 0, 0), .null, [], 927, 0, []) := rfl
theorem f_140_38 : xfind (xnth xTs 140) 38 = some (38, .aload_n 0, 1, (0, 0, 0, 0), .null, [], 0, 0, []) := rfl
theorem f_140_39 : xfind (xnth xTs 140) 39 = some (39, .iconst 0, 1, (0, 0, 0, 0), (.int 0), [], 0, 0, []) := rfl
theorem f_140_40 : xfind (xnth xTs 140) 40 = some (40, .putfield 109, 3, (9, 19, 0, 0), .null, [], 928, 0, []) := rfl
theorem f_140_43 : xfind (xnth xTs 140) 43 = some (43, .aload_n 0, 1, (0, 0, 0, 0), .null, [], 0, 0, []) := rfl
theorem f_140_44 : xfind (xnth xTs 140) 44 = some (44, .iconst 0, 1, (0, 0, 0, 0), (.int 0), [], 0, 0, []) := rfl
theorem f_140_45 : xfind (xnth xTs 140) 45 = some (45, .putfield 112, 3, (9, 20, 0, 0), .null, [], 929, 0, []) := rfl
theorem f_140_48 : xfind (xnth xTs 140) 48 = some (48, .aload_n 0, 1, (0, 0, 0, 0), .null, [], 0, 0, []) := rfl
theorem f_140_49 : xfind (xnth xTs 140) 49 = some (49, .getfield 106, 3, (9, 18, 0, 0), .null, [], 927, 0, []) := rfl
theorem f_140_52 : xfind (xnth xTs 140) 52 = some (52, .i2l, 1, (0, 0, 0, 0), .null, [], 0, 0, []) := rfl
theorem f_140_53 : xfind (xnth xTs 140) 53 = some (53, .ldc2_w 115, 3, (0, 0, 0, 0), (.long 48), [], 1008, 0, []) := rfl
theorem f_140_56 : xfind (xnth xTs 140) 56 = some (56, .ldc2_w 117, 3, (0, 0, 0, 0), (.long 57), [], 1009, 0, []) := rfl
theorem f_140_59 : xfind (xnth xTs 140) 59 = some (59, .invokestatic 68, 3, (132, 3, 9, 6), .null, [], 897, 0, []) := rfl
theorem f_140_62 : xfind (xnth xTs 140) 62 = some (62, .ifCond .ne 25, 3, (0, 0, 0, 0), .null, [], 0, 0, []) := rfl
theorem f_140_65 : xfind (xnth xTs 140) 65 = some (65, .aload_n 0, 1, (0, 0, 0, 0), .null, [], 0, 0, []) := rfl
theorem f_140_66 : xfind (xnth xTs 140) 66 = some (66, .dup, 1, (0, 0, 0, 0), .null, [], 0, 0, []) := rfl
theorem f_140_67 : xfind (xnth xTs 140) 67 = some (67, .getfield 96, 3, (9, 16, 0, 0), .null, [], 925, 0, []) := rfl
theorem f_140_70 : xfind (xnth xTs 140) 70 = some (70, .aload_n 0, 1, (0, 0, 0, 0), .null, [], 0, 0, []) := rfl
theorem f_140_71 : xfind (xnth xTs 140) 71 = some (71, .getfield 106, 3, (9, 18, 0, 0), .null, [], 927, 0, []) := rfl
theorem f_140_74 : xfind (xnth xTs 140) 74 = some (74, .ifCond .ge 7, 3, (0, 0, 0, 0), .null, [], 0, 0, []) := rfl
theorem f_140_77 : xfind (xnth xTs 140) 77 = some (77, .iconst 0, 1, (0, 0, 0, 0), (.int 0), [], 0, 0, []) := rfl
theorem f_140_78 : xfind (xnth xTs 140) 78 = some (78, .goto 4, 3, (0, 0, 0, 0), .null, [], 0, 0, []) := rfl
theorem f_140_81 : xfind (xnth xTs 140) 81 = some (81, .iconst 1, 1, (0, 0, 0, 0), (.int 1), [], 0, 0, []) := rfl
theorem f_140_82 : xfind (xnth xTs 140) 82 = some (82, .iadd, 1, (0, 0, 0, 0), .null, [], 0, 0, []) := rfl
theorem f_140_83 : xfind (xnth xTs 140) 83 = some (83, .putfield 96, 3, (9, 16, 0, 0), .null, [], 925, 0, []) := rfl
theorem f_140_86 : xfind (xnth xTs 140) 86 = some (86, .return_, 1, (0, 0, 0, 0), .null, [], 0, 0, []) := rfl
theorem f_140_87 : xfind (xnth xTs 140) 87 = some (87, .aload_n 0, 1, (0, 0, 0, 0), .null, [], 0, 0, []) := rfl
theorem f_140_88 : xfind (xnth xTs 140) 88 = some (88, .bipush 48, 2, (0, 0, 0, 0), (.int 48), [], 0, 0, []) := rfl
theorem f_140_90 : xfind (xnth xTs 140) 90 = some (90, .putfield 106, 3, (9, 18, 0, 0), .null, [], 927, 0, []) := rfl
theorem f_140_93 : xfind (xnth xTs 140) 93 = some (93, .aload_n 0, 1, (0, 0, 0, 0), .null, [], 0, 1, []) := rfl
theorem f_140_94 : xfind (xnth xTs 140) 94 = some (94, .invokevirtual 99, 3, (139, 0, 9, 1), .null, [], 1004, 0, []) := rfl
theorem f_140_97 : xfind (xnth xTs 140) 97 = some (97, .i2l, 1, (0, 0, 0, 0), .null, [], 0, 0, []) := rfl
theorem f_140_98 : xfind (xnth xTs 140) 98 = some (98, .ldc2_w 115, 3, (0, 0, 0, 0), (.long 48), [], 1008, 0, []) := rfl
theorem f_140_101 : xfind (xnth xTs 140) 101 = some (101, .ldc2_w 117, 3, (0, 0, 0, 0), (.long 57), [], 1009, 0, []) := rfl
theorem f_140_104 : xfind (xnth xTs 140) 104 = some (104, .invokestatic 68, 3, (132, 3, 9, 6), .null, [], 897, 0, []) := rfl
theorem f_140_107 : xfind (xnth xTs 140) 107 = some (107, .ifCond .eq 60, 3, (0, 0, 0, 0), .null, [], 0, 0, []) := rfl
theorem f_140_110 : xfind (xnth xTs 140) 110 = some (110, .aload_n 0, 1, (0, 0, 0, 0), .null, [], 0, 0, []) := rfl
theorem f_140_111 : xfind (xnth xTs 140) 111 = some (111, .aload_n 0, 1, (0, 0, 0, 0), .null, [], 0, 0, []) := rfl
theorem f_140_112 : xfind (xnth xTs 140) 112 = some (112, .getfield 109, 3, (9, 19, 0, 0), .null, [], 928, 0, []) := rfl
theorem f_140_115 : xfind (xnth xTs 140) 115 = some (115, .iconst 3, 1, (0, 0, 0, 0), (.int 3), [], 0, 0, []) := rfl
theorem f_140_116 : xfind (xnth xTs 140) 116 = some (116, .if_icmp .ge 21, 3, (0, 0, 0, 0), .null, [], 0, 0, []) := rfl
theorem f_140_119 : xfind (xnth xTs 140) 119 = some (119, .bipush 10, 2, (0, 0, 0, 0), (.int 10), [], 0, 0, []) := rfl
theorem f_140_121 : xfind (xnth xTs 140) 121 = some (121, .aload_n 0, 1, (0, 0, 0, 0), .null, [], 0, 0, []) := rfl
theorem f_140_122 : xfind (xnth xTs 140) 122 = some (122, .getfield 112, 3, (9, 20, 0, 0), .null, [], 929, 0, []) := rfl
theorem f_140_125 : xfind (xnth xTs 140) 125 = some (125, .imul, 1, (0, 0, 0, 0), .null, [], 0, 0, []) := rfl
theorem f_140_126 : xfind (xnth xTs 140) 126 = some (126, .aload_n 0, 1, (0, 0, 0, 0), .null, [], 0, 0, []) := rfl
theorem f_140_127 : xfind (xnth xTs 140) 127 = some (127, .invokevirtual 99, 3, (139, 0, 9, 1), .null, [], 1004, 0, []) := rfl
theorem f_140_130 : xfind (xnth xTs 140) 130 = some (130, .iadd, 1, (0, 0, 0, 0), .null, [], 0, 0, []) := rfl
theorem f_140_131 : xfind (xnth xTs 140) 131 = some (131, .bipush 48, 2, (0, 0, 0, 0), (.int 48), [], 0, 0, []) := rfl
theorem f_140_133 : xfind (xnth xTs 140) 133 = some (133, .isub, 1, (0, 0, 0, 0), .null, [], 0, 0, []) := rfl
theorem f_140_134 : xfind (xnth xTs 140) 134 = some (134, .goto 7, 3, (0, 0, 0, 0), .null, [], 0, 0, []) := rfl
theorem f_140_137 : xfind (xnth xTs 140) 137 = some (137, .aload_n 0, 1, (0, 0, 0, 0), .null, [], 0, 0, []) := rfl
theorem f_140_138 : xfind (xnth xTs 140) 138 = some (138, .getfield 112, 3, (9, 20, 0, 0), .null, [], 929, 0, []) := rfl
theorem f_140_141 : xfind (xnth xTs 140) 141 = some (141, .putfield 112, 3, (9, 20, 0, 0), .null, [], 929, 0, []) := rfl
theorem f_140_144 : xfind (xnth xTs 140) 144 = some (144, .aload_n 0, 1, (0, 0, 0, 0), .null, [], 0, 0, []) := rfl
theorem f_140_145 : xfind (xnth xTs 140) 145 = some (145, .dup, 1, (0, 0, 0, 0), .null, [], 0, 0, []) := rfl
theorem f_140_146 : xfind (xnth xTs 140) 146 = some (146, .getfield 109, 3, (9, 19, 0, 0), .null, [], 928, 0, []) := rfl
theorem f_140_149 : xfind (xnth xTs 140) 149 = some (149, .iconst 1, 1, (0, 0, 0, 0), (.int 1), [], 0, 0, []) := rfl
theorem f_140_150 : xfind (xnth xTs 140) 150 = some (150, .iadd, 1, (0, 0, 0, 0), .null, [], 0, 0, []) := rfl
theorem f_140_151 : xfind (xnth xTs 140) 151 = some (151, .putfield 109, 3, (9, 19, 0, 0), .null, [], 928, 0, []) := rfl
theorem f_140_154 : xfind (xnth xTs 140) 154 = some (154, .aload_n 0, 1, (0, 0, 0, 0), .null, [], 0, 0, []) := rfl
theorem f_140_155 : xfind (xnth xTs 140) 155 = some (155, .dup, 1, (0, 0, 0, 0), .null, [], 0, 0, []) := rfl
theorem f_140_156 : xfind (xnth xTs 140) 156 = some (156, .getfield 96, 3, (9, 16, 0, 0), .null, [], 925, 0, []) := rfl
theorem f_140_159 : xfind (xnth xTs 140) 159 = some (159, .iconst 1, 1, (0, 0, 0, 0), (.int 1), [], 0, 0, []) := rfl
theorem f_140_160 : xfind (xnth xTs 140) 160 = some (160, .iadd, 1, (0, 0, 0, 0), .null, [], 0, 0, []) := rfl
theorem f_140_161 : xfind (xnth xTs 140) 161 = some (161, .putfield 96, 3, (9, 16, 0, 0), .null, [], 925, 0, []) := rfl
theorem f_140_164 : xfind (xnth xTs 140) 164 = some (164, .goto (-71), 3, (0, 0, 0, 0), .null, [], 0, 0, []) := rfl
theorem f_140_167 : xfind (xnth xTs 140) 167 = some (167, .return_, 1, (0, 0, 0, 0), .null, [], 0, 0, []) := rfl
theorem hd_140_0 : xhead 140 0 = some [] := rfl
theorem hd_140_93 : xhead 140 93 = some [] := rfl
theorem b_R_step_0 (sh : xSh) (M : Nat → Nat → Int32) (J : Nat → Nat → Int64) (l0 : Nat) : ev (140, 0, [.ref l0], [], (sh, M, J)) = (bif (decide ((sh.2.2.1 l0).1 = 9) && true) then (ev (139, 0, [.ref l0], [], (sh, M, J))).bind (fun r => ev (140, 4, [.ref l0], r.1.toList ++ [], r.2)) else none) := by
  refine ev_nx (s1 := (140, 1, [.ref l0], [.ref l0], (sh, M, J))) f_140_0 rfl ?_
  exact ev_ca (cc := (decide ((sh.2.2.1 l0).1 = 9) && true)) (s1 := (139, 0, [.ref l0], [], (sh, M, J))) (k := (140, 4, [.ref l0], [])) f_140_1 rfl
theorem b_R_step_4 (sh : xSh) (M : Nat → Nat → Int32) (J : Nat → Nat → Int64) (l0 : Nat) (k0 : Int32) : ev (140, 4, [.ref l0], [.int k0], (sh, M, J)) = (bif !decide (k0 = 32) then bif decide ((sh.2.2.1 l0).1 = 9) then bif decide ((sh.2.2.1 l0).1 = 9) then bif (decide ((sh.2.2.1 l0).1 = 9) && true) then (ev (139, 0, [.ref l0], [], (sh, (xu M l0 17 (M l0 16)), J))).bind (fun r => ev (140, 35, [.ref l0], r.1.toList ++ [.ref l0], r.2)) else none else none else none else bif decide ((sh.2.2.1 l0).1 = 9) then bif decide ((sh.2.2.1 l0).1 = 9) then ev (140, 0, [.ref l0], [], (sh, (xu M l0 16 ((M l0 16) + 1)), J)) else none else none) := by
  refine ev_nx (s1 := (140, 6, [.ref l0], [.int 32, .int k0], (sh, M, J))) f_140_4 rfl ?_
  refine ev_br (s1 := (140, 22, [.ref l0], [], (sh, M, J))) (s2 := (140, 9, [.ref l0], [], (sh, M, J))) f_140_6 rfl ?_ ?_
  · refine ev_nx (s1 := (140, 23, [.ref l0], [.ref l0], (sh, M, J))) f_140_22 rfl ?_
    refine ev_nx (s1 := (140, 24, [.ref l0], [.ref l0, .ref l0], (sh, M, J))) f_140_23 rfl ?_
    refine ev_gd (s1 := (140, 27, [.ref l0], [.int (M l0 16), .ref l0], (sh, M, J))) f_140_24 rfl ?_
    refine ev_gd (s1 := (140, 30, [.ref l0], [], (sh, (xu M l0 17 (M l0 16)), J))) f_140_27 rfl ?_
    refine ev_nx (s1 := (140, 31, [.ref l0], [.ref l0], (sh, (xu M l0 17 (M l0 16)), J))) f_140_30 rfl ?_
    refine ev_nx (s1 := (140, 32, [.ref l0], [.ref l0, .ref l0], (sh, (xu M l0 17 (M l0 16)), J))) f_140_31 rfl ?_
    exact ev_ca (cc := (decide ((sh.2.2.1 l0).1 = 9) && true)) (s1 := (139, 0, [.ref l0], [], (sh, (xu M l0 17 (M l0 16)), J))) (k := (140, 35, [.ref l0], [.ref l0])) f_140_32 rfl
  · refine ev_nx (s1 := (140, 10, [.ref l0], [.ref l0], (sh, M, J))) f_140_9 rfl ?_
    refine ev_nx (s1 := (140, 11, [.ref l0], [.ref l0, .ref l0], (sh, M, J))) f_140_10 rfl ?_
    refine ev_gd (s1 := (140, 14, [.ref l0], [.int (M l0 16), .ref l0], (sh, M, J))) f_140_11 rfl ?_
    refine ev_nx (s1 := (140, 15, [.ref l0], [.int 1, .int (M l0 16), .ref l0], (sh, M, J))) f_140_14 rfl ?_
    refine ev_nx (s1 := (140, 16, [.ref l0], [.int ((M l0 16) + 1), .ref l0], (sh, M, J))) f_140_15 rfl ?_
    refine ev_gd (s1 := (140, 19, [.ref l0], [], (sh, (xu M l0 16 ((M l0 16) + 1)), J))) f_140_16 rfl ?_
    refine ev_nx (s1 := (140, 0, [.ref l0], [], (sh, (xu M l0 16 ((M l0 16) + 1)), J))) f_140_19 rfl ?_
    exact rfl
theorem b_R_step_35 (sh : xSh) (M : Nat → Nat → Int32) (J : Nat → Nat → Int64) (l0 : Nat) (k0 : Int32) (k1 : Nat) : ev (140, 35, [.ref l0], [.int k0, .ref k1], (sh, M, J)) = (bif decide ((sh.2.2.1 k1).1 = 9) then bif decide ((sh.2.2.1 l0).1 = 9) then bif decide ((sh.2.2.1 l0).1 = 9) then bif decide ((sh.2.2.1 l0).1 = 9) then (ev (132, 0, [.long (((xu (xu (xu M k1 18 k0) l0 19 0) l0 20 0) l0 18) : Int32).toInt64, .null, .long 48, .null, .long 57, .null], [], (sh, (xu (xu (xu M k1 18 k0) l0 19 0) l0 20 0), J))).bind (fun r => ev (140, 62, [.ref l0], r.1.toList ++ [], r.2)) else none else none else none else none) := by
  refine ev_gd (s1 := (140, 38, [.ref l0], [], (sh, (xu M k1 18 k0), J))) f_140_35 rfl ?_
  refine ev_nx (s1 := (140, 39, [.ref l0], [.ref l0], (sh, (xu M k1 18 k0), J))) f_140_38 rfl ?_
  refine ev_nx (s1 := (140, 40, [.ref l0], [.int 0, .ref l0], (sh, (xu M k1 18 k0), J))) f_140_39 rfl ?_
  refine ev_gd (s1 := (140, 43, [.ref l0], [], (sh, (xu (xu M k1 18 k0) l0 19 0), J))) f_140_40 rfl ?_
  refine ev_nx (s1 := (140, 44, [.ref l0], [.ref l0], (sh, (xu (xu M k1 18 k0) l0 19 0), J))) f_140_43 rfl ?_
  refine ev_nx (s1 := (140, 45, [.ref l0], [.int 0, .ref l0], (sh, (xu (xu M k1 18 k0) l0 19 0), J))) f_140_44 rfl ?_
  refine ev_gd (s1 := (140, 48, [.ref l0], [], (sh, (xu (xu (xu M k1 18 k0) l0 19 0) l0 20 0), J))) f_140_45 rfl ?_
  refine ev_nx (s1 := (140, 49, [.ref l0], [.ref l0], (sh, (xu (xu (xu M k1 18 k0) l0 19 0) l0 20 0), J))) f_140_48 rfl ?_
  refine ev_gd (s1 := (140, 52, [.ref l0], [.int ((xu (xu (xu M k1 18 k0) l0 19 0) l0 20 0) l0 18)], (sh, (xu (xu (xu M k1 18 k0) l0 19 0) l0 20 0), J))) f_140_49 rfl ?_
  refine ev_nx (s1 := (140, 53, [.ref l0], [.long (((xu (xu (xu M k1 18 k0) l0 19 0) l0 20 0) l0 18) : Int32).toInt64], (sh, (xu (xu (xu M k1 18 k0) l0 19 0) l0 20 0), J))) f_140_52 rfl ?_
  refine ev_nx (s1 := (140, 56, [.ref l0], [.long 48, .long (((xu (xu (xu M k1 18 k0) l0 19 0) l0 20 0) l0 18) : Int32).toInt64], (sh, (xu (xu (xu M k1 18 k0) l0 19 0) l0 20 0), J))) f_140_53 rfl ?_
  refine ev_nx (s1 := (140, 59, [.ref l0], [.long 57, .long 48, .long (((xu (xu (xu M k1 18 k0) l0 19 0) l0 20 0) l0 18) : Int32).toInt64], (sh, (xu (xu (xu M k1 18 k0) l0 19 0) l0 20 0), J))) f_140_56 rfl ?_
  exact ev_c1 (s1 := (132, 0, [.long (((xu (xu (xu M k1 18 k0) l0 19 0) l0 20 0) l0 18) : Int32).toInt64, .null, .long 48, .null, .long 57, .null], [], (sh, (xu (xu (xu M k1 18 k0) l0 19 0) l0 20 0), J))) (k := (140, 62, [.ref l0], [])) f_140_59 rfl
theorem b_R_step_62 (sh : xSh) (M : Nat → Nat → Int32) (J : Nat → Nat → Int64) (l0 : Nat) (k0 : Int32) : ev (140, 62, [.ref l0], [.int k0], (sh, M, J)) = (bif !decide (k0 = 0) then bif decide ((sh.2.2.1 l0).1 = 9) then ev (140, 93, [.ref l0], [], (sh, (xu M l0 18 48), J)) else none else bif decide ((sh.2.2.1 l0).1 = 9) then bif decide ((sh.2.2.1 l0).1 = 9) then bif decide (0 ≤ (M l0 18)) then bif decide ((sh.2.2.1 l0).1 = 9) then some (none, (sh, (xu M l0 16 ((M l0 16) + 1)), J)) else none else bif decide ((sh.2.2.1 l0).1 = 9) then some (none, (sh, (xu M l0 16 ((M l0 16) + 0)), J)) else none else none else none) := by
  refine ev_br (s1 := (140, 87, [.ref l0], [], (sh, M, J))) (s2 := (140, 65, [.ref l0], [], (sh, M, J))) f_140_62 rfl ?_ ?_
  · refine ev_nx (s1 := (140, 88, [.ref l0], [.ref l0], (sh, M, J))) f_140_87 rfl ?_
    refine ev_nx (s1 := (140, 90, [.ref l0], [.int 48, .ref l0], (sh, M, J))) f_140_88 rfl ?_
    refine ev_gd (s1 := (140, 93, [.ref l0], [], (sh, (xu M l0 18 48), J))) f_140_90 rfl ?_
    exact rfl
  · refine ev_nx (s1 := (140, 66, [.ref l0], [.ref l0], (sh, M, J))) f_140_65 rfl ?_
    refine ev_nx (s1 := (140, 67, [.ref l0], [.ref l0, .ref l0], (sh, M, J))) f_140_66 rfl ?_
    refine ev_gd (s1 := (140, 70, [.ref l0], [.int (M l0 16), .ref l0], (sh, M, J))) f_140_67 rfl ?_
    refine ev_nx (s1 := (140, 71, [.ref l0], [.ref l0, .int (M l0 16), .ref l0], (sh, M, J))) f_140_70 rfl ?_
    refine ev_gd (s1 := (140, 74, [.ref l0], [.int (M l0 18), .int (M l0 16), .ref l0], (sh, M, J))) f_140_71 rfl ?_
    refine ev_br (s1 := (140, 81, [.ref l0], [.int (M l0 16), .ref l0], (sh, M, J))) (s2 := (140, 77, [.ref l0], [.int (M l0 16), .ref l0], (sh, M, J))) f_140_74 rfl ?_ ?_
    · refine ev_nx (s1 := (140, 82, [.ref l0], [.int 1, .int (M l0 16), .ref l0], (sh, M, J))) f_140_81 rfl ?_
      refine ev_nx (s1 := (140, 83, [.ref l0], [.int ((M l0 16) + 1), .ref l0], (sh, M, J))) f_140_82 rfl ?_
      refine ev_gd (s1 := (140, 86, [.ref l0], [], (sh, (xu M l0 16 ((M l0 16) + 1)), J))) f_140_83 rfl ?_
      exact ev_r1 f_140_86 rfl
    · refine ev_nx (s1 := (140, 78, [.ref l0], [.int 0, .int (M l0 16), .ref l0], (sh, M, J))) f_140_77 rfl ?_
      refine ev_nx (s1 := (140, 82, [.ref l0], [.int 0, .int (M l0 16), .ref l0], (sh, M, J))) f_140_78 rfl ?_
      refine ev_nx (s1 := (140, 83, [.ref l0], [.int ((M l0 16) + 0), .ref l0], (sh, M, J))) f_140_82 rfl ?_
      refine ev_gd (s1 := (140, 86, [.ref l0], [], (sh, (xu M l0 16 ((M l0 16) + 0)), J))) f_140_83 rfl ?_
      exact ev_r1 f_140_86 rfl
theorem b_R_step_93 (sh : xSh) (M : Nat → Nat → Int32) (J : Nat → Nat → Int64) (l0 : Nat) : ev (140, 93, [.ref l0], [], (sh, M, J)) = (bif (decide ((sh.2.2.1 l0).1 = 9) && true) then (ev (139, 0, [.ref l0], [], (sh, M, J))).bind (fun r => ev (140, 97, [.ref l0], r.1.toList ++ [], r.2)) else none) := by
  refine ev_nx (s1 := (140, 94, [.ref l0], [.ref l0], (sh, M, J))) f_140_93 rfl ?_
  exact ev_ca (cc := (decide ((sh.2.2.1 l0).1 = 9) && true)) (s1 := (139, 0, [.ref l0], [], (sh, M, J))) (k := (140, 97, [.ref l0], [])) f_140_94 rfl
theorem b_R_step_97 (sh : xSh) (M : Nat → Nat → Int32) (J : Nat → Nat → Int64) (l0 : Nat) (k0 : Int32) : ev (140, 97, [.ref l0], [.int k0], (sh, M, J)) = ((ev (132, 0, [.long (k0 : Int32).toInt64, .null, .long 48, .null, .long 57, .null], [], (sh, M, J))).bind (fun r => ev (140, 107, [.ref l0], r.1.toList ++ [], r.2))) := by
  refine ev_nx (s1 := (140, 98, [.ref l0], [.long (k0 : Int32).toInt64], (sh, M, J))) f_140_97 rfl ?_
  refine ev_nx (s1 := (140, 101, [.ref l0], [.long 48, .long (k0 : Int32).toInt64], (sh, M, J))) f_140_98 rfl ?_
  refine ev_nx (s1 := (140, 104, [.ref l0], [.long 57, .long 48, .long (k0 : Int32).toInt64], (sh, M, J))) f_140_101 rfl ?_
  exact ev_c1 (s1 := (132, 0, [.long (k0 : Int32).toInt64, .null, .long 48, .null, .long 57, .null], [], (sh, M, J))) (k := (140, 107, [.ref l0], [])) f_140_104 rfl
theorem b_R_step_107 (sh : xSh) (M : Nat → Nat → Int32) (J : Nat → Nat → Int64) (l0 : Nat) (k0 : Int32) : ev (140, 107, [.ref l0], [.int k0], (sh, M, J)) = (bif decide (k0 = 0) then some (none, (sh, M, J)) else bif decide ((sh.2.2.1 l0).1 = 9) then bif decide (3 ≤ (M l0 19)) then bif decide ((sh.2.2.1 l0).1 = 9) then bif decide ((sh.2.2.1 l0).1 = 9) then bif decide ((sh.2.2.1 l0).1 = 9) then bif decide ((sh.2.2.1 l0).1 = 9) then bif decide ((sh.2.2.1 l0).1 = 9) then bif decide ((sh.2.2.1 l0).1 = 9) then ev (140, 93, [.ref l0], [], (sh, (xu (xu (xu M l0 20 (M l0 20)) l0 19 (((xu M l0 20 (M l0 20)) l0 19) + 1)) l0 16 (((xu (xu M l0 20 (M l0 20)) l0 19 (((xu M l0 20 (M l0 20)) l0 19) + 1)) l0 16) + 1)), J)) else none else none else none else none else none else none else bif decide ((sh.2.2.1 l0).1 = 9) then bif (decide ((sh.2.2.1 l0).1 = 9) && true) then (ev (139, 0, [.ref l0], [], (sh, M, J))).bind (fun r => ev (140, 130, [.ref l0], r.1.toList ++ [.int ((10 : Int32) * (M l0 20)), .ref l0], r.2)) else none else none else none) := by
  refine ev_br (s1 := (140, 167, [.ref l0], [], (sh, M, J))) (s2 := (140, 110, [.ref l0], [], (sh, M, J))) f_140_107 rfl ?_ ?_
  · exact ev_r1 f_140_167 rfl
  · refine ev_nx (s1 := (140, 111, [.ref l0], [.ref l0], (sh, M, J))) f_140_110 rfl ?_
    refine ev_nx (s1 := (140, 112, [.ref l0], [.ref l0, .ref l0], (sh, M, J))) f_140_111 rfl ?_
    refine ev_gd (s1 := (140, 115, [.ref l0], [.int (M l0 19), .ref l0], (sh, M, J))) f_140_112 rfl ?_
    refine ev_nx (s1 := (140, 116, [.ref l0], [.int 3, .int (M l0 19), .ref l0], (sh, M, J))) f_140_115 rfl ?_
    refine ev_br (s1 := (140, 137, [.ref l0], [.ref l0], (sh, M, J))) (s2 := (140, 119, [.ref l0], [.ref l0], (sh, M, J))) f_140_116 rfl ?_ ?_
    · refine ev_nx (s1 := (140, 138, [.ref l0], [.ref l0, .ref l0], (sh, M, J))) f_140_137 rfl ?_
      refine ev_gd (s1 := (140, 141, [.ref l0], [.int (M l0 20), .ref l0], (sh, M, J))) f_140_138 rfl ?_
      refine ev_gd (s1 := (140, 144, [.ref l0], [], (sh, (xu M l0 20 (M l0 20)), J))) f_140_141 rfl ?_
      refine ev_nx (s1 := (140, 145, [.ref l0], [.ref l0], (sh, (xu M l0 20 (M l0 20)), J))) f_140_144 rfl ?_
      refine ev_nx (s1 := (140, 146, [.ref l0], [.ref l0, .ref l0], (sh, (xu M l0 20 (M l0 20)), J))) f_140_145 rfl ?_
      refine ev_gd (s1 := (140, 149, [.ref l0], [.int ((xu M l0 20 (M l0 20)) l0 19), .ref l0], (sh, (xu M l0 20 (M l0 20)), J))) f_140_146 rfl ?_
      refine ev_nx (s1 := (140, 150, [.ref l0], [.int 1, .int ((xu M l0 20 (M l0 20)) l0 19), .ref l0], (sh, (xu M l0 20 (M l0 20)), J))) f_140_149 rfl ?_
      refine ev_nx (s1 := (140, 151, [.ref l0], [.int (((xu M l0 20 (M l0 20)) l0 19) + 1), .ref l0], (sh, (xu M l0 20 (M l0 20)), J))) f_140_150 rfl ?_
      refine ev_gd (s1 := (140, 154, [.ref l0], [], (sh, (xu (xu M l0 20 (M l0 20)) l0 19 (((xu M l0 20 (M l0 20)) l0 19) + 1)), J))) f_140_151 rfl ?_
      refine ev_nx (s1 := (140, 155, [.ref l0], [.ref l0], (sh, (xu (xu M l0 20 (M l0 20)) l0 19 (((xu M l0 20 (M l0 20)) l0 19) + 1)), J))) f_140_154 rfl ?_
      refine ev_nx (s1 := (140, 156, [.ref l0], [.ref l0, .ref l0], (sh, (xu (xu M l0 20 (M l0 20)) l0 19 (((xu M l0 20 (M l0 20)) l0 19) + 1)), J))) f_140_155 rfl ?_
      refine ev_gd (s1 := (140, 159, [.ref l0], [.int ((xu (xu M l0 20 (M l0 20)) l0 19 (((xu M l0 20 (M l0 20)) l0 19) + 1)) l0 16), .ref l0], (sh, (xu (xu M l0 20 (M l0 20)) l0 19 (((xu M l0 20 (M l0 20)) l0 19) + 1)), J))) f_140_156 rfl ?_
      refine ev_nx (s1 := (140, 160, [.ref l0], [.int 1, .int ((xu (xu M l0 20 (M l0 20)) l0 19 (((xu M l0 20 (M l0 20)) l0 19) + 1)) l0 16), .ref l0], (sh, (xu (xu M l0 20 (M l0 20)) l0 19 (((xu M l0 20 (M l0 20)) l0 19) + 1)), J))) f_140_159 rfl ?_
      refine ev_nx (s1 := (140, 161, [.ref l0], [.int (((xu (xu M l0 20 (M l0 20)) l0 19 (((xu M l0 20 (M l0 20)) l0 19) + 1)) l0 16) + 1), .ref l0], (sh, (xu (xu M l0 20 (M l0 20)) l0 19 (((xu M l0 20 (M l0 20)) l0 19) + 1)), J))) f_140_160 rfl ?_
      refine ev_gd (s1 := (140, 164, [.ref l0], [], (sh, (xu (xu (xu M l0 20 (M l0 20)) l0 19 (((xu M l0 20 (M l0 20)) l0 19) + 1)) l0 16 (((xu (xu M l0 20 (M l0 20)) l0 19 (((xu M l0 20 (M l0 20)) l0 19) + 1)) l0 16) + 1)), J))) f_140_161 rfl ?_
      refine ev_nx (s1 := (140, 93, [.ref l0], [], (sh, (xu (xu (xu M l0 20 (M l0 20)) l0 19 (((xu M l0 20 (M l0 20)) l0 19) + 1)) l0 16 (((xu (xu M l0 20 (M l0 20)) l0 19 (((xu M l0 20 (M l0 20)) l0 19) + 1)) l0 16) + 1)), J))) f_140_164 rfl ?_
      exact rfl
    · refine ev_nx (s1 := (140, 121, [.ref l0], [.int 10, .ref l0], (sh, M, J))) f_140_119 rfl ?_
      refine ev_nx (s1 := (140, 122, [.ref l0], [.ref l0, .int 10, .ref l0], (sh, M, J))) f_140_121 rfl ?_
      refine ev_gd (s1 := (140, 125, [.ref l0], [.int (M l0 20), .int 10, .ref l0], (sh, M, J))) f_140_122 rfl ?_
      refine ev_nx (s1 := (140, 126, [.ref l0], [.int ((10 : Int32) * (M l0 20)), .ref l0], (sh, M, J))) f_140_125 rfl ?_
      refine ev_nx (s1 := (140, 127, [.ref l0], [.ref l0, .int ((10 : Int32) * (M l0 20)), .ref l0], (sh, M, J))) f_140_126 rfl ?_
      exact ev_ca (cc := (decide ((sh.2.2.1 l0).1 = 9) && true)) (s1 := (139, 0, [.ref l0], [], (sh, M, J))) (k := (140, 130, [.ref l0], [.int ((10 : Int32) * (M l0 20)), .ref l0])) f_140_127 rfl
theorem b_R_step_130 (sh : xSh) (M : Nat → Nat → Int32) (J : Nat → Nat → Int64) (l0 : Nat) (k0 : Int32) (k1 : Int32) (k2 : Nat) : ev (140, 130, [.ref l0], [.int k0, .int k1, .ref k2], (sh, M, J)) = (bif decide ((sh.2.2.1 k2).1 = 9) then bif decide ((sh.2.2.1 l0).1 = 9) then bif decide ((sh.2.2.1 l0).1 = 9) then bif decide ((sh.2.2.1 l0).1 = 9) then bif decide ((sh.2.2.1 l0).1 = 9) then ev (140, 93, [.ref l0], [], (sh, (xu (xu (xu M k2 20 ((k1 + k0) - 48)) l0 19 (((xu M k2 20 ((k1 + k0) - 48)) l0 19) + 1)) l0 16 (((xu (xu M k2 20 ((k1 + k0) - 48)) l0 19 (((xu M k2 20 ((k1 + k0) - 48)) l0 19) + 1)) l0 16) + 1)), J)) else none else none else none else none else none) := by
  refine ev_nx (s1 := (140, 131, [.ref l0], [.int (k1 + k0), .ref k2], (sh, M, J))) f_140_130 rfl ?_
  refine ev_nx (s1 := (140, 133, [.ref l0], [.int 48, .int (k1 + k0), .ref k2], (sh, M, J))) f_140_131 rfl ?_
  refine ev_nx (s1 := (140, 134, [.ref l0], [.int ((k1 + k0) - 48), .ref k2], (sh, M, J))) f_140_133 rfl ?_
  refine ev_nx (s1 := (140, 141, [.ref l0], [.int ((k1 + k0) - 48), .ref k2], (sh, M, J))) f_140_134 rfl ?_
  refine ev_gd (s1 := (140, 144, [.ref l0], [], (sh, (xu M k2 20 ((k1 + k0) - 48)), J))) f_140_141 rfl ?_
  refine ev_nx (s1 := (140, 145, [.ref l0], [.ref l0], (sh, (xu M k2 20 ((k1 + k0) - 48)), J))) f_140_144 rfl ?_
  refine ev_nx (s1 := (140, 146, [.ref l0], [.ref l0, .ref l0], (sh, (xu M k2 20 ((k1 + k0) - 48)), J))) f_140_145 rfl ?_
  refine ev_gd (s1 := (140, 149, [.ref l0], [.int ((xu M k2 20 ((k1 + k0) - 48)) l0 19), .ref l0], (sh, (xu M k2 20 ((k1 + k0) - 48)), J))) f_140_146 rfl ?_
  refine ev_nx (s1 := (140, 150, [.ref l0], [.int 1, .int ((xu M k2 20 ((k1 + k0) - 48)) l0 19), .ref l0], (sh, (xu M k2 20 ((k1 + k0) - 48)), J))) f_140_149 rfl ?_
  refine ev_nx (s1 := (140, 151, [.ref l0], [.int (((xu M k2 20 ((k1 + k0) - 48)) l0 19) + 1), .ref l0], (sh, (xu M k2 20 ((k1 + k0) - 48)), J))) f_140_150 rfl ?_
  refine ev_gd (s1 := (140, 154, [.ref l0], [], (sh, (xu (xu M k2 20 ((k1 + k0) - 48)) l0 19 (((xu M k2 20 ((k1 + k0) - 48)) l0 19) + 1)), J))) f_140_151 rfl ?_
  refine ev_nx (s1 := (140, 155, [.ref l0], [.ref l0], (sh, (xu (xu M k2 20 ((k1 + k0) - 48)) l0 19 (((xu M k2 20 ((k1 + k0) - 48)) l0 19) + 1)), J))) f_140_154 rfl ?_
  refine ev_nx (s1 := (140, 156, [.ref l0], [.ref l0, .ref l0], (sh, (xu (xu M k2 20 ((k1 + k0) - 48)) l0 19 (((xu M k2 20 ((k1 + k0) - 48)) l0 19) + 1)), J))) f_140_155 rfl ?_
  refine ev_gd (s1 := (140, 159, [.ref l0], [.int ((xu (xu M k2 20 ((k1 + k0) - 48)) l0 19 (((xu M k2 20 ((k1 + k0) - 48)) l0 19) + 1)) l0 16), .ref l0], (sh, (xu (xu M k2 20 ((k1 + k0) - 48)) l0 19 (((xu M k2 20 ((k1 + k0) - 48)) l0 19) + 1)), J))) f_140_156 rfl ?_
  refine ev_nx (s1 := (140, 160, [.ref l0], [.int 1, .int ((xu (xu M k2 20 ((k1 + k0) - 48)) l0 19 (((xu M k2 20 ((k1 + k0) - 48)) l0 19) + 1)) l0 16), .ref l0], (sh, (xu (xu M k2 20 ((k1 + k0) - 48)) l0 19 (((xu M k2 20 ((k1 + k0) - 48)) l0 19) + 1)), J))) f_140_159 rfl ?_
  refine ev_nx (s1 := (140, 161, [.ref l0], [.int (((xu (xu M k2 20 ((k1 + k0) - 48)) l0 19 (((xu M k2 20 ((k1 + k0) - 48)) l0 19) + 1)) l0 16) + 1), .ref l0], (sh, (xu (xu M k2 20 ((k1 + k0) - 48)) l0 19 (((xu M k2 20 ((k1 + k0) - 48)) l0 19) + 1)), J))) f_140_160 rfl ?_
  refine ev_gd (s1 := (140, 164, [.ref l0], [], (sh, (xu (xu (xu M k2 20 ((k1 + k0) - 48)) l0 19 (((xu M k2 20 ((k1 + k0) - 48)) l0 19) + 1)) l0 16 (((xu (xu M k2 20 ((k1 + k0) - 48)) l0 19 (((xu M k2 20 ((k1 + k0) - 48)) l0 19) + 1)) l0 16) + 1)), J))) f_140_161 rfl ?_
  refine ev_nx (s1 := (140, 93, [.ref l0], [], (sh, (xu (xu (xu M k2 20 ((k1 + k0) - 48)) l0 19 (((xu M k2 20 ((k1 + k0) - 48)) l0 19) + 1)) l0 16 (((xu (xu M k2 20 ((k1 + k0) - 48)) l0 19 (((xu M k2 20 ((k1 + k0) - 48)) l0 19) + 1)) l0 16) + 1)), J))) f_140_164 rfl ?_
  exact rfl
theorem f_141_0 : xfind (xnth xTs 141) 0 = some (0, .aload_n 0, 1, (0, 0, 0, 0), .null, [], 0, 0, []) := rfl
theorem f_141_1 : xfind (xnth xTs 141) 1 = some (1, .iload_n 1, 1, (0, 0, 0, 0), .null, [], 0, 0, []) := rfl
theorem f_141_2 : xfind (xnth xTs 141) 2 = some (2, .putfield 119, 3, (9, 21, 0, 0), .null, [], 930, 0, []) := rfl
theorem f_141_5 : xfind (xnth xTs 141) 5 = some (5, .iconst 0, 1, (0, 0, 0, 0), (.int 0), [], 0, 0, []) := rfl
theorem f_141_6 : xfind (xnth xTs 141) 6 = some (6, .ireturn, 1, (1, 0, 0, 0), .null, [], 0, 0, []) := rfl
theorem b_R_fails_0 (sh : xSh) (M : Nat → Nat → Int32) (J : Nat → Nat → Int64) (l0 : Nat) (l1 : Int32) : ev (141, 0, [.ref l0, .int l1], [], (sh, M, J)) = (bif decide ((sh.2.2.1 l0).1 = 9) then some (some (.int 0), (sh, (xu M l0 21 l1), J)) else none) := by
  refine ev_nx (s1 := (141, 1, [.ref l0, .int l1], [.ref l0], (sh, M, J))) f_141_0 rfl ?_
  refine ev_nx (s1 := (141, 2, [.ref l0, .int l1], [.int l1, .ref l0], (sh, M, J))) f_141_1 rfl ?_
  refine ev_gd (s1 := (141, 5, [.ref l0, .int l1], [], (sh, (xu M l0 21 l1), J))) f_141_2 rfl ?_
  refine ev_nx (s1 := (141, 6, [.ref l0, .int l1], [.int 0], (sh, (xu M l0 21 l1), J))) f_141_5 rfl ?_
  exact ev_r1 f_141_6 rfl
theorem f_142_0 : xfind (xnth xTs 142) 0 = some (0, .aload_n 0, 1, (0, 0, 0, 0), .null, [], 0, 0, []) := rfl
theorem f_142_1 : xfind (xnth xTs 142) 1 = some (1, .invokevirtual 122, 3, (140, 0, 9, 1), .null, [], 1000, 0, []) := rfl
theorem f_142_4 : xfind (xnth xTs 142) 4 = some (4, .aload_n 0, 1, (0, 0, 0, 0), .null, [], 0, 0, []) := rfl
theorem f_142_5 : xfind (xnth xTs 142) 5 = some (5, .getfield 106, 3, (9, 18, 0, 0), .null, [], 927, 0, []) := rfl
theorem f_142_8 : xfind (xnth xTs 142) 8 = some (8, .bipush 48, 2, (0, 0, 0, 0), (.int 48), [], 0, 0, []) := rfl
theorem f_142_10 : xfind (xnth xTs 142) 10 = some (10, .if_icmp .eq 9, 3, (0, 0, 0, 0), .null, [], 0, 0, []) := rfl
theorem f_142_13 : xfind (xnth xTs 142) 13 = some (13, .aload_n 0, 1, (0, 0, 0, 0), .null, [], 0, 0, []) := rfl
theorem f_142_14 : xfind (xnth xTs 142) 14 = some (14, .iconst 1, 1, (0, 0, 0, 0), (.int 1), [], 0, 0, []) := rfl
theorem f_142_15 : xfind (xnth xTs 142) 15 = some (15, .invokevirtual 125, 3, (141, 1, 9, 2), .null, [], 1018, 0, []) := rfl
theorem f_142_18 : xfind (xnth xTs 142) 18 = some (18, .ireturn, 1, (1, 0, 0, 0), .null, [], 0, 0, []) := rfl
theorem f_142_19 : xfind (xnth xTs 142) 19 = some (19, .aload_n 0, 1, (0, 0, 0, 0), .null, [], 0, 0, []) := rfl
theorem f_142_20 : xfind (xnth xTs 142) 20 = some (20, .getfield 109, 3, (9, 19, 0, 0), .null, [], 928, 0, []) := rfl
theorem f_142_23 : xfind (xnth xTs 142) 23 = some (23, .iconst 3, 1, (0, 0, 0, 0), (.int 3), [], 0, 0, []) := rfl
theorem f_142_24 : xfind (xnth xTs 142) 24 = some (24, .if_icmp .gt 18, 3, (0, 0, 0, 0), .null, [], 0, 0, []) := rfl
theorem f_142_27 : xfind (xnth xTs 142) 27 = some (27, .aload_n 0, 1, (0, 0, 0, 0), .null, [], 0, 0, []) := rfl
theorem f_142_28 : xfind (xnth xTs 142) 28 = some (28, .getfield 112, 3, (9, 20, 0, 0), .null, [], 929, 0, []) := rfl
theorem f_142_31 : xfind (xnth xTs 142) 31 = some (31, .i2l, 1, (0, 0, 0, 0), .null, [], 0, 0, []) := rfl
theorem f_142_32 : xfind (xnth xTs 142) 32 = some (32, .iload_n 2, 1, (0, 0, 0, 0), .null, [], 0, 0, []) := rfl
theorem f_142_33 : xfind (xnth xTs 142) 33 = some (33, .i2l, 1, (0, 0, 0, 0), .null, [], 0, 0, []) := rfl
theorem f_142_34 : xfind (xnth xTs 142) 34 = some (34, .iload_n 3, 1, (0, 0, 0, 0), .null, [], 0, 0, []) := rfl
theorem f_142_35 : xfind (xnth xTs 142) 35 = some (35, .i2l, 1, (0, 0, 0, 0), .null, [], 0, 0, []) := rfl
theorem f_142_36 : xfind (xnth xTs 142) 36 = some (36, .invokestatic 68, 3, (132, 3, 9, 6), .null, [], 897, 0, []) := rfl
theorem f_142_39 : xfind (xnth xTs 142) 39 = some (39, .ifCond .ne 9, 3, (0, 0, 0, 0), .null, [], 0, 0, []) := rfl
theorem f_142_42 : xfind (xnth xTs 142) 42 = some (42, .aload_n 0, 1, (0, 0, 0, 0), .null, [], 0, 0, []) := rfl
theorem f_142_43 : xfind (xnth xTs 142) 43 = some (43, .iconst 2, 1, (0, 0, 0, 0), (.int 2), [], 0, 0, []) := rfl
theorem f_142_44 : xfind (xnth xTs 142) 44 = some (44, .invokevirtual 125, 3, (141, 1, 9, 2), .null, [], 1018, 0, []) := rfl
theorem f_142_47 : xfind (xnth xTs 142) 47 = some (47, .ireturn, 1, (1, 0, 0, 0), .null, [], 0, 0, []) := rfl
theorem f_142_48 : xfind (xnth xTs 142) 48 = some (48, .aload_n 0, 1, (0, 0, 0, 0), .null, [], 0, 0, []) := rfl
theorem f_142_49 : xfind (xnth xTs 142) 49 = some (49, .getfield 13, 3, (9, 1, 1, 0), .null, [], 910, 0, []) := rfl
theorem f_142_52 : xfind (xnth xTs 142) 52 = some (52, .iload_n 1, 1, (0, 0, 0, 0), .null, [], 0, 0, []) := rfl
theorem f_142_53 : xfind (xnth xTs 142) 53 = some (53, .aload_n 0, 1, (0, 0, 0, 0), .null, [], 0, 0, []) := rfl
theorem f_142_54 : xfind (xnth xTs 142) 54 = some (54, .getfield 112, 3, (9, 20, 0, 0), .null, [], 929, 0, []) := rfl
theorem f_142_57 : xfind (xnth xTs 142) 57 = some (57, .iastore, 1, (0, 0, 0, 0), .null, [], 0, 0, []) := rfl
theorem f_142_58 : xfind (xnth xTs 142) 58 = some (58, .iconst 1, 1, (0, 0, 0, 0), (.int 1), [], 0, 0, []) := rfl
theorem f_142_59 : xfind (xnth xTs 142) 59 = some (59, .ireturn, 1, (1, 0, 0, 0), .null, [], 0, 0, []) := rfl
theorem b_R_number_0 (sh : xSh) (M : Nat → Nat → Int32) (J : Nat → Nat → Int64) (l0 : Nat) (l1 : Int32) (l2 : Int32) (l3 : Int32) : ev (142, 0, [.ref l0, .int l1, .int l2, .int l3], [], (sh, M, J)) = (bif (decide ((sh.2.2.1 l0).1 = 9) && true) then (ev (140, 0, [.ref l0], [], (sh, M, J))).bind (fun r => ev (142, 4, [.ref l0, .int l1, .int l2, .int l3], r.1.toList ++ [], r.2)) else none) := by
  refine ev_nx (s1 := (142, 1, [.ref l0, .int l1, .int l2, .int l3], [.ref l0], (sh, M, J))) f_142_0 rfl ?_
  exact ev_ca (cc := (decide ((sh.2.2.1 l0).1 = 9) && true)) (s1 := (140, 0, [.ref l0], [], (sh, M, J))) (k := (142, 4, [.ref l0, .int l1, .int l2, .int l3], [])) f_142_1 rfl
theorem b_R_number_4 (sh : xSh) (M : Nat → Nat → Int32) (J : Nat → Nat → Int64) (l0 : Nat) (l1 : Int32) (l2 : Int32) (l3 : Int32) : ev (142, 4, [.ref l0, .int l1, .int l2, .int l3], [], (sh, M, J)) = (bif decide ((sh.2.2.1 l0).1 = 9) then bif decide ((M l0 18) = 48) then bif decide ((sh.2.2.1 l0).1 = 9) then bif decide (3 < (M l0 19)) then bif (decide ((sh.2.2.1 l0).1 = 9) && true) then (ev (141, 0, [.ref l0, .int 2], [], (sh, M, J))).bind (fun r => ev (142, 47, [.ref l0, .int l1, .int l2, .int l3], r.1.toList ++ [], r.2)) else none else bif decide ((sh.2.2.1 l0).1 = 9) then (ev (132, 0, [.long ((M l0 20) : Int32).toInt64, .null, .long (l2 : Int32).toInt64, .null, .long (l3 : Int32).toInt64, .null], [], (sh, M, J))).bind (fun r => ev (142, 39, [.ref l0, .int l1, .int l2, .int l3], r.1.toList ++ [], r.2)) else none else none else bif (decide ((sh.2.2.1 l0).1 = 9) && true) then (ev (141, 0, [.ref l0, .int 1], [], (sh, M, J))).bind (fun r => ev (142, 18, [.ref l0, .int l1, .int l2, .int l3], r.1.toList ++ [], r.2)) else none else none) := by
  refine ev_nx (s1 := (142, 5, [.ref l0, .int l1, .int l2, .int l3], [.ref l0], (sh, M, J))) f_142_4 rfl ?_
  refine ev_gd (s1 := (142, 8, [.ref l0, .int l1, .int l2, .int l3], [.int (M l0 18)], (sh, M, J))) f_142_5 rfl ?_
  refine ev_nx (s1 := (142, 10, [.ref l0, .int l1, .int l2, .int l3], [.int 48, .int (M l0 18)], (sh, M, J))) f_142_8 rfl ?_
  refine ev_br (s1 := (142, 19, [.ref l0, .int l1, .int l2, .int l3], [], (sh, M, J))) (s2 := (142, 13, [.ref l0, .int l1, .int l2, .int l3], [], (sh, M, J))) f_142_10 rfl ?_ ?_
  · refine ev_nx (s1 := (142, 20, [.ref l0, .int l1, .int l2, .int l3], [.ref l0], (sh, M, J))) f_142_19 rfl ?_
    refine ev_gd (s1 := (142, 23, [.ref l0, .int l1, .int l2, .int l3], [.int (M l0 19)], (sh, M, J))) f_142_20 rfl ?_
    refine ev_nx (s1 := (142, 24, [.ref l0, .int l1, .int l2, .int l3], [.int 3, .int (M l0 19)], (sh, M, J))) f_142_23 rfl ?_
    refine ev_br (s1 := (142, 42, [.ref l0, .int l1, .int l2, .int l3], [], (sh, M, J))) (s2 := (142, 27, [.ref l0, .int l1, .int l2, .int l3], [], (sh, M, J))) f_142_24 rfl ?_ ?_
    · refine ev_nx (s1 := (142, 43, [.ref l0, .int l1, .int l2, .int l3], [.ref l0], (sh, M, J))) f_142_42 rfl ?_
      refine ev_nx (s1 := (142, 44, [.ref l0, .int l1, .int l2, .int l3], [.int 2, .ref l0], (sh, M, J))) f_142_43 rfl ?_
      exact ev_ca (cc := (decide ((sh.2.2.1 l0).1 = 9) && true)) (s1 := (141, 0, [.ref l0, .int 2], [], (sh, M, J))) (k := (142, 47, [.ref l0, .int l1, .int l2, .int l3], [])) f_142_44 rfl
    · refine ev_nx (s1 := (142, 28, [.ref l0, .int l1, .int l2, .int l3], [.ref l0], (sh, M, J))) f_142_27 rfl ?_
      refine ev_gd (s1 := (142, 31, [.ref l0, .int l1, .int l2, .int l3], [.int (M l0 20)], (sh, M, J))) f_142_28 rfl ?_
      refine ev_nx (s1 := (142, 32, [.ref l0, .int l1, .int l2, .int l3], [.long ((M l0 20) : Int32).toInt64], (sh, M, J))) f_142_31 rfl ?_
      refine ev_nx (s1 := (142, 33, [.ref l0, .int l1, .int l2, .int l3], [.int l2, .long ((M l0 20) : Int32).toInt64], (sh, M, J))) f_142_32 rfl ?_
      refine ev_nx (s1 := (142, 34, [.ref l0, .int l1, .int l2, .int l3], [.long (l2 : Int32).toInt64, .long ((M l0 20) : Int32).toInt64], (sh, M, J))) f_142_33 rfl ?_
      refine ev_nx (s1 := (142, 35, [.ref l0, .int l1, .int l2, .int l3], [.int l3, .long (l2 : Int32).toInt64, .long ((M l0 20) : Int32).toInt64], (sh, M, J))) f_142_34 rfl ?_
      refine ev_nx (s1 := (142, 36, [.ref l0, .int l1, .int l2, .int l3], [.long (l3 : Int32).toInt64, .long (l2 : Int32).toInt64, .long ((M l0 20) : Int32).toInt64], (sh, M, J))) f_142_35 rfl ?_
      exact ev_c1 (s1 := (132, 0, [.long ((M l0 20) : Int32).toInt64, .null, .long (l2 : Int32).toInt64, .null, .long (l3 : Int32).toInt64, .null], [], (sh, M, J))) (k := (142, 39, [.ref l0, .int l1, .int l2, .int l3], [])) f_142_36 rfl
  · refine ev_nx (s1 := (142, 14, [.ref l0, .int l1, .int l2, .int l3], [.ref l0], (sh, M, J))) f_142_13 rfl ?_
    refine ev_nx (s1 := (142, 15, [.ref l0, .int l1, .int l2, .int l3], [.int 1, .ref l0], (sh, M, J))) f_142_14 rfl ?_
    exact ev_ca (cc := (decide ((sh.2.2.1 l0).1 = 9) && true)) (s1 := (141, 0, [.ref l0, .int 1], [], (sh, M, J))) (k := (142, 18, [.ref l0, .int l1, .int l2, .int l3], [])) f_142_15 rfl
theorem b_R_number_18 (sh : xSh) (M : Nat → Nat → Int32) (J : Nat → Nat → Int64) (l0 : Nat) (l1 : Int32) (l2 : Int32) (l3 : Int32) (k0 : Int32) : ev (142, 18, [.ref l0, .int l1, .int l2, .int l3], [.int k0], (sh, M, J)) = (bif ((k0 &&& 1) == k0) then some (some (.int k0), (sh, M, J)) else none) := by
  exact ev_rt f_142_18 rfl
theorem b_R_number_39 (sh : xSh) (M : Nat → Nat → Int32) (J : Nat → Nat → Int64) (l0 : Nat) (l1 : Int32) (l2 : Int32) (l3 : Int32) (k0 : Int32) : ev (142, 39, [.ref l0, .int l1, .int l2, .int l3], [.int k0], (sh, M, J)) = (bif !decide (k0 = 0) then bif decide ((sh.2.2.1 l0).1 = 9) then bif decide ((sh.2.2.1 l0).1 = 9) then bif (decide ((sh.2.2.1 (sh.2.2.2 l0 1)).1 = 11) && xin l1 (sh.2.2.1 (sh.2.2.2 l0 1)).2) then some (some (.int 1), (sh, (xu M (sh.2.2.2 l0 1) (l1 : Int32).toNatClampNeg (M l0 20)), J)) else none else none else none else bif (decide ((sh.2.2.1 l0).1 = 9) && true) then (ev (141, 0, [.ref l0, .int 2], [], (sh, M, J))).bind (fun r => ev (142, 47, [.ref l0, .int l1, .int l2, .int l3], r.1.toList ++ [], r.2)) else none) := by
  refine ev_br (s1 := (142, 48, [.ref l0, .int l1, .int l2, .int l3], [], (sh, M, J))) (s2 := (142, 42, [.ref l0, .int l1, .int l2, .int l3], [], (sh, M, J))) f_142_39 rfl ?_ ?_
  · refine ev_nx (s1 := (142, 49, [.ref l0, .int l1, .int l2, .int l3], [.ref l0], (sh, M, J))) f_142_48 rfl ?_
    refine ev_gd (s1 := (142, 52, [.ref l0, .int l1, .int l2, .int l3], [.ref (sh.2.2.2 l0 1)], (sh, M, J))) f_142_49 rfl ?_
    refine ev_nx (s1 := (142, 53, [.ref l0, .int l1, .int l2, .int l3], [.int l1, .ref (sh.2.2.2 l0 1)], (sh, M, J))) f_142_52 rfl ?_
    refine ev_nx (s1 := (142, 54, [.ref l0, .int l1, .int l2, .int l3], [.ref l0, .int l1, .ref (sh.2.2.2 l0 1)], (sh, M, J))) f_142_53 rfl ?_
    refine ev_gd (s1 := (142, 57, [.ref l0, .int l1, .int l2, .int l3], [.int (M l0 20), .int l1, .ref (sh.2.2.2 l0 1)], (sh, M, J))) f_142_54 rfl ?_
    refine ev_gd (s1 := (142, 58, [.ref l0, .int l1, .int l2, .int l3], [], (sh, (xu M (sh.2.2.2 l0 1) (l1 : Int32).toNatClampNeg (M l0 20)), J))) f_142_57 rfl ?_
    refine ev_nx (s1 := (142, 59, [.ref l0, .int l1, .int l2, .int l3], [.int 1], (sh, (xu M (sh.2.2.2 l0 1) (l1 : Int32).toNatClampNeg (M l0 20)), J))) f_142_58 rfl ?_
    exact ev_r1 f_142_59 rfl
  · refine ev_nx (s1 := (142, 43, [.ref l0, .int l1, .int l2, .int l3], [.ref l0], (sh, M, J))) f_142_42 rfl ?_
    refine ev_nx (s1 := (142, 44, [.ref l0, .int l1, .int l2, .int l3], [.int 2, .ref l0], (sh, M, J))) f_142_43 rfl ?_
    exact ev_ca (cc := (decide ((sh.2.2.1 l0).1 = 9) && true)) (s1 := (141, 0, [.ref l0, .int 2], [], (sh, M, J))) (k := (142, 47, [.ref l0, .int l1, .int l2, .int l3], [])) f_142_44 rfl
theorem b_R_number_47 (sh : xSh) (M : Nat → Nat → Int32) (J : Nat → Nat → Int64) (l0 : Nat) (l1 : Int32) (l2 : Int32) (l3 : Int32) (k0 : Int32) : ev (142, 47, [.ref l0, .int l1, .int l2, .int l3], [.int k0], (sh, M, J)) = (bif ((k0 &&& 1) == k0) then some (some (.int k0), (sh, M, J)) else none) := by
  exact ev_rt f_142_47 rfl
theorem f_143_0 : xfind (xnth xTs 143) 0 = some (0, .aload_n 0, 1, (0, 0, 0, 0), .null, [], 0, 0, []) := rfl
theorem f_143_1 : xfind (xnth xTs 143) 1 = some (1, .invokevirtual 122, 3, (140, 0, 9, 1), .null, [], 1000, 0, []) := rfl
theorem f_143_4 : xfind (xnth xTs 143) 4 = some (4, .aload_n 0, 1, (0, 0, 0, 0), .null, [], 0, 0, []) := rfl
theorem f_143_5 : xfind (xnth xTs 143) 5 = some (5, .getfield 106, 3, (9, 18, 0, 0), .null, [], 927, 0, []) := rfl
theorem f_143_8 : xfind (xnth xTs 143) 8 = some (8, .bipush 59, 2, (0, 0, 0, 0), (.int 59), [], 0, 0, []) := rfl
theorem f_143_10 : xfind (xnth xTs 143) 10 = some (10, .if_icmp .eq 11, 3, (0, 0, 0, 0), .null, [], 0, 0, []) := rfl
theorem f_143_13 : xfind (xnth xTs 143) 13 = some (13, .aload_n 0, 1, (0, 0, 0, 0), .null, [], 0, 0, []) := rfl
theorem f_143_14 : xfind (xnth xTs 143) 14 = some (14, .iconst 1, 1, (0, 0, 0, 0), (.int 1), [], 0, 0, []) := rfl
theorem f_143_15 : xfind (xnth xTs 143) 15 = some (15, .invokevirtual 125, 3, (141, 1, 9, 2), .null, [], 1018, 0, []) := rfl
theorem f_143_18 : xfind (xnth xTs 143) 18 = some (18, .ifCond .eq 7, 3, (0, 0, 0, 0), .null, [], 0, 0, []) := rfl
theorem f_143_21 : xfind (xnth xTs 143) 21 = some (21, .iconst 1, 1, (0, 0, 0, 0), (.int 1), [], 0, 0, []) := rfl
theorem f_143_22 : xfind (xnth xTs 143) 22 = some (22, .goto 4, 3, (0, 0, 0, 0), .null, [], 0, 0, []) := rfl
theorem f_143_25 : xfind (xnth xTs 143) 25 = some (25, .iconst 0, 1, (0, 0, 0, 0), (.int 0), [], 0, 0, []) := rfl
theorem f_143_26 : xfind (xnth xTs 143) 26 = some (26, .ireturn, 1, (1, 0, 0, 0), .null, [], 0, 0, []) := rfl
theorem b_R_ends_0 (sh : xSh) (M : Nat → Nat → Int32) (J : Nat → Nat → Int64) (l0 : Nat) : ev (143, 0, [.ref l0], [], (sh, M, J)) = (bif (decide ((sh.2.2.1 l0).1 = 9) && true) then (ev (140, 0, [.ref l0], [], (sh, M, J))).bind (fun r => ev (143, 4, [.ref l0], r.1.toList ++ [], r.2)) else none) := by
  refine ev_nx (s1 := (143, 1, [.ref l0], [.ref l0], (sh, M, J))) f_143_0 rfl ?_
  exact ev_ca (cc := (decide ((sh.2.2.1 l0).1 = 9) && true)) (s1 := (140, 0, [.ref l0], [], (sh, M, J))) (k := (143, 4, [.ref l0], [])) f_143_1 rfl
theorem b_R_ends_4 (sh : xSh) (M : Nat → Nat → Int32) (J : Nat → Nat → Int64) (l0 : Nat) : ev (143, 4, [.ref l0], [], (sh, M, J)) = (bif decide ((sh.2.2.1 l0).1 = 9) then bif decide ((M l0 18) = 59) then some (some (.int 1), (sh, M, J)) else bif (decide ((sh.2.2.1 l0).1 = 9) && true) then (ev (141, 0, [.ref l0, .int 1], [], (sh, M, J))).bind (fun r => ev (143, 18, [.ref l0], r.1.toList ++ [], r.2)) else none else none) := by
  refine ev_nx (s1 := (143, 5, [.ref l0], [.ref l0], (sh, M, J))) f_143_4 rfl ?_
  refine ev_gd (s1 := (143, 8, [.ref l0], [.int (M l0 18)], (sh, M, J))) f_143_5 rfl ?_
  refine ev_nx (s1 := (143, 10, [.ref l0], [.int 59, .int (M l0 18)], (sh, M, J))) f_143_8 rfl ?_
  refine ev_br (s1 := (143, 21, [.ref l0], [], (sh, M, J))) (s2 := (143, 13, [.ref l0], [], (sh, M, J))) f_143_10 rfl ?_ ?_
  · refine ev_nx (s1 := (143, 22, [.ref l0], [.int 1], (sh, M, J))) f_143_21 rfl ?_
    refine ev_nx (s1 := (143, 26, [.ref l0], [.int 1], (sh, M, J))) f_143_22 rfl ?_
    exact ev_r1 f_143_26 rfl
  · refine ev_nx (s1 := (143, 14, [.ref l0], [.ref l0], (sh, M, J))) f_143_13 rfl ?_
    refine ev_nx (s1 := (143, 15, [.ref l0], [.int 1, .ref l0], (sh, M, J))) f_143_14 rfl ?_
    exact ev_ca (cc := (decide ((sh.2.2.1 l0).1 = 9) && true)) (s1 := (141, 0, [.ref l0, .int 1], [], (sh, M, J))) (k := (143, 18, [.ref l0], [])) f_143_15 rfl
theorem b_R_ends_18 (sh : xSh) (M : Nat → Nat → Int32) (J : Nat → Nat → Int64) (l0 : Nat) (k0 : Int32) : ev (143, 18, [.ref l0], [.int k0], (sh, M, J)) = (bif decide (k0 = 0) then some (some (.int 0), (sh, M, J)) else some (some (.int 1), (sh, M, J))) := by
  refine ev_br (s1 := (143, 25, [.ref l0], [], (sh, M, J))) (s2 := (143, 21, [.ref l0], [], (sh, M, J))) f_143_18 rfl ?_ ?_
  · refine ev_nx (s1 := (143, 26, [.ref l0], [.int 0], (sh, M, J))) f_143_25 rfl ?_
    exact ev_r1 f_143_26 rfl
  · refine ev_nx (s1 := (143, 22, [.ref l0], [.int 1], (sh, M, J))) f_143_21 rfl ?_
    refine ev_nx (s1 := (143, 26, [.ref l0], [.int 1], (sh, M, J))) f_143_22 rfl ?_
    exact ev_r1 f_143_26 rfl
theorem f_144_0 : xfind (xnth xTs 144) 0 = some (0, .aload_n 0, 1, (0, 0, 0, 0), .null, [], 0, 0, []) := rfl
theorem f_144_1 : xfind (xnth xTs 144) 1 = some (1, .getfield 13, 3, (9, 1, 1, 0), .null, [], 910, 0, []) := rfl
theorem f_144_4 : xfind (xnth xTs 144) 4 = some (4, .iconst 0, 1, (0, 0, 0, 0), (.int 0), [], 0, 0, []) := rfl
theorem f_144_5 : xfind (xnth xTs 144) 5 = some (5, .iaload, 1, (0, 0, 0, 0), .null, [], 0, 0, []) := rfl
theorem f_144_6 : xfind (xnth xTs 144) 6 = some (6, .ifCond .le 9, 3, (0, 0, 0, 0), .null, [], 0, 0, []) := rfl
theorem f_144_9 : xfind (xnth xTs 144) 9 = some (9, .aload_n 0, 1, (0, 0, 0, 0), .null, [], 0, 0, []) := rfl
theorem f_144_10 : xfind (xnth xTs 144) 10 = some (10, .iconst 3, 1, (0, 0, 0, 0), (.int 3), [], 0, 0, []) := rfl
theorem f_144_11 : xfind (xnth xTs 144) 11 = some (11, .invokevirtual 125, 3, (141, 1, 9, 2), .null, [], 1018, 0, []) := rfl
theorem f_144_14 : xfind (xnth xTs 144) 14 = some (14, .ireturn, 1, (1, 0, 0, 0), .null, [], 0, 0, []) := rfl
theorem f_144_15 : xfind (xnth xTs 144) 15 = some (15, .aload_n 0, 1, (0, 0, 0, 0), .null, [], 0, 0, []) := rfl
theorem f_144_16 : xfind (xnth xTs 144) 16 = some (16, .iconst 0, 1, (0, 0, 0, 0), (.int 0), [], 0, 0, []) := rfl
theorem f_144_17 : xfind (xnth xTs 144) 17 = some (17, .iconst 1, 1, (0, 0, 0, 0), (.int 1), [], 0, 0, []) := rfl
theorem f_144_18 : xfind (xnth xTs 144) 18 = some (18, .iconst 5, 1, (0, 0, 0, 0), (.int 5), [], 0, 0, []) := rfl
theorem f_144_19 : xfind (xnth xTs 144) 19 = some (19, .invokevirtual 129, 3, (142, 3, 9, 4), .null, [], 1022, 0, []) := rfl
theorem f_144_22 : xfind (xnth xTs 144) 22 = some (22, .ifCond .eq 34, 3, (0, 0, 0, 0), .null, [], 0, 0, []) := rfl
theorem f_144_25 : xfind (xnth xTs 144) 25 = some (25, .aload_n 0, 1, (0, 0, 0, 0), .null, [], 0, 0, []) := rfl
theorem f_144_26 : xfind (xnth xTs 144) 26 = some (26, .iconst 1, 1, (0, 0, 0, 0), (.int 1), [], 0, 0, []) := rfl
theorem f_144_27 : xfind (xnth xTs 144) 27 = some (27, .iconst 1, 1, (0, 0, 0, 0), (.int 1), [], 0, 0, []) := rfl
theorem f_144_28 : xfind (xnth xTs 144) 28 = some (28, .iconst 4, 1, (0, 0, 0, 0), (.int 4), [], 0, 0, []) := rfl
theorem f_144_29 : xfind (xnth xTs 144) 29 = some (29, .invokevirtual 129, 3, (142, 3, 9, 4), .null, [], 1022, 0, []) := rfl
theorem f_144_32 : xfind (xnth xTs 144) 32 = some (32, .ifCond .eq 24, 3, (0, 0, 0, 0), .null, [], 0, 0, []) := rfl
theorem f_144_35 : xfind (xnth xTs 144) 35 = some (35, .aload_n 0, 1, (0, 0, 0, 0), .null, [], 0, 0, []) := rfl
theorem f_144_36 : xfind (xnth xTs 144) 36 = some (36, .iconst 3, 1, (0, 0, 0, 0), (.int 3), [], 0, 0, []) := rfl
theorem f_144_37 : xfind (xnth xTs 144) 37 = some (37, .iconst 0, 1, (0, 0, 0, 0), (.int 0), [], 0, 0, []) := rfl
theorem f_144_38 : xfind (xnth xTs 144) 38 = some (38, .iconst 4, 1, (0, 0, 0, 0), (.int 4), [], 0, 0, []) := rfl
theorem f_144_39 : xfind (xnth xTs 144) 39 = some (39, .invokevirtual 129, 3, (142, 3, 9, 4), .null, [], 1022, 0, []) := rfl
theorem f_144_42 : xfind (xnth xTs 144) 42 = some (42, .ifCond .eq 14, 3, (0, 0, 0, 0), .null, [], 0, 0, []) := rfl
theorem f_144_45 : xfind (xnth xTs 144) 45 = some (45, .aload_n 0, 1, (0, 0, 0, 0), .null, [], 0, 0, []) := rfl
theorem f_144_46 : xfind (xnth xTs 144) 46 = some (46, .invokevirtual 133, 3, (143, 0, 9, 1), .null, [], 1026, 0, []) := rfl
theorem f_144_49 : xfind (xnth xTs 144) 49 = some (49, .ifCond .eq 7, 3, (0, 0, 0, 0), .null, [], 0, 0, []) := rfl
theorem f_144_52 : xfind (xnth xTs 144) 52 = some (52, .iconst 1, 1, (0, 0, 0, 0), (.int 1), [], 0, 0, []) := rfl
theorem f_144_53 : xfind (xnth xTs 144) 53 = some (53, .goto 4, 3, (0, 0, 0, 0), .null, [], 0, 0, []) := rfl
theorem f_144_56 : xfind (xnth xTs 144) 56 = some (56, .iconst 0, 1, (0, 0, 0, 0), (.int 0), [], 0, 0, []) := rfl
theorem f_144_57 : xfind (xnth xTs 144) 57 = some (57, .ireturn, 1, (1, 0, 0, 0), .null, [], 0, 0, []) := rfl
theorem b_R_readsCurtain_0 (sh : xSh) (M : Nat → Nat → Int32) (J : Nat → Nat → Int64) (l0 : Nat) : ev (144, 0, [.ref l0], [], (sh, M, J)) = (bif decide ((sh.2.2.1 l0).1 = 9) then bif (decide ((sh.2.2.1 (sh.2.2.2 l0 1)).1 = 11) && xin 0 (sh.2.2.1 (sh.2.2.2 l0 1)).2) then bif decide ((M (sh.2.2.2 l0 1) (0 : Int32).toNatClampNeg) ≤ 0) then bif (decide ((sh.2.2.1 l0).1 = 9) && true) then (ev (142, 0, [.ref l0, .int 0, .int 1, .int 5], [], (sh, M, J))).bind (fun r => ev (144, 22, [.ref l0], r.1.toList ++ [], r.2)) else none else bif (decide ((sh.2.2.1 l0).1 = 9) && true) then (ev (141, 0, [.ref l0, .int 3], [], (sh, M, J))).bind (fun r => ev (144, 14, [.ref l0], r.1.toList ++ [], r.2)) else none else none else none) := by
  refine ev_nx (s1 := (144, 1, [.ref l0], [.ref l0], (sh, M, J))) f_144_0 rfl ?_
  refine ev_gd (s1 := (144, 4, [.ref l0], [.ref (sh.2.2.2 l0 1)], (sh, M, J))) f_144_1 rfl ?_
  refine ev_nx (s1 := (144, 5, [.ref l0], [.int 0, .ref (sh.2.2.2 l0 1)], (sh, M, J))) f_144_4 rfl ?_
  refine ev_gd (s1 := (144, 6, [.ref l0], [.int (M (sh.2.2.2 l0 1) (0 : Int32).toNatClampNeg)], (sh, M, J))) f_144_5 rfl ?_
  refine ev_br (s1 := (144, 15, [.ref l0], [], (sh, M, J))) (s2 := (144, 9, [.ref l0], [], (sh, M, J))) f_144_6 rfl ?_ ?_
  · refine ev_nx (s1 := (144, 16, [.ref l0], [.ref l0], (sh, M, J))) f_144_15 rfl ?_
    refine ev_nx (s1 := (144, 17, [.ref l0], [.int 0, .ref l0], (sh, M, J))) f_144_16 rfl ?_
    refine ev_nx (s1 := (144, 18, [.ref l0], [.int 1, .int 0, .ref l0], (sh, M, J))) f_144_17 rfl ?_
    refine ev_nx (s1 := (144, 19, [.ref l0], [.int 5, .int 1, .int 0, .ref l0], (sh, M, J))) f_144_18 rfl ?_
    exact ev_ca (cc := (decide ((sh.2.2.1 l0).1 = 9) && true)) (s1 := (142, 0, [.ref l0, .int 0, .int 1, .int 5], [], (sh, M, J))) (k := (144, 22, [.ref l0], [])) f_144_19 rfl
  · refine ev_nx (s1 := (144, 10, [.ref l0], [.ref l0], (sh, M, J))) f_144_9 rfl ?_
    refine ev_nx (s1 := (144, 11, [.ref l0], [.int 3, .ref l0], (sh, M, J))) f_144_10 rfl ?_
    exact ev_ca (cc := (decide ((sh.2.2.1 l0).1 = 9) && true)) (s1 := (141, 0, [.ref l0, .int 3], [], (sh, M, J))) (k := (144, 14, [.ref l0], [])) f_144_11 rfl
theorem b_R_readsCurtain_14 (sh : xSh) (M : Nat → Nat → Int32) (J : Nat → Nat → Int64) (l0 : Nat) (k0 : Int32) : ev (144, 14, [.ref l0], [.int k0], (sh, M, J)) = (bif ((k0 &&& 1) == k0) then some (some (.int k0), (sh, M, J)) else none) := by
  exact ev_rt f_144_14 rfl
theorem b_R_readsCurtain_22 (sh : xSh) (M : Nat → Nat → Int32) (J : Nat → Nat → Int64) (l0 : Nat) (k0 : Int32) : ev (144, 22, [.ref l0], [.int k0], (sh, M, J)) = (bif decide (k0 = 0) then some (some (.int 0), (sh, M, J)) else bif (decide ((sh.2.2.1 l0).1 = 9) && true) then (ev (142, 0, [.ref l0, .int 1, .int 1, .int 4], [], (sh, M, J))).bind (fun r => ev (144, 32, [.ref l0], r.1.toList ++ [], r.2)) else none) := by
  refine ev_br (s1 := (144, 56, [.ref l0], [], (sh, M, J))) (s2 := (144, 25, [.ref l0], [], (sh, M, J))) f_144_22 rfl ?_ ?_
  · refine ev_nx (s1 := (144, 57, [.ref l0], [.int 0], (sh, M, J))) f_144_56 rfl ?_
    exact ev_r1 f_144_57 rfl
  · refine ev_nx (s1 := (144, 26, [.ref l0], [.ref l0], (sh, M, J))) f_144_25 rfl ?_
    refine ev_nx (s1 := (144, 27, [.ref l0], [.int 1, .ref l0], (sh, M, J))) f_144_26 rfl ?_
    refine ev_nx (s1 := (144, 28, [.ref l0], [.int 1, .int 1, .ref l0], (sh, M, J))) f_144_27 rfl ?_
    refine ev_nx (s1 := (144, 29, [.ref l0], [.int 4, .int 1, .int 1, .ref l0], (sh, M, J))) f_144_28 rfl ?_
    exact ev_ca (cc := (decide ((sh.2.2.1 l0).1 = 9) && true)) (s1 := (142, 0, [.ref l0, .int 1, .int 1, .int 4], [], (sh, M, J))) (k := (144, 32, [.ref l0], [])) f_144_29 rfl
theorem b_R_readsCurtain_32 (sh : xSh) (M : Nat → Nat → Int32) (J : Nat → Nat → Int64) (l0 : Nat) (k0 : Int32) : ev (144, 32, [.ref l0], [.int k0], (sh, M, J)) = (bif decide (k0 = 0) then some (some (.int 0), (sh, M, J)) else bif (decide ((sh.2.2.1 l0).1 = 9) && true) then (ev (142, 0, [.ref l0, .int 3, .int 0, .int 4], [], (sh, M, J))).bind (fun r => ev (144, 42, [.ref l0], r.1.toList ++ [], r.2)) else none) := by
  refine ev_br (s1 := (144, 56, [.ref l0], [], (sh, M, J))) (s2 := (144, 35, [.ref l0], [], (sh, M, J))) f_144_32 rfl ?_ ?_
  · refine ev_nx (s1 := (144, 57, [.ref l0], [.int 0], (sh, M, J))) f_144_56 rfl ?_
    exact ev_r1 f_144_57 rfl
  · refine ev_nx (s1 := (144, 36, [.ref l0], [.ref l0], (sh, M, J))) f_144_35 rfl ?_
    refine ev_nx (s1 := (144, 37, [.ref l0], [.int 3, .ref l0], (sh, M, J))) f_144_36 rfl ?_
    refine ev_nx (s1 := (144, 38, [.ref l0], [.int 0, .int 3, .ref l0], (sh, M, J))) f_144_37 rfl ?_
    refine ev_nx (s1 := (144, 39, [.ref l0], [.int 4, .int 0, .int 3, .ref l0], (sh, M, J))) f_144_38 rfl ?_
    exact ev_ca (cc := (decide ((sh.2.2.1 l0).1 = 9) && true)) (s1 := (142, 0, [.ref l0, .int 3, .int 0, .int 4], [], (sh, M, J))) (k := (144, 42, [.ref l0], [])) f_144_39 rfl
theorem b_R_readsCurtain_42 (sh : xSh) (M : Nat → Nat → Int32) (J : Nat → Nat → Int64) (l0 : Nat) (k0 : Int32) : ev (144, 42, [.ref l0], [.int k0], (sh, M, J)) = (bif decide (k0 = 0) then some (some (.int 0), (sh, M, J)) else bif (decide ((sh.2.2.1 l0).1 = 9) && true) then (ev (143, 0, [.ref l0], [], (sh, M, J))).bind (fun r => ev (144, 49, [.ref l0], r.1.toList ++ [], r.2)) else none) := by
  refine ev_br (s1 := (144, 56, [.ref l0], [], (sh, M, J))) (s2 := (144, 45, [.ref l0], [], (sh, M, J))) f_144_42 rfl ?_ ?_
  · refine ev_nx (s1 := (144, 57, [.ref l0], [.int 0], (sh, M, J))) f_144_56 rfl ?_
    exact ev_r1 f_144_57 rfl
  · refine ev_nx (s1 := (144, 46, [.ref l0], [.ref l0], (sh, M, J))) f_144_45 rfl ?_
    exact ev_ca (cc := (decide ((sh.2.2.1 l0).1 = 9) && true)) (s1 := (143, 0, [.ref l0], [], (sh, M, J))) (k := (144, 49, [.ref l0], [])) f_144_46 rfl
theorem b_R_readsCurtain_49 (sh : xSh) (M : Nat → Nat → Int32) (J : Nat → Nat → Int64) (l0 : Nat) (k0 : Int32) : ev (144, 49, [.ref l0], [.int k0], (sh, M, J)) = (bif decide (k0 = 0) then some (some (.int 0), (sh, M, J)) else some (some (.int 1), (sh, M, J))) := by
  refine ev_br (s1 := (144, 56, [.ref l0], [], (sh, M, J))) (s2 := (144, 52, [.ref l0], [], (sh, M, J))) f_144_49 rfl ?_ ?_
  · refine ev_nx (s1 := (144, 57, [.ref l0], [.int 0], (sh, M, J))) f_144_56 rfl ?_
    exact ev_r1 f_144_57 rfl
  · refine ev_nx (s1 := (144, 53, [.ref l0], [.int 1], (sh, M, J))) f_144_52 rfl ?_
    refine ev_nx (s1 := (144, 57, [.ref l0], [.int 1], (sh, M, J))) f_144_53 rfl ?_
    exact ev_r1 f_144_57 rfl
theorem f_145_0 : xfind (xnth xTs 145) 0 = some (0, .aload_n 0, 1, (0, 0, 0, 0), .null, [], 0, 0, []) := rfl
theorem f_145_1 : xfind (xnth xTs 145) 1 = some (1, .invokevirtual 122, 3, (140, 0, 9, 1), .null, [], 1000, 0, []) := rfl
theorem f_145_4 : xfind (xnth xTs 145) 4 = some (4, .aload_n 0, 1, (0, 0, 0, 0), .null, [], 0, 0, []) := rfl
theorem f_145_5 : xfind (xnth xTs 145) 5 = some (5, .getfield 106, 3, (9, 18, 0, 0), .null, [], 927, 0, []) := rfl
theorem f_145_8 : xfind (xnth xTs 145) 8 = some (8, .bipush 48, 2, (0, 0, 0, 0), (.int 48), [], 0, 0, []) := rfl
theorem f_145_10 : xfind (xnth xTs 145) 10 = some (10, .if_icmp .eq 9, 3, (0, 0, 0, 0), .null, [], 0, 0, []) := rfl
theorem f_145_13 : xfind (xnth xTs 145) 13 = some (13, .aload_n 0, 1, (0, 0, 0, 0), .null, [], 0, 0, []) := rfl
theorem f_145_14 : xfind (xnth xTs 145) 14 = some (14, .iconst 1, 1, (0, 0, 0, 0), (.int 1), [], 0, 0, []) := rfl
theorem f_145_15 : xfind (xnth xTs 145) 15 = some (15, .invokevirtual 125, 3, (141, 1, 9, 2), .null, [], 1018, 0, []) := rfl
theorem f_145_18 : xfind (xnth xTs 145) 18 = some (18, .ireturn, 1, (1, 0, 0, 0), .null, [], 0, 0, []) := rfl
theorem f_145_19 : xfind (xnth xTs 145) 19 = some (19, .aload_n 0, 1, (0, 0, 0, 0), .null, [], 0, 0, []) := rfl
theorem f_145_20 : xfind (xnth xTs 145) 20 = some (20, .getfield 109, 3, (9, 19, 0, 0), .null, [], 928, 0, []) := rfl
theorem f_145_23 : xfind (xnth xTs 145) 23 = some (23, .iconst 3, 1, (0, 0, 0, 0), (.int 3), [], 0, 0, []) := rfl
theorem f_145_24 : xfind (xnth xTs 145) 24 = some (24, .if_icmp .gt 11, 3, (0, 0, 0, 0), .null, [], 0, 0, []) := rfl
theorem f_145_27 : xfind (xnth xTs 145) 27 = some (27, .aload_n 0, 1, (0, 0, 0, 0), .null, [], 0, 0, []) := rfl
theorem f_145_28 : xfind (xnth xTs 145) 28 = some (28, .getfield 112, 3, (9, 20, 0, 0), .null, [], 929, 0, []) := rfl
theorem f_145_31 : xfind (xnth xTs 145) 31 = some (31, .iconst 4, 1, (0, 0, 0, 0), (.int 4), [], 0, 0, []) := rfl
theorem f_145_32 : xfind (xnth xTs 145) 32 = some (32, .if_icmp .le 9, 3, (0, 0, 0, 0), .null, [], 0, 0, []) := rfl
theorem f_145_35 : xfind (xnth xTs 145) 35 = some (35, .aload_n 0, 1, (0, 0, 0, 0), .null, [], 0, 0, []) := rfl
theorem f_145_36 : xfind (xnth xTs 145) 36 = some (36, .iconst 2, 1, (0, 0, 0, 0), (.int 2), [], 0, 0, []) := rfl
theorem f_145_37 : xfind (xnth xTs 145) 37 = some (37, .invokevirtual 125, 3, (141, 1, 9, 2), .null, [], 1018, 0, []) := rfl
theorem f_145_40 : xfind (xnth xTs 145) 40 = some (40, .ireturn, 1, (1, 0, 0, 0), .null, [], 0, 0, []) := rfl
theorem f_145_41 : xfind (xnth xTs 145) 41 = some (41, .aload_n 0, 1, (0, 0, 0, 0), .null, [], 0, 0, []) := rfl
theorem f_145_42 : xfind (xnth xTs 145) 42 = some (42, .getfield 112, 3, (9, 20, 0, 0), .null, [], 929, 0, []) := rfl
theorem f_145_45 : xfind (xnth xTs 145) 45 = some (45, .istore_n 1, 1, (0, 0, 0, 0), .null, [], 0, 0, []) := rfl
theorem f_145_46 : xfind (xnth xTs 145) 46 = some (46, .aload_n 0, 1, (0, 0, 0, 0), .null, [], 0, 0, []) := rfl
theorem f_145_47 : xfind (xnth xTs 145) 47 = some (47, .getfield 13, 3, (9, 1, 1, 0), .null, [], 910, 0, []) := rfl
theorem f_145_50 : xfind (xnth xTs 145) 50 = some (50, .bipush 40, 2, (0, 0, 0, 0), (.int 40), [], 0, 0, []) := rfl
theorem f_145_52 : xfind (xnth xTs 145) 52 = some (52, .iaload, 1, (0, 0, 0, 0), .null, [], 0, 0, []) := rfl
theorem f_145_53 : xfind (xnth xTs 145) 53 = some (53, .iload_n 1, 1, (0, 0, 0, 0), .null, [], 0, 0, []) := rfl
theorem f_145_54 : xfind (xnth xTs 145) 54 = some (54, .invokestatic 137, 3, (133, 2, 9, 2), .null, [], 1034, 0, []) := rfl
theorem f_145_57 : xfind (xnth xTs 145) 57 = some (57, .ifCond .eq 9, 3, (0, 0, 0, 0), .null, [], 0, 0, []) := rfl
theorem f_145_60 : xfind (xnth xTs 145) 60 = some (60, .aload_n 0, 1, (0, 0, 0, 0), .null, [], 0, 0, []) := rfl
theorem f_145_61 : xfind (xnth xTs 145) 61 = some (61, .iconst 4, 1, (0, 0, 0, 0), (.int 4), [], 0, 0, []) := rfl
theorem f_145_62 : xfind (xnth xTs 145) 62 = some (62, .invokevirtual 125, 3, (141, 1, 9, 2), .null, [], 1018, 0, []) := rfl
theorem f_145_65 : xfind (xnth xTs 145) 65 = some (65, .ireturn, 1, (1, 0, 0, 0), .null, [], 0, 0, []) := rfl
theorem f_145_66 : xfind (xnth xTs 145) 66 = some (66, .aload_n 0, 1, (0, 0, 0, 0), .null, [], 0, 0, []) := rfl
theorem f_145_67 : xfind (xnth xTs 145) 67 = some (67, .getfield 13, 3, (9, 1, 1, 0), .null, [], 910, 0, []) := rfl
theorem f_145_70 : xfind (xnth xTs 145) 70 = some (70, .bipush 40, 2, (0, 0, 0, 0), (.int 40), [], 0, 0, []) := rfl
theorem f_145_72 : xfind (xnth xTs 145) 72 = some (72, .dup2, 1, (0, 0, 0, 0), .null, [], 0, 0, []) := rfl
theorem f_145_73 : xfind (xnth xTs 145) 73 = some (73, .iaload, 1, (0, 0, 0, 0), .null, [], 0, 0, []) := rfl
theorem f_145_74 : xfind (xnth xTs 145) 74 = some (74, .iconst 1, 1, (0, 0, 0, 0), (.int 1), [], 0, 0, []) := rfl
theorem f_145_75 : xfind (xnth xTs 145) 75 = some (75, .iload_n 1, 1, (0, 0, 0, 0), .null, [], 0, 0, []) := rfl
theorem f_145_76 : xfind (xnth xTs 145) 76 = some (76, .ishl, 1, (0, 0, 0, 0), .null, [], 0, 0, []) := rfl
theorem f_145_77 : xfind (xnth xTs 145) 77 = some (77, .ior, 1, (0, 0, 0, 0), .null, [], 0, 0, []) := rfl
theorem f_145_78 : xfind (xnth xTs 145) 78 = some (78, .iastore, 1, (0, 0, 0, 0), .null, [], 0, 0, []) := rfl
theorem f_145_79 : xfind (xnth xTs 145) 79 = some (79, .aload_n 0, 1, (0, 0, 0, 0), .null, [], 0, 0, []) := rfl
theorem f_145_80 : xfind (xnth xTs 145) 80 = some (80, .iconst 5, 1, (0, 0, 0, 0), (.int 5), [], 0, 0, []) := rfl
theorem f_145_81 : xfind (xnth xTs 145) 81 = some (81, .iload_n 1, 1, (0, 0, 0, 0), .null, [], 0, 0, []) := rfl
theorem f_145_82 : xfind (xnth xTs 145) 82 = some (82, .iadd, 1, (0, 0, 0, 0), .null, [], 0, 0, []) := rfl
theorem f_145_83 : xfind (xnth xTs 145) 83 = some (83, .iconst 0, 1, (0, 0, 0, 0), (.int 0), [], 0, 0, []) := rfl
theorem f_145_84 : xfind (xnth xTs 145) 84 = some (84, .bipush 99, 2, (0, 0, 0, 0), (.int 99), [], 0, 0, []) := rfl
theorem f_145_86 : xfind (xnth xTs 145) 86 = some (86, .invokevirtual 129, 3, (142, 3, 9, 4), .null, [], 1022, 0, []) := rfl
theorem f_145_89 : xfind (xnth xTs 145) 89 = some (89, .ifCond .eq 42, 3, (0, 0, 0, 0), .null, [], 0, 0, []) := rfl
theorem f_145_92 : xfind (xnth xTs 145) 92 = some (92, .aload_n 0, 1, (0, 0, 0, 0), .null, [], 0, 0, []) := rfl
theorem f_145_93 : xfind (xnth xTs 145) 93 = some (93, .bipush 10, 2, (0, 0, 0, 0), (.int 10), [], 0, 0, []) := rfl
theorem f_145_95 : xfind (xnth xTs 145) 95 = some (95, .iload_n 1, 1, (0, 0, 0, 0), .null, [], 0, 0, []) := rfl
theorem f_145_96 : xfind (xnth xTs 145) 96 = some (96, .iadd, 1, (0, 0, 0, 0), .null, [], 0, 0, []) := rfl
theorem f_145_97 : xfind (xnth xTs 145) 97 = some (97, .iconst 0, 1, (0, 0, 0, 0), (.int 0), [], 0, 0, []) := rfl
theorem f_145_98 : xfind (xnth xTs 145) 98 = some (98, .bipush 9, 2, (0, 0, 0, 0), (.int 9), [], 0, 0, []) := rfl
theorem f_145_100 : xfind (xnth xTs 145) 100 = some (100, .invokevirtual 129, 3, (142, 3, 9, 4), .null, [], 1022, 0, []) := rfl
theorem f_145_103 : xfind (xnth xTs 145) 103 = some (103, .ifCond .eq 28, 3, (0, 0, 0, 0), .null, [], 0, 0, []) := rfl
theorem f_145_106 : xfind (xnth xTs 145) 106 = some (106, .aload_n 0, 1, (0, 0, 0, 0), .null, [], 0, 0, []) := rfl
theorem f_145_107 : xfind (xnth xTs 145) 107 = some (107, .bipush 15, 2, (0, 0, 0, 0), (.int 15), [], 0, 0, []) := rfl
theorem f_145_109 : xfind (xnth xTs 145) 109 = some (109, .iload_n 1, 1, (0, 0, 0, 0), .null, [], 0, 0, []) := rfl
theorem f_145_110 : xfind (xnth xTs 145) 110 = some (110, .iadd, 1, (0, 0, 0, 0), .null, [], 0, 0, []) := rfl
theorem f_145_111 : xfind (xnth xTs 145) 111 = some (111, .iconst 1, 1, (0, 0, 0, 0), (.int 1), [], 0, 0, []) := rfl
theorem f_145_112 : xfind (xnth xTs 145) 112 = some (112, .bipush 60, 2, (0, 0, 0, 0), (.int 60), [], 0, 0, []) := rfl
theorem f_145_114 : xfind (xnth xTs 145) 114 = some (114, .invokevirtual 129, 3, (142, 3, 9, 4), .null, [], 1022, 0, []) := rfl
theorem f_145_117 : xfind (xnth xTs 145) 117 = some (117, .ifCond .eq 14, 3, (0, 0, 0, 0), .null, [], 0, 0, []) := rfl
theorem f_145_120 : xfind (xnth xTs 145) 120 = some (120, .aload_n 0, 1, (0, 0, 0, 0), .null, [], 0, 0, []) := rfl
theorem f_145_121 : xfind (xnth xTs 145) 121 = some (121, .invokevirtual 133, 3, (143, 0, 9, 1), .null, [], 1026, 0, []) := rfl
theorem f_145_124 : xfind (xnth xTs 145) 124 = some (124, .ifCond .eq 7, 3, (0, 0, 0, 0), .null, [], 0, 0, []) := rfl
theorem f_145_127 : xfind (xnth xTs 145) 127 = some (127, .iconst 1, 1, (0, 0, 0, 0), (.int 1), [], 0, 0, []) := rfl
theorem f_145_128 : xfind (xnth xTs 145) 128 = some (128, .goto 4, 3, (0, 0, 0, 0), .null, [], 0, 0, []) := rfl
theorem f_145_131 : xfind (xnth xTs 145) 131 = some (131, .iconst 0, 1, (0, 0, 0, 0), (.int 0), [], 0, 0, []) := rfl
theorem f_145_132 : xfind (xnth xTs 145) 132 = some (132, .ireturn, 1, (1, 0, 0, 0), .null, [], 0, 0, []) := rfl
theorem b_R_readsCloth_0 (sh : xSh) (M : Nat → Nat → Int32) (J : Nat → Nat → Int64) (l0 : Nat) : ev (145, 0, [.ref l0, .null], [], (sh, M, J)) = (bif (decide ((sh.2.2.1 l0).1 = 9) && true) then (ev (140, 0, [.ref l0], [], (sh, M, J))).bind (fun r => ev (145, 4, [.ref l0, .null], r.1.toList ++ [], r.2)) else none) := by
  refine ev_nx (s1 := (145, 1, [.ref l0, .null], [.ref l0], (sh, M, J))) f_145_0 rfl ?_
  exact ev_ca (cc := (decide ((sh.2.2.1 l0).1 = 9) && true)) (s1 := (140, 0, [.ref l0], [], (sh, M, J))) (k := (145, 4, [.ref l0, .null], [])) f_145_1 rfl
theorem b_R_readsCloth_4 (sh : xSh) (M : Nat → Nat → Int32) (J : Nat → Nat → Int64) (l0 : Nat) : ev (145, 4, [.ref l0, .null], [], (sh, M, J)) = (bif decide ((sh.2.2.1 l0).1 = 9) then bif decide ((M l0 18) = 48) then bif decide ((sh.2.2.1 l0).1 = 9) then bif decide (3 < (M l0 19)) then bif (decide ((sh.2.2.1 l0).1 = 9) && true) then (ev (141, 0, [.ref l0, .int 2], [], (sh, M, J))).bind (fun r => ev (145, 40, [.ref l0, .null], r.1.toList ++ [], r.2)) else none else bif decide ((sh.2.2.1 l0).1 = 9) then bif decide ((M l0 20) ≤ 4) then bif decide ((sh.2.2.1 l0).1 = 9) then bif decide ((sh.2.2.1 l0).1 = 9) then bif (decide ((sh.2.2.1 (sh.2.2.2 l0 1)).1 = 11) && xin 40 (sh.2.2.1 (sh.2.2.2 l0 1)).2) then (ev (133, 0, [.int (M (sh.2.2.2 l0 1) (40 : Int32).toNatClampNeg), .int (M l0 20)], [], (sh, M, J))).bind (fun r => ev (145, 57, [.ref l0, .int (M l0 20)], r.1.toList ++ [], r.2)) else none else none else none else bif (decide ((sh.2.2.1 l0).1 = 9) && true) then (ev (141, 0, [.ref l0, .int 2], [], (sh, M, J))).bind (fun r => ev (145, 40, [.ref l0, .null], r.1.toList ++ [], r.2)) else none else none else none else bif (decide ((sh.2.2.1 l0).1 = 9) && true) then (ev (141, 0, [.ref l0, .int 1], [], (sh, M, J))).bind (fun r => ev (145, 18, [.ref l0, .null], r.1.toList ++ [], r.2)) else none else none) := by
  refine ev_nx (s1 := (145, 5, [.ref l0, .null], [.ref l0], (sh, M, J))) f_145_4 rfl ?_
  refine ev_gd (s1 := (145, 8, [.ref l0, .null], [.int (M l0 18)], (sh, M, J))) f_145_5 rfl ?_
  refine ev_nx (s1 := (145, 10, [.ref l0, .null], [.int 48, .int (M l0 18)], (sh, M, J))) f_145_8 rfl ?_
  refine ev_br (s1 := (145, 19, [.ref l0, .null], [], (sh, M, J))) (s2 := (145, 13, [.ref l0, .null], [], (sh, M, J))) f_145_10 rfl ?_ ?_
  · refine ev_nx (s1 := (145, 20, [.ref l0, .null], [.ref l0], (sh, M, J))) f_145_19 rfl ?_
    refine ev_gd (s1 := (145, 23, [.ref l0, .null], [.int (M l0 19)], (sh, M, J))) f_145_20 rfl ?_
    refine ev_nx (s1 := (145, 24, [.ref l0, .null], [.int 3, .int (M l0 19)], (sh, M, J))) f_145_23 rfl ?_
    refine ev_br (s1 := (145, 35, [.ref l0, .null], [], (sh, M, J))) (s2 := (145, 27, [.ref l0, .null], [], (sh, M, J))) f_145_24 rfl ?_ ?_
    · refine ev_nx (s1 := (145, 36, [.ref l0, .null], [.ref l0], (sh, M, J))) f_145_35 rfl ?_
      refine ev_nx (s1 := (145, 37, [.ref l0, .null], [.int 2, .ref l0], (sh, M, J))) f_145_36 rfl ?_
      exact ev_ca (cc := (decide ((sh.2.2.1 l0).1 = 9) && true)) (s1 := (141, 0, [.ref l0, .int 2], [], (sh, M, J))) (k := (145, 40, [.ref l0, .null], [])) f_145_37 rfl
    · refine ev_nx (s1 := (145, 28, [.ref l0, .null], [.ref l0], (sh, M, J))) f_145_27 rfl ?_
      refine ev_gd (s1 := (145, 31, [.ref l0, .null], [.int (M l0 20)], (sh, M, J))) f_145_28 rfl ?_
      refine ev_nx (s1 := (145, 32, [.ref l0, .null], [.int 4, .int (M l0 20)], (sh, M, J))) f_145_31 rfl ?_
      refine ev_br (s1 := (145, 41, [.ref l0, .null], [], (sh, M, J))) (s2 := (145, 35, [.ref l0, .null], [], (sh, M, J))) f_145_32 rfl ?_ ?_
      · refine ev_nx (s1 := (145, 42, [.ref l0, .null], [.ref l0], (sh, M, J))) f_145_41 rfl ?_
        refine ev_gd (s1 := (145, 45, [.ref l0, .null], [.int (M l0 20)], (sh, M, J))) f_145_42 rfl ?_
        refine ev_nx (s1 := (145, 46, [.ref l0, .int (M l0 20)], [], (sh, M, J))) f_145_45 rfl ?_
        refine ev_nx (s1 := (145, 47, [.ref l0, .int (M l0 20)], [.ref l0], (sh, M, J))) f_145_46 rfl ?_
        refine ev_gd (s1 := (145, 50, [.ref l0, .int (M l0 20)], [.ref (sh.2.2.2 l0 1)], (sh, M, J))) f_145_47 rfl ?_
        refine ev_nx (s1 := (145, 52, [.ref l0, .int (M l0 20)], [.int 40, .ref (sh.2.2.2 l0 1)], (sh, M, J))) f_145_50 rfl ?_
        refine ev_gd (s1 := (145, 53, [.ref l0, .int (M l0 20)], [.int (M (sh.2.2.2 l0 1) (40 : Int32).toNatClampNeg)], (sh, M, J))) f_145_52 rfl ?_
        refine ev_nx (s1 := (145, 54, [.ref l0, .int (M l0 20)], [.int (M l0 20), .int (M (sh.2.2.2 l0 1) (40 : Int32).toNatClampNeg)], (sh, M, J))) f_145_53 rfl ?_
        exact ev_c1 (s1 := (133, 0, [.int (M (sh.2.2.2 l0 1) (40 : Int32).toNatClampNeg), .int (M l0 20)], [], (sh, M, J))) (k := (145, 57, [.ref l0, .int (M l0 20)], [])) f_145_54 rfl
      · refine ev_nx (s1 := (145, 36, [.ref l0, .null], [.ref l0], (sh, M, J))) f_145_35 rfl ?_
        refine ev_nx (s1 := (145, 37, [.ref l0, .null], [.int 2, .ref l0], (sh, M, J))) f_145_36 rfl ?_
        exact ev_ca (cc := (decide ((sh.2.2.1 l0).1 = 9) && true)) (s1 := (141, 0, [.ref l0, .int 2], [], (sh, M, J))) (k := (145, 40, [.ref l0, .null], [])) f_145_37 rfl
  · refine ev_nx (s1 := (145, 14, [.ref l0, .null], [.ref l0], (sh, M, J))) f_145_13 rfl ?_
    refine ev_nx (s1 := (145, 15, [.ref l0, .null], [.int 1, .ref l0], (sh, M, J))) f_145_14 rfl ?_
    exact ev_ca (cc := (decide ((sh.2.2.1 l0).1 = 9) && true)) (s1 := (141, 0, [.ref l0, .int 1], [], (sh, M, J))) (k := (145, 18, [.ref l0, .null], [])) f_145_15 rfl
theorem b_R_readsCloth_18 (sh : xSh) (M : Nat → Nat → Int32) (J : Nat → Nat → Int64) (l0 : Nat) (k0 : Int32) : ev (145, 18, [.ref l0, .null], [.int k0], (sh, M, J)) = (bif ((k0 &&& 1) == k0) then some (some (.int k0), (sh, M, J)) else none) := by
  exact ev_rt f_145_18 rfl
theorem b_R_readsCloth_40 (sh : xSh) (M : Nat → Nat → Int32) (J : Nat → Nat → Int64) (l0 : Nat) (k0 : Int32) : ev (145, 40, [.ref l0, .null], [.int k0], (sh, M, J)) = (bif ((k0 &&& 1) == k0) then some (some (.int k0), (sh, M, J)) else none) := by
  exact ev_rt f_145_40 rfl
theorem b_R_readsCloth_57 (sh : xSh) (M : Nat → Nat → Int32) (J : Nat → Nat → Int64) (l0 : Nat) (l1 : Int32) (k0 : Int32) : ev (145, 57, [.ref l0, .int l1], [.int k0], (sh, M, J)) = (bif decide (k0 = 0) then bif decide ((sh.2.2.1 l0).1 = 9) then bif (decide ((sh.2.2.1 (sh.2.2.2 l0 1)).1 = 11) && xin 40 (sh.2.2.1 (sh.2.2.2 l0 1)).2) then bif (decide ((sh.2.2.1 (sh.2.2.2 l0 1)).1 = 11) && xin 40 (sh.2.2.1 (sh.2.2.2 l0 1)).2) then bif (decide ((sh.2.2.1 l0).1 = 9) && true) then (ev (142, 0, [.ref l0, .int ((5 : Int32) + l1), .int 0, .int 99], [], (sh, (xu M (sh.2.2.2 l0 1) (40 : Int32).toNatClampNeg ((M (sh.2.2.2 l0 1) (40 : Int32).toNatClampNeg) ||| ((1 : Int32) <<< (l1 &&& 31)))), J))).bind (fun r => ev (145, 89, [.ref l0, .int l1], r.1.toList ++ [], r.2)) else none else none else none else none else bif (decide ((sh.2.2.1 l0).1 = 9) && true) then (ev (141, 0, [.ref l0, .int 4], [], (sh, M, J))).bind (fun r => ev (145, 65, [.ref l0, .int l1], r.1.toList ++ [], r.2)) else none) := by
  refine ev_br (s1 := (145, 66, [.ref l0, .int l1], [], (sh, M, J))) (s2 := (145, 60, [.ref l0, .int l1], [], (sh, M, J))) f_145_57 rfl ?_ ?_
  · refine ev_nx (s1 := (145, 67, [.ref l0, .int l1], [.ref l0], (sh, M, J))) f_145_66 rfl ?_
    refine ev_gd (s1 := (145, 70, [.ref l0, .int l1], [.ref (sh.2.2.2 l0 1)], (sh, M, J))) f_145_67 rfl ?_
    refine ev_nx (s1 := (145, 72, [.ref l0, .int l1], [.int 40, .ref (sh.2.2.2 l0 1)], (sh, M, J))) f_145_70 rfl ?_
    refine ev_nx (s1 := (145, 73, [.ref l0, .int l1], [.int 40, .ref (sh.2.2.2 l0 1), .int 40, .ref (sh.2.2.2 l0 1)], (sh, M, J))) f_145_72 rfl ?_
    refine ev_gd (s1 := (145, 74, [.ref l0, .int l1], [.int (M (sh.2.2.2 l0 1) (40 : Int32).toNatClampNeg), .int 40, .ref (sh.2.2.2 l0 1)], (sh, M, J))) f_145_73 rfl ?_
    refine ev_nx (s1 := (145, 75, [.ref l0, .int l1], [.int 1, .int (M (sh.2.2.2 l0 1) (40 : Int32).toNatClampNeg), .int 40, .ref (sh.2.2.2 l0 1)], (sh, M, J))) f_145_74 rfl ?_
    refine ev_nx (s1 := (145, 76, [.ref l0, .int l1], [.int l1, .int 1, .int (M (sh.2.2.2 l0 1) (40 : Int32).toNatClampNeg), .int 40, .ref (sh.2.2.2 l0 1)], (sh, M, J))) f_145_75 rfl ?_
    refine ev_nx (s1 := (145, 77, [.ref l0, .int l1], [.int ((1 : Int32) <<< (l1 &&& 31)), .int (M (sh.2.2.2 l0 1) (40 : Int32).toNatClampNeg), .int 40, .ref (sh.2.2.2 l0 1)], (sh, M, J))) f_145_76 rfl ?_
    refine ev_nx (s1 := (145, 78, [.ref l0, .int l1], [.int ((M (sh.2.2.2 l0 1) (40 : Int32).toNatClampNeg) ||| ((1 : Int32) <<< (l1 &&& 31))), .int 40, .ref (sh.2.2.2 l0 1)], (sh, M, J))) f_145_77 rfl ?_
    refine ev_gd (s1 := (145, 79, [.ref l0, .int l1], [], (sh, (xu M (sh.2.2.2 l0 1) (40 : Int32).toNatClampNeg ((M (sh.2.2.2 l0 1) (40 : Int32).toNatClampNeg) ||| ((1 : Int32) <<< (l1 &&& 31)))), J))) f_145_78 rfl ?_
    refine ev_nx (s1 := (145, 80, [.ref l0, .int l1], [.ref l0], (sh, (xu M (sh.2.2.2 l0 1) (40 : Int32).toNatClampNeg ((M (sh.2.2.2 l0 1) (40 : Int32).toNatClampNeg) ||| ((1 : Int32) <<< (l1 &&& 31)))), J))) f_145_79 rfl ?_
    refine ev_nx (s1 := (145, 81, [.ref l0, .int l1], [.int 5, .ref l0], (sh, (xu M (sh.2.2.2 l0 1) (40 : Int32).toNatClampNeg ((M (sh.2.2.2 l0 1) (40 : Int32).toNatClampNeg) ||| ((1 : Int32) <<< (l1 &&& 31)))), J))) f_145_80 rfl ?_
    refine ev_nx (s1 := (145, 82, [.ref l0, .int l1], [.int l1, .int 5, .ref l0], (sh, (xu M (sh.2.2.2 l0 1) (40 : Int32).toNatClampNeg ((M (sh.2.2.2 l0 1) (40 : Int32).toNatClampNeg) ||| ((1 : Int32) <<< (l1 &&& 31)))), J))) f_145_81 rfl ?_
    refine ev_nx (s1 := (145, 83, [.ref l0, .int l1], [.int ((5 : Int32) + l1), .ref l0], (sh, (xu M (sh.2.2.2 l0 1) (40 : Int32).toNatClampNeg ((M (sh.2.2.2 l0 1) (40 : Int32).toNatClampNeg) ||| ((1 : Int32) <<< (l1 &&& 31)))), J))) f_145_82 rfl ?_
    refine ev_nx (s1 := (145, 84, [.ref l0, .int l1], [.int 0, .int ((5 : Int32) + l1), .ref l0], (sh, (xu M (sh.2.2.2 l0 1) (40 : Int32).toNatClampNeg ((M (sh.2.2.2 l0 1) (40 : Int32).toNatClampNeg) ||| ((1 : Int32) <<< (l1 &&& 31)))), J))) f_145_83 rfl ?_
    refine ev_nx (s1 := (145, 86, [.ref l0, .int l1], [.int 99, .int 0, .int ((5 : Int32) + l1), .ref l0], (sh, (xu M (sh.2.2.2 l0 1) (40 : Int32).toNatClampNeg ((M (sh.2.2.2 l0 1) (40 : Int32).toNatClampNeg) ||| ((1 : Int32) <<< (l1 &&& 31)))), J))) f_145_84 rfl ?_
    exact ev_ca (cc := (decide ((sh.2.2.1 l0).1 = 9) && true)) (s1 := (142, 0, [.ref l0, .int ((5 : Int32) + l1), .int 0, .int 99], [], (sh, (xu M (sh.2.2.2 l0 1) (40 : Int32).toNatClampNeg ((M (sh.2.2.2 l0 1) (40 : Int32).toNatClampNeg) ||| ((1 : Int32) <<< (l1 &&& 31)))), J))) (k := (145, 89, [.ref l0, .int l1], [])) f_145_86 rfl
  · refine ev_nx (s1 := (145, 61, [.ref l0, .int l1], [.ref l0], (sh, M, J))) f_145_60 rfl ?_
    refine ev_nx (s1 := (145, 62, [.ref l0, .int l1], [.int 4, .ref l0], (sh, M, J))) f_145_61 rfl ?_
    exact ev_ca (cc := (decide ((sh.2.2.1 l0).1 = 9) && true)) (s1 := (141, 0, [.ref l0, .int 4], [], (sh, M, J))) (k := (145, 65, [.ref l0, .int l1], [])) f_145_62 rfl
theorem b_R_readsCloth_65 (sh : xSh) (M : Nat → Nat → Int32) (J : Nat → Nat → Int64) (l0 : Nat) (l1 : Int32) (k0 : Int32) : ev (145, 65, [.ref l0, .int l1], [.int k0], (sh, M, J)) = (bif ((k0 &&& 1) == k0) then some (some (.int k0), (sh, M, J)) else none) := by
  exact ev_rt f_145_65 rfl
theorem b_R_readsCloth_89 (sh : xSh) (M : Nat → Nat → Int32) (J : Nat → Nat → Int64) (l0 : Nat) (l1 : Int32) (k0 : Int32) : ev (145, 89, [.ref l0, .int l1], [.int k0], (sh, M, J)) = (bif decide (k0 = 0) then some (some (.int 0), (sh, M, J)) else bif (decide ((sh.2.2.1 l0).1 = 9) && true) then (ev (142, 0, [.ref l0, .int ((10 : Int32) + l1), .int 0, .int 9], [], (sh, M, J))).bind (fun r => ev (145, 103, [.ref l0, .int l1], r.1.toList ++ [], r.2)) else none) := by
  refine ev_br (s1 := (145, 131, [.ref l0, .int l1], [], (sh, M, J))) (s2 := (145, 92, [.ref l0, .int l1], [], (sh, M, J))) f_145_89 rfl ?_ ?_
  · refine ev_nx (s1 := (145, 132, [.ref l0, .int l1], [.int 0], (sh, M, J))) f_145_131 rfl ?_
    exact ev_r1 f_145_132 rfl
  · refine ev_nx (s1 := (145, 93, [.ref l0, .int l1], [.ref l0], (sh, M, J))) f_145_92 rfl ?_
    refine ev_nx (s1 := (145, 95, [.ref l0, .int l1], [.int 10, .ref l0], (sh, M, J))) f_145_93 rfl ?_
    refine ev_nx (s1 := (145, 96, [.ref l0, .int l1], [.int l1, .int 10, .ref l0], (sh, M, J))) f_145_95 rfl ?_
    refine ev_nx (s1 := (145, 97, [.ref l0, .int l1], [.int ((10 : Int32) + l1), .ref l0], (sh, M, J))) f_145_96 rfl ?_
    refine ev_nx (s1 := (145, 98, [.ref l0, .int l1], [.int 0, .int ((10 : Int32) + l1), .ref l0], (sh, M, J))) f_145_97 rfl ?_
    refine ev_nx (s1 := (145, 100, [.ref l0, .int l1], [.int 9, .int 0, .int ((10 : Int32) + l1), .ref l0], (sh, M, J))) f_145_98 rfl ?_
    exact ev_ca (cc := (decide ((sh.2.2.1 l0).1 = 9) && true)) (s1 := (142, 0, [.ref l0, .int ((10 : Int32) + l1), .int 0, .int 9], [], (sh, M, J))) (k := (145, 103, [.ref l0, .int l1], [])) f_145_100 rfl
theorem b_R_readsCloth_103 (sh : xSh) (M : Nat → Nat → Int32) (J : Nat → Nat → Int64) (l0 : Nat) (l1 : Int32) (k0 : Int32) : ev (145, 103, [.ref l0, .int l1], [.int k0], (sh, M, J)) = (bif decide (k0 = 0) then some (some (.int 0), (sh, M, J)) else bif (decide ((sh.2.2.1 l0).1 = 9) && true) then (ev (142, 0, [.ref l0, .int ((15 : Int32) + l1), .int 1, .int 60], [], (sh, M, J))).bind (fun r => ev (145, 117, [.ref l0, .int l1], r.1.toList ++ [], r.2)) else none) := by
  refine ev_br (s1 := (145, 131, [.ref l0, .int l1], [], (sh, M, J))) (s2 := (145, 106, [.ref l0, .int l1], [], (sh, M, J))) f_145_103 rfl ?_ ?_
  · refine ev_nx (s1 := (145, 132, [.ref l0, .int l1], [.int 0], (sh, M, J))) f_145_131 rfl ?_
    exact ev_r1 f_145_132 rfl
  · refine ev_nx (s1 := (145, 107, [.ref l0, .int l1], [.ref l0], (sh, M, J))) f_145_106 rfl ?_
    refine ev_nx (s1 := (145, 109, [.ref l0, .int l1], [.int 15, .ref l0], (sh, M, J))) f_145_107 rfl ?_
    refine ev_nx (s1 := (145, 110, [.ref l0, .int l1], [.int l1, .int 15, .ref l0], (sh, M, J))) f_145_109 rfl ?_
    refine ev_nx (s1 := (145, 111, [.ref l0, .int l1], [.int ((15 : Int32) + l1), .ref l0], (sh, M, J))) f_145_110 rfl ?_
    refine ev_nx (s1 := (145, 112, [.ref l0, .int l1], [.int 1, .int ((15 : Int32) + l1), .ref l0], (sh, M, J))) f_145_111 rfl ?_
    refine ev_nx (s1 := (145, 114, [.ref l0, .int l1], [.int 60, .int 1, .int ((15 : Int32) + l1), .ref l0], (sh, M, J))) f_145_112 rfl ?_
    exact ev_ca (cc := (decide ((sh.2.2.1 l0).1 = 9) && true)) (s1 := (142, 0, [.ref l0, .int ((15 : Int32) + l1), .int 1, .int 60], [], (sh, M, J))) (k := (145, 117, [.ref l0, .int l1], [])) f_145_114 rfl
theorem b_R_readsCloth_117 (sh : xSh) (M : Nat → Nat → Int32) (J : Nat → Nat → Int64) (l0 : Nat) (l1 : Int32) (k0 : Int32) : ev (145, 117, [.ref l0, .int l1], [.int k0], (sh, M, J)) = (bif decide (k0 = 0) then some (some (.int 0), (sh, M, J)) else bif (decide ((sh.2.2.1 l0).1 = 9) && true) then (ev (143, 0, [.ref l0], [], (sh, M, J))).bind (fun r => ev (145, 124, [.ref l0, .int l1], r.1.toList ++ [], r.2)) else none) := by
  refine ev_br (s1 := (145, 131, [.ref l0, .int l1], [], (sh, M, J))) (s2 := (145, 120, [.ref l0, .int l1], [], (sh, M, J))) f_145_117 rfl ?_ ?_
  · refine ev_nx (s1 := (145, 132, [.ref l0, .int l1], [.int 0], (sh, M, J))) f_145_131 rfl ?_
    exact ev_r1 f_145_132 rfl
  · refine ev_nx (s1 := (145, 121, [.ref l0, .int l1], [.ref l0], (sh, M, J))) f_145_120 rfl ?_
    exact ev_ca (cc := (decide ((sh.2.2.1 l0).1 = 9) && true)) (s1 := (143, 0, [.ref l0], [], (sh, M, J))) (k := (145, 124, [.ref l0, .int l1], [])) f_145_121 rfl
theorem b_R_readsCloth_124 (sh : xSh) (M : Nat → Nat → Int32) (J : Nat → Nat → Int64) (l0 : Nat) (l1 : Int32) (k0 : Int32) : ev (145, 124, [.ref l0, .int l1], [.int k0], (sh, M, J)) = (bif decide (k0 = 0) then some (some (.int 0), (sh, M, J)) else some (some (.int 1), (sh, M, J))) := by
  refine ev_br (s1 := (145, 131, [.ref l0, .int l1], [], (sh, M, J))) (s2 := (145, 127, [.ref l0, .int l1], [], (sh, M, J))) f_145_124 rfl ?_ ?_
  · refine ev_nx (s1 := (145, 132, [.ref l0, .int l1], [.int 0], (sh, M, J))) f_145_131 rfl ?_
    exact ev_r1 f_145_132 rfl
  · refine ev_nx (s1 := (145, 128, [.ref l0, .int l1], [.int 1], (sh, M, J))) f_145_127 rfl ?_
    refine ev_nx (s1 := (145, 132, [.ref l0, .int l1], [.int 1], (sh, M, J))) f_145_128 rfl ?_
    exact ev_r1 f_145_132 rfl
theorem f_146_0 : xfind (xnth xTs 146) 0 = some (0, .aload_n 0, 1, (0, 0, 0, 0), .null, [], 0, 0, []) := rfl
theorem f_146_1 : xfind (xnth xTs 146) 1 = some (1, .invokevirtual 122, 3, (140, 0, 9, 1), .null, [], 1000, 0, []) := rfl
theorem f_146_4 : xfind (xnth xTs 146) 4 = some (4, .aload_n 0, 1, (0, 0, 0, 0), .null, [], 0, 0, []) := rfl
theorem f_146_5 : xfind (xnth xTs 146) 5 = some (5, .getfield 106, 3, (9, 18, 0, 0), .null, [], 927, 0, []) := rfl
theorem f_146_8 : xfind (xnth xTs 146) 8 = some (8, .bipush 48, 2, (0, 0, 0, 0), (.int 48), [], 0, 0, []) := rfl
theorem f_146_10 : xfind (xnth xTs 146) 10 = some (10, .if_icmp .eq 9, 3, (0, 0, 0, 0), .null, [], 0, 0, []) := rfl
theorem f_146_13 : xfind (xnth xTs 146) 13 = some (13, .aload_n 0, 1, (0, 0, 0, 0), .null, [], 0, 0, []) := rfl
theorem f_146_14 : xfind (xnth xTs 146) 14 = some (14, .iconst 1, 1, (0, 0, 0, 0), (.int 1), [], 0, 0, []) := rfl
theorem f_146_15 : xfind (xnth xTs 146) 15 = some (15, .invokevirtual 125, 3, (141, 1, 9, 2), .null, [], 1018, 0, []) := rfl
theorem f_146_18 : xfind (xnth xTs 146) 18 = some (18, .ireturn, 1, (1, 0, 0, 0), .null, [], 0, 0, []) := rfl
theorem f_146_19 : xfind (xnth xTs 146) 19 = some (19, .aload_n 0, 1, (0, 0, 0, 0), .null, [], 0, 0, []) := rfl
theorem f_146_20 : xfind (xnth xTs 146) 20 = some (20, .getfield 109, 3, (9, 19, 0, 0), .null, [], 928, 0, []) := rfl
theorem f_146_23 : xfind (xnth xTs 146) 23 = some (23, .iconst 3, 1, (0, 0, 0, 0), (.int 3), [], 0, 0, []) := rfl
theorem f_146_24 : xfind (xnth xTs 146) 24 = some (24, .if_icmp .gt 23, 3, (0, 0, 0, 0), .null, [], 0, 0, []) := rfl
theorem f_146_27 : xfind (xnth xTs 146) 27 = some (27, .aload_n 0, 1, (0, 0, 0, 0), .null, [], 0, 0, []) := rfl
theorem f_146_28 : xfind (xnth xTs 146) 28 = some (28, .getfield 112, 3, (9, 20, 0, 0), .null, [], 929, 0, []) := rfl
theorem f_146_31 : xfind (xnth xTs 146) 31 = some (31, .aload_n 0, 1, (0, 0, 0, 0), .null, [], 0, 0, []) := rfl
theorem f_146_32 : xfind (xnth xTs 146) 32 = some (32, .getfield 13, 3, (9, 1, 1, 0), .null, [], 910, 0, []) := rfl
theorem f_146_35 : xfind (xnth xTs 146) 35 = some (35, .iconst 0, 1, (0, 0, 0, 0), (.int 0), [], 0, 0, []) := rfl
theorem f_146_36 : xfind (xnth xTs 146) 36 = some (36, .iaload, 1, (0, 0, 0, 0), .null, [], 0, 0, []) := rfl
theorem f_146_37 : xfind (xnth xTs 146) 37 = some (37, .aload_n 0, 1, (0, 0, 0, 0), .null, [], 0, 0, []) := rfl
theorem f_146_38 : xfind (xnth xTs 146) 38 = some (38, .getfield 13, 3, (9, 1, 1, 0), .null, [], 910, 0, []) := rfl
theorem f_146_41 : xfind (xnth xTs 146) 41 = some (41, .iconst 1, 1, (0, 0, 0, 0), (.int 1), [], 0, 0, []) := rfl
theorem f_146_42 : xfind (xnth xTs 146) 42 = some (42, .iaload, 1, (0, 0, 0, 0), .null, [], 0, 0, []) := rfl
theorem f_146_43 : xfind (xnth xTs 146) 43 = some (43, .imul, 1, (0, 0, 0, 0), .null, [], 0, 0, []) := rfl
theorem f_146_44 : xfind (xnth xTs 146) 44 = some (44, .if_icmp .lt 9, 3, (0, 0, 0, 0), .null, [], 0, 0, []) := rfl
theorem f_146_47 : xfind (xnth xTs 146) 47 = some (47, .aload_n 0, 1, (0, 0, 0, 0), .null, [], 0, 0, []) := rfl
theorem f_146_48 : xfind (xnth xTs 146) 48 = some (48, .iconst 2, 1, (0, 0, 0, 0), (.int 2), [], 0, 0, []) := rfl
theorem f_146_49 : xfind (xnth xTs 146) 49 = some (49, .invokevirtual 125, 3, (141, 1, 9, 2), .null, [], 1018, 0, []) := rfl
theorem f_146_52 : xfind (xnth xTs 146) 52 = some (52, .ireturn, 1, (1, 0, 0, 0), .null, [], 0, 0, []) := rfl
theorem f_146_53 : xfind (xnth xTs 146) 53 = some (53, .aload_n 0, 1, (0, 0, 0, 0), .null, [], 0, 0, []) := rfl
theorem f_146_54 : xfind (xnth xTs 146) 54 = some (54, .getfield 13, 3, (9, 1, 1, 0), .null, [], 910, 0, []) := rfl
theorem f_146_57 : xfind (xnth xTs 146) 57 = some (57, .iconst 4, 1, (0, 0, 0, 0), (.int 4), [], 0, 0, []) := rfl
theorem f_146_58 : xfind (xnth xTs 146) 58 = some (58, .iaload, 1, (0, 0, 0, 0), .null, [], 0, 0, []) := rfl
theorem f_146_59 : xfind (xnth xTs 146) 59 = some (59, .aload_n 0, 1, (0, 0, 0, 0), .null, [], 0, 0, []) := rfl
theorem f_146_60 : xfind (xnth xTs 146) 60 = some (60, .getfield 112, 3, (9, 20, 0, 0), .null, [], 929, 0, []) := rfl
theorem f_146_63 : xfind (xnth xTs 146) 63 = some (63, .invokestatic 137, 3, (133, 2, 9, 2), .null, [], 1034, 0, []) := rfl
theorem f_146_66 : xfind (xnth xTs 146) 66 = some (66, .ifCond .eq 9, 3, (0, 0, 0, 0), .null, [], 0, 0, []) := rfl
theorem f_146_69 : xfind (xnth xTs 146) 69 = some (69, .aload_n 0, 1, (0, 0, 0, 0), .null, [], 0, 0, []) := rfl
theorem f_146_70 : xfind (xnth xTs 146) 70 = some (70, .iconst 4, 1, (0, 0, 0, 0), (.int 4), [], 0, 0, []) := rfl
theorem f_146_71 : xfind (xnth xTs 146) 71 = some (71, .invokevirtual 125, 3, (141, 1, 9, 2), .null, [], 1018, 0, []) := rfl
theorem f_146_74 : xfind (xnth xTs 146) 74 = some (74, .ireturn, 1, (1, 0, 0, 0), .null, [], 0, 0, []) := rfl
theorem f_146_75 : xfind (xnth xTs 146) 75 = some (75, .aload_n 0, 1, (0, 0, 0, 0), .null, [], 0, 0, []) := rfl
theorem f_146_76 : xfind (xnth xTs 146) 76 = some (76, .getfield 13, 3, (9, 1, 1, 0), .null, [], 910, 0, []) := rfl
theorem f_146_79 : xfind (xnth xTs 146) 79 = some (79, .iconst 4, 1, (0, 0, 0, 0), (.int 4), [], 0, 0, []) := rfl
theorem f_146_80 : xfind (xnth xTs 146) 80 = some (80, .dup2, 1, (0, 0, 0, 0), .null, [], 0, 0, []) := rfl
theorem f_146_81 : xfind (xnth xTs 146) 81 = some (81, .iaload, 1, (0, 0, 0, 0), .null, [], 0, 0, []) := rfl
theorem f_146_82 : xfind (xnth xTs 146) 82 = some (82, .iconst 1, 1, (0, 0, 0, 0), (.int 1), [], 0, 0, []) := rfl
theorem f_146_83 : xfind (xnth xTs 146) 83 = some (83, .aload_n 0, 1, (0, 0, 0, 0), .null, [], 0, 0, []) := rfl
theorem f_146_84 : xfind (xnth xTs 146) 84 = some (84, .getfield 112, 3, (9, 20, 0, 0), .null, [], 929, 0, []) := rfl
theorem f_146_87 : xfind (xnth xTs 146) 87 = some (87, .ishl, 1, (0, 0, 0, 0), .null, [], 0, 0, []) := rfl
theorem f_146_88 : xfind (xnth xTs 146) 88 = some (88, .ior, 1, (0, 0, 0, 0), .null, [], 0, 0, []) := rfl
theorem f_146_89 : xfind (xnth xTs 146) 89 = some (89, .iastore, 1, (0, 0, 0, 0), .null, [], 0, 0, []) := rfl
theorem f_146_90 : xfind (xnth xTs 146) 90 = some (90, .aload_n 0, 1, (0, 0, 0, 0), .null, [], 0, 0, []) := rfl
theorem f_146_91 : xfind (xnth xTs 146) 91 = some (91, .invokevirtual 133, 3, (143, 0, 9, 1), .null, [], 1026, 0, []) := rfl
theorem f_146_94 : xfind (xnth xTs 146) 94 = some (94, .ireturn, 1, (1, 0, 0, 0), .null, [], 0, 0, []) := rfl
theorem b_R_readsHole_0 (sh : xSh) (M : Nat → Nat → Int32) (J : Nat → Nat → Int64) (l0 : Nat) : ev (146, 0, [.ref l0], [], (sh, M, J)) = (bif (decide ((sh.2.2.1 l0).1 = 9) && true) then (ev (140, 0, [.ref l0], [], (sh, M, J))).bind (fun r => ev (146, 4, [.ref l0], r.1.toList ++ [], r.2)) else none) := by
  refine ev_nx (s1 := (146, 1, [.ref l0], [.ref l0], (sh, M, J))) f_146_0 rfl ?_
  exact ev_ca (cc := (decide ((sh.2.2.1 l0).1 = 9) && true)) (s1 := (140, 0, [.ref l0], [], (sh, M, J))) (k := (146, 4, [.ref l0], [])) f_146_1 rfl
theorem b_R_readsHole_4 (sh : xSh) (M : Nat → Nat → Int32) (J : Nat → Nat → Int64) (l0 : Nat) : ev (146, 4, [.ref l0], [], (sh, M, J)) = (bif decide ((sh.2.2.1 l0).1 = 9) then bif decide ((M l0 18) = 48) then bif decide ((sh.2.2.1 l0).1 = 9) then bif decide (3 < (M l0 19)) then bif (decide ((sh.2.2.1 l0).1 = 9) && true) then (ev (141, 0, [.ref l0, .int 2], [], (sh, M, J))).bind (fun r => ev (146, 52, [.ref l0], r.1.toList ++ [], r.2)) else none else bif decide ((sh.2.2.1 l0).1 = 9) then bif decide ((sh.2.2.1 l0).1 = 9) then bif (decide ((sh.2.2.1 (sh.2.2.2 l0 1)).1 = 11) && xin 0 (sh.2.2.1 (sh.2.2.2 l0 1)).2) then bif decide ((sh.2.2.1 l0).1 = 9) then bif (decide ((sh.2.2.1 (sh.2.2.2 l0 1)).1 = 11) && xin 1 (sh.2.2.1 (sh.2.2.2 l0 1)).2) then bif decide ((M l0 20) < ((M (sh.2.2.2 l0 1) (0 : Int32).toNatClampNeg) * (M (sh.2.2.2 l0 1) (1 : Int32).toNatClampNeg))) then bif decide ((sh.2.2.1 l0).1 = 9) then bif (decide ((sh.2.2.1 (sh.2.2.2 l0 1)).1 = 11) && xin 4 (sh.2.2.1 (sh.2.2.2 l0 1)).2) then bif decide ((sh.2.2.1 l0).1 = 9) then (ev (133, 0, [.int (M (sh.2.2.2 l0 1) (4 : Int32).toNatClampNeg), .int (M l0 20)], [], (sh, M, J))).bind (fun r => ev (146, 66, [.ref l0], r.1.toList ++ [], r.2)) else none else none else none else bif (decide ((sh.2.2.1 l0).1 = 9) && true) then (ev (141, 0, [.ref l0, .int 2], [], (sh, M, J))).bind (fun r => ev (146, 52, [.ref l0], r.1.toList ++ [], r.2)) else none else none else none else none else none else none else none else bif (decide ((sh.2.2.1 l0).1 = 9) && true) then (ev (141, 0, [.ref l0, .int 1], [], (sh, M, J))).bind (fun r => ev (146, 18, [.ref l0], r.1.toList ++ [], r.2)) else none else none) := by
  refine ev_nx (s1 := (146, 5, [.ref l0], [.ref l0], (sh, M, J))) f_146_4 rfl ?_
  refine ev_gd (s1 := (146, 8, [.ref l0], [.int (M l0 18)], (sh, M, J))) f_146_5 rfl ?_
  refine ev_nx (s1 := (146, 10, [.ref l0], [.int 48, .int (M l0 18)], (sh, M, J))) f_146_8 rfl ?_
  refine ev_br (s1 := (146, 19, [.ref l0], [], (sh, M, J))) (s2 := (146, 13, [.ref l0], [], (sh, M, J))) f_146_10 rfl ?_ ?_
  · refine ev_nx (s1 := (146, 20, [.ref l0], [.ref l0], (sh, M, J))) f_146_19 rfl ?_
    refine ev_gd (s1 := (146, 23, [.ref l0], [.int (M l0 19)], (sh, M, J))) f_146_20 rfl ?_
    refine ev_nx (s1 := (146, 24, [.ref l0], [.int 3, .int (M l0 19)], (sh, M, J))) f_146_23 rfl ?_
    refine ev_br (s1 := (146, 47, [.ref l0], [], (sh, M, J))) (s2 := (146, 27, [.ref l0], [], (sh, M, J))) f_146_24 rfl ?_ ?_
    · refine ev_nx (s1 := (146, 48, [.ref l0], [.ref l0], (sh, M, J))) f_146_47 rfl ?_
      refine ev_nx (s1 := (146, 49, [.ref l0], [.int 2, .ref l0], (sh, M, J))) f_146_48 rfl ?_
      exact ev_ca (cc := (decide ((sh.2.2.1 l0).1 = 9) && true)) (s1 := (141, 0, [.ref l0, .int 2], [], (sh, M, J))) (k := (146, 52, [.ref l0], [])) f_146_49 rfl
    · refine ev_nx (s1 := (146, 28, [.ref l0], [.ref l0], (sh, M, J))) f_146_27 rfl ?_
      refine ev_gd (s1 := (146, 31, [.ref l0], [.int (M l0 20)], (sh, M, J))) f_146_28 rfl ?_
      refine ev_nx (s1 := (146, 32, [.ref l0], [.ref l0, .int (M l0 20)], (sh, M, J))) f_146_31 rfl ?_
      refine ev_gd (s1 := (146, 35, [.ref l0], [.ref (sh.2.2.2 l0 1), .int (M l0 20)], (sh, M, J))) f_146_32 rfl ?_
      refine ev_nx (s1 := (146, 36, [.ref l0], [.int 0, .ref (sh.2.2.2 l0 1), .int (M l0 20)], (sh, M, J))) f_146_35 rfl ?_
      refine ev_gd (s1 := (146, 37, [.ref l0], [.int (M (sh.2.2.2 l0 1) (0 : Int32).toNatClampNeg), .int (M l0 20)], (sh, M, J))) f_146_36 rfl ?_
      refine ev_nx (s1 := (146, 38, [.ref l0], [.ref l0, .int (M (sh.2.2.2 l0 1) (0 : Int32).toNatClampNeg), .int (M l0 20)], (sh, M, J))) f_146_37 rfl ?_
      refine ev_gd (s1 := (146, 41, [.ref l0], [.ref (sh.2.2.2 l0 1), .int (M (sh.2.2.2 l0 1) (0 : Int32).toNatClampNeg), .int (M l0 20)], (sh, M, J))) f_146_38 rfl ?_
      refine ev_nx (s1 := (146, 42, [.ref l0], [.int 1, .ref (sh.2.2.2 l0 1), .int (M (sh.2.2.2 l0 1) (0 : Int32).toNatClampNeg), .int (M l0 20)], (sh, M, J))) f_146_41 rfl ?_
      refine ev_gd (s1 := (146, 43, [.ref l0], [.int (M (sh.2.2.2 l0 1) (1 : Int32).toNatClampNeg), .int (M (sh.2.2.2 l0 1) (0 : Int32).toNatClampNeg), .int (M l0 20)], (sh, M, J))) f_146_42 rfl ?_
      refine ev_nx (s1 := (146, 44, [.ref l0], [.int ((M (sh.2.2.2 l0 1) (0 : Int32).toNatClampNeg) * (M (sh.2.2.2 l0 1) (1 : Int32).toNatClampNeg)), .int (M l0 20)], (sh, M, J))) f_146_43 rfl ?_
      refine ev_br (s1 := (146, 53, [.ref l0], [], (sh, M, J))) (s2 := (146, 47, [.ref l0], [], (sh, M, J))) f_146_44 rfl ?_ ?_
      · refine ev_nx (s1 := (146, 54, [.ref l0], [.ref l0], (sh, M, J))) f_146_53 rfl ?_
        refine ev_gd (s1 := (146, 57, [.ref l0], [.ref (sh.2.2.2 l0 1)], (sh, M, J))) f_146_54 rfl ?_
        refine ev_nx (s1 := (146, 58, [.ref l0], [.int 4, .ref (sh.2.2.2 l0 1)], (sh, M, J))) f_146_57 rfl ?_
        refine ev_gd (s1 := (146, 59, [.ref l0], [.int (M (sh.2.2.2 l0 1) (4 : Int32).toNatClampNeg)], (sh, M, J))) f_146_58 rfl ?_
        refine ev_nx (s1 := (146, 60, [.ref l0], [.ref l0, .int (M (sh.2.2.2 l0 1) (4 : Int32).toNatClampNeg)], (sh, M, J))) f_146_59 rfl ?_
        refine ev_gd (s1 := (146, 63, [.ref l0], [.int (M l0 20), .int (M (sh.2.2.2 l0 1) (4 : Int32).toNatClampNeg)], (sh, M, J))) f_146_60 rfl ?_
        exact ev_c1 (s1 := (133, 0, [.int (M (sh.2.2.2 l0 1) (4 : Int32).toNatClampNeg), .int (M l0 20)], [], (sh, M, J))) (k := (146, 66, [.ref l0], [])) f_146_63 rfl
      · refine ev_nx (s1 := (146, 48, [.ref l0], [.ref l0], (sh, M, J))) f_146_47 rfl ?_
        refine ev_nx (s1 := (146, 49, [.ref l0], [.int 2, .ref l0], (sh, M, J))) f_146_48 rfl ?_
        exact ev_ca (cc := (decide ((sh.2.2.1 l0).1 = 9) && true)) (s1 := (141, 0, [.ref l0, .int 2], [], (sh, M, J))) (k := (146, 52, [.ref l0], [])) f_146_49 rfl
  · refine ev_nx (s1 := (146, 14, [.ref l0], [.ref l0], (sh, M, J))) f_146_13 rfl ?_
    refine ev_nx (s1 := (146, 15, [.ref l0], [.int 1, .ref l0], (sh, M, J))) f_146_14 rfl ?_
    exact ev_ca (cc := (decide ((sh.2.2.1 l0).1 = 9) && true)) (s1 := (141, 0, [.ref l0, .int 1], [], (sh, M, J))) (k := (146, 18, [.ref l0], [])) f_146_15 rfl
theorem b_R_readsHole_18 (sh : xSh) (M : Nat → Nat → Int32) (J : Nat → Nat → Int64) (l0 : Nat) (k0 : Int32) : ev (146, 18, [.ref l0], [.int k0], (sh, M, J)) = (bif ((k0 &&& 1) == k0) then some (some (.int k0), (sh, M, J)) else none) := by
  exact ev_rt f_146_18 rfl
theorem b_R_readsHole_52 (sh : xSh) (M : Nat → Nat → Int32) (J : Nat → Nat → Int64) (l0 : Nat) (k0 : Int32) : ev (146, 52, [.ref l0], [.int k0], (sh, M, J)) = (bif ((k0 &&& 1) == k0) then some (some (.int k0), (sh, M, J)) else none) := by
  exact ev_rt f_146_52 rfl
theorem b_R_readsHole_66 (sh : xSh) (M : Nat → Nat → Int32) (J : Nat → Nat → Int64) (l0 : Nat) (k0 : Int32) : ev (146, 66, [.ref l0], [.int k0], (sh, M, J)) = (bif decide (k0 = 0) then bif decide ((sh.2.2.1 l0).1 = 9) then bif (decide ((sh.2.2.1 (sh.2.2.2 l0 1)).1 = 11) && xin 4 (sh.2.2.1 (sh.2.2.2 l0 1)).2) then bif decide ((sh.2.2.1 l0).1 = 9) then bif (decide ((sh.2.2.1 (sh.2.2.2 l0 1)).1 = 11) && xin 4 (sh.2.2.1 (sh.2.2.2 l0 1)).2) then bif (decide ((sh.2.2.1 l0).1 = 9) && true) then (ev (143, 0, [.ref l0], [], (sh, (xu M (sh.2.2.2 l0 1) (4 : Int32).toNatClampNeg ((M (sh.2.2.2 l0 1) (4 : Int32).toNatClampNeg) ||| ((1 : Int32) <<< ((M l0 20) &&& 31)))), J))).bind (fun r => ev (146, 94, [.ref l0], r.1.toList ++ [], r.2)) else none else none else none else none else none else bif (decide ((sh.2.2.1 l0).1 = 9) && true) then (ev (141, 0, [.ref l0, .int 4], [], (sh, M, J))).bind (fun r => ev (146, 74, [.ref l0], r.1.toList ++ [], r.2)) else none) := by
  refine ev_br (s1 := (146, 75, [.ref l0], [], (sh, M, J))) (s2 := (146, 69, [.ref l0], [], (sh, M, J))) f_146_66 rfl ?_ ?_
  · refine ev_nx (s1 := (146, 76, [.ref l0], [.ref l0], (sh, M, J))) f_146_75 rfl ?_
    refine ev_gd (s1 := (146, 79, [.ref l0], [.ref (sh.2.2.2 l0 1)], (sh, M, J))) f_146_76 rfl ?_
    refine ev_nx (s1 := (146, 80, [.ref l0], [.int 4, .ref (sh.2.2.2 l0 1)], (sh, M, J))) f_146_79 rfl ?_
    refine ev_nx (s1 := (146, 81, [.ref l0], [.int 4, .ref (sh.2.2.2 l0 1), .int 4, .ref (sh.2.2.2 l0 1)], (sh, M, J))) f_146_80 rfl ?_
    refine ev_gd (s1 := (146, 82, [.ref l0], [.int (M (sh.2.2.2 l0 1) (4 : Int32).toNatClampNeg), .int 4, .ref (sh.2.2.2 l0 1)], (sh, M, J))) f_146_81 rfl ?_
    refine ev_nx (s1 := (146, 83, [.ref l0], [.int 1, .int (M (sh.2.2.2 l0 1) (4 : Int32).toNatClampNeg), .int 4, .ref (sh.2.2.2 l0 1)], (sh, M, J))) f_146_82 rfl ?_
    refine ev_nx (s1 := (146, 84, [.ref l0], [.ref l0, .int 1, .int (M (sh.2.2.2 l0 1) (4 : Int32).toNatClampNeg), .int 4, .ref (sh.2.2.2 l0 1)], (sh, M, J))) f_146_83 rfl ?_
    refine ev_gd (s1 := (146, 87, [.ref l0], [.int (M l0 20), .int 1, .int (M (sh.2.2.2 l0 1) (4 : Int32).toNatClampNeg), .int 4, .ref (sh.2.2.2 l0 1)], (sh, M, J))) f_146_84 rfl ?_
    refine ev_nx (s1 := (146, 88, [.ref l0], [.int ((1 : Int32) <<< ((M l0 20) &&& 31)), .int (M (sh.2.2.2 l0 1) (4 : Int32).toNatClampNeg), .int 4, .ref (sh.2.2.2 l0 1)], (sh, M, J))) f_146_87 rfl ?_
    refine ev_nx (s1 := (146, 89, [.ref l0], [.int ((M (sh.2.2.2 l0 1) (4 : Int32).toNatClampNeg) ||| ((1 : Int32) <<< ((M l0 20) &&& 31))), .int 4, .ref (sh.2.2.2 l0 1)], (sh, M, J))) f_146_88 rfl ?_
    refine ev_gd (s1 := (146, 90, [.ref l0], [], (sh, (xu M (sh.2.2.2 l0 1) (4 : Int32).toNatClampNeg ((M (sh.2.2.2 l0 1) (4 : Int32).toNatClampNeg) ||| ((1 : Int32) <<< ((M l0 20) &&& 31)))), J))) f_146_89 rfl ?_
    refine ev_nx (s1 := (146, 91, [.ref l0], [.ref l0], (sh, (xu M (sh.2.2.2 l0 1) (4 : Int32).toNatClampNeg ((M (sh.2.2.2 l0 1) (4 : Int32).toNatClampNeg) ||| ((1 : Int32) <<< ((M l0 20) &&& 31)))), J))) f_146_90 rfl ?_
    exact ev_ca (cc := (decide ((sh.2.2.1 l0).1 = 9) && true)) (s1 := (143, 0, [.ref l0], [], (sh, (xu M (sh.2.2.2 l0 1) (4 : Int32).toNatClampNeg ((M (sh.2.2.2 l0 1) (4 : Int32).toNatClampNeg) ||| ((1 : Int32) <<< ((M l0 20) &&& 31)))), J))) (k := (146, 94, [.ref l0], [])) f_146_91 rfl
  · refine ev_nx (s1 := (146, 70, [.ref l0], [.ref l0], (sh, M, J))) f_146_69 rfl ?_
    refine ev_nx (s1 := (146, 71, [.ref l0], [.int 4, .ref l0], (sh, M, J))) f_146_70 rfl ?_
    exact ev_ca (cc := (decide ((sh.2.2.1 l0).1 = 9) && true)) (s1 := (141, 0, [.ref l0, .int 4], [], (sh, M, J))) (k := (146, 74, [.ref l0], [])) f_146_71 rfl
theorem b_R_readsHole_74 (sh : xSh) (M : Nat → Nat → Int32) (J : Nat → Nat → Int64) (l0 : Nat) (k0 : Int32) : ev (146, 74, [.ref l0], [.int k0], (sh, M, J)) = (bif ((k0 &&& 1) == k0) then some (some (.int k0), (sh, M, J)) else none) := by
  exact ev_rt f_146_74 rfl
theorem b_R_readsHole_94 (sh : xSh) (M : Nat → Nat → Int32) (J : Nat → Nat → Int64) (l0 : Nat) (k0 : Int32) : ev (146, 94, [.ref l0], [.int k0], (sh, M, J)) = (bif ((k0 &&& 1) == k0) then some (some (.int k0), (sh, M, J)) else none) := by
  exact ev_rt f_146_94 rfl
theorem f_147_0 : xfind (xnth xTs 147) 0 = some (0, .aload_n 0, 1, (0, 0, 0, 0), .null, [], 0, 0, []) := rfl
theorem f_147_1 : xfind (xnth xTs 147) 1 = some (1, .getfield 13, 3, (9, 1, 1, 0), .null, [], 910, 0, []) := rfl
theorem f_147_4 : xfind (xnth xTs 147) 4 = some (4, .iconst 2, 1, (0, 0, 0, 0), (.int 2), [], 0, 0, []) := rfl
theorem f_147_5 : xfind (xnth xTs 147) 5 = some (5, .iaload, 1, (0, 0, 0, 0), .null, [], 0, 0, []) := rfl
theorem f_147_6 : xfind (xnth xTs 147) 6 = some (6, .istore_n 1, 1, (0, 0, 0, 0), .null, [], 0, 0, []) := rfl
theorem f_147_7 : xfind (xnth xTs 147) 7 = some (7, .iload_n 1, 1, (0, 0, 0, 0), .null, [], 0, 0, []) := rfl
theorem f_147_8 : xfind (xnth xTs 147) 8 = some (8, .iconst 5, 1, (0, 0, 0, 0), (.int 5), [], 0, 0, []) := rfl
theorem f_147_9 : xfind (xnth xTs 147) 9 = some (9, .if_icmp .ne 9, 3, (0, 0, 0, 0), .null, [], 0, 0, []) := rfl
theorem f_147_12 : xfind (xnth xTs 147) 12 = some (12, .aload_n 0, 1, (0, 0, 0, 0), .null, [], 0, 0, []) := rfl
theorem f_147_13 : xfind (xnth xTs 147) 13 = some (13, .iconst 3, 1, (0, 0, 0, 0), (.int 3), [], 0, 0, []) := rfl
theorem f_147_14 : xfind (xnth xTs 147) 14 = some (14, .invokevirtual 125, 3, (141, 1, 9, 2), .null, [], 1018, 0, []) := rfl
theorem f_147_17 : xfind (xnth xTs 147) 17 = some (17, .ireturn, 1, (1, 0, 0, 0), .null, [], 0, 0, []) := rfl
theorem f_147_18 : xfind (xnth xTs 147) 18 = some (18, .aload_n 0, 1, (0, 0, 0, 0), .null, [], 0, 0, []) := rfl
theorem f_147_19 : xfind (xnth xTs 147) 19 = some (19, .getfield 13, 3, (9, 1, 1, 0), .null, [], 910, 0, []) := rfl
theorem f_147_22 : xfind (xnth xTs 147) 22 = some (22, .iconst 2, 1, (0, 0, 0, 0), (.int 2), [], 0, 0, []) := rfl
theorem f_147_23 : xfind (xnth xTs 147) 23 = some (23, .dup2, 1, (0, 0, 0, 0), .null, [], 0, 0, []) := rfl
theorem f_147_24 : xfind (xnth xTs 147) 24 = some (24, .iaload, 1, (0, 0, 0, 0), .null, [], 0, 0, []) := rfl
theorem f_147_25 : xfind (xnth xTs 147) 25 = some (25, .iconst 1, 1, (0, 0, 0, 0), (.int 1), [], 0, 0, []) := rfl
theorem f_147_26 : xfind (xnth xTs 147) 26 = some (26, .iadd, 1, (0, 0, 0, 0), .null, [], 0, 0, []) := rfl
theorem f_147_27 : xfind (xnth xTs 147) 27 = some (27, .iastore, 1, (0, 0, 0, 0), .null, [], 0, 0, []) := rfl
theorem f_147_28 : xfind (xnth xTs 147) 28 = some (28, .aload_n 0, 1, (0, 0, 0, 0), .null, [], 0, 0, []) := rfl
theorem f_147_29 : xfind (xnth xTs 147) 29 = some (29, .bipush 25, 2, (0, 0, 0, 0), (.int 25), [], 0, 0, []) := rfl
theorem f_147_31 : xfind (xnth xTs 147) 31 = some (31, .iload_n 1, 1, (0, 0, 0, 0), .null, [], 0, 0, []) := rfl
theorem f_147_32 : xfind (xnth xTs 147) 32 = some (32, .iadd, 1, (0, 0, 0, 0), .null, [], 0, 0, []) := rfl
theorem f_147_33 : xfind (xnth xTs 147) 33 = some (33, .iconst 0, 1, (0, 0, 0, 0), (.int 0), [], 0, 0, []) := rfl
theorem f_147_34 : xfind (xnth xTs 147) 34 = some (34, .aload_n 0, 1, (0, 0, 0, 0), .null, [], 0, 0, []) := rfl
theorem f_147_35 : xfind (xnth xTs 147) 35 = some (35, .getfield 13, 3, (9, 1, 1, 0), .null, [], 910, 0, []) := rfl
theorem f_147_38 : xfind (xnth xTs 147) 38 = some (38, .iconst 0, 1, (0, 0, 0, 0), (.int 0), [], 0, 0, []) := rfl
theorem f_147_39 : xfind (xnth xTs 147) 39 = some (39, .iaload, 1, (0, 0, 0, 0), .null, [], 0, 0, []) := rfl
theorem f_147_40 : xfind (xnth xTs 147) 40 = some (40, .iconst 1, 1, (0, 0, 0, 0), (.int 1), [], 0, 0, []) := rfl
theorem f_147_41 : xfind (xnth xTs 147) 41 = some (41, .isub, 1, (0, 0, 0, 0), .null, [], 0, 0, []) := rfl
theorem f_147_42 : xfind (xnth xTs 147) 42 = some (42, .invokevirtual 129, 3, (142, 3, 9, 4), .null, [], 1022, 0, []) := rfl
theorem f_147_45 : xfind (xnth xTs 147) 45 = some (45, .ifCond .eq 54, 3, (0, 0, 0, 0), .null, [], 0, 0, []) := rfl
theorem f_147_48 : xfind (xnth xTs 147) 48 = some (48, .aload_n 0, 1, (0, 0, 0, 0), .null, [], 0, 0, []) := rfl
theorem f_147_49 : xfind (xnth xTs 147) 49 = some (49, .bipush 20, 2, (0, 0, 0, 0), (.int 20), [], 0, 0, []) := rfl
theorem f_147_51 : xfind (xnth xTs 147) 51 = some (51, .iload_n 1, 1, (0, 0, 0, 0), .null, [], 0, 0, []) := rfl
theorem f_147_52 : xfind (xnth xTs 147) 52 = some (52, .iadd, 1, (0, 0, 0, 0), .null, [], 0, 0, []) := rfl
theorem f_147_53 : xfind (xnth xTs 147) 53 = some (53, .iconst 1, 1, (0, 0, 0, 0), (.int 1), [], 0, 0, []) := rfl
theorem f_147_54 : xfind (xnth xTs 147) 54 = some (54, .iconst 4, 1, (0, 0, 0, 0), (.int 4), [], 0, 0, []) := rfl
theorem f_147_55 : xfind (xnth xTs 147) 55 = some (55, .invokevirtual 129, 3, (142, 3, 9, 4), .null, [], 1022, 0, []) := rfl
theorem f_147_58 : xfind (xnth xTs 147) 58 = some (58, .ifCond .eq 41, 3, (0, 0, 0, 0), .null, [], 0, 0, []) := rfl
theorem f_147_61 : xfind (xnth xTs 147) 61 = some (61, .aload_n 0, 1, (0, 0, 0, 0), .null, [], 0, 0, []) := rfl
theorem f_147_62 : xfind (xnth xTs 147) 62 = some (62, .bipush 30, 2, (0, 0, 0, 0), (.int 30), [], 0, 0, []) := rfl
theorem f_147_64 : xfind (xnth xTs 147) 64 = some (64, .iload_n 1, 1, (0, 0, 0, 0), .null, [], 0, 0, []) := rfl
theorem f_147_65 : xfind (xnth xTs 147) 65 = some (65, .iadd, 1, (0, 0, 0, 0), .null, [], 0, 0, []) := rfl
theorem f_147_66 : xfind (xnth xTs 147) 66 = some (66, .iconst 0, 1, (0, 0, 0, 0), (.int 0), [], 0, 0, []) := rfl
theorem f_147_67 : xfind (xnth xTs 147) 67 = some (67, .iconst 4, 1, (0, 0, 0, 0), (.int 4), [], 0, 0, []) := rfl
theorem f_147_68 : xfind (xnth xTs 147) 68 = some (68, .invokevirtual 129, 3, (142, 3, 9, 4), .null, [], 1022, 0, []) := rfl
theorem f_147_71 : xfind (xnth xTs 147) 71 = some (71, .ifCond .eq 28, 3, (0, 0, 0, 0), .null, [], 0, 0, []) := rfl
theorem f_147_74 : xfind (xnth xTs 147) 74 = some (74, .aload_n 0, 1, (0, 0, 0, 0), .null, [], 0, 0, []) := rfl
theorem f_147_75 : xfind (xnth xTs 147) 75 = some (75, .bipush 35, 2, (0, 0, 0, 0), (.int 35), [], 0, 0, []) := rfl
theorem f_147_77 : xfind (xnth xTs 147) 77 = some (77, .iload_n 1, 1, (0, 0, 0, 0), .null, [], 0, 0, []) := rfl
theorem f_147_78 : xfind (xnth xTs 147) 78 = some (78, .iadd, 1, (0, 0, 0, 0), .null, [], 0, 0, []) := rfl
theorem f_147_79 : xfind (xnth xTs 147) 79 = some (79, .iconst 0, 1, (0, 0, 0, 0), (.int 0), [], 0, 0, []) := rfl
theorem f_147_80 : xfind (xnth xTs 147) 80 = some (80, .bipush 9, 2, (0, 0, 0, 0), (.int 9), [], 0, 0, []) := rfl
theorem f_147_82 : xfind (xnth xTs 147) 82 = some (82, .invokevirtual 129, 3, (142, 3, 9, 4), .null, [], 1022, 0, []) := rfl
theorem f_147_85 : xfind (xnth xTs 147) 85 = some (85, .ifCond .eq 14, 3, (0, 0, 0, 0), .null, [], 0, 0, []) := rfl
theorem f_147_88 : xfind (xnth xTs 147) 88 = some (88, .aload_n 0, 1, (0, 0, 0, 0), .null, [], 0, 0, []) := rfl
theorem f_147_89 : xfind (xnth xTs 147) 89 = some (89, .invokevirtual 133, 3, (143, 0, 9, 1), .null, [], 1026, 0, []) := rfl
theorem f_147_92 : xfind (xnth xTs 147) 92 = some (92, .ifCond .eq 7, 3, (0, 0, 0, 0), .null, [], 0, 0, []) := rfl
theorem f_147_95 : xfind (xnth xTs 147) 95 = some (95, .iconst 1, 1, (0, 0, 0, 0), (.int 1), [], 0, 0, []) := rfl
theorem f_147_96 : xfind (xnth xTs 147) 96 = some (96, .goto 4, 3, (0, 0, 0, 0), .null, [], 0, 0, []) := rfl
theorem f_147_99 : xfind (xnth xTs 147) 99 = some (99, .iconst 0, 1, (0, 0, 0, 0), (.int 0), [], 0, 0, []) := rfl
theorem f_147_100 : xfind (xnth xTs 147) 100 = some (100, .ireturn, 1, (1, 0, 0, 0), .null, [], 0, 0, []) := rfl
theorem b_R_readsActor_0 (sh : xSh) (M : Nat → Nat → Int32) (J : Nat → Nat → Int64) (l0 : Nat) : ev (147, 0, [.ref l0, .null], [], (sh, M, J)) = (bif decide ((sh.2.2.1 l0).1 = 9) then bif (decide ((sh.2.2.1 (sh.2.2.2 l0 1)).1 = 11) && xin 2 (sh.2.2.1 (sh.2.2.2 l0 1)).2) then bif !decide ((M (sh.2.2.2 l0 1) (2 : Int32).toNatClampNeg) = 5) then bif decide ((sh.2.2.1 l0).1 = 9) then bif (decide ((sh.2.2.1 (sh.2.2.2 l0 1)).1 = 11) && xin 2 (sh.2.2.1 (sh.2.2.2 l0 1)).2) then bif (decide ((sh.2.2.1 (sh.2.2.2 l0 1)).1 = 11) && xin 2 (sh.2.2.1 (sh.2.2.2 l0 1)).2) then bif decide ((sh.2.2.1 l0).1 = 9) then bif (decide ((sh.2.2.1 (sh.2.2.2 l0 1)).1 = 11) && xin 0 (sh.2.2.1 (sh.2.2.2 l0 1)).2) then bif (decide ((sh.2.2.1 l0).1 = 9) && true) then (ev (142, 0, [.ref l0, .int ((25 : Int32) + (M (sh.2.2.2 l0 1) (2 : Int32).toNatClampNeg)), .int 0, .int (((xu M (sh.2.2.2 l0 1) (2 : Int32).toNatClampNeg ((M (sh.2.2.2 l0 1) (2 : Int32).toNatClampNeg) + 1)) (sh.2.2.2 l0 1) (0 : Int32).toNatClampNeg) - 1)], [], (sh, (xu M (sh.2.2.2 l0 1) (2 : Int32).toNatClampNeg ((M (sh.2.2.2 l0 1) (2 : Int32).toNatClampNeg) + 1)), J))).bind (fun r => ev (147, 45, [.ref l0, .int (M (sh.2.2.2 l0 1) (2 : Int32).toNatClampNeg)], r.1.toList ++ [], r.2)) else none else none else none else none else none else none else bif (decide ((sh.2.2.1 l0).1 = 9) && true) then (ev (141, 0, [.ref l0, .int 3], [], (sh, M, J))).bind (fun r => ev (147, 17, [.ref l0, .int (M (sh.2.2.2 l0 1) (2 : Int32).toNatClampNeg)], r.1.toList ++ [], r.2)) else none else none else none) := by
  refine ev_nx (s1 := (147, 1, [.ref l0, .null], [.ref l0], (sh, M, J))) f_147_0 rfl ?_
  refine ev_gd (s1 := (147, 4, [.ref l0, .null], [.ref (sh.2.2.2 l0 1)], (sh, M, J))) f_147_1 rfl ?_
  refine ev_nx (s1 := (147, 5, [.ref l0, .null], [.int 2, .ref (sh.2.2.2 l0 1)], (sh, M, J))) f_147_4 rfl ?_
  refine ev_gd (s1 := (147, 6, [.ref l0, .null], [.int (M (sh.2.2.2 l0 1) (2 : Int32).toNatClampNeg)], (sh, M, J))) f_147_5 rfl ?_
  refine ev_nx (s1 := (147, 7, [.ref l0, .int (M (sh.2.2.2 l0 1) (2 : Int32).toNatClampNeg)], [], (sh, M, J))) f_147_6 rfl ?_
  refine ev_nx (s1 := (147, 8, [.ref l0, .int (M (sh.2.2.2 l0 1) (2 : Int32).toNatClampNeg)], [.int (M (sh.2.2.2 l0 1) (2 : Int32).toNatClampNeg)], (sh, M, J))) f_147_7 rfl ?_
  refine ev_nx (s1 := (147, 9, [.ref l0, .int (M (sh.2.2.2 l0 1) (2 : Int32).toNatClampNeg)], [.int 5, .int (M (sh.2.2.2 l0 1) (2 : Int32).toNatClampNeg)], (sh, M, J))) f_147_8 rfl ?_
  refine ev_br (s1 := (147, 18, [.ref l0, .int (M (sh.2.2.2 l0 1) (2 : Int32).toNatClampNeg)], [], (sh, M, J))) (s2 := (147, 12, [.ref l0, .int (M (sh.2.2.2 l0 1) (2 : Int32).toNatClampNeg)], [], (sh, M, J))) f_147_9 rfl ?_ ?_
  · refine ev_nx (s1 := (147, 19, [.ref l0, .int (M (sh.2.2.2 l0 1) (2 : Int32).toNatClampNeg)], [.ref l0], (sh, M, J))) f_147_18 rfl ?_
    refine ev_gd (s1 := (147, 22, [.ref l0, .int (M (sh.2.2.2 l0 1) (2 : Int32).toNatClampNeg)], [.ref (sh.2.2.2 l0 1)], (sh, M, J))) f_147_19 rfl ?_
    refine ev_nx (s1 := (147, 23, [.ref l0, .int (M (sh.2.2.2 l0 1) (2 : Int32).toNatClampNeg)], [.int 2, .ref (sh.2.2.2 l0 1)], (sh, M, J))) f_147_22 rfl ?_
    refine ev_nx (s1 := (147, 24, [.ref l0, .int (M (sh.2.2.2 l0 1) (2 : Int32).toNatClampNeg)], [.int 2, .ref (sh.2.2.2 l0 1), .int 2, .ref (sh.2.2.2 l0 1)], (sh, M, J))) f_147_23 rfl ?_
    refine ev_gd (s1 := (147, 25, [.ref l0, .int (M (sh.2.2.2 l0 1) (2 : Int32).toNatClampNeg)], [.int (M (sh.2.2.2 l0 1) (2 : Int32).toNatClampNeg), .int 2, .ref (sh.2.2.2 l0 1)], (sh, M, J))) f_147_24 rfl ?_
    refine ev_nx (s1 := (147, 26, [.ref l0, .int (M (sh.2.2.2 l0 1) (2 : Int32).toNatClampNeg)], [.int 1, .int (M (sh.2.2.2 l0 1) (2 : Int32).toNatClampNeg), .int 2, .ref (sh.2.2.2 l0 1)], (sh, M, J))) f_147_25 rfl ?_
    refine ev_nx (s1 := (147, 27, [.ref l0, .int (M (sh.2.2.2 l0 1) (2 : Int32).toNatClampNeg)], [.int ((M (sh.2.2.2 l0 1) (2 : Int32).toNatClampNeg) + 1), .int 2, .ref (sh.2.2.2 l0 1)], (sh, M, J))) f_147_26 rfl ?_
    refine ev_gd (s1 := (147, 28, [.ref l0, .int (M (sh.2.2.2 l0 1) (2 : Int32).toNatClampNeg)], [], (sh, (xu M (sh.2.2.2 l0 1) (2 : Int32).toNatClampNeg ((M (sh.2.2.2 l0 1) (2 : Int32).toNatClampNeg) + 1)), J))) f_147_27 rfl ?_
    refine ev_nx (s1 := (147, 29, [.ref l0, .int (M (sh.2.2.2 l0 1) (2 : Int32).toNatClampNeg)], [.ref l0], (sh, (xu M (sh.2.2.2 l0 1) (2 : Int32).toNatClampNeg ((M (sh.2.2.2 l0 1) (2 : Int32).toNatClampNeg) + 1)), J))) f_147_28 rfl ?_
    refine ev_nx (s1 := (147, 31, [.ref l0, .int (M (sh.2.2.2 l0 1) (2 : Int32).toNatClampNeg)], [.int 25, .ref l0], (sh, (xu M (sh.2.2.2 l0 1) (2 : Int32).toNatClampNeg ((M (sh.2.2.2 l0 1) (2 : Int32).toNatClampNeg) + 1)), J))) f_147_29 rfl ?_
    refine ev_nx (s1 := (147, 32, [.ref l0, .int (M (sh.2.2.2 l0 1) (2 : Int32).toNatClampNeg)], [.int (M (sh.2.2.2 l0 1) (2 : Int32).toNatClampNeg), .int 25, .ref l0], (sh, (xu M (sh.2.2.2 l0 1) (2 : Int32).toNatClampNeg ((M (sh.2.2.2 l0 1) (2 : Int32).toNatClampNeg) + 1)), J))) f_147_31 rfl ?_
    refine ev_nx (s1 := (147, 33, [.ref l0, .int (M (sh.2.2.2 l0 1) (2 : Int32).toNatClampNeg)], [.int ((25 : Int32) + (M (sh.2.2.2 l0 1) (2 : Int32).toNatClampNeg)), .ref l0], (sh, (xu M (sh.2.2.2 l0 1) (2 : Int32).toNatClampNeg ((M (sh.2.2.2 l0 1) (2 : Int32).toNatClampNeg) + 1)), J))) f_147_32 rfl ?_
    refine ev_nx (s1 := (147, 34, [.ref l0, .int (M (sh.2.2.2 l0 1) (2 : Int32).toNatClampNeg)], [.int 0, .int ((25 : Int32) + (M (sh.2.2.2 l0 1) (2 : Int32).toNatClampNeg)), .ref l0], (sh, (xu M (sh.2.2.2 l0 1) (2 : Int32).toNatClampNeg ((M (sh.2.2.2 l0 1) (2 : Int32).toNatClampNeg) + 1)), J))) f_147_33 rfl ?_
    refine ev_nx (s1 := (147, 35, [.ref l0, .int (M (sh.2.2.2 l0 1) (2 : Int32).toNatClampNeg)], [.ref l0, .int 0, .int ((25 : Int32) + (M (sh.2.2.2 l0 1) (2 : Int32).toNatClampNeg)), .ref l0], (sh, (xu M (sh.2.2.2 l0 1) (2 : Int32).toNatClampNeg ((M (sh.2.2.2 l0 1) (2 : Int32).toNatClampNeg) + 1)), J))) f_147_34 rfl ?_
    refine ev_gd (s1 := (147, 38, [.ref l0, .int (M (sh.2.2.2 l0 1) (2 : Int32).toNatClampNeg)], [.ref (sh.2.2.2 l0 1), .int 0, .int ((25 : Int32) + (M (sh.2.2.2 l0 1) (2 : Int32).toNatClampNeg)), .ref l0], (sh, (xu M (sh.2.2.2 l0 1) (2 : Int32).toNatClampNeg ((M (sh.2.2.2 l0 1) (2 : Int32).toNatClampNeg) + 1)), J))) f_147_35 rfl ?_
    refine ev_nx (s1 := (147, 39, [.ref l0, .int (M (sh.2.2.2 l0 1) (2 : Int32).toNatClampNeg)], [.int 0, .ref (sh.2.2.2 l0 1), .int 0, .int ((25 : Int32) + (M (sh.2.2.2 l0 1) (2 : Int32).toNatClampNeg)), .ref l0], (sh, (xu M (sh.2.2.2 l0 1) (2 : Int32).toNatClampNeg ((M (sh.2.2.2 l0 1) (2 : Int32).toNatClampNeg) + 1)), J))) f_147_38 rfl ?_
    refine ev_gd (s1 := (147, 40, [.ref l0, .int (M (sh.2.2.2 l0 1) (2 : Int32).toNatClampNeg)], [.int ((xu M (sh.2.2.2 l0 1) (2 : Int32).toNatClampNeg ((M (sh.2.2.2 l0 1) (2 : Int32).toNatClampNeg) + 1)) (sh.2.2.2 l0 1) (0 : Int32).toNatClampNeg), .int 0, .int ((25 : Int32) + (M (sh.2.2.2 l0 1) (2 : Int32).toNatClampNeg)), .ref l0], (sh, (xu M (sh.2.2.2 l0 1) (2 : Int32).toNatClampNeg ((M (sh.2.2.2 l0 1) (2 : Int32).toNatClampNeg) + 1)), J))) f_147_39 rfl ?_
    refine ev_nx (s1 := (147, 41, [.ref l0, .int (M (sh.2.2.2 l0 1) (2 : Int32).toNatClampNeg)], [.int 1, .int ((xu M (sh.2.2.2 l0 1) (2 : Int32).toNatClampNeg ((M (sh.2.2.2 l0 1) (2 : Int32).toNatClampNeg) + 1)) (sh.2.2.2 l0 1) (0 : Int32).toNatClampNeg), .int 0, .int ((25 : Int32) + (M (sh.2.2.2 l0 1) (2 : Int32).toNatClampNeg)), .ref l0], (sh, (xu M (sh.2.2.2 l0 1) (2 : Int32).toNatClampNeg ((M (sh.2.2.2 l0 1) (2 : Int32).toNatClampNeg) + 1)), J))) f_147_40 rfl ?_
    refine ev_nx (s1 := (147, 42, [.ref l0, .int (M (sh.2.2.2 l0 1) (2 : Int32).toNatClampNeg)], [.int (((xu M (sh.2.2.2 l0 1) (2 : Int32).toNatClampNeg ((M (sh.2.2.2 l0 1) (2 : Int32).toNatClampNeg) + 1)) (sh.2.2.2 l0 1) (0 : Int32).toNatClampNeg) - 1), .int 0, .int ((25 : Int32) + (M (sh.2.2.2 l0 1) (2 : Int32).toNatClampNeg)), .ref l0], (sh, (xu M (sh.2.2.2 l0 1) (2 : Int32).toNatClampNeg ((M (sh.2.2.2 l0 1) (2 : Int32).toNatClampNeg) + 1)), J))) f_147_41 rfl ?_
    exact ev_ca (cc := (decide ((sh.2.2.1 l0).1 = 9) && true)) (s1 := (142, 0, [.ref l0, .int ((25 : Int32) + (M (sh.2.2.2 l0 1) (2 : Int32).toNatClampNeg)), .int 0, .int (((xu M (sh.2.2.2 l0 1) (2 : Int32).toNatClampNeg ((M (sh.2.2.2 l0 1) (2 : Int32).toNatClampNeg) + 1)) (sh.2.2.2 l0 1) (0 : Int32).toNatClampNeg) - 1)], [], (sh, (xu M (sh.2.2.2 l0 1) (2 : Int32).toNatClampNeg ((M (sh.2.2.2 l0 1) (2 : Int32).toNatClampNeg) + 1)), J))) (k := (147, 45, [.ref l0, .int (M (sh.2.2.2 l0 1) (2 : Int32).toNatClampNeg)], [])) f_147_42 rfl
  · refine ev_nx (s1 := (147, 13, [.ref l0, .int (M (sh.2.2.2 l0 1) (2 : Int32).toNatClampNeg)], [.ref l0], (sh, M, J))) f_147_12 rfl ?_
    refine ev_nx (s1 := (147, 14, [.ref l0, .int (M (sh.2.2.2 l0 1) (2 : Int32).toNatClampNeg)], [.int 3, .ref l0], (sh, M, J))) f_147_13 rfl ?_
    exact ev_ca (cc := (decide ((sh.2.2.1 l0).1 = 9) && true)) (s1 := (141, 0, [.ref l0, .int 3], [], (sh, M, J))) (k := (147, 17, [.ref l0, .int (M (sh.2.2.2 l0 1) (2 : Int32).toNatClampNeg)], [])) f_147_14 rfl
theorem b_R_readsActor_17 (sh : xSh) (M : Nat → Nat → Int32) (J : Nat → Nat → Int64) (l0 : Nat) (l1 : Int32) (k0 : Int32) : ev (147, 17, [.ref l0, .int l1], [.int k0], (sh, M, J)) = (bif ((k0 &&& 1) == k0) then some (some (.int k0), (sh, M, J)) else none) := by
  exact ev_rt f_147_17 rfl
theorem b_R_readsActor_45 (sh : xSh) (M : Nat → Nat → Int32) (J : Nat → Nat → Int64) (l0 : Nat) (l1 : Int32) (k0 : Int32) : ev (147, 45, [.ref l0, .int l1], [.int k0], (sh, M, J)) = (bif decide (k0 = 0) then some (some (.int 0), (sh, M, J)) else bif (decide ((sh.2.2.1 l0).1 = 9) && true) then (ev (142, 0, [.ref l0, .int ((20 : Int32) + l1), .int 1, .int 4], [], (sh, M, J))).bind (fun r => ev (147, 58, [.ref l0, .int l1], r.1.toList ++ [], r.2)) else none) := by
  refine ev_br (s1 := (147, 99, [.ref l0, .int l1], [], (sh, M, J))) (s2 := (147, 48, [.ref l0, .int l1], [], (sh, M, J))) f_147_45 rfl ?_ ?_
  · refine ev_nx (s1 := (147, 100, [.ref l0, .int l1], [.int 0], (sh, M, J))) f_147_99 rfl ?_
    exact ev_r1 f_147_100 rfl
  · refine ev_nx (s1 := (147, 49, [.ref l0, .int l1], [.ref l0], (sh, M, J))) f_147_48 rfl ?_
    refine ev_nx (s1 := (147, 51, [.ref l0, .int l1], [.int 20, .ref l0], (sh, M, J))) f_147_49 rfl ?_
    refine ev_nx (s1 := (147, 52, [.ref l0, .int l1], [.int l1, .int 20, .ref l0], (sh, M, J))) f_147_51 rfl ?_
    refine ev_nx (s1 := (147, 53, [.ref l0, .int l1], [.int ((20 : Int32) + l1), .ref l0], (sh, M, J))) f_147_52 rfl ?_
    refine ev_nx (s1 := (147, 54, [.ref l0, .int l1], [.int 1, .int ((20 : Int32) + l1), .ref l0], (sh, M, J))) f_147_53 rfl ?_
    refine ev_nx (s1 := (147, 55, [.ref l0, .int l1], [.int 4, .int 1, .int ((20 : Int32) + l1), .ref l0], (sh, M, J))) f_147_54 rfl ?_
    exact ev_ca (cc := (decide ((sh.2.2.1 l0).1 = 9) && true)) (s1 := (142, 0, [.ref l0, .int ((20 : Int32) + l1), .int 1, .int 4], [], (sh, M, J))) (k := (147, 58, [.ref l0, .int l1], [])) f_147_55 rfl
theorem b_R_readsActor_58 (sh : xSh) (M : Nat → Nat → Int32) (J : Nat → Nat → Int64) (l0 : Nat) (l1 : Int32) (k0 : Int32) : ev (147, 58, [.ref l0, .int l1], [.int k0], (sh, M, J)) = (bif decide (k0 = 0) then some (some (.int 0), (sh, M, J)) else bif (decide ((sh.2.2.1 l0).1 = 9) && true) then (ev (142, 0, [.ref l0, .int ((30 : Int32) + l1), .int 0, .int 4], [], (sh, M, J))).bind (fun r => ev (147, 71, [.ref l0, .int l1], r.1.toList ++ [], r.2)) else none) := by
  refine ev_br (s1 := (147, 99, [.ref l0, .int l1], [], (sh, M, J))) (s2 := (147, 61, [.ref l0, .int l1], [], (sh, M, J))) f_147_58 rfl ?_ ?_
  · refine ev_nx (s1 := (147, 100, [.ref l0, .int l1], [.int 0], (sh, M, J))) f_147_99 rfl ?_
    exact ev_r1 f_147_100 rfl
  · refine ev_nx (s1 := (147, 62, [.ref l0, .int l1], [.ref l0], (sh, M, J))) f_147_61 rfl ?_
    refine ev_nx (s1 := (147, 64, [.ref l0, .int l1], [.int 30, .ref l0], (sh, M, J))) f_147_62 rfl ?_
    refine ev_nx (s1 := (147, 65, [.ref l0, .int l1], [.int l1, .int 30, .ref l0], (sh, M, J))) f_147_64 rfl ?_
    refine ev_nx (s1 := (147, 66, [.ref l0, .int l1], [.int ((30 : Int32) + l1), .ref l0], (sh, M, J))) f_147_65 rfl ?_
    refine ev_nx (s1 := (147, 67, [.ref l0, .int l1], [.int 0, .int ((30 : Int32) + l1), .ref l0], (sh, M, J))) f_147_66 rfl ?_
    refine ev_nx (s1 := (147, 68, [.ref l0, .int l1], [.int 4, .int 0, .int ((30 : Int32) + l1), .ref l0], (sh, M, J))) f_147_67 rfl ?_
    exact ev_ca (cc := (decide ((sh.2.2.1 l0).1 = 9) && true)) (s1 := (142, 0, [.ref l0, .int ((30 : Int32) + l1), .int 0, .int 4], [], (sh, M, J))) (k := (147, 71, [.ref l0, .int l1], [])) f_147_68 rfl
theorem b_R_readsActor_71 (sh : xSh) (M : Nat → Nat → Int32) (J : Nat → Nat → Int64) (l0 : Nat) (l1 : Int32) (k0 : Int32) : ev (147, 71, [.ref l0, .int l1], [.int k0], (sh, M, J)) = (bif decide (k0 = 0) then some (some (.int 0), (sh, M, J)) else bif (decide ((sh.2.2.1 l0).1 = 9) && true) then (ev (142, 0, [.ref l0, .int ((35 : Int32) + l1), .int 0, .int 9], [], (sh, M, J))).bind (fun r => ev (147, 85, [.ref l0, .int l1], r.1.toList ++ [], r.2)) else none) := by
  refine ev_br (s1 := (147, 99, [.ref l0, .int l1], [], (sh, M, J))) (s2 := (147, 74, [.ref l0, .int l1], [], (sh, M, J))) f_147_71 rfl ?_ ?_
  · refine ev_nx (s1 := (147, 100, [.ref l0, .int l1], [.int 0], (sh, M, J))) f_147_99 rfl ?_
    exact ev_r1 f_147_100 rfl
  · refine ev_nx (s1 := (147, 75, [.ref l0, .int l1], [.ref l0], (sh, M, J))) f_147_74 rfl ?_
    refine ev_nx (s1 := (147, 77, [.ref l0, .int l1], [.int 35, .ref l0], (sh, M, J))) f_147_75 rfl ?_
    refine ev_nx (s1 := (147, 78, [.ref l0, .int l1], [.int l1, .int 35, .ref l0], (sh, M, J))) f_147_77 rfl ?_
    refine ev_nx (s1 := (147, 79, [.ref l0, .int l1], [.int ((35 : Int32) + l1), .ref l0], (sh, M, J))) f_147_78 rfl ?_
    refine ev_nx (s1 := (147, 80, [.ref l0, .int l1], [.int 0, .int ((35 : Int32) + l1), .ref l0], (sh, M, J))) f_147_79 rfl ?_
    refine ev_nx (s1 := (147, 82, [.ref l0, .int l1], [.int 9, .int 0, .int ((35 : Int32) + l1), .ref l0], (sh, M, J))) f_147_80 rfl ?_
    exact ev_ca (cc := (decide ((sh.2.2.1 l0).1 = 9) && true)) (s1 := (142, 0, [.ref l0, .int ((35 : Int32) + l1), .int 0, .int 9], [], (sh, M, J))) (k := (147, 85, [.ref l0, .int l1], [])) f_147_82 rfl
theorem b_R_readsActor_85 (sh : xSh) (M : Nat → Nat → Int32) (J : Nat → Nat → Int64) (l0 : Nat) (l1 : Int32) (k0 : Int32) : ev (147, 85, [.ref l0, .int l1], [.int k0], (sh, M, J)) = (bif decide (k0 = 0) then some (some (.int 0), (sh, M, J)) else bif (decide ((sh.2.2.1 l0).1 = 9) && true) then (ev (143, 0, [.ref l0], [], (sh, M, J))).bind (fun r => ev (147, 92, [.ref l0, .int l1], r.1.toList ++ [], r.2)) else none) := by
  refine ev_br (s1 := (147, 99, [.ref l0, .int l1], [], (sh, M, J))) (s2 := (147, 88, [.ref l0, .int l1], [], (sh, M, J))) f_147_85 rfl ?_ ?_
  · refine ev_nx (s1 := (147, 100, [.ref l0, .int l1], [.int 0], (sh, M, J))) f_147_99 rfl ?_
    exact ev_r1 f_147_100 rfl
  · refine ev_nx (s1 := (147, 89, [.ref l0, .int l1], [.ref l0], (sh, M, J))) f_147_88 rfl ?_
    exact ev_ca (cc := (decide ((sh.2.2.1 l0).1 = 9) && true)) (s1 := (143, 0, [.ref l0], [], (sh, M, J))) (k := (147, 92, [.ref l0, .int l1], [])) f_147_89 rfl
theorem b_R_readsActor_92 (sh : xSh) (M : Nat → Nat → Int32) (J : Nat → Nat → Int64) (l0 : Nat) (l1 : Int32) (k0 : Int32) : ev (147, 92, [.ref l0, .int l1], [.int k0], (sh, M, J)) = (bif decide (k0 = 0) then some (some (.int 0), (sh, M, J)) else some (some (.int 1), (sh, M, J))) := by
  refine ev_br (s1 := (147, 99, [.ref l0, .int l1], [], (sh, M, J))) (s2 := (147, 95, [.ref l0, .int l1], [], (sh, M, J))) f_147_92 rfl ?_ ?_
  · refine ev_nx (s1 := (147, 100, [.ref l0, .int l1], [.int 0], (sh, M, J))) f_147_99 rfl ?_
    exact ev_r1 f_147_100 rfl
  · refine ev_nx (s1 := (147, 96, [.ref l0, .int l1], [.int 1], (sh, M, J))) f_147_95 rfl ?_
    refine ev_nx (s1 := (147, 100, [.ref l0, .int l1], [.int 1], (sh, M, J))) f_147_96 rfl ?_
    exact ev_r1 f_147_100 rfl
theorem f_148_0 : xfind (xnth xTs 148) 0 = some (0, .aload_n 0, 1, (0, 0, 0, 0), .null, [], 0, 0, []) := rfl
theorem f_148_1 : xfind (xnth xTs 148) 1 = some (1, .getfield 106, 3, (9, 18, 0, 0), .null, [], 927, 0, []) := rfl
theorem f_148_4 : xfind (xnth xTs 148) 4 = some (4, .bipush 107, 2, (0, 0, 0, 0), (.int 107), [], 0, 0, []) := rfl
theorem f_148_6 : xfind (xnth xTs 148) 6 = some (6, .if_icmp .ne 8, 3, (0, 0, 0, 0), .null, [], 0, 0, []) := rfl
theorem f_148_9 : xfind (xnth xTs 148) 9 = some (9, .aload_n 0, 1, (0, 0, 0, 0), .null, [], 0, 0, []) := rfl
theorem f_148_10 : xfind (xnth xTs 148) 10 = some (10, .invokevirtual 141, 3, (144, 0, 9, 1), .null, [], 1014, 0, []) := rfl
theorem f_148_13 : xfind (xnth xTs 148) 13 = some (13, .ireturn, 1, (1, 0, 0, 0), .null, [], 0, 0, []) := rfl
theorem f_148_14 : xfind (xnth xTs 148) 14 = some (14, .aload_n 0, 1, (0, 0, 0, 0), .null, [], 0, 0, []) := rfl
theorem f_148_15 : xfind (xnth xTs 148) 15 = some (15, .getfield 13, 3, (9, 1, 1, 0), .null, [], 910, 0, []) := rfl
theorem f_148_18 : xfind (xnth xTs 148) 18 = some (18, .iconst 0, 1, (0, 0, 0, 0), (.int 0), [], 0, 0, []) := rfl
theorem f_148_19 : xfind (xnth xTs 148) 19 = some (19, .iaload, 1, (0, 0, 0, 0), .null, [], 0, 0, []) := rfl
theorem f_148_20 : xfind (xnth xTs 148) 20 = some (20, .ifCond .ne 9, 3, (0, 0, 0, 0), .null, [], 0, 0, []) := rfl
theorem f_148_23 : xfind (xnth xTs 148) 23 = some (23, .aload_n 0, 1, (0, 0, 0, 0), .null, [], 0, 0, []) := rfl
theorem f_148_24 : xfind (xnth xTs 148) 24 = some (24, .iconst 1, 1, (0, 0, 0, 0), (.int 1), [], 0, 0, []) := rfl
theorem f_148_25 : xfind (xnth xTs 148) 25 = some (25, .invokevirtual 125, 3, (141, 1, 9, 2), .null, [], 1018, 0, []) := rfl
theorem f_148_28 : xfind (xnth xTs 148) 28 = some (28, .ireturn, 1, (1, 0, 0, 0), .null, [], 0, 0, []) := rfl
theorem f_148_29 : xfind (xnth xTs 148) 29 = some (29, .aload_n 0, 1, (0, 0, 0, 0), .null, [], 0, 0, []) := rfl
theorem f_148_30 : xfind (xnth xTs 148) 30 = some (30, .getfield 106, 3, (9, 18, 0, 0), .null, [], 927, 0, []) := rfl
theorem f_148_33 : xfind (xnth xTs 148) 33 = some (33, .lookupswitch 50 #[(97, 45), (99, 35), (104, 40)], 35, (0, 0, 0, 83), .null, [(97, 78), (99, 68), (104, 73)], 0, 0, []) := rfl
theorem f_148_68 : xfind (xnth xTs 148) 68 = some (68, .aload_n 0, 1, (0, 0, 0, 0), .null, [], 0, 0, []) := rfl
theorem f_148_69 : xfind (xnth xTs 148) 69 = some (69, .invokevirtual 144, 3, (145, 0, 9, 2), .null, [], 1030, 0, []) := rfl
theorem f_148_72 : xfind (xnth xTs 148) 72 = some (72, .ireturn, 1, (1, 0, 0, 0), .null, [], 0, 0, []) := rfl
theorem f_148_73 : xfind (xnth xTs 148) 73 = some (73, .aload_n 0, 1, (0, 0, 0, 0), .null, [], 0, 0, []) := rfl
theorem f_148_74 : xfind (xnth xTs 148) 74 = some (74, .invokevirtual 147, 3, (146, 0, 9, 1), .null, [], 1037, 0, []) := rfl
theorem f_148_77 : xfind (xnth xTs 148) 77 = some (77, .ireturn, 1, (1, 0, 0, 0), .null, [], 0, 0, []) := rfl
theorem f_148_78 : xfind (xnth xTs 148) 78 = some (78, .aload_n 0, 1, (0, 0, 0, 0), .null, [], 0, 0, []) := rfl
theorem f_148_79 : xfind (xnth xTs 148) 79 = some (79, .invokevirtual 150, 3, (147, 0, 9, 2), .null, [], 1041, 0, []) := rfl
theorem f_148_82 : xfind (xnth xTs 148) 82 = some (82, .ireturn, 1, (1, 0, 0, 0), .null, [], 0, 0, []) := rfl
theorem f_148_83 : xfind (xnth xTs 148) 83 = some (83, .aload_n 0, 1, (0, 0, 0, 0), .null, [], 0, 0, []) := rfl
theorem f_148_84 : xfind (xnth xTs 148) 84 = some (84, .iconst 1, 1, (0, 0, 0, 0), (.int 1), [], 0, 0, []) := rfl
theorem f_148_85 : xfind (xnth xTs 148) 85 = some (85, .invokevirtual 125, 3, (141, 1, 9, 2), .null, [], 1018, 0, []) := rfl
theorem f_148_88 : xfind (xnth xTs 148) 88 = some (88, .ireturn, 1, (1, 0, 0, 0), .null, [], 0, 0, []) := rfl
theorem b_R_readsClause_0 (sh : xSh) (M : Nat → Nat → Int32) (J : Nat → Nat → Int64) (l0 : Nat) : ev (148, 0, [.ref l0], [], (sh, M, J)) = (bif decide ((sh.2.2.1 l0).1 = 9) then bif !decide ((M l0 18) = 107) then bif decide ((sh.2.2.1 l0).1 = 9) then bif (decide ((sh.2.2.1 (sh.2.2.2 l0 1)).1 = 11) && xin 0 (sh.2.2.1 (sh.2.2.2 l0 1)).2) then bif !decide ((M (sh.2.2.2 l0 1) (0 : Int32).toNatClampNeg) = 0) then bif decide ((sh.2.2.1 l0).1 = 9) then if (M l0 18) = 97 then bif (decide ((sh.2.2.1 l0).1 = 9) && true) then (ev (147, 0, [.ref l0, .null], [], (sh, M, J))).bind (fun r => ev (148, 82, [.ref l0], r.1.toList ++ [], r.2)) else none else if (M l0 18) = 99 then bif (decide ((sh.2.2.1 l0).1 = 9) && true) then (ev (145, 0, [.ref l0, .null], [], (sh, M, J))).bind (fun r => ev (148, 72, [.ref l0], r.1.toList ++ [], r.2)) else none else if (M l0 18) = 104 then bif (decide ((sh.2.2.1 l0).1 = 9) && true) then (ev (146, 0, [.ref l0], [], (sh, M, J))).bind (fun r => ev (148, 77, [.ref l0], r.1.toList ++ [], r.2)) else none else bif (decide ((sh.2.2.1 l0).1 = 9) && true) then (ev (141, 0, [.ref l0, .int 1], [], (sh, M, J))).bind (fun r => ev (148, 88, [.ref l0], r.1.toList ++ [], r.2)) else none else none else bif (decide ((sh.2.2.1 l0).1 = 9) && true) then (ev (141, 0, [.ref l0, .int 1], [], (sh, M, J))).bind (fun r => ev (148, 28, [.ref l0], r.1.toList ++ [], r.2)) else none else none else none else bif (decide ((sh.2.2.1 l0).1 = 9) && true) then (ev (144, 0, [.ref l0], [], (sh, M, J))).bind (fun r => ev (148, 13, [.ref l0], r.1.toList ++ [], r.2)) else none else none) := by
  refine ev_nx (s1 := (148, 1, [.ref l0], [.ref l0], (sh, M, J))) f_148_0 rfl ?_
  refine ev_gd (s1 := (148, 4, [.ref l0], [.int (M l0 18)], (sh, M, J))) f_148_1 rfl ?_
  refine ev_nx (s1 := (148, 6, [.ref l0], [.int 107, .int (M l0 18)], (sh, M, J))) f_148_4 rfl ?_
  refine ev_br (s1 := (148, 14, [.ref l0], [], (sh, M, J))) (s2 := (148, 9, [.ref l0], [], (sh, M, J))) f_148_6 rfl ?_ ?_
  · refine ev_nx (s1 := (148, 15, [.ref l0], [.ref l0], (sh, M, J))) f_148_14 rfl ?_
    refine ev_gd (s1 := (148, 18, [.ref l0], [.ref (sh.2.2.2 l0 1)], (sh, M, J))) f_148_15 rfl ?_
    refine ev_nx (s1 := (148, 19, [.ref l0], [.int 0, .ref (sh.2.2.2 l0 1)], (sh, M, J))) f_148_18 rfl ?_
    refine ev_gd (s1 := (148, 20, [.ref l0], [.int (M (sh.2.2.2 l0 1) (0 : Int32).toNatClampNeg)], (sh, M, J))) f_148_19 rfl ?_
    refine ev_br (s1 := (148, 29, [.ref l0], [], (sh, M, J))) (s2 := (148, 23, [.ref l0], [], (sh, M, J))) f_148_20 rfl ?_ ?_
    · refine ev_nx (s1 := (148, 30, [.ref l0], [.ref l0], (sh, M, J))) f_148_29 rfl ?_
      refine ev_gd (s1 := (148, 33, [.ref l0], [.int (M l0 18)], (sh, M, J))) f_148_30 rfl ?_
      refine ev_sw f_148_33 rfl ?_
      refine ev_swc ?_ ?_
      · refine ev_nx (s1 := (148, 79, [.ref l0], [.ref l0], (sh, M, J))) f_148_78 rfl ?_
        exact ev_ca (cc := (decide ((sh.2.2.1 l0).1 = 9) && true)) (s1 := (147, 0, [.ref l0, .null], [], (sh, M, J))) (k := (148, 82, [.ref l0], [])) f_148_79 rfl
      refine ev_swc ?_ ?_
      · refine ev_nx (s1 := (148, 69, [.ref l0], [.ref l0], (sh, M, J))) f_148_68 rfl ?_
        exact ev_ca (cc := (decide ((sh.2.2.1 l0).1 = 9) && true)) (s1 := (145, 0, [.ref l0, .null], [], (sh, M, J))) (k := (148, 72, [.ref l0], [])) f_148_69 rfl
      refine ev_swc ?_ ?_
      · refine ev_nx (s1 := (148, 74, [.ref l0], [.ref l0], (sh, M, J))) f_148_73 rfl ?_
        exact ev_ca (cc := (decide ((sh.2.2.1 l0).1 = 9) && true)) (s1 := (146, 0, [.ref l0], [], (sh, M, J))) (k := (148, 77, [.ref l0], [])) f_148_74 rfl
      show ev (148, 83, [.ref l0], [], (sh, M, J)) = _
      refine ev_nx (s1 := (148, 84, [.ref l0], [.ref l0], (sh, M, J))) f_148_83 rfl ?_
      refine ev_nx (s1 := (148, 85, [.ref l0], [.int 1, .ref l0], (sh, M, J))) f_148_84 rfl ?_
      exact ev_ca (cc := (decide ((sh.2.2.1 l0).1 = 9) && true)) (s1 := (141, 0, [.ref l0, .int 1], [], (sh, M, J))) (k := (148, 88, [.ref l0], [])) f_148_85 rfl
    · refine ev_nx (s1 := (148, 24, [.ref l0], [.ref l0], (sh, M, J))) f_148_23 rfl ?_
      refine ev_nx (s1 := (148, 25, [.ref l0], [.int 1, .ref l0], (sh, M, J))) f_148_24 rfl ?_
      exact ev_ca (cc := (decide ((sh.2.2.1 l0).1 = 9) && true)) (s1 := (141, 0, [.ref l0, .int 1], [], (sh, M, J))) (k := (148, 28, [.ref l0], [])) f_148_25 rfl
  · refine ev_nx (s1 := (148, 10, [.ref l0], [.ref l0], (sh, M, J))) f_148_9 rfl ?_
    exact ev_ca (cc := (decide ((sh.2.2.1 l0).1 = 9) && true)) (s1 := (144, 0, [.ref l0], [], (sh, M, J))) (k := (148, 13, [.ref l0], [])) f_148_10 rfl
theorem b_R_readsClause_13 (sh : xSh) (M : Nat → Nat → Int32) (J : Nat → Nat → Int64) (l0 : Nat) (k0 : Int32) : ev (148, 13, [.ref l0], [.int k0], (sh, M, J)) = (bif ((k0 &&& 1) == k0) then some (some (.int k0), (sh, M, J)) else none) := by
  exact ev_rt f_148_13 rfl
theorem b_R_readsClause_28 (sh : xSh) (M : Nat → Nat → Int32) (J : Nat → Nat → Int64) (l0 : Nat) (k0 : Int32) : ev (148, 28, [.ref l0], [.int k0], (sh, M, J)) = (bif ((k0 &&& 1) == k0) then some (some (.int k0), (sh, M, J)) else none) := by
  exact ev_rt f_148_28 rfl
theorem b_R_readsClause_72 (sh : xSh) (M : Nat → Nat → Int32) (J : Nat → Nat → Int64) (l0 : Nat) (k0 : Int32) : ev (148, 72, [.ref l0], [.int k0], (sh, M, J)) = (bif ((k0 &&& 1) == k0) then some (some (.int k0), (sh, M, J)) else none) := by
  exact ev_rt f_148_72 rfl
theorem b_R_readsClause_77 (sh : xSh) (M : Nat → Nat → Int32) (J : Nat → Nat → Int64) (l0 : Nat) (k0 : Int32) : ev (148, 77, [.ref l0], [.int k0], (sh, M, J)) = (bif ((k0 &&& 1) == k0) then some (some (.int k0), (sh, M, J)) else none) := by
  exact ev_rt f_148_77 rfl
theorem b_R_readsClause_82 (sh : xSh) (M : Nat → Nat → Int32) (J : Nat → Nat → Int64) (l0 : Nat) (k0 : Int32) : ev (148, 82, [.ref l0], [.int k0], (sh, M, J)) = (bif ((k0 &&& 1) == k0) then some (some (.int k0), (sh, M, J)) else none) := by
  exact ev_rt f_148_82 rfl
theorem b_R_readsClause_88 (sh : xSh) (M : Nat → Nat → Int32) (J : Nat → Nat → Int64) (l0 : Nat) (k0 : Int32) : ev (148, 88, [.ref l0], [.int k0], (sh, M, J)) = (bif ((k0 &&& 1) == k0) then some (some (.int k0), (sh, M, J)) else none) := by
  exact ev_rt f_148_88 rfl
theorem f_149_0 : xfind (xnth xTs 149) 0 = some (0, .aload_n 0, 1, (0, 0, 0, 0), .null, [], 0, 0, []) := rfl
theorem f_149_1 : xfind (xnth xTs 149) 1 = some (1, .getfield 13, 3, (9, 1, 1, 0), .null, [], 910, 0, []) := rfl
theorem f_149_4 : xfind (xnth xTs 149) 4 = some (4, .invokestatic 57, 3, (135, 1, 9, 2), .null, [], 892, 0, []) := rfl
theorem f_149_7 : xfind (xnth xTs 149) 7 = some (7, .aload_n 0, 1, (0, 0, 0, 0), .null, [], 0, 0, []) := rfl
theorem f_149_8 : xfind (xnth xTs 149) 8 = some (8, .iconst 0, 1, (0, 0, 0, 0), (.int 0), [], 0, 0, []) := rfl
theorem f_149_9 : xfind (xnth xTs 149) 9 = some (9, .putfield 96, 3, (9, 16, 0, 0), .null, [], 925, 0, []) := rfl
theorem f_149_12 : xfind (xnth xTs 149) 12 = some (12, .aload_n 0, 1, (0, 0, 0, 0), .null, [], 0, 0, []) := rfl
theorem f_149_13 : xfind (xnth xTs 149) 13 = some (13, .iconst (-1), 1, (0, 0, 0, 0), (.int (-1)), [], 0, 0, []) := rfl
theorem f_149_14 : xfind (xnth xTs 149) 14 = some (14, .putfield 35, 3, (9, 11, 0, 0), .null, [], 920, 0, []) := rfl
theorem f_149_17 : xfind (xnth xTs 149) 17 = some (17, .iconst 1, 1, (0, 0, 0, 0), (.int 1), [], 0, 0, []) := rfl
theorem f_149_18 : xfind (xnth xTs 149) 18 = some (18, .istore_n 1, 1, (0, 0, 0, 0), .null, [], 0, 0, []) := rfl
theorem f_149_19 : xfind (xnth xTs 149) 19 = some (19, .aload_n 0, 1, (0, 0, 0, 0), .null, [], 0, 0, []) := rfl
theorem f_149_20 : xfind (xnth xTs 149) 20 = some (20, .invokevirtual 122, 3, (140, 0, 9, 1), .null, [], 1000, 0, []) := rfl
theorem f_149_23 : xfind (xnth xTs 149) 23 = some (23, .aload_n 0, 1, (0, 0, 0, 0), .null, [], 0, 1, []) := rfl
theorem f_149_24 : xfind (xnth xTs 149) 24 = some (24, .getfield 106, 3, (9, 18, 0, 0), .null, [], 927, 0, []) := rfl
theorem f_149_27 : xfind (xnth xTs 149) 27 = some (27, .ifCond .lt 23, 3, (0, 0, 0, 0), .null, [], 0, 0, []) := rfl
theorem f_149_30 : xfind (xnth xTs 149) 30 = some (30, .iload_n 1, 1, (0, 0, 0, 0), .null, [], 0, 0, []) := rfl
theorem f_149_31 : xfind (xnth xTs 149) 31 = some (31, .ifCond .eq 19, 3, (0, 0, 0, 0), .null, [], 0, 0, []) := rfl
theorem f_149_34 : xfind (xnth xTs 149) 34 = some (34, .aload_n 0, 1, (0, 0, 0, 0), .null, [], 0, 0, []) := rfl
theorem f_149_35 : xfind (xnth xTs 149) 35 = some (35, .invokevirtual 153, 3, (148, 0, 9, 1), .null, [], 1010, 0, []) := rfl
theorem f_149_38 : xfind (xnth xTs 149) 38 = some (38, .istore_n 1, 1, (0, 0, 0, 0), .null, [], 0, 0, []) := rfl
theorem f_149_39 : xfind (xnth xTs 149) 39 = some (39, .iload_n 1, 1, (0, 0, 0, 0), .null, [], 0, 0, []) := rfl
theorem f_149_40 : xfind (xnth xTs 149) 40 = some (40, .ifCond .eq (-17), 3, (0, 0, 0, 0), .null, [], 0, 0, []) := rfl
theorem f_149_43 : xfind (xnth xTs 149) 43 = some (43, .aload_n 0, 1, (0, 0, 0, 0), .null, [], 0, 0, []) := rfl
theorem f_149_44 : xfind (xnth xTs 149) 44 = some (44, .invokevirtual 122, 3, (140, 0, 9, 1), .null, [], 1000, 0, []) := rfl
theorem f_149_47 : xfind (xnth xTs 149) 47 = some (47, .goto (-24), 3, (0, 0, 0, 0), .null, [], 0, 0, []) := rfl
theorem f_149_50 : xfind (xnth xTs 149) 50 = some (50, .aload_n 0, 1, (0, 0, 0, 0), .null, [], 0, 0, []) := rfl
theorem f_149_51 : xfind (xnth xTs 149) 51 = some (51, .iconst 0, 1, (0, 0, 0, 0), (.int 0), [], 0, 0, []) := rfl
theorem f_149_52 : xfind (xnth xTs 149) 52 = some (52, .putfield 92, 3, (9, 10, 0, 0), .null, [], 919, 0, []) := rfl
theorem f_149_55 : xfind (xnth xTs 149) 55 = some (55, .iload_n 1, 1, (0, 0, 0, 0), .null, [], 0, 0, []) := rfl
theorem f_149_56 : xfind (xnth xTs 149) 56 = some (56, .ifCond .ne 19, 3, (0, 0, 0, 0), .null, [], 0, 0, []) := rfl
theorem f_149_59 : xfind (xnth xTs 149) 59 = some (59, .aload_n 0, 1, (0, 0, 0, 0), .null, [], 0, 0, []) := rfl
theorem f_149_60 : xfind (xnth xTs 149) 60 = some (60, .aload_n 0, 1, (0, 0, 0, 0), .null, [], 0, 0, []) := rfl
theorem f_149_61 : xfind (xnth xTs 149) 61 = some (61, .getfield 103, 3, (9, 17, 0, 0), .null, [], 926, 0, []) := rfl
theorem f_149_64 : xfind (xnth xTs 149) 64 = some (64, .putfield 35, 3, (9, 11, 0, 0), .null, [], 920, 0, []) := rfl
theorem f_149_67 : xfind (xnth xTs 149) 67 = some (67, .bipush (-10), 2, (0, 0, 0, 0), (.int (-10)), [], 0, 0, []) := rfl
theorem f_149_69 : xfind (xnth xTs 149) 69 = some (69, .aload_n 0, 1, (0, 0, 0, 0), .null, [], 0, 0, []) := rfl
theorem f_149_70 : xfind (xnth xTs 149) 70 = some (70, .getfield 119, 3, (9, 21, 0, 0), .null, [], 930, 0, []) := rfl
theorem f_149_73 : xfind (xnth xTs 149) 73 = some (73, .isub, 1, (0, 0, 0, 0), .null, [], 0, 0, []) := rfl
theorem f_149_74 : xfind (xnth xTs 149) 74 = some (74, .ireturn, 1, (0, 0, 0, 0), .null, [], 0, 0, []) := rfl
theorem f_149_75 : xfind (xnth xTs 149) 75 = some (75, .aload_n 0, 1, (0, 0, 0, 0), .null, [], 0, 0, []) := rfl
theorem f_149_76 : xfind (xnth xTs 149) 76 = some (76, .getfield 13, 3, (9, 1, 1, 0), .null, [], 910, 0, []) := rfl
theorem f_149_79 : xfind (xnth xTs 149) 79 = some (79, .iconst 0, 1, (0, 0, 0, 0), (.int 0), [], 0, 0, []) := rfl
theorem f_149_80 : xfind (xnth xTs 149) 80 = some (80, .aload_n 0, 1, (0, 0, 0, 0), .null, [], 0, 0, []) := rfl
theorem f_149_81 : xfind (xnth xTs 149) 81 = some (81, .getfield 7, 3, (9, 0, 1, 0), .null, [], 909, 0, []) := rfl
theorem f_149_84 : xfind (xnth xTs 149) 84 = some (84, .iconst 0, 1, (0, 0, 0, 0), (.int 0), [], 0, 0, []) := rfl
theorem f_149_85 : xfind (xnth xTs 149) 85 = some (85, .bipush 41, 2, (0, 0, 0, 0), (.int 41), [], 0, 0, []) := rfl
theorem f_149_87 : xfind (xnth xTs 149) 87 = some (87, .invokestatic 76, 3, (136, 5, 9, 6), .null, [], 906, 0, []) := rfl
theorem f_149_90 : xfind (xnth xTs 149) 90 = some (90, .aload_n 0, 1, (0, 0, 0, 0), .null, [], 0, 0, []) := rfl
theorem f_149_91 : xfind (xnth xTs 149) 91 = some (91, .invokevirtual 61, 3, (137, 0, 9, 2), .null, [], 902, 0, []) := rfl
theorem f_149_94 : xfind (xnth xTs 149) 94 = some (94, .aload_n 0, 1, (0, 0, 0, 0), .null, [], 0, 0, []) := rfl
theorem f_149_95 : xfind (xnth xTs 149) 95 = some (95, .getfield 7, 3, (9, 0, 1, 0), .null, [], 909, 0, []) := rfl
theorem f_149_98 : xfind (xnth xTs 149) 98 = some (98, .iconst 2, 1, (0, 0, 0, 0), (.int 2), [], 0, 0, []) := rfl
theorem f_149_99 : xfind (xnth xTs 149) 99 = some (99, .iaload, 1, (0, 0, 0, 0), .null, [], 0, 0, []) := rfl
theorem f_149_100 : xfind (xnth xTs 149) 100 = some (100, .ireturn, 1, (0, 0, 0, 0), .null, [], 0, 0, []) := rfl
theorem hd_149_23 : xhead 149 23 = some [] := rfl
theorem b_R_house_0 (sh : xSh) (M : Nat → Nat → Int32) (J : Nat → Nat → Int64) (l0 : Nat) : ev (149, 0, [.ref l0, .null], [], (sh, M, J)) = (bif decide ((sh.2.2.1 l0).1 = 9) then (ev (135, 0, [.ref (sh.2.2.2 l0 1), .null], [], (sh, M, J))).bind (fun r => ev (149, 7, [.ref l0, .null], r.1.toList ++ [], r.2)) else none) := by
  refine ev_nx (s1 := (149, 1, [.ref l0, .null], [.ref l0], (sh, M, J))) f_149_0 rfl ?_
  refine ev_gd (s1 := (149, 4, [.ref l0, .null], [.ref (sh.2.2.2 l0 1)], (sh, M, J))) f_149_1 rfl ?_
  exact ev_c1 (s1 := (135, 0, [.ref (sh.2.2.2 l0 1), .null], [], (sh, M, J))) (k := (149, 7, [.ref l0, .null], [])) f_149_4 rfl
theorem b_R_house_7 (sh : xSh) (M : Nat → Nat → Int32) (J : Nat → Nat → Int64) (l0 : Nat) : ev (149, 7, [.ref l0, .null], [], (sh, M, J)) = (bif decide ((sh.2.2.1 l0).1 = 9) then bif decide ((sh.2.2.1 l0).1 = 9) then bif (decide ((sh.2.2.1 l0).1 = 9) && true) then (ev (140, 0, [.ref l0], [], (sh, (xu (xu M l0 16 0) l0 11 (-1)), J))).bind (fun r => ev (149, 23, [.ref l0, .int 1], r.1.toList ++ [], r.2)) else none else none else none) := by
  refine ev_nx (s1 := (149, 8, [.ref l0, .null], [.ref l0], (sh, M, J))) f_149_7 rfl ?_
  refine ev_nx (s1 := (149, 9, [.ref l0, .null], [.int 0, .ref l0], (sh, M, J))) f_149_8 rfl ?_
  refine ev_gd (s1 := (149, 12, [.ref l0, .null], [], (sh, (xu M l0 16 0), J))) f_149_9 rfl ?_
  refine ev_nx (s1 := (149, 13, [.ref l0, .null], [.ref l0], (sh, (xu M l0 16 0), J))) f_149_12 rfl ?_
  refine ev_nx (s1 := (149, 14, [.ref l0, .null], [.int (-1), .ref l0], (sh, (xu M l0 16 0), J))) f_149_13 rfl ?_
  refine ev_gd (s1 := (149, 17, [.ref l0, .null], [], (sh, (xu (xu M l0 16 0) l0 11 (-1)), J))) f_149_14 rfl ?_
  refine ev_nx (s1 := (149, 18, [.ref l0, .null], [.int 1], (sh, (xu (xu M l0 16 0) l0 11 (-1)), J))) f_149_17 rfl ?_
  refine ev_nx (s1 := (149, 19, [.ref l0, .int 1], [], (sh, (xu (xu M l0 16 0) l0 11 (-1)), J))) f_149_18 rfl ?_
  refine ev_nx (s1 := (149, 20, [.ref l0, .int 1], [.ref l0], (sh, (xu (xu M l0 16 0) l0 11 (-1)), J))) f_149_19 rfl ?_
  exact ev_ca (cc := (decide ((sh.2.2.1 l0).1 = 9) && true)) (s1 := (140, 0, [.ref l0], [], (sh, (xu (xu M l0 16 0) l0 11 (-1)), J))) (k := (149, 23, [.ref l0, .int 1], [])) f_149_20 rfl
theorem b_R_house_23 (sh : xSh) (M : Nat → Nat → Int32) (J : Nat → Nat → Int64) (l0 : Nat) (l1 : Int32) : ev (149, 23, [.ref l0, .int l1], [], (sh, M, J)) = (bif decide ((sh.2.2.1 l0).1 = 9) then bif decide ((M l0 18) < 0) then bif decide ((sh.2.2.1 l0).1 = 9) then bif !decide (l1 = 0) then bif decide ((sh.2.2.1 l0).1 = 9) then bif decide ((sh.2.2.1 l0).1 = 9) then (ev (136, 0, [.ref (sh.2.2.2 l0 1), .int 0, .ref (sh.2.2.2 l0 0), .int 0, .int 41, .null], [], (sh, (xu M l0 10 0), J))).bind (fun r => ev (149, 90, [.ref l0, .int l1], r.1.toList ++ [], r.2)) else none else none else bif decide ((sh.2.2.1 l0).1 = 9) then bif decide ((sh.2.2.1 l0).1 = 9) then bif decide ((sh.2.2.1 l0).1 = 9) then some (some (.int (((-10) : Int32) - ((xu (xu M l0 10 0) l0 11 ((xu M l0 10 0) l0 17)) l0 21))), (sh, (xu (xu M l0 10 0) l0 11 ((xu M l0 10 0) l0 17)), J)) else none else none else none else none else bif decide (l1 = 0) then bif decide ((sh.2.2.1 l0).1 = 9) then bif !decide (l1 = 0) then bif decide ((sh.2.2.1 l0).1 = 9) then bif decide ((sh.2.2.1 l0).1 = 9) then (ev (136, 0, [.ref (sh.2.2.2 l0 1), .int 0, .ref (sh.2.2.2 l0 0), .int 0, .int 41, .null], [], (sh, (xu M l0 10 0), J))).bind (fun r => ev (149, 90, [.ref l0, .int l1], r.1.toList ++ [], r.2)) else none else none else bif decide ((sh.2.2.1 l0).1 = 9) then bif decide ((sh.2.2.1 l0).1 = 9) then bif decide ((sh.2.2.1 l0).1 = 9) then some (some (.int (((-10) : Int32) - ((xu (xu M l0 10 0) l0 11 ((xu M l0 10 0) l0 17)) l0 21))), (sh, (xu (xu M l0 10 0) l0 11 ((xu M l0 10 0) l0 17)), J)) else none else none else none else none else bif (decide ((sh.2.2.1 l0).1 = 9) && true) then (ev (148, 0, [.ref l0], [], (sh, M, J))).bind (fun r => ev (149, 38, [.ref l0, .int l1], r.1.toList ++ [], r.2)) else none else none) := by
  refine ev_nx (s1 := (149, 24, [.ref l0, .int l1], [.ref l0], (sh, M, J))) f_149_23 rfl ?_
  refine ev_gd (s1 := (149, 27, [.ref l0, .int l1], [.int (M l0 18)], (sh, M, J))) f_149_24 rfl ?_
  refine ev_br (s1 := (149, 50, [.ref l0, .int l1], [], (sh, M, J))) (s2 := (149, 30, [.ref l0, .int l1], [], (sh, M, J))) f_149_27 rfl ?_ ?_
  · refine ev_nx (s1 := (149, 51, [.ref l0, .int l1], [.ref l0], (sh, M, J))) f_149_50 rfl ?_
    refine ev_nx (s1 := (149, 52, [.ref l0, .int l1], [.int 0, .ref l0], (sh, M, J))) f_149_51 rfl ?_
    refine ev_gd (s1 := (149, 55, [.ref l0, .int l1], [], (sh, (xu M l0 10 0), J))) f_149_52 rfl ?_
    refine ev_nx (s1 := (149, 56, [.ref l0, .int l1], [.int l1], (sh, (xu M l0 10 0), J))) f_149_55 rfl ?_
    refine ev_br (s1 := (149, 75, [.ref l0, .int l1], [], (sh, (xu M l0 10 0), J))) (s2 := (149, 59, [.ref l0, .int l1], [], (sh, (xu M l0 10 0), J))) f_149_56 rfl ?_ ?_
    · refine ev_nx (s1 := (149, 76, [.ref l0, .int l1], [.ref l0], (sh, (xu M l0 10 0), J))) f_149_75 rfl ?_
      refine ev_gd (s1 := (149, 79, [.ref l0, .int l1], [.ref (sh.2.2.2 l0 1)], (sh, (xu M l0 10 0), J))) f_149_76 rfl ?_
      refine ev_nx (s1 := (149, 80, [.ref l0, .int l1], [.int 0, .ref (sh.2.2.2 l0 1)], (sh, (xu M l0 10 0), J))) f_149_79 rfl ?_
      refine ev_nx (s1 := (149, 81, [.ref l0, .int l1], [.ref l0, .int 0, .ref (sh.2.2.2 l0 1)], (sh, (xu M l0 10 0), J))) f_149_80 rfl ?_
      refine ev_gd (s1 := (149, 84, [.ref l0, .int l1], [.ref (sh.2.2.2 l0 0), .int 0, .ref (sh.2.2.2 l0 1)], (sh, (xu M l0 10 0), J))) f_149_81 rfl ?_
      refine ev_nx (s1 := (149, 85, [.ref l0, .int l1], [.int 0, .ref (sh.2.2.2 l0 0), .int 0, .ref (sh.2.2.2 l0 1)], (sh, (xu M l0 10 0), J))) f_149_84 rfl ?_
      refine ev_nx (s1 := (149, 87, [.ref l0, .int l1], [.int 41, .int 0, .ref (sh.2.2.2 l0 0), .int 0, .ref (sh.2.2.2 l0 1)], (sh, (xu M l0 10 0), J))) f_149_85 rfl ?_
      exact ev_c1 (s1 := (136, 0, [.ref (sh.2.2.2 l0 1), .int 0, .ref (sh.2.2.2 l0 0), .int 0, .int 41, .null], [], (sh, (xu M l0 10 0), J))) (k := (149, 90, [.ref l0, .int l1], [])) f_149_87 rfl
    · refine ev_nx (s1 := (149, 60, [.ref l0, .int l1], [.ref l0], (sh, (xu M l0 10 0), J))) f_149_59 rfl ?_
      refine ev_nx (s1 := (149, 61, [.ref l0, .int l1], [.ref l0, .ref l0], (sh, (xu M l0 10 0), J))) f_149_60 rfl ?_
      refine ev_gd (s1 := (149, 64, [.ref l0, .int l1], [.int ((xu M l0 10 0) l0 17), .ref l0], (sh, (xu M l0 10 0), J))) f_149_61 rfl ?_
      refine ev_gd (s1 := (149, 67, [.ref l0, .int l1], [], (sh, (xu (xu M l0 10 0) l0 11 ((xu M l0 10 0) l0 17)), J))) f_149_64 rfl ?_
      refine ev_nx (s1 := (149, 69, [.ref l0, .int l1], [.int (-10)], (sh, (xu (xu M l0 10 0) l0 11 ((xu M l0 10 0) l0 17)), J))) f_149_67 rfl ?_
      refine ev_nx (s1 := (149, 70, [.ref l0, .int l1], [.ref l0, .int (-10)], (sh, (xu (xu M l0 10 0) l0 11 ((xu M l0 10 0) l0 17)), J))) f_149_69 rfl ?_
      refine ev_gd (s1 := (149, 73, [.ref l0, .int l1], [.int ((xu (xu M l0 10 0) l0 11 ((xu M l0 10 0) l0 17)) l0 21), .int (-10)], (sh, (xu (xu M l0 10 0) l0 11 ((xu M l0 10 0) l0 17)), J))) f_149_70 rfl ?_
      refine ev_nx (s1 := (149, 74, [.ref l0, .int l1], [.int (((-10) : Int32) - ((xu (xu M l0 10 0) l0 11 ((xu M l0 10 0) l0 17)) l0 21))], (sh, (xu (xu M l0 10 0) l0 11 ((xu M l0 10 0) l0 17)), J))) f_149_73 rfl ?_
      exact ev_r1 f_149_74 rfl
  · refine ev_nx (s1 := (149, 31, [.ref l0, .int l1], [.int l1], (sh, M, J))) f_149_30 rfl ?_
    refine ev_br (s1 := (149, 50, [.ref l0, .int l1], [], (sh, M, J))) (s2 := (149, 34, [.ref l0, .int l1], [], (sh, M, J))) f_149_31 rfl ?_ ?_
    · refine ev_nx (s1 := (149, 51, [.ref l0, .int l1], [.ref l0], (sh, M, J))) f_149_50 rfl ?_
      refine ev_nx (s1 := (149, 52, [.ref l0, .int l1], [.int 0, .ref l0], (sh, M, J))) f_149_51 rfl ?_
      refine ev_gd (s1 := (149, 55, [.ref l0, .int l1], [], (sh, (xu M l0 10 0), J))) f_149_52 rfl ?_
      refine ev_nx (s1 := (149, 56, [.ref l0, .int l1], [.int l1], (sh, (xu M l0 10 0), J))) f_149_55 rfl ?_
      refine ev_br (s1 := (149, 75, [.ref l0, .int l1], [], (sh, (xu M l0 10 0), J))) (s2 := (149, 59, [.ref l0, .int l1], [], (sh, (xu M l0 10 0), J))) f_149_56 rfl ?_ ?_
      · refine ev_nx (s1 := (149, 76, [.ref l0, .int l1], [.ref l0], (sh, (xu M l0 10 0), J))) f_149_75 rfl ?_
        refine ev_gd (s1 := (149, 79, [.ref l0, .int l1], [.ref (sh.2.2.2 l0 1)], (sh, (xu M l0 10 0), J))) f_149_76 rfl ?_
        refine ev_nx (s1 := (149, 80, [.ref l0, .int l1], [.int 0, .ref (sh.2.2.2 l0 1)], (sh, (xu M l0 10 0), J))) f_149_79 rfl ?_
        refine ev_nx (s1 := (149, 81, [.ref l0, .int l1], [.ref l0, .int 0, .ref (sh.2.2.2 l0 1)], (sh, (xu M l0 10 0), J))) f_149_80 rfl ?_
        refine ev_gd (s1 := (149, 84, [.ref l0, .int l1], [.ref (sh.2.2.2 l0 0), .int 0, .ref (sh.2.2.2 l0 1)], (sh, (xu M l0 10 0), J))) f_149_81 rfl ?_
        refine ev_nx (s1 := (149, 85, [.ref l0, .int l1], [.int 0, .ref (sh.2.2.2 l0 0), .int 0, .ref (sh.2.2.2 l0 1)], (sh, (xu M l0 10 0), J))) f_149_84 rfl ?_
        refine ev_nx (s1 := (149, 87, [.ref l0, .int l1], [.int 41, .int 0, .ref (sh.2.2.2 l0 0), .int 0, .ref (sh.2.2.2 l0 1)], (sh, (xu M l0 10 0), J))) f_149_85 rfl ?_
        exact ev_c1 (s1 := (136, 0, [.ref (sh.2.2.2 l0 1), .int 0, .ref (sh.2.2.2 l0 0), .int 0, .int 41, .null], [], (sh, (xu M l0 10 0), J))) (k := (149, 90, [.ref l0, .int l1], [])) f_149_87 rfl
      · refine ev_nx (s1 := (149, 60, [.ref l0, .int l1], [.ref l0], (sh, (xu M l0 10 0), J))) f_149_59 rfl ?_
        refine ev_nx (s1 := (149, 61, [.ref l0, .int l1], [.ref l0, .ref l0], (sh, (xu M l0 10 0), J))) f_149_60 rfl ?_
        refine ev_gd (s1 := (149, 64, [.ref l0, .int l1], [.int ((xu M l0 10 0) l0 17), .ref l0], (sh, (xu M l0 10 0), J))) f_149_61 rfl ?_
        refine ev_gd (s1 := (149, 67, [.ref l0, .int l1], [], (sh, (xu (xu M l0 10 0) l0 11 ((xu M l0 10 0) l0 17)), J))) f_149_64 rfl ?_
        refine ev_nx (s1 := (149, 69, [.ref l0, .int l1], [.int (-10)], (sh, (xu (xu M l0 10 0) l0 11 ((xu M l0 10 0) l0 17)), J))) f_149_67 rfl ?_
        refine ev_nx (s1 := (149, 70, [.ref l0, .int l1], [.ref l0, .int (-10)], (sh, (xu (xu M l0 10 0) l0 11 ((xu M l0 10 0) l0 17)), J))) f_149_69 rfl ?_
        refine ev_gd (s1 := (149, 73, [.ref l0, .int l1], [.int ((xu (xu M l0 10 0) l0 11 ((xu M l0 10 0) l0 17)) l0 21), .int (-10)], (sh, (xu (xu M l0 10 0) l0 11 ((xu M l0 10 0) l0 17)), J))) f_149_70 rfl ?_
        refine ev_nx (s1 := (149, 74, [.ref l0, .int l1], [.int (((-10) : Int32) - ((xu (xu M l0 10 0) l0 11 ((xu M l0 10 0) l0 17)) l0 21))], (sh, (xu (xu M l0 10 0) l0 11 ((xu M l0 10 0) l0 17)), J))) f_149_73 rfl ?_
        exact ev_r1 f_149_74 rfl
    · refine ev_nx (s1 := (149, 35, [.ref l0, .int l1], [.ref l0], (sh, M, J))) f_149_34 rfl ?_
      exact ev_ca (cc := (decide ((sh.2.2.1 l0).1 = 9) && true)) (s1 := (148, 0, [.ref l0], [], (sh, M, J))) (k := (149, 38, [.ref l0, .int l1], [])) f_149_35 rfl
theorem b_R_house_38 (sh : xSh) (M : Nat → Nat → Int32) (J : Nat → Nat → Int64) (l0 : Nat) (l1 : Int32) (k0 : Int32) : ev (149, 38, [.ref l0, .int l1], [.int k0], (sh, M, J)) = (bif decide (k0 = 0) then ev (149, 23, [.ref l0, .int k0], [], (sh, M, J)) else bif (decide ((sh.2.2.1 l0).1 = 9) && true) then (ev (140, 0, [.ref l0], [], (sh, M, J))).bind (fun r => ev (149, 47, [.ref l0, .int k0], r.1.toList ++ [], r.2)) else none) := by
  refine ev_nx (s1 := (149, 39, [.ref l0, .int k0], [], (sh, M, J))) f_149_38 rfl ?_
  refine ev_nx (s1 := (149, 40, [.ref l0, .int k0], [.int k0], (sh, M, J))) f_149_39 rfl ?_
  refine ev_br (s1 := (149, 23, [.ref l0, .int k0], [], (sh, M, J))) (s2 := (149, 43, [.ref l0, .int k0], [], (sh, M, J))) f_149_40 rfl ?_ ?_
  · exact rfl
  · refine ev_nx (s1 := (149, 44, [.ref l0, .int k0], [.ref l0], (sh, M, J))) f_149_43 rfl ?_
    exact ev_ca (cc := (decide ((sh.2.2.1 l0).1 = 9) && true)) (s1 := (140, 0, [.ref l0], [], (sh, M, J))) (k := (149, 47, [.ref l0, .int k0], [])) f_149_44 rfl
theorem b_R_house_47 (sh : xSh) (M : Nat → Nat → Int32) (J : Nat → Nat → Int64) (l0 : Nat) (l1 : Int32) : ev (149, 47, [.ref l0, .int l1], [], (sh, M, J)) = (ev (149, 23, [.ref l0, .int l1], [], (sh, M, J))) := by
  refine ev_nx (s1 := (149, 23, [.ref l0, .int l1], [], (sh, M, J))) f_149_47 rfl ?_
  exact rfl
theorem b_R_house_90 (sh : xSh) (M : Nat → Nat → Int32) (J : Nat → Nat → Int64) (l0 : Nat) (l1 : Int32) : ev (149, 90, [.ref l0, .int l1], [], (sh, M, J)) = (bif (decide ((sh.2.2.1 l0).1 = 9) && true) then (ev (137, 0, [.ref l0, .null], [], (sh, M, J))).bind (fun r => ev (149, 94, [.ref l0, .int l1], r.1.toList ++ [], r.2)) else none) := by
  refine ev_nx (s1 := (149, 91, [.ref l0, .int l1], [.ref l0], (sh, M, J))) f_149_90 rfl ?_
  exact ev_ca (cc := (decide ((sh.2.2.1 l0).1 = 9) && true)) (s1 := (137, 0, [.ref l0, .null], [], (sh, M, J))) (k := (149, 94, [.ref l0, .int l1], [])) f_149_91 rfl
theorem b_R_house_94 (sh : xSh) (M : Nat → Nat → Int32) (J : Nat → Nat → Int64) (l0 : Nat) (l1 : Int32) : ev (149, 94, [.ref l0, .int l1], [], (sh, M, J)) = (bif decide ((sh.2.2.1 l0).1 = 9) then bif (decide ((sh.2.2.1 (sh.2.2.2 l0 0)).1 = 11) && xin 2 (sh.2.2.1 (sh.2.2.2 l0 0)).2) then some (some (.int (M (sh.2.2.2 l0 0) (2 : Int32).toNatClampNeg)), (sh, M, J)) else none else none) := by
  refine ev_nx (s1 := (149, 95, [.ref l0, .int l1], [.ref l0], (sh, M, J))) f_149_94 rfl ?_
  refine ev_gd (s1 := (149, 98, [.ref l0, .int l1], [.ref (sh.2.2.2 l0 0)], (sh, M, J))) f_149_95 rfl ?_
  refine ev_nx (s1 := (149, 99, [.ref l0, .int l1], [.int 2, .ref (sh.2.2.2 l0 0)], (sh, M, J))) f_149_98 rfl ?_
  refine ev_gd (s1 := (149, 100, [.ref l0, .int l1], [.int (M (sh.2.2.2 l0 0) (2 : Int32).toNatClampNeg)], (sh, M, J))) f_149_99 rfl ?_
  exact ev_r1 f_149_100 rfl
theorem f_150_0 : xfind (xnth xTs 150) 0 = some (0, .aload_n 0, 1, (0, 0, 0, 0), .null, [], 0, 0, []) := rfl
theorem f_150_1 : xfind (xnth xTs 150) 1 = some (1, .getfield 35, 3, (9, 11, 0, 0), .null, [], 920, 0, []) := rfl
theorem f_150_4 : xfind (xnth xTs 150) 4 = some (4, .ireturn, 1, (0, 0, 0, 0), .null, [], 0, 0, []) := rfl
theorem b_R_fault_0 (sh : xSh) (M : Nat → Nat → Int32) (J : Nat → Nat → Int64) (l0 : Nat) : ev (150, 0, [.ref l0], [], (sh, M, J)) = (bif decide ((sh.2.2.1 l0).1 = 9) then some (some (.int (M l0 11)), (sh, M, J)) else none) := by
  refine ev_nx (s1 := (150, 1, [.ref l0], [.ref l0], (sh, M, J))) f_150_0 rfl ?_
  refine ev_gd (s1 := (150, 4, [.ref l0], [.int (M l0 11)], (sh, M, J))) f_150_1 rfl ?_
  exact ev_r1 f_150_4 rfl
theorem f_151_0 : xfind (xnth xTs 151) 0 = some (0, .aload_n 0, 1, (0, 0, 0, 0), .null, [], 0, 0, []) := rfl
theorem f_151_1 : xfind (xnth xTs 151) 1 = some (1, .getfield 7, 3, (9, 0, 1, 0), .null, [], 909, 0, []) := rfl
theorem f_151_4 : xfind (xnth xTs 151) 4 = some (4, .iconst 0, 1, (0, 0, 0, 0), (.int 0), [], 0, 0, []) := rfl
theorem f_151_5 : xfind (xnth xTs 151) 5 = some (5, .iaload, 1, (0, 0, 0, 0), .null, [], 0, 0, []) := rfl
theorem f_151_6 : xfind (xnth xTs 151) 6 = some (6, .aload_n 0, 1, (0, 0, 0, 0), .null, [], 0, 0, []) := rfl
theorem f_151_7 : xfind (xnth xTs 151) 7 = some (7, .getfield 7, 3, (9, 0, 1, 0), .null, [], 909, 0, []) := rfl
theorem f_151_10 : xfind (xnth xTs 151) 10 = some (10, .iconst 1, 1, (0, 0, 0, 0), (.int 1), [], 0, 0, []) := rfl
theorem f_151_11 : xfind (xnth xTs 151) 11 = some (11, .iaload, 1, (0, 0, 0, 0), .null, [], 0, 0, []) := rfl
theorem f_151_12 : xfind (xnth xTs 151) 12 = some (12, .imul, 1, (0, 0, 0, 0), .null, [], 0, 0, []) := rfl
theorem f_151_13 : xfind (xnth xTs 151) 13 = some (13, .ireturn, 1, (0, 0, 0, 0), .null, [], 0, 0, []) := rfl
theorem b_R_cells_0 (sh : xSh) (M : Nat → Nat → Int32) (J : Nat → Nat → Int64) (l0 : Nat) : ev (151, 0, [.ref l0], [], (sh, M, J)) = (bif decide ((sh.2.2.1 l0).1 = 9) then bif (decide ((sh.2.2.1 (sh.2.2.2 l0 0)).1 = 11) && xin 0 (sh.2.2.1 (sh.2.2.2 l0 0)).2) then bif decide ((sh.2.2.1 l0).1 = 9) then bif (decide ((sh.2.2.1 (sh.2.2.2 l0 0)).1 = 11) && xin 1 (sh.2.2.1 (sh.2.2.2 l0 0)).2) then some (some (.int ((M (sh.2.2.2 l0 0) (0 : Int32).toNatClampNeg) * (M (sh.2.2.2 l0 0) (1 : Int32).toNatClampNeg))), (sh, M, J)) else none else none else none else none) := by
  refine ev_nx (s1 := (151, 1, [.ref l0], [.ref l0], (sh, M, J))) f_151_0 rfl ?_
  refine ev_gd (s1 := (151, 4, [.ref l0], [.ref (sh.2.2.2 l0 0)], (sh, M, J))) f_151_1 rfl ?_
  refine ev_nx (s1 := (151, 5, [.ref l0], [.int 0, .ref (sh.2.2.2 l0 0)], (sh, M, J))) f_151_4 rfl ?_
  refine ev_gd (s1 := (151, 6, [.ref l0], [.int (M (sh.2.2.2 l0 0) (0 : Int32).toNatClampNeg)], (sh, M, J))) f_151_5 rfl ?_
  refine ev_nx (s1 := (151, 7, [.ref l0], [.ref l0, .int (M (sh.2.2.2 l0 0) (0 : Int32).toNatClampNeg)], (sh, M, J))) f_151_6 rfl ?_
  refine ev_gd (s1 := (151, 10, [.ref l0], [.ref (sh.2.2.2 l0 0), .int (M (sh.2.2.2 l0 0) (0 : Int32).toNatClampNeg)], (sh, M, J))) f_151_7 rfl ?_
  refine ev_nx (s1 := (151, 11, [.ref l0], [.int 1, .ref (sh.2.2.2 l0 0), .int (M (sh.2.2.2 l0 0) (0 : Int32).toNatClampNeg)], (sh, M, J))) f_151_10 rfl ?_
  refine ev_gd (s1 := (151, 12, [.ref l0], [.int (M (sh.2.2.2 l0 0) (1 : Int32).toNatClampNeg), .int (M (sh.2.2.2 l0 0) (0 : Int32).toNatClampNeg)], (sh, M, J))) f_151_11 rfl ?_
  refine ev_nx (s1 := (151, 13, [.ref l0], [.int ((M (sh.2.2.2 l0 0) (0 : Int32).toNatClampNeg) * (M (sh.2.2.2 l0 0) (1 : Int32).toNatClampNeg))], (sh, M, J))) f_151_12 rfl ?_
  exact ev_r1 f_151_13 rfl
theorem f_152_0 : xfind (xnth xTs 152) 0 = some (0, .iload_n 1, 1, (0, 0, 0, 0), .null, [], 0, 0, []) := rfl
theorem f_152_1 : xfind (xnth xTs 152) 1 = some (1, .i2l, 1, (0, 0, 0, 0), .null, [], 0, 0, []) := rfl
theorem f_152_2 : xfind (xnth xTs 152) 2 = some (2, .lconst 0, 1, (0, 0, 0, 0), (.long 0), [], 0, 0, []) := rfl
theorem f_152_3 : xfind (xnth xTs 152) 3 = some (3, .aload_n 0, 1, (0, 0, 0, 0), .null, [], 0, 0, []) := rfl
theorem f_152_4 : xfind (xnth xTs 152) 4 = some (4, .invokevirtual 156, 3, (151, 0, 9, 1), .null, [], 1061, 0, []) := rfl
theorem f_152_7 : xfind (xnth xTs 152) 7 = some (7, .iconst 1, 1, (0, 0, 0, 0), (.int 1), [], 0, 0, []) := rfl
theorem f_152_8 : xfind (xnth xTs 152) 8 = some (8, .isub, 1, (0, 0, 0, 0), .null, [], 0, 0, []) := rfl
theorem f_152_9 : xfind (xnth xTs 152) 9 = some (9, .i2l, 1, (0, 0, 0, 0), .null, [], 0, 0, []) := rfl
theorem f_152_10 : xfind (xnth xTs 152) 10 = some (10, .invokestatic 68, 3, (132, 3, 9, 6), .null, [], 897, 0, []) := rfl
theorem f_152_13 : xfind (xnth xTs 152) 13 = some (13, .ireturn, 1, (1, 0, 0, 0), .null, [], 0, 0, []) := rfl
theorem b_R_isCell_0 (sh : xSh) (M : Nat → Nat → Int32) (J : Nat → Nat → Int64) (l0 : Nat) (l1 : Int32) : ev (152, 0, [.ref l0, .int l1], [], (sh, M, J)) = (bif (decide ((sh.2.2.1 l0).1 = 9) && true) then (ev (151, 0, [.ref l0], [], (sh, M, J))).bind (fun r => ev (152, 7, [.ref l0, .int l1], r.1.toList ++ [.long 0, .long (l1 : Int32).toInt64], r.2)) else none) := by
  refine ev_nx (s1 := (152, 1, [.ref l0, .int l1], [.int l1], (sh, M, J))) f_152_0 rfl ?_
  refine ev_nx (s1 := (152, 2, [.ref l0, .int l1], [.long (l1 : Int32).toInt64], (sh, M, J))) f_152_1 rfl ?_
  refine ev_nx (s1 := (152, 3, [.ref l0, .int l1], [.long 0, .long (l1 : Int32).toInt64], (sh, M, J))) f_152_2 rfl ?_
  refine ev_nx (s1 := (152, 4, [.ref l0, .int l1], [.ref l0, .long 0, .long (l1 : Int32).toInt64], (sh, M, J))) f_152_3 rfl ?_
  exact ev_ca (cc := (decide ((sh.2.2.1 l0).1 = 9) && true)) (s1 := (151, 0, [.ref l0], [], (sh, M, J))) (k := (152, 7, [.ref l0, .int l1], [.long 0, .long (l1 : Int32).toInt64])) f_152_4 rfl
theorem b_R_isCell_7 (sh : xSh) (M : Nat → Nat → Int32) (J : Nat → Nat → Int64) (l0 : Nat) (l1 : Int32) (k0 : Int32) (k1 : Int64) (k2 : Int64) : ev (152, 7, [.ref l0, .int l1], [.int k0, .long k1, .long k2], (sh, M, J)) = ((ev (132, 0, [.long k2, .null, .long k1, .null, .long ((k0 - 1) : Int32).toInt64, .null], [], (sh, M, J))).bind (fun r => ev (152, 13, [.ref l0, .int l1], r.1.toList ++ [], r.2))) := by
  refine ev_nx (s1 := (152, 8, [.ref l0, .int l1], [.int 1, .int k0, .long k1, .long k2], (sh, M, J))) f_152_7 rfl ?_
  refine ev_nx (s1 := (152, 9, [.ref l0, .int l1], [.int (k0 - 1), .long k1, .long k2], (sh, M, J))) f_152_8 rfl ?_
  refine ev_nx (s1 := (152, 10, [.ref l0, .int l1], [.long ((k0 - 1) : Int32).toInt64, .long k1, .long k2], (sh, M, J))) f_152_9 rfl ?_
  exact ev_c1 (s1 := (132, 0, [.long k2, .null, .long k1, .null, .long ((k0 - 1) : Int32).toInt64, .null], [], (sh, M, J))) (k := (152, 13, [.ref l0, .int l1], [])) f_152_10 rfl
theorem b_R_isCell_13 (sh : xSh) (M : Nat → Nat → Int32) (J : Nat → Nat → Int64) (l0 : Nat) (l1 : Int32) (k0 : Int32) : ev (152, 13, [.ref l0, .int l1], [.int k0], (sh, M, J)) = (bif ((k0 &&& 1) == k0) then some (some (.int k0), (sh, M, J)) else none) := by
  exact ev_rt f_152_13 rfl
theorem f_153_0 : xfind (xnth xTs 153) 0 = some (0, .iload_n 1, 1, (0, 0, 0, 0), .null, [], 0, 0, []) := rfl
theorem f_153_1 : xfind (xnth xTs 153) 1 = some (1, .i2l, 1, (0, 0, 0, 0), .null, [], 0, 0, []) := rfl
theorem f_153_2 : xfind (xnth xTs 153) 2 = some (2, .lconst 0, 1, (0, 0, 0, 0), (.long 0), [], 0, 0, []) := rfl
theorem f_153_3 : xfind (xnth xTs 153) 3 = some (3, .aload_n 0, 1, (0, 0, 0, 0), .null, [], 0, 0, []) := rfl
theorem f_153_4 : xfind (xnth xTs 153) 4 = some (4, .getfield 7, 3, (9, 0, 1, 0), .null, [], 909, 0, []) := rfl
theorem f_153_7 : xfind (xnth xTs 153) 7 = some (7, .iconst 2, 1, (0, 0, 0, 0), (.int 2), [], 0, 0, []) := rfl
theorem f_153_8 : xfind (xnth xTs 153) 8 = some (8, .iaload, 1, (0, 0, 0, 0), .null, [], 0, 0, []) := rfl
theorem f_153_9 : xfind (xnth xTs 153) 9 = some (9, .iconst 1, 1, (0, 0, 0, 0), (.int 1), [], 0, 0, []) := rfl
theorem f_153_10 : xfind (xnth xTs 153) 10 = some (10, .isub, 1, (0, 0, 0, 0), .null, [], 0, 0, []) := rfl
theorem f_153_11 : xfind (xnth xTs 153) 11 = some (11, .i2l, 1, (0, 0, 0, 0), .null, [], 0, 0, []) := rfl
theorem f_153_12 : xfind (xnth xTs 153) 12 = some (12, .invokestatic 68, 3, (132, 3, 9, 6), .null, [], 897, 0, []) := rfl
theorem f_153_15 : xfind (xnth xTs 153) 15 = some (15, .ireturn, 1, (1, 0, 0, 0), .null, [], 0, 0, []) := rfl
theorem b_R_isActor_0 (sh : xSh) (M : Nat → Nat → Int32) (J : Nat → Nat → Int64) (l0 : Nat) (l1 : Int32) : ev (153, 0, [.ref l0, .int l1], [], (sh, M, J)) = (bif decide ((sh.2.2.1 l0).1 = 9) then bif (decide ((sh.2.2.1 (sh.2.2.2 l0 0)).1 = 11) && xin 2 (sh.2.2.1 (sh.2.2.2 l0 0)).2) then (ev (132, 0, [.long (l1 : Int32).toInt64, .null, .long 0, .null, .long (((M (sh.2.2.2 l0 0) (2 : Int32).toNatClampNeg) - 1) : Int32).toInt64, .null], [], (sh, M, J))).bind (fun r => ev (153, 15, [.ref l0, .int l1], r.1.toList ++ [], r.2)) else none else none) := by
  refine ev_nx (s1 := (153, 1, [.ref l0, .int l1], [.int l1], (sh, M, J))) f_153_0 rfl ?_
  refine ev_nx (s1 := (153, 2, [.ref l0, .int l1], [.long (l1 : Int32).toInt64], (sh, M, J))) f_153_1 rfl ?_
  refine ev_nx (s1 := (153, 3, [.ref l0, .int l1], [.long 0, .long (l1 : Int32).toInt64], (sh, M, J))) f_153_2 rfl ?_
  refine ev_nx (s1 := (153, 4, [.ref l0, .int l1], [.ref l0, .long 0, .long (l1 : Int32).toInt64], (sh, M, J))) f_153_3 rfl ?_
  refine ev_gd (s1 := (153, 7, [.ref l0, .int l1], [.ref (sh.2.2.2 l0 0), .long 0, .long (l1 : Int32).toInt64], (sh, M, J))) f_153_4 rfl ?_
  refine ev_nx (s1 := (153, 8, [.ref l0, .int l1], [.int 2, .ref (sh.2.2.2 l0 0), .long 0, .long (l1 : Int32).toInt64], (sh, M, J))) f_153_7 rfl ?_
  refine ev_gd (s1 := (153, 9, [.ref l0, .int l1], [.int (M (sh.2.2.2 l0 0) (2 : Int32).toNatClampNeg), .long 0, .long (l1 : Int32).toInt64], (sh, M, J))) f_153_8 rfl ?_
  refine ev_nx (s1 := (153, 10, [.ref l0, .int l1], [.int 1, .int (M (sh.2.2.2 l0 0) (2 : Int32).toNatClampNeg), .long 0, .long (l1 : Int32).toInt64], (sh, M, J))) f_153_9 rfl ?_
  refine ev_nx (s1 := (153, 11, [.ref l0, .int l1], [.int ((M (sh.2.2.2 l0 0) (2 : Int32).toNatClampNeg) - 1), .long 0, .long (l1 : Int32).toInt64], (sh, M, J))) f_153_10 rfl ?_
  refine ev_nx (s1 := (153, 12, [.ref l0, .int l1], [.long (((M (sh.2.2.2 l0 0) (2 : Int32).toNatClampNeg) - 1) : Int32).toInt64, .long 0, .long (l1 : Int32).toInt64], (sh, M, J))) f_153_11 rfl ?_
  exact ev_c1 (s1 := (132, 0, [.long (l1 : Int32).toInt64, .null, .long 0, .null, .long (((M (sh.2.2.2 l0 0) (2 : Int32).toNatClampNeg) - 1) : Int32).toInt64, .null], [], (sh, M, J))) (k := (153, 15, [.ref l0, .int l1], [])) f_153_12 rfl
theorem b_R_isActor_15 (sh : xSh) (M : Nat → Nat → Int32) (J : Nat → Nat → Int64) (l0 : Nat) (l1 : Int32) (k0 : Int32) : ev (153, 15, [.ref l0, .int l1], [.int k0], (sh, M, J)) = (bif ((k0 &&& 1) == k0) then some (some (.int k0), (sh, M, J)) else none) := by
  exact ev_rt f_153_15 rfl
theorem f_154_0 : xfind (xnth xTs 154) 0 = some (0, .iload_n 0, 1, (0, 0, 0, 0), .null, [], 0, 0, []) := rfl
theorem f_154_1 : xfind (xnth xTs 154) 1 = some (1, .i2l, 1, (0, 0, 0, 0), .null, [], 0, 0, []) := rfl
theorem f_154_2 : xfind (xnth xTs 154) 2 = some (2, .lconst 0, 1, (0, 0, 0, 0), (.long 0), [], 0, 0, []) := rfl
theorem f_154_3 : xfind (xnth xTs 154) 3 = some (3, .ldc2_w 159, 3, (0, 0, 0, 0), (.long 4), [], 1100, 0, []) := rfl
theorem f_154_6 : xfind (xnth xTs 154) 6 = some (6, .invokestatic 68, 3, (132, 3, 9, 6), .null, [], 897, 0, []) := rfl
theorem f_154_9 : xfind (xnth xTs 154) 9 = some (9, .ireturn, 1, (1, 0, 0, 0), .null, [], 0, 0, []) := rfl
theorem b_R_isCloth_0 (sh : xSh) (M : Nat → Nat → Int32) (J : Nat → Nat → Int64) (l0 : Int32) : ev (154, 0, [.int l0], [], (sh, M, J)) = ((ev (132, 0, [.long (l0 : Int32).toInt64, .null, .long 0, .null, .long 4, .null], [], (sh, M, J))).bind (fun r => ev (154, 9, [.int l0], r.1.toList ++ [], r.2))) := by
  refine ev_nx (s1 := (154, 1, [.int l0], [.int l0], (sh, M, J))) f_154_0 rfl ?_
  refine ev_nx (s1 := (154, 2, [.int l0], [.long (l0 : Int32).toInt64], (sh, M, J))) f_154_1 rfl ?_
  refine ev_nx (s1 := (154, 3, [.int l0], [.long 0, .long (l0 : Int32).toInt64], (sh, M, J))) f_154_2 rfl ?_
  refine ev_nx (s1 := (154, 6, [.int l0], [.long 4, .long 0, .long (l0 : Int32).toInt64], (sh, M, J))) f_154_3 rfl ?_
  exact ev_c1 (s1 := (132, 0, [.long (l0 : Int32).toInt64, .null, .long 0, .null, .long 4, .null], [], (sh, M, J))) (k := (154, 9, [.int l0], [])) f_154_6 rfl
theorem b_R_isCloth_9 (sh : xSh) (M : Nat → Nat → Int32) (J : Nat → Nat → Int64) (l0 : Int32) (k0 : Int32) : ev (154, 9, [.int l0], [.int k0], (sh, M, J)) = (bif ((k0 &&& 1) == k0) then some (some (.int k0), (sh, M, J)) else none) := by
  exact ev_rt f_154_9 rfl
theorem f_155_0 : xfind (xnth xTs 155) 0 = some (0, .aload_n 1, 1, (0, 0, 0, 0), .null, [], 0, 0, []) := rfl
theorem f_155_1 : xfind (xnth xTs 155) 1 = some (1, .bipush 20, 2, (0, 0, 0, 0), (.int 20), [], 0, 0, []) := rfl
theorem f_155_3 : xfind (xnth xTs 155) 3 = some (3, .iaload, 1, (0, 0, 0, 0), .null, [], 0, 0, []) := rfl
theorem f_155_4 : xfind (xnth xTs 155) 4 = some (4, .iload_n 2, 1, (0, 0, 0, 0), .null, [], 0, 0, []) := rfl
theorem f_155_5 : xfind (xnth xTs 155) 5 = some (5, .invokestatic 137, 3, (133, 2, 9, 2), .null, [], 1034, 0, []) := rfl
theorem f_155_8 : xfind (xnth xTs 155) 8 = some (8, .ifCond .eq 7, 3, (0, 0, 0, 0), .null, [], 0, 0, []) := rfl
theorem f_155_11 : xfind (xnth xTs 155) 11 = some (11, .iconst 0, 1, (0, 0, 0, 0), (.int 0), [], 0, 0, []) := rfl
theorem f_155_12 : xfind (xnth xTs 155) 12 = some (12, .goto 15, 3, (0, 0, 0, 0), .null, [], 0, 0, []) := rfl
theorem f_155_15 : xfind (xnth xTs 155) 15 = some (15, .aload_n 0, 1, (0, 0, 0, 0), .null, [], 0, 0, []) := rfl
theorem f_155_16 : xfind (xnth xTs 155) 16 = some (16, .getfield 7, 3, (9, 0, 1, 0), .null, [], 909, 0, []) := rfl
theorem f_155_19 : xfind (xnth xTs 155) 19 = some (19, .iconst 5, 1, (0, 0, 0, 0), (.int 5), [], 0, 0, []) := rfl
theorem f_155_20 : xfind (xnth xTs 155) 20 = some (20, .aload_n 1, 1, (0, 0, 0, 0), .null, [], 0, 0, []) := rfl
theorem f_155_21 : xfind (xnth xTs 155) 21 = some (21, .iconst 0, 1, (0, 0, 0, 0), (.int 0), [], 0, 0, []) := rfl
theorem f_155_22 : xfind (xnth xTs 155) 22 = some (22, .iload_n 2, 1, (0, 0, 0, 0), .null, [], 0, 0, []) := rfl
theorem f_155_23 : xfind (xnth xTs 155) 23 = some (23, .iadd, 1, (0, 0, 0, 0), .null, [], 0, 0, []) := rfl
theorem f_155_24 : xfind (xnth xTs 155) 24 = some (24, .iaload, 1, (0, 0, 0, 0), .null, [], 0, 0, []) := rfl
theorem f_155_25 : xfind (xnth xTs 155) 25 = some (25, .iadd, 1, (0, 0, 0, 0), .null, [], 0, 0, []) := rfl
theorem f_155_26 : xfind (xnth xTs 155) 26 = some (26, .iaload, 1, (0, 0, 0, 0), .null, [], 0, 0, []) := rfl
theorem f_155_27 : xfind (xnth xTs 155) 27 = some (27, .ireturn, 1, (0, 0, 0, 0), .null, [], 0, 0, []) := rfl
theorem b_R_weightOf_0 (sh : xSh) (M : Nat → Nat → Int32) (J : Nat → Nat → Int64) (l0 : Nat) (l1 : Nat) (l2 : Int32) : ev (155, 0, [.ref l0, .ref l1, .int l2], [], (sh, M, J)) = (bif (decide ((sh.2.2.1 l1).1 = 11) && xin 20 (sh.2.2.1 l1).2) then (ev (133, 0, [.int (M l1 (20 : Int32).toNatClampNeg), .int l2], [], (sh, M, J))).bind (fun r => ev (155, 8, [.ref l0, .ref l1, .int l2], r.1.toList ++ [], r.2)) else none) := by
  refine ev_nx (s1 := (155, 1, [.ref l0, .ref l1, .int l2], [.ref l1], (sh, M, J))) f_155_0 rfl ?_
  refine ev_nx (s1 := (155, 3, [.ref l0, .ref l1, .int l2], [.int 20, .ref l1], (sh, M, J))) f_155_1 rfl ?_
  refine ev_gd (s1 := (155, 4, [.ref l0, .ref l1, .int l2], [.int (M l1 (20 : Int32).toNatClampNeg)], (sh, M, J))) f_155_3 rfl ?_
  refine ev_nx (s1 := (155, 5, [.ref l0, .ref l1, .int l2], [.int l2, .int (M l1 (20 : Int32).toNatClampNeg)], (sh, M, J))) f_155_4 rfl ?_
  exact ev_c1 (s1 := (133, 0, [.int (M l1 (20 : Int32).toNatClampNeg), .int l2], [], (sh, M, J))) (k := (155, 8, [.ref l0, .ref l1, .int l2], [])) f_155_5 rfl
theorem b_R_weightOf_8 (sh : xSh) (M : Nat → Nat → Int32) (J : Nat → Nat → Int64) (l0 : Nat) (l1 : Nat) (l2 : Int32) (k0 : Int32) : ev (155, 8, [.ref l0, .ref l1, .int l2], [.int k0], (sh, M, J)) = (bif decide (k0 = 0) then bif decide ((sh.2.2.1 l0).1 = 9) then bif (decide ((sh.2.2.1 l1).1 = 11) && xin ((0 : Int32) + l2) (sh.2.2.1 l1).2) then bif (decide ((sh.2.2.1 (sh.2.2.2 l0 0)).1 = 11) && xin ((5 : Int32) + (M l1 (((0 : Int32) + l2) : Int32).toNatClampNeg)) (sh.2.2.1 (sh.2.2.2 l0 0)).2) then some (some (.int (M (sh.2.2.2 l0 0) (((5 : Int32) + (M l1 (((0 : Int32) + l2) : Int32).toNatClampNeg)) : Int32).toNatClampNeg)), (sh, M, J)) else none else none else none else some (some (.int 0), (sh, M, J))) := by
  refine ev_br (s1 := (155, 15, [.ref l0, .ref l1, .int l2], [], (sh, M, J))) (s2 := (155, 11, [.ref l0, .ref l1, .int l2], [], (sh, M, J))) f_155_8 rfl ?_ ?_
  · refine ev_nx (s1 := (155, 16, [.ref l0, .ref l1, .int l2], [.ref l0], (sh, M, J))) f_155_15 rfl ?_
    refine ev_gd (s1 := (155, 19, [.ref l0, .ref l1, .int l2], [.ref (sh.2.2.2 l0 0)], (sh, M, J))) f_155_16 rfl ?_
    refine ev_nx (s1 := (155, 20, [.ref l0, .ref l1, .int l2], [.int 5, .ref (sh.2.2.2 l0 0)], (sh, M, J))) f_155_19 rfl ?_
    refine ev_nx (s1 := (155, 21, [.ref l0, .ref l1, .int l2], [.ref l1, .int 5, .ref (sh.2.2.2 l0 0)], (sh, M, J))) f_155_20 rfl ?_
    refine ev_nx (s1 := (155, 22, [.ref l0, .ref l1, .int l2], [.int 0, .ref l1, .int 5, .ref (sh.2.2.2 l0 0)], (sh, M, J))) f_155_21 rfl ?_
    refine ev_nx (s1 := (155, 23, [.ref l0, .ref l1, .int l2], [.int l2, .int 0, .ref l1, .int 5, .ref (sh.2.2.2 l0 0)], (sh, M, J))) f_155_22 rfl ?_
    refine ev_nx (s1 := (155, 24, [.ref l0, .ref l1, .int l2], [.int ((0 : Int32) + l2), .ref l1, .int 5, .ref (sh.2.2.2 l0 0)], (sh, M, J))) f_155_23 rfl ?_
    refine ev_gd (s1 := (155, 25, [.ref l0, .ref l1, .int l2], [.int (M l1 (((0 : Int32) + l2) : Int32).toNatClampNeg), .int 5, .ref (sh.2.2.2 l0 0)], (sh, M, J))) f_155_24 rfl ?_
    refine ev_nx (s1 := (155, 26, [.ref l0, .ref l1, .int l2], [.int ((5 : Int32) + (M l1 (((0 : Int32) + l2) : Int32).toNatClampNeg)), .ref (sh.2.2.2 l0 0)], (sh, M, J))) f_155_25 rfl ?_
    refine ev_gd (s1 := (155, 27, [.ref l0, .ref l1, .int l2], [.int (M (sh.2.2.2 l0 0) (((5 : Int32) + (M l1 (((0 : Int32) + l2) : Int32).toNatClampNeg)) : Int32).toNatClampNeg)], (sh, M, J))) f_155_26 rfl ?_
    exact ev_r1 f_155_27 rfl
  · refine ev_nx (s1 := (155, 12, [.ref l0, .ref l1, .int l2], [.int 0], (sh, M, J))) f_155_11 rfl ?_
    refine ev_nx (s1 := (155, 27, [.ref l0, .ref l1, .int l2], [.int 0], (sh, M, J))) f_155_12 rfl ?_
    exact ev_r1 f_155_27 rfl
theorem f_156_0 : xfind (xnth xTs 156) 0 = some (0, .iconst 0, 1, (0, 0, 0, 0), (.int 0), [], 0, 0, []) := rfl
theorem f_156_1 : xfind (xnth xTs 156) 1 = some (1, .istore_n 2, 1, (0, 0, 0, 0), .null, [], 0, 0, []) := rfl
theorem f_156_2 : xfind (xnth xTs 156) 2 = some (2, .iconst 0, 1, (0, 0, 0, 0), (.int 0), [], 0, 0, []) := rfl
theorem f_156_3 : xfind (xnth xTs 156) 3 = some (3, .istore_n 3, 1, (0, 0, 0, 0), .null, [], 0, 0, []) := rfl
theorem f_156_4 : xfind (xnth xTs 156) 4 = some (4, .iload_n 3, 1, (0, 0, 0, 0), .null, [], 0, 1, []) := rfl
theorem f_156_5 : xfind (xnth xTs 156) 5 = some (5, .aload_n 0, 1, (0, 0, 0, 0), .null, [], 0, 0, []) := rfl
theorem f_156_6 : xfind (xnth xTs 156) 6 = some (6, .invokevirtual 156, 3, (151, 0, 9, 1), .null, [], 1061, 0, []) := rfl
theorem f_156_9 : xfind (xnth xTs 156) 9 = some (9, .if_icmp .ge 18, 3, (0, 0, 0, 0), .null, [], 0, 0, []) := rfl
theorem f_156_12 : xfind (xnth xTs 156) 12 = some (12, .iload_n 2, 1, (0, 0, 0, 0), .null, [], 0, 0, []) := rfl
theorem f_156_13 : xfind (xnth xTs 156) 13 = some (13, .aload_n 0, 1, (0, 0, 0, 0), .null, [], 0, 0, []) := rfl
theorem f_156_14 : xfind (xnth xTs 156) 14 = some (14, .aload_n 1, 1, (0, 0, 0, 0), .null, [], 0, 0, []) := rfl
theorem f_156_15 : xfind (xnth xTs 156) 15 = some (15, .iload_n 3, 1, (0, 0, 0, 0), .null, [], 0, 0, []) := rfl
theorem f_156_16 : xfind (xnth xTs 156) 16 = some (16, .invokevirtual 161, 3, (155, 2, 9, 3), .null, [], 1069, 0, []) := rfl
theorem f_156_19 : xfind (xnth xTs 156) 19 = some (19, .iadd, 1, (0, 0, 0, 0), .null, [], 0, 0, []) := rfl
theorem f_156_20 : xfind (xnth xTs 156) 20 = some (20, .istore_n 2, 1, (0, 0, 0, 0), .null, [], 0, 0, []) := rfl
theorem f_156_21 : xfind (xnth xTs 156) 21 = some (21, .iinc 3 1, 3, (0, 0, 0, 0), .null, [], 0, 0, []) := rfl
theorem f_156_24 : xfind (xnth xTs 156) 24 = some (24, .goto (-20), 3, (0, 0, 0, 0), .null, [], 0, 0, []) := rfl
theorem f_156_27 : xfind (xnth xTs 156) 27 = some (27, .iload_n 2, 1, (0, 0, 0, 0), .null, [], 0, 0, []) := rfl
theorem f_156_28 : xfind (xnth xTs 156) 28 = some (28, .ireturn, 1, (0, 0, 0, 0), .null, [], 0, 0, []) := rfl
theorem hd_156_4 : xhead 156 4 = some [] := rfl
theorem b_R_weight_0 (sh : xSh) (M : Nat → Nat → Int32) (J : Nat → Nat → Int64) (l0 : Nat) (l1 : Nat) : ev (156, 0, [.ref l0, .ref l1, .null, .null], [], (sh, M, J)) = (ev (156, 4, [.ref l0, .ref l1, .int 0, .int 0], [], (sh, M, J))) := by
  refine ev_nx (s1 := (156, 1, [.ref l0, .ref l1, .null, .null], [.int 0], (sh, M, J))) f_156_0 rfl ?_
  refine ev_nx (s1 := (156, 2, [.ref l0, .ref l1, .int 0, .null], [], (sh, M, J))) f_156_1 rfl ?_
  refine ev_nx (s1 := (156, 3, [.ref l0, .ref l1, .int 0, .null], [.int 0], (sh, M, J))) f_156_2 rfl ?_
  refine ev_nx (s1 := (156, 4, [.ref l0, .ref l1, .int 0, .int 0], [], (sh, M, J))) f_156_3 rfl ?_
  exact rfl
theorem b_R_weight_4 (sh : xSh) (M : Nat → Nat → Int32) (J : Nat → Nat → Int64) (l0 : Nat) (l1 : Nat) (l2 : Int32) (l3 : Int32) : ev (156, 4, [.ref l0, .ref l1, .int l2, .int l3], [], (sh, M, J)) = (bif (decide ((sh.2.2.1 l0).1 = 9) && true) then (ev (151, 0, [.ref l0], [], (sh, M, J))).bind (fun r => ev (156, 9, [.ref l0, .ref l1, .int l2, .int l3], r.1.toList ++ [.int l3], r.2)) else none) := by
  refine ev_nx (s1 := (156, 5, [.ref l0, .ref l1, .int l2, .int l3], [.int l3], (sh, M, J))) f_156_4 rfl ?_
  refine ev_nx (s1 := (156, 6, [.ref l0, .ref l1, .int l2, .int l3], [.ref l0, .int l3], (sh, M, J))) f_156_5 rfl ?_
  exact ev_ca (cc := (decide ((sh.2.2.1 l0).1 = 9) && true)) (s1 := (151, 0, [.ref l0], [], (sh, M, J))) (k := (156, 9, [.ref l0, .ref l1, .int l2, .int l3], [.int l3])) f_156_6 rfl
theorem b_R_weight_9 (sh : xSh) (M : Nat → Nat → Int32) (J : Nat → Nat → Int64) (l0 : Nat) (l1 : Nat) (l2 : Int32) (l3 : Int32) (k0 : Int32) (k1 : Int32) : ev (156, 9, [.ref l0, .ref l1, .int l2, .int l3], [.int k0, .int k1], (sh, M, J)) = (bif decide (k0 ≤ k1) then some (some (.int l2), (sh, M, J)) else bif (decide ((sh.2.2.1 l0).1 = 9) && true) then (ev (155, 0, [.ref l0, .ref l1, .int l3], [], (sh, M, J))).bind (fun r => ev (156, 19, [.ref l0, .ref l1, .int l2, .int l3], r.1.toList ++ [.int l2], r.2)) else none) := by
  refine ev_br (s1 := (156, 27, [.ref l0, .ref l1, .int l2, .int l3], [], (sh, M, J))) (s2 := (156, 12, [.ref l0, .ref l1, .int l2, .int l3], [], (sh, M, J))) f_156_9 rfl ?_ ?_
  · refine ev_nx (s1 := (156, 28, [.ref l0, .ref l1, .int l2, .int l3], [.int l2], (sh, M, J))) f_156_27 rfl ?_
    exact ev_r1 f_156_28 rfl
  · refine ev_nx (s1 := (156, 13, [.ref l0, .ref l1, .int l2, .int l3], [.int l2], (sh, M, J))) f_156_12 rfl ?_
    refine ev_nx (s1 := (156, 14, [.ref l0, .ref l1, .int l2, .int l3], [.ref l0, .int l2], (sh, M, J))) f_156_13 rfl ?_
    refine ev_nx (s1 := (156, 15, [.ref l0, .ref l1, .int l2, .int l3], [.ref l1, .ref l0, .int l2], (sh, M, J))) f_156_14 rfl ?_
    refine ev_nx (s1 := (156, 16, [.ref l0, .ref l1, .int l2, .int l3], [.int l3, .ref l1, .ref l0, .int l2], (sh, M, J))) f_156_15 rfl ?_
    exact ev_ca (cc := (decide ((sh.2.2.1 l0).1 = 9) && true)) (s1 := (155, 0, [.ref l0, .ref l1, .int l3], [], (sh, M, J))) (k := (156, 19, [.ref l0, .ref l1, .int l2, .int l3], [.int l2])) f_156_16 rfl
theorem b_R_weight_19 (sh : xSh) (M : Nat → Nat → Int32) (J : Nat → Nat → Int64) (l0 : Nat) (l1 : Nat) (l2 : Int32) (l3 : Int32) (k0 : Int32) (k1 : Int32) : ev (156, 19, [.ref l0, .ref l1, .int l2, .int l3], [.int k0, .int k1], (sh, M, J)) = (ev (156, 4, [.ref l0, .ref l1, .int (k1 + k0), .int (l3 + 1)], [], (sh, M, J))) := by
  refine ev_nx (s1 := (156, 20, [.ref l0, .ref l1, .int l2, .int l3], [.int (k1 + k0)], (sh, M, J))) f_156_19 rfl ?_
  refine ev_nx (s1 := (156, 21, [.ref l0, .ref l1, .int (k1 + k0), .int l3], [], (sh, M, J))) f_156_20 rfl ?_
  refine ev_nx (s1 := (156, 24, [.ref l0, .ref l1, .int (k1 + k0), .int (l3 + 1)], [], (sh, M, J))) f_156_21 rfl ?_
  refine ev_nx (s1 := (156, 4, [.ref l0, .ref l1, .int (k1 + k0), .int (l3 + 1)], [], (sh, M, J))) f_156_24 rfl ?_
  exact rfl
theorem f_157_0 : xfind (xnth xTs 157) 0 = some (0, .iconst 2, 1, (0, 0, 0, 0), (.int 2), [], 0, 0, []) := rfl
theorem f_157_1 : xfind (xnth xTs 157) 1 = some (1, .iload_n 1, 1, (0, 0, 0, 0), .null, [], 0, 0, []) := rfl
theorem f_157_2 : xfind (xnth xTs 157) 2 = some (2, .imul, 1, (0, 0, 0, 0), .null, [], 0, 0, []) := rfl
theorem f_157_3 : xfind (xnth xTs 157) 3 = some (3, .aload_n 0, 1, (0, 0, 0, 0), .null, [], 0, 0, []) := rfl
theorem f_157_4 : xfind (xnth xTs 157) 4 = some (4, .getfield 7, 3, (9, 0, 1, 0), .null, [], 909, 0, []) := rfl
theorem f_157_7 : xfind (xnth xTs 157) 7 = some (7, .iconst 0, 1, (0, 0, 0, 0), (.int 0), [], 0, 0, []) := rfl
theorem f_157_8 : xfind (xnth xTs 157) 8 = some (8, .iaload, 1, (0, 0, 0, 0), .null, [], 0, 0, []) := rfl
theorem f_157_9 : xfind (xnth xTs 157) 9 = some (9, .isub, 1, (0, 0, 0, 0), .null, [], 0, 0, []) := rfl
theorem f_157_10 : xfind (xnth xTs 157) 10 = some (10, .iconst 1, 1, (0, 0, 0, 0), (.int 1), [], 0, 0, []) := rfl
theorem f_157_11 : xfind (xnth xTs 157) 11 = some (11, .iadd, 1, (0, 0, 0, 0), .null, [], 0, 0, []) := rfl
theorem f_157_12 : xfind (xnth xTs 157) 12 = some (12, .ireturn, 1, (0, 0, 0, 0), .null, [], 0, 0, []) := rfl
theorem b_R_sideOf_0 (sh : xSh) (M : Nat → Nat → Int32) (J : Nat → Nat → Int64) (l0 : Nat) (l1 : Int32) : ev (157, 0, [.ref l0, .int l1], [], (sh, M, J)) = (bif decide ((sh.2.2.1 l0).1 = 9) then bif (decide ((sh.2.2.1 (sh.2.2.2 l0 0)).1 = 11) && xin 0 (sh.2.2.1 (sh.2.2.2 l0 0)).2) then some (some (.int ((((2 : Int32) * l1) - (M (sh.2.2.2 l0 0) (0 : Int32).toNatClampNeg)) + 1)), (sh, M, J)) else none else none) := by
  refine ev_nx (s1 := (157, 1, [.ref l0, .int l1], [.int 2], (sh, M, J))) f_157_0 rfl ?_
  refine ev_nx (s1 := (157, 2, [.ref l0, .int l1], [.int l1, .int 2], (sh, M, J))) f_157_1 rfl ?_
  refine ev_nx (s1 := (157, 3, [.ref l0, .int l1], [.int ((2 : Int32) * l1)], (sh, M, J))) f_157_2 rfl ?_
  refine ev_nx (s1 := (157, 4, [.ref l0, .int l1], [.ref l0, .int ((2 : Int32) * l1)], (sh, M, J))) f_157_3 rfl ?_
  refine ev_gd (s1 := (157, 7, [.ref l0, .int l1], [.ref (sh.2.2.2 l0 0), .int ((2 : Int32) * l1)], (sh, M, J))) f_157_4 rfl ?_
  refine ev_nx (s1 := (157, 8, [.ref l0, .int l1], [.int 0, .ref (sh.2.2.2 l0 0), .int ((2 : Int32) * l1)], (sh, M, J))) f_157_7 rfl ?_
  refine ev_gd (s1 := (157, 9, [.ref l0, .int l1], [.int (M (sh.2.2.2 l0 0) (0 : Int32).toNatClampNeg), .int ((2 : Int32) * l1)], (sh, M, J))) f_157_8 rfl ?_
  refine ev_nx (s1 := (157, 10, [.ref l0, .int l1], [.int (((2 : Int32) * l1) - (M (sh.2.2.2 l0 0) (0 : Int32).toNatClampNeg))], (sh, M, J))) f_157_9 rfl ?_
  refine ev_nx (s1 := (157, 11, [.ref l0, .int l1], [.int 1, .int (((2 : Int32) * l1) - (M (sh.2.2.2 l0 0) (0 : Int32).toNatClampNeg))], (sh, M, J))) f_157_10 rfl ?_
  refine ev_nx (s1 := (157, 12, [.ref l0, .int l1], [.int ((((2 : Int32) * l1) - (M (sh.2.2.2 l0 0) (0 : Int32).toNatClampNeg)) + 1)], (sh, M, J))) f_157_11 rfl ?_
  exact ev_r1 f_157_12 rfl
theorem f_158_0 : xfind (xnth xTs 158) 0 = some (0, .iconst 0, 1, (0, 0, 0, 0), (.int 0), [], 0, 0, []) := rfl
theorem f_158_1 : xfind (xnth xTs 158) 1 = some (1, .istore_n 2, 1, (0, 0, 0, 0), .null, [], 0, 0, []) := rfl
theorem f_158_2 : xfind (xnth xTs 158) 2 = some (2, .iconst 0, 1, (0, 0, 0, 0), (.int 0), [], 0, 0, []) := rfl
theorem f_158_3 : xfind (xnth xTs 158) 3 = some (3, .istore_n 3, 1, (0, 0, 0, 0), .null, [], 0, 0, []) := rfl
theorem f_158_4 : xfind (xnth xTs 158) 4 = some (4, .iload_n 3, 1, (0, 0, 0, 0), .null, [], 0, 1, [4]) := rfl
theorem f_158_5 : xfind (xnth xTs 158) 5 = some (5, .aload_n 0, 1, (0, 0, 0, 0), .null, [], 0, 0, []) := rfl
theorem f_158_6 : xfind (xnth xTs 158) 6 = some (6, .invokevirtual 156, 3, (151, 0, 9, 1), .null, [], 1061, 0, []) := rfl
theorem f_158_9 : xfind (xnth xTs 158) 9 = some (9, .if_icmp .ge 56, 3, (0, 0, 0, 0), .null, [], 0, 0, []) := rfl
theorem f_158_12 : xfind (xnth xTs 158) 12 = some (12, .aload_n 0, 1, (0, 0, 0, 0), .null, [], 0, 0, []) := rfl
theorem f_158_13 : xfind (xnth xTs 158) 13 = some (13, .iload_n 3, 1, (0, 0, 0, 0), .null, [], 0, 0, []) := rfl
theorem f_158_14 : xfind (xnth xTs 158) 14 = some (14, .aload_n 0, 1, (0, 0, 0, 0), .null, [], 0, 0, []) := rfl
theorem f_158_15 : xfind (xnth xTs 158) 15 = some (15, .getfield 7, 3, (9, 0, 1, 0), .null, [], 909, 0, []) := rfl
theorem f_158_18 : xfind (xnth xTs 158) 18 = some (18, .iconst 0, 1, (0, 0, 0, 0), (.int 0), [], 0, 0, []) := rfl
theorem f_158_19 : xfind (xnth xTs 158) 19 = some (19, .iaload, 1, (0, 0, 0, 0), .null, [], 0, 0, []) := rfl
theorem f_158_20 : xfind (xnth xTs 158) 20 = some (20, .irem, 1, (0, 0, 0, 0), .null, [], 0, 0, []) := rfl
theorem f_158_21 : xfind (xnth xTs 158) 21 = some (21, .invokevirtual 165, 3, (157, 1, 9, 2), .null, [], 1065, 0, []) := rfl
theorem f_158_24 : xfind (xnth xTs 158) 24 = some (24, .istore 4, 2, (0, 0, 0, 0), .null, [], 0, 0, []) := rfl
theorem f_158_26 : xfind (xnth xTs 158) 26 = some (26, .iload_n 2, 1, (0, 0, 0, 0), .null, [], 0, 0, []) := rfl
theorem f_158_27 : xfind (xnth xTs 158) 27 = some (27, .iload 4, 2, (0, 0, 0, 0), .null, [], 0, 0, []) := rfl
theorem f_158_29 : xfind (xnth xTs 158) 29 = some (29, .ifCond .ge 12, 3, (0, 0, 0, 0), .null, [], 0, 0, []) := rfl
theorem f_158_32 : xfind (xnth xTs 158) 32 = some (32, .aload_n 0, 1, (0, 0, 0, 0), .null, [], 0, 0, []) := rfl
theorem f_158_33 : xfind (xnth xTs 158) 33 = some (33, .aload_n 1, 1, (0, 0, 0, 0), .null, [], 0, 0, []) := rfl
theorem f_158_34 : xfind (xnth xTs 158) 34 = some (34, .iload_n 3, 1, (0, 0, 0, 0), .null, [], 0, 0, []) := rfl
theorem f_158_35 : xfind (xnth xTs 158) 35 = some (35, .invokevirtual 161, 3, (155, 2, 9, 3), .null, [], 1069, 0, []) := rfl
theorem f_158_38 : xfind (xnth xTs 158) 38 = some (38, .goto 19, 3, (0, 0, 0, 0), .null, [], 0, 0, []) := rfl
theorem f_158_41 : xfind (xnth xTs 158) 41 = some (41, .iload 4, 2, (0, 0, 0, 0), .null, [], 0, 0, []) := rfl
theorem f_158_43 : xfind (xnth xTs 158) 43 = some (43, .ifCond .le 13, 3, (0, 0, 0, 0), .null, [], 0, 0, []) := rfl
theorem f_158_46 : xfind (xnth xTs 158) 46 = some (46, .aload_n 0, 1, (0, 0, 0, 0), .null, [], 0, 0, []) := rfl
theorem f_158_47 : xfind (xnth xTs 158) 47 = some (47, .aload_n 1, 1, (0, 0, 0, 0), .null, [], 0, 0, []) := rfl
theorem f_158_48 : xfind (xnth xTs 158) 48 = some (48, .iload_n 3, 1, (0, 0, 0, 0), .null, [], 0, 0, []) := rfl
theorem f_158_49 : xfind (xnth xTs 158) 49 = some (49, .invokevirtual 161, 3, (155, 2, 9, 3), .null, [], 1069, 0, []) := rfl
theorem f_158_52 : xfind (xnth xTs 158) 52 = some (52, .ineg, 1, (0, 0, 0, 0), .null, [], 0, 0, []) := rfl
theorem f_158_53 : xfind (xnth xTs 158) 53 = some (53, .goto 4, 3, (0, 0, 0, 0), .null, [], 0, 0, []) := rfl
theorem f_158_56 : xfind (xnth xTs 158) 56 = some (56, .iconst 0, 1, (0, 0, 0, 0), (.int 0), [], 0, 0, []) := rfl
theorem f_158_57 : xfind (xnth xTs 158) 57 = some (57, .iadd, 1, (0, 0, 0, 0), .null, [], 0, 0, []) := rfl
theorem f_158_58 : xfind (xnth xTs 158) 58 = some (58, .istore_n 2, 1, (0, 0, 0, 0), .null, [], 0, 0, []) := rfl
theorem f_158_59 : xfind (xnth xTs 158) 59 = some (59, .iinc 3 1, 3, (0, 0, 0, 0), .null, [], 0, 0, []) := rfl
theorem f_158_62 : xfind (xnth xTs 158) 62 = some (62, .goto (-58), 3, (0, 0, 0, 0), .null, [], 0, 0, []) := rfl
theorem f_158_65 : xfind (xnth xTs 158) 65 = some (65, .iload_n 2, 1, (0, 0, 0, 0), .null, [], 0, 0, []) := rfl
theorem f_158_66 : xfind (xnth xTs 158) 66 = some (66, .bipush 100, 2, (0, 0, 0, 0), (.int 100), [], 0, 0, []) := rfl
theorem f_158_68 : xfind (xnth xTs 158) 68 = some (68, .idiv, 1, (0, 0, 0, 0), .null, [], 0, 0, []) := rfl
theorem f_158_69 : xfind (xnth xTs 158) 69 = some (69, .ireturn, 1, (0, 0, 0, 0), .null, [], 0, 0, []) := rfl
theorem hd_158_4 : xhead 158 4 = some [4] := rfl
theorem b_R_leans_0 (sh : xSh) (M : Nat → Nat → Int32) (J : Nat → Nat → Int64) (l0 : Nat) (l1 : Nat) : ev (158, 0, [.ref l0, .ref l1, .null, .null, .null], [], (sh, M, J)) = (ev (158, 4, [.ref l0, .ref l1, .int 0, .int 0, .null], [], (sh, M, J))) := by
  refine ev_nx (s1 := (158, 1, [.ref l0, .ref l1, .null, .null, .null], [.int 0], (sh, M, J))) f_158_0 rfl ?_
  refine ev_nx (s1 := (158, 2, [.ref l0, .ref l1, .int 0, .null, .null], [], (sh, M, J))) f_158_1 rfl ?_
  refine ev_nx (s1 := (158, 3, [.ref l0, .ref l1, .int 0, .null, .null], [.int 0], (sh, M, J))) f_158_2 rfl ?_
  refine ev_nx (s1 := (158, 4, [.ref l0, .ref l1, .int 0, .int 0, .null], [], (sh, M, J))) f_158_3 rfl ?_
  exact rfl
theorem b_R_leans_4 (sh : xSh) (M : Nat → Nat → Int32) (J : Nat → Nat → Int64) (l0 : Nat) (l1 : Nat) (l2 : Int32) (l3 : Int32) : ev (158, 4, [.ref l0, .ref l1, .int l2, .int l3, .null], [], (sh, M, J)) = (bif (decide ((sh.2.2.1 l0).1 = 9) && true) then (ev (151, 0, [.ref l0], [], (sh, M, J))).bind (fun r => ev (158, 9, [.ref l0, .ref l1, .int l2, .int l3, .null], r.1.toList ++ [.int l3], r.2)) else none) := by
  refine ev_nx (s1 := (158, 5, [.ref l0, .ref l1, .int l2, .int l3, .null], [.int l3], (sh, M, J))) f_158_4 rfl ?_
  refine ev_nx (s1 := (158, 6, [.ref l0, .ref l1, .int l2, .int l3, .null], [.ref l0, .int l3], (sh, M, J))) f_158_5 rfl ?_
  exact ev_ca (cc := (decide ((sh.2.2.1 l0).1 = 9) && true)) (s1 := (151, 0, [.ref l0], [], (sh, M, J))) (k := (158, 9, [.ref l0, .ref l1, .int l2, .int l3, .null], [.int l3])) f_158_6 rfl
theorem b_R_leans_9 (sh : xSh) (M : Nat → Nat → Int32) (J : Nat → Nat → Int64) (l0 : Nat) (l1 : Nat) (l2 : Int32) (l3 : Int32) (k0 : Int32) (k1 : Int32) : ev (158, 9, [.ref l0, .ref l1, .int l2, .int l3, .null], [.int k0, .int k1], (sh, M, J)) = (bif decide (k0 ≤ k1) then some (some (.int (l2 / 100)), (sh, M, J)) else bif decide ((sh.2.2.1 l0).1 = 9) then bif (decide ((sh.2.2.1 (sh.2.2.2 l0 0)).1 = 11) && xin 0 (sh.2.2.1 (sh.2.2.2 l0 0)).2) then bif !decide ((M (sh.2.2.2 l0 0) (0 : Int32).toNatClampNeg) = 0) then bif (decide ((sh.2.2.1 l0).1 = 9) && true) then (ev (157, 0, [.ref l0, .int (xrem l3 (M (sh.2.2.2 l0 0) (0 : Int32).toNatClampNeg))], [], (sh, M, J))).bind (fun r => ev (158, 24, [.ref l0, .ref l1, .int l2, .int l3, .null], r.1.toList ++ [], r.2)) else none else none else none else none) := by
  refine ev_br (s1 := (158, 65, [.ref l0, .ref l1, .int l2, .int l3, .null], [], (sh, M, J))) (s2 := (158, 12, [.ref l0, .ref l1, .int l2, .int l3, .null], [], (sh, M, J))) f_158_9 rfl ?_ ?_
  · refine ev_nx (s1 := (158, 66, [.ref l0, .ref l1, .int l2, .int l3, .null], [.int l2], (sh, M, J))) f_158_65 rfl ?_
    refine ev_nx (s1 := (158, 68, [.ref l0, .ref l1, .int l2, .int l3, .null], [.int 100, .int l2], (sh, M, J))) f_158_66 rfl ?_
    refine ev_nx (s1 := (158, 69, [.ref l0, .ref l1, .int l2, .int l3, .null], [.int (l2 / 100)], (sh, M, J))) f_158_68 rfl ?_
    exact ev_r1 f_158_69 rfl
  · refine ev_nx (s1 := (158, 13, [.ref l0, .ref l1, .int l2, .int l3, .null], [.ref l0], (sh, M, J))) f_158_12 rfl ?_
    refine ev_nx (s1 := (158, 14, [.ref l0, .ref l1, .int l2, .int l3, .null], [.int l3, .ref l0], (sh, M, J))) f_158_13 rfl ?_
    refine ev_nx (s1 := (158, 15, [.ref l0, .ref l1, .int l2, .int l3, .null], [.ref l0, .int l3, .ref l0], (sh, M, J))) f_158_14 rfl ?_
    refine ev_gd (s1 := (158, 18, [.ref l0, .ref l1, .int l2, .int l3, .null], [.ref (sh.2.2.2 l0 0), .int l3, .ref l0], (sh, M, J))) f_158_15 rfl ?_
    refine ev_nx (s1 := (158, 19, [.ref l0, .ref l1, .int l2, .int l3, .null], [.int 0, .ref (sh.2.2.2 l0 0), .int l3, .ref l0], (sh, M, J))) f_158_18 rfl ?_
    refine ev_gd (s1 := (158, 20, [.ref l0, .ref l1, .int l2, .int l3, .null], [.int (M (sh.2.2.2 l0 0) (0 : Int32).toNatClampNeg), .int l3, .ref l0], (sh, M, J))) f_158_19 rfl ?_
    refine ev_gd (s1 := (158, 21, [.ref l0, .ref l1, .int l2, .int l3, .null], [.int (xrem l3 (M (sh.2.2.2 l0 0) (0 : Int32).toNatClampNeg)), .ref l0], (sh, M, J))) f_158_20 rfl ?_
    exact ev_ca (cc := (decide ((sh.2.2.1 l0).1 = 9) && true)) (s1 := (157, 0, [.ref l0, .int (xrem l3 (M (sh.2.2.2 l0 0) (0 : Int32).toNatClampNeg))], [], (sh, M, J))) (k := (158, 24, [.ref l0, .ref l1, .int l2, .int l3, .null], [])) f_158_21 rfl
theorem b_R_leans_24 (sh : xSh) (M : Nat → Nat → Int32) (J : Nat → Nat → Int64) (l0 : Nat) (l1 : Nat) (l2 : Int32) (l3 : Int32) (k0 : Int32) : ev (158, 24, [.ref l0, .ref l1, .int l2, .int l3, .null], [.int k0], (sh, M, J)) = (bif decide (0 ≤ k0) then bif decide (k0 ≤ 0) then ev (158, 4, [.ref l0, .ref l1, .int (l2 + 0), .int (l3 + 1), .null], [], (sh, M, J)) else bif (decide ((sh.2.2.1 l0).1 = 9) && true) then (ev (155, 0, [.ref l0, .ref l1, .int l3], [], (sh, M, J))).bind (fun r => ev (158, 52, [.ref l0, .ref l1, .int l2, .int l3, .int k0], r.1.toList ++ [.int l2], r.2)) else none else bif (decide ((sh.2.2.1 l0).1 = 9) && true) then (ev (155, 0, [.ref l0, .ref l1, .int l3], [], (sh, M, J))).bind (fun r => ev (158, 38, [.ref l0, .ref l1, .int l2, .int l3, .int k0], r.1.toList ++ [.int l2], r.2)) else none) := by
  refine ev_nx (s1 := (158, 26, [.ref l0, .ref l1, .int l2, .int l3, .int k0], [], (sh, M, J))) f_158_24 rfl ?_
  refine ev_nx (s1 := (158, 27, [.ref l0, .ref l1, .int l2, .int l3, .int k0], [.int l2], (sh, M, J))) f_158_26 rfl ?_
  refine ev_nx (s1 := (158, 29, [.ref l0, .ref l1, .int l2, .int l3, .int k0], [.int k0, .int l2], (sh, M, J))) f_158_27 rfl ?_
  refine ev_br (s1 := (158, 41, [.ref l0, .ref l1, .int l2, .int l3, .int k0], [.int l2], (sh, M, J))) (s2 := (158, 32, [.ref l0, .ref l1, .int l2, .int l3, .int k0], [.int l2], (sh, M, J))) f_158_29 rfl ?_ ?_
  · refine ev_nx (s1 := (158, 43, [.ref l0, .ref l1, .int l2, .int l3, .int k0], [.int k0, .int l2], (sh, M, J))) f_158_41 rfl ?_
    refine ev_br (s1 := (158, 56, [.ref l0, .ref l1, .int l2, .int l3, .int k0], [.int l2], (sh, M, J))) (s2 := (158, 46, [.ref l0, .ref l1, .int l2, .int l3, .int k0], [.int l2], (sh, M, J))) f_158_43 rfl ?_ ?_
    · refine ev_nx (s1 := (158, 57, [.ref l0, .ref l1, .int l2, .int l3, .int k0], [.int 0, .int l2], (sh, M, J))) f_158_56 rfl ?_
      refine ev_nx (s1 := (158, 58, [.ref l0, .ref l1, .int l2, .int l3, .int k0], [.int (l2 + 0)], (sh, M, J))) f_158_57 rfl ?_
      refine ev_nx (s1 := (158, 59, [.ref l0, .ref l1, .int (l2 + 0), .int l3, .int k0], [], (sh, M, J))) f_158_58 rfl ?_
      refine ev_nx (s1 := (158, 62, [.ref l0, .ref l1, .int (l2 + 0), .int (l3 + 1), .int k0], [], (sh, M, J))) f_158_59 rfl ?_
      refine ev_nx (s1 := (158, 4, [.ref l0, .ref l1, .int (l2 + 0), .int (l3 + 1), .int k0], [], (sh, M, J))) f_158_62 rfl ?_
      exact (ev_kill hd_158_4).symm
    · refine ev_nx (s1 := (158, 47, [.ref l0, .ref l1, .int l2, .int l3, .int k0], [.ref l0, .int l2], (sh, M, J))) f_158_46 rfl ?_
      refine ev_nx (s1 := (158, 48, [.ref l0, .ref l1, .int l2, .int l3, .int k0], [.ref l1, .ref l0, .int l2], (sh, M, J))) f_158_47 rfl ?_
      refine ev_nx (s1 := (158, 49, [.ref l0, .ref l1, .int l2, .int l3, .int k0], [.int l3, .ref l1, .ref l0, .int l2], (sh, M, J))) f_158_48 rfl ?_
      exact ev_ca (cc := (decide ((sh.2.2.1 l0).1 = 9) && true)) (s1 := (155, 0, [.ref l0, .ref l1, .int l3], [], (sh, M, J))) (k := (158, 52, [.ref l0, .ref l1, .int l2, .int l3, .int k0], [.int l2])) f_158_49 rfl
  · refine ev_nx (s1 := (158, 33, [.ref l0, .ref l1, .int l2, .int l3, .int k0], [.ref l0, .int l2], (sh, M, J))) f_158_32 rfl ?_
    refine ev_nx (s1 := (158, 34, [.ref l0, .ref l1, .int l2, .int l3, .int k0], [.ref l1, .ref l0, .int l2], (sh, M, J))) f_158_33 rfl ?_
    refine ev_nx (s1 := (158, 35, [.ref l0, .ref l1, .int l2, .int l3, .int k0], [.int l3, .ref l1, .ref l0, .int l2], (sh, M, J))) f_158_34 rfl ?_
    exact ev_ca (cc := (decide ((sh.2.2.1 l0).1 = 9) && true)) (s1 := (155, 0, [.ref l0, .ref l1, .int l3], [], (sh, M, J))) (k := (158, 38, [.ref l0, .ref l1, .int l2, .int l3, .int k0], [.int l2])) f_158_35 rfl
theorem b_R_leans_38 (sh : xSh) (M : Nat → Nat → Int32) (J : Nat → Nat → Int64) (l0 : Nat) (l1 : Nat) (l2 : Int32) (l3 : Int32) (l4 : Int32) (k0 : Int32) (k1 : Int32) : ev (158, 38, [.ref l0, .ref l1, .int l2, .int l3, .int l4], [.int k0, .int k1], (sh, M, J)) = (ev (158, 4, [.ref l0, .ref l1, .int (k1 + k0), .int (l3 + 1), .null], [], (sh, M, J))) := by
  refine ev_nx (s1 := (158, 57, [.ref l0, .ref l1, .int l2, .int l3, .int l4], [.int k0, .int k1], (sh, M, J))) f_158_38 rfl ?_
  refine ev_nx (s1 := (158, 58, [.ref l0, .ref l1, .int l2, .int l3, .int l4], [.int (k1 + k0)], (sh, M, J))) f_158_57 rfl ?_
  refine ev_nx (s1 := (158, 59, [.ref l0, .ref l1, .int (k1 + k0), .int l3, .int l4], [], (sh, M, J))) f_158_58 rfl ?_
  refine ev_nx (s1 := (158, 62, [.ref l0, .ref l1, .int (k1 + k0), .int (l3 + 1), .int l4], [], (sh, M, J))) f_158_59 rfl ?_
  refine ev_nx (s1 := (158, 4, [.ref l0, .ref l1, .int (k1 + k0), .int (l3 + 1), .int l4], [], (sh, M, J))) f_158_62 rfl ?_
  exact (ev_kill hd_158_4).symm
theorem b_R_leans_52 (sh : xSh) (M : Nat → Nat → Int32) (J : Nat → Nat → Int64) (l0 : Nat) (l1 : Nat) (l2 : Int32) (l3 : Int32) (l4 : Int32) (k0 : Int32) (k1 : Int32) : ev (158, 52, [.ref l0, .ref l1, .int l2, .int l3, .int l4], [.int k0, .int k1], (sh, M, J)) = (ev (158, 4, [.ref l0, .ref l1, .int (k1 + (-k0)), .int (l3 + 1), .null], [], (sh, M, J))) := by
  refine ev_nx (s1 := (158, 53, [.ref l0, .ref l1, .int l2, .int l3, .int l4], [.int (-k0), .int k1], (sh, M, J))) f_158_52 rfl ?_
  refine ev_nx (s1 := (158, 57, [.ref l0, .ref l1, .int l2, .int l3, .int l4], [.int (-k0), .int k1], (sh, M, J))) f_158_53 rfl ?_
  refine ev_nx (s1 := (158, 58, [.ref l0, .ref l1, .int l2, .int l3, .int l4], [.int (k1 + (-k0))], (sh, M, J))) f_158_57 rfl ?_
  refine ev_nx (s1 := (158, 59, [.ref l0, .ref l1, .int (k1 + (-k0)), .int l3, .int l4], [], (sh, M, J))) f_158_58 rfl ?_
  refine ev_nx (s1 := (158, 62, [.ref l0, .ref l1, .int (k1 + (-k0)), .int (l3 + 1), .int l4], [], (sh, M, J))) f_158_59 rfl ?_
  refine ev_nx (s1 := (158, 4, [.ref l0, .ref l1, .int (k1 + (-k0)), .int (l3 + 1), .int l4], [], (sh, M, J))) f_158_62 rfl ?_
  exact (ev_kill hd_158_4).symm
theorem f_159_0 : xfind (xnth xTs 159) 0 = some (0, .aload_n 0, 1, (0, 0, 0, 0), .null, [], 0, 0, []) := rfl
theorem f_159_1 : xfind (xnth xTs 159) 1 = some (1, .iload_n 1, 1, (0, 0, 0, 0), .null, [], 0, 0, []) := rfl
theorem f_159_2 : xfind (xnth xTs 159) 2 = some (2, .aload_n 0, 1, (0, 0, 0, 0), .null, [], 0, 0, []) := rfl
theorem f_159_3 : xfind (xnth xTs 159) 3 = some (3, .getfield 7, 3, (9, 0, 1, 0), .null, [], 909, 0, []) := rfl
theorem f_159_6 : xfind (xnth xTs 159) 6 = some (6, .iconst 0, 1, (0, 0, 0, 0), (.int 0), [], 0, 0, []) := rfl
theorem f_159_7 : xfind (xnth xTs 159) 7 = some (7, .iaload, 1, (0, 0, 0, 0), .null, [], 0, 0, []) := rfl
theorem f_159_8 : xfind (xnth xTs 159) 8 = some (8, .irem, 1, (0, 0, 0, 0), .null, [], 0, 0, []) := rfl
theorem f_159_9 : xfind (xnth xTs 159) 9 = some (9, .invokevirtual 165, 3, (157, 1, 9, 2), .null, [], 1065, 0, []) := rfl
theorem f_159_12 : xfind (xnth xTs 159) 12 = some (12, .istore_n 3, 1, (0, 0, 0, 0), .null, [], 0, 0, []) := rfl
theorem f_159_13 : xfind (xnth xTs 159) 13 = some (13, .iload_n 1, 1, (0, 0, 0, 0), .null, [], 0, 0, []) := rfl
theorem f_159_14 : xfind (xnth xTs 159) 14 = some (14, .aload_n 0, 1, (0, 0, 0, 0), .null, [], 0, 0, []) := rfl
theorem f_159_15 : xfind (xnth xTs 159) 15 = some (15, .getfield 7, 3, (9, 0, 1, 0), .null, [], 909, 0, []) := rfl
theorem f_159_18 : xfind (xnth xTs 159) 18 = some (18, .iconst 0, 1, (0, 0, 0, 0), (.int 0), [], 0, 0, []) := rfl
theorem f_159_19 : xfind (xnth xTs 159) 19 = some (19, .iaload, 1, (0, 0, 0, 0), .null, [], 0, 0, []) := rfl
theorem f_159_20 : xfind (xnth xTs 159) 20 = some (20, .idiv, 1, (0, 0, 0, 0), .null, [], 0, 0, []) := rfl
theorem f_159_21 : xfind (xnth xTs 159) 21 = some (21, .istore 4, 2, (0, 0, 0, 0), .null, [], 0, 0, []) := rfl
theorem f_159_23 : xfind (xnth xTs 159) 23 = some (23, .iload_n 3, 1, (0, 0, 0, 0), .null, [], 0, 0, []) := rfl
theorem f_159_24 : xfind (xnth xTs 159) 24 = some (24, .ifCond .ge 10, 3, (0, 0, 0, 0), .null, [], 0, 0, []) := rfl
theorem f_159_27 : xfind (xnth xTs 159) 27 = some (27, .iload 4, 2, (0, 0, 0, 0), .null, [], 0, 0, []) := rfl
theorem f_159_29 : xfind (xnth xTs 159) 29 = some (29, .iload_n 2, 1, (0, 0, 0, 0), .null, [], 0, 0, []) := rfl
theorem f_159_30 : xfind (xnth xTs 159) 30 = some (30, .isub, 1, (0, 0, 0, 0), .null, [], 0, 0, []) := rfl
theorem f_159_31 : xfind (xnth xTs 159) 31 = some (31, .goto 16, 3, (0, 0, 0, 0), .null, [], 0, 0, []) := rfl
theorem f_159_34 : xfind (xnth xTs 159) 34 = some (34, .iload_n 3, 1, (0, 0, 0, 0), .null, [], 0, 0, []) := rfl
theorem f_159_35 : xfind (xnth xTs 159) 35 = some (35, .ifCond .le 10, 3, (0, 0, 0, 0), .null, [], 0, 0, []) := rfl
theorem f_159_38 : xfind (xnth xTs 159) 38 = some (38, .iload 4, 2, (0, 0, 0, 0), .null, [], 0, 0, []) := rfl
theorem f_159_40 : xfind (xnth xTs 159) 40 = some (40, .iload_n 2, 1, (0, 0, 0, 0), .null, [], 0, 0, []) := rfl
theorem f_159_41 : xfind (xnth xTs 159) 41 = some (41, .iadd, 1, (0, 0, 0, 0), .null, [], 0, 0, []) := rfl
theorem f_159_42 : xfind (xnth xTs 159) 42 = some (42, .goto 5, 3, (0, 0, 0, 0), .null, [], 0, 0, []) := rfl
theorem f_159_45 : xfind (xnth xTs 159) 45 = some (45, .iload 4, 2, (0, 0, 0, 0), .null, [], 0, 0, []) := rfl
theorem f_159_47 : xfind (xnth xTs 159) 47 = some (47, .ireturn, 1, (0, 0, 0, 0), .null, [], 0, 0, []) := rfl
theorem b_R_hangs_0 (sh : xSh) (M : Nat → Nat → Int32) (J : Nat → Nat → Int64) (l0 : Nat) (l1 : Int32) (l2 : Int32) : ev (159, 0, [.ref l0, .int l1, .int l2, .null, .null], [], (sh, M, J)) = (bif decide ((sh.2.2.1 l0).1 = 9) then bif (decide ((sh.2.2.1 (sh.2.2.2 l0 0)).1 = 11) && xin 0 (sh.2.2.1 (sh.2.2.2 l0 0)).2) then bif !decide ((M (sh.2.2.2 l0 0) (0 : Int32).toNatClampNeg) = 0) then bif (decide ((sh.2.2.1 l0).1 = 9) && true) then (ev (157, 0, [.ref l0, .int (xrem l1 (M (sh.2.2.2 l0 0) (0 : Int32).toNatClampNeg))], [], (sh, M, J))).bind (fun r => ev (159, 12, [.ref l0, .int l1, .int l2, .null, .null], r.1.toList ++ [], r.2)) else none else none else none else none) := by
  refine ev_nx (s1 := (159, 1, [.ref l0, .int l1, .int l2, .null, .null], [.ref l0], (sh, M, J))) f_159_0 rfl ?_
  refine ev_nx (s1 := (159, 2, [.ref l0, .int l1, .int l2, .null, .null], [.int l1, .ref l0], (sh, M, J))) f_159_1 rfl ?_
  refine ev_nx (s1 := (159, 3, [.ref l0, .int l1, .int l2, .null, .null], [.ref l0, .int l1, .ref l0], (sh, M, J))) f_159_2 rfl ?_
  refine ev_gd (s1 := (159, 6, [.ref l0, .int l1, .int l2, .null, .null], [.ref (sh.2.2.2 l0 0), .int l1, .ref l0], (sh, M, J))) f_159_3 rfl ?_
  refine ev_nx (s1 := (159, 7, [.ref l0, .int l1, .int l2, .null, .null], [.int 0, .ref (sh.2.2.2 l0 0), .int l1, .ref l0], (sh, M, J))) f_159_6 rfl ?_
  refine ev_gd (s1 := (159, 8, [.ref l0, .int l1, .int l2, .null, .null], [.int (M (sh.2.2.2 l0 0) (0 : Int32).toNatClampNeg), .int l1, .ref l0], (sh, M, J))) f_159_7 rfl ?_
  refine ev_gd (s1 := (159, 9, [.ref l0, .int l1, .int l2, .null, .null], [.int (xrem l1 (M (sh.2.2.2 l0 0) (0 : Int32).toNatClampNeg)), .ref l0], (sh, M, J))) f_159_8 rfl ?_
  exact ev_ca (cc := (decide ((sh.2.2.1 l0).1 = 9) && true)) (s1 := (157, 0, [.ref l0, .int (xrem l1 (M (sh.2.2.2 l0 0) (0 : Int32).toNatClampNeg))], [], (sh, M, J))) (k := (159, 12, [.ref l0, .int l1, .int l2, .null, .null], [])) f_159_9 rfl
theorem b_R_hangs_12 (sh : xSh) (M : Nat → Nat → Int32) (J : Nat → Nat → Int64) (l0 : Nat) (l1 : Int32) (l2 : Int32) (k0 : Int32) : ev (159, 12, [.ref l0, .int l1, .int l2, .null, .null], [.int k0], (sh, M, J)) = (bif decide ((sh.2.2.1 l0).1 = 9) then bif (decide ((sh.2.2.1 (sh.2.2.2 l0 0)).1 = 11) && xin 0 (sh.2.2.1 (sh.2.2.2 l0 0)).2) then bif !decide ((M (sh.2.2.2 l0 0) (0 : Int32).toNatClampNeg) = 0) then bif decide (0 ≤ k0) then bif decide (k0 ≤ 0) then some (some (.int (l1 / (M (sh.2.2.2 l0 0) (0 : Int32).toNatClampNeg))), (sh, M, J)) else some (some (.int ((l1 / (M (sh.2.2.2 l0 0) (0 : Int32).toNatClampNeg)) + l2)), (sh, M, J)) else some (some (.int ((l1 / (M (sh.2.2.2 l0 0) (0 : Int32).toNatClampNeg)) - l2)), (sh, M, J)) else none else none else none) := by
  refine ev_nx (s1 := (159, 13, [.ref l0, .int l1, .int l2, .int k0, .null], [], (sh, M, J))) f_159_12 rfl ?_
  refine ev_nx (s1 := (159, 14, [.ref l0, .int l1, .int l2, .int k0, .null], [.int l1], (sh, M, J))) f_159_13 rfl ?_
  refine ev_nx (s1 := (159, 15, [.ref l0, .int l1, .int l2, .int k0, .null], [.ref l0, .int l1], (sh, M, J))) f_159_14 rfl ?_
  refine ev_gd (s1 := (159, 18, [.ref l0, .int l1, .int l2, .int k0, .null], [.ref (sh.2.2.2 l0 0), .int l1], (sh, M, J))) f_159_15 rfl ?_
  refine ev_nx (s1 := (159, 19, [.ref l0, .int l1, .int l2, .int k0, .null], [.int 0, .ref (sh.2.2.2 l0 0), .int l1], (sh, M, J))) f_159_18 rfl ?_
  refine ev_gd (s1 := (159, 20, [.ref l0, .int l1, .int l2, .int k0, .null], [.int (M (sh.2.2.2 l0 0) (0 : Int32).toNatClampNeg), .int l1], (sh, M, J))) f_159_19 rfl ?_
  refine ev_gd (s1 := (159, 21, [.ref l0, .int l1, .int l2, .int k0, .null], [.int (l1 / (M (sh.2.2.2 l0 0) (0 : Int32).toNatClampNeg))], (sh, M, J))) f_159_20 rfl ?_
  refine ev_nx (s1 := (159, 23, [.ref l0, .int l1, .int l2, .int k0, .int (l1 / (M (sh.2.2.2 l0 0) (0 : Int32).toNatClampNeg))], [], (sh, M, J))) f_159_21 rfl ?_
  refine ev_nx (s1 := (159, 24, [.ref l0, .int l1, .int l2, .int k0, .int (l1 / (M (sh.2.2.2 l0 0) (0 : Int32).toNatClampNeg))], [.int k0], (sh, M, J))) f_159_23 rfl ?_
  refine ev_br (s1 := (159, 34, [.ref l0, .int l1, .int l2, .int k0, .int (l1 / (M (sh.2.2.2 l0 0) (0 : Int32).toNatClampNeg))], [], (sh, M, J))) (s2 := (159, 27, [.ref l0, .int l1, .int l2, .int k0, .int (l1 / (M (sh.2.2.2 l0 0) (0 : Int32).toNatClampNeg))], [], (sh, M, J))) f_159_24 rfl ?_ ?_
  · refine ev_nx (s1 := (159, 35, [.ref l0, .int l1, .int l2, .int k0, .int (l1 / (M (sh.2.2.2 l0 0) (0 : Int32).toNatClampNeg))], [.int k0], (sh, M, J))) f_159_34 rfl ?_
    refine ev_br (s1 := (159, 45, [.ref l0, .int l1, .int l2, .int k0, .int (l1 / (M (sh.2.2.2 l0 0) (0 : Int32).toNatClampNeg))], [], (sh, M, J))) (s2 := (159, 38, [.ref l0, .int l1, .int l2, .int k0, .int (l1 / (M (sh.2.2.2 l0 0) (0 : Int32).toNatClampNeg))], [], (sh, M, J))) f_159_35 rfl ?_ ?_
    · refine ev_nx (s1 := (159, 47, [.ref l0, .int l1, .int l2, .int k0, .int (l1 / (M (sh.2.2.2 l0 0) (0 : Int32).toNatClampNeg))], [.int (l1 / (M (sh.2.2.2 l0 0) (0 : Int32).toNatClampNeg))], (sh, M, J))) f_159_45 rfl ?_
      exact ev_r1 f_159_47 rfl
    · refine ev_nx (s1 := (159, 40, [.ref l0, .int l1, .int l2, .int k0, .int (l1 / (M (sh.2.2.2 l0 0) (0 : Int32).toNatClampNeg))], [.int (l1 / (M (sh.2.2.2 l0 0) (0 : Int32).toNatClampNeg))], (sh, M, J))) f_159_38 rfl ?_
      refine ev_nx (s1 := (159, 41, [.ref l0, .int l1, .int l2, .int k0, .int (l1 / (M (sh.2.2.2 l0 0) (0 : Int32).toNatClampNeg))], [.int l2, .int (l1 / (M (sh.2.2.2 l0 0) (0 : Int32).toNatClampNeg))], (sh, M, J))) f_159_40 rfl ?_
      refine ev_nx (s1 := (159, 42, [.ref l0, .int l1, .int l2, .int k0, .int (l1 / (M (sh.2.2.2 l0 0) (0 : Int32).toNatClampNeg))], [.int ((l1 / (M (sh.2.2.2 l0 0) (0 : Int32).toNatClampNeg)) + l2)], (sh, M, J))) f_159_41 rfl ?_
      refine ev_nx (s1 := (159, 47, [.ref l0, .int l1, .int l2, .int k0, .int (l1 / (M (sh.2.2.2 l0 0) (0 : Int32).toNatClampNeg))], [.int ((l1 / (M (sh.2.2.2 l0 0) (0 : Int32).toNatClampNeg)) + l2)], (sh, M, J))) f_159_42 rfl ?_
      exact ev_r1 f_159_47 rfl
  · refine ev_nx (s1 := (159, 29, [.ref l0, .int l1, .int l2, .int k0, .int (l1 / (M (sh.2.2.2 l0 0) (0 : Int32).toNatClampNeg))], [.int (l1 / (M (sh.2.2.2 l0 0) (0 : Int32).toNatClampNeg))], (sh, M, J))) f_159_27 rfl ?_
    refine ev_nx (s1 := (159, 30, [.ref l0, .int l1, .int l2, .int k0, .int (l1 / (M (sh.2.2.2 l0 0) (0 : Int32).toNatClampNeg))], [.int l2, .int (l1 / (M (sh.2.2.2 l0 0) (0 : Int32).toNatClampNeg))], (sh, M, J))) f_159_29 rfl ?_
    refine ev_nx (s1 := (159, 31, [.ref l0, .int l1, .int l2, .int k0, .int (l1 / (M (sh.2.2.2 l0 0) (0 : Int32).toNatClampNeg))], [.int ((l1 / (M (sh.2.2.2 l0 0) (0 : Int32).toNatClampNeg)) - l2)], (sh, M, J))) f_159_30 rfl ?_
    refine ev_nx (s1 := (159, 47, [.ref l0, .int l1, .int l2, .int k0, .int (l1 / (M (sh.2.2.2 l0 0) (0 : Int32).toNatClampNeg))], [.int ((l1 / (M (sh.2.2.2 l0 0) (0 : Int32).toNatClampNeg)) - l2)], (sh, M, J))) f_159_31 rfl ?_
    exact ev_r1 f_159_47 rfl
theorem f_160_0 : xfind (xnth xTs 160) 0 = some (0, .aload_n 0, 1, (0, 0, 0, 0), .null, [], 0, 0, []) := rfl
theorem f_160_1 : xfind (xnth xTs 160) 1 = some (1, .aload_n 1, 1, (0, 0, 0, 0), .null, [], 0, 0, []) := rfl
theorem f_160_2 : xfind (xnth xTs 160) 2 = some (2, .invokevirtual 169, 3, (158, 1, 9, 5), .null, [], 1057, 0, []) := rfl
theorem f_160_5 : xfind (xnth xTs 160) 5 = some (5, .istore_n 2, 1, (0, 0, 0, 0), .null, [], 0, 0, []) := rfl
theorem f_160_6 : xfind (xnth xTs 160) 6 = some (6, .iconst 0, 1, (0, 0, 0, 0), (.int 0), [], 0, 0, []) := rfl
theorem f_160_7 : xfind (xnth xTs 160) 7 = some (7, .istore_n 3, 1, (0, 0, 0, 0), .null, [], 0, 0, []) := rfl
theorem f_160_8 : xfind (xnth xTs 160) 8 = some (8, .iconst 0, 1, (0, 0, 0, 0), (.int 0), [], 0, 0, []) := rfl
theorem f_160_9 : xfind (xnth xTs 160) 9 = some (9, .istore 4, 2, (0, 0, 0, 0), .null, [], 0, 0, []) := rfl
theorem f_160_11 : xfind (xnth xTs 160) 11 = some (11, .iload 4, 2, (0, 0, 0, 0), .null, [], 0, 1, [5, 6]) := rfl
theorem f_160_13 : xfind (xnth xTs 160) 13 = some (13, .aload_n 0, 1, (0, 0, 0, 0), .null, [], 0, 0, []) := rfl
theorem f_160_14 : xfind (xnth xTs 160) 14 = some (14, .getfield 7, 3, (9, 0, 1, 0), .null, [], 909, 0, []) := rfl
theorem f_160_17 : xfind (xnth xTs 160) 17 = some (17, .iconst 2, 1, (0, 0, 0, 0), (.int 2), [], 0, 0, []) := rfl
theorem f_160_18 : xfind (xnth xTs 160) 18 = some (18, .iaload, 1, (0, 0, 0, 0), .null, [], 0, 0, []) := rfl
theorem f_160_19 : xfind (xnth xTs 160) 19 = some (19, .if_icmp .ge 109, 3, (0, 0, 0, 0), .null, [], 0, 0, []) := rfl
theorem f_160_22 : xfind (xnth xTs 160) 22 = some (22, .iconst 0, 1, (0, 0, 0, 0), (.int 0), [], 0, 0, []) := rfl
theorem f_160_23 : xfind (xnth xTs 160) 23 = some (23, .istore 5, 2, (0, 0, 0, 0), .null, [], 0, 0, []) := rfl
theorem f_160_25 : xfind (xnth xTs 160) 25 = some (25, .iload 5, 2, (0, 0, 0, 0), .null, [], 0, 1, [6]) := rfl
theorem f_160_27 : xfind (xnth xTs 160) 27 = some (27, .aload_n 0, 1, (0, 0, 0, 0), .null, [], 0, 0, []) := rfl
theorem f_160_28 : xfind (xnth xTs 160) 28 = some (28, .invokevirtual 156, 3, (151, 0, 9, 1), .null, [], 1061, 0, []) := rfl
theorem f_160_31 : xfind (xnth xTs 160) 31 = some (31, .if_icmp .ge 91, 3, (0, 0, 0, 0), .null, [], 0, 0, []) := rfl
theorem f_160_34 : xfind (xnth xTs 160) 34 = some (34, .aload_n 1, 1, (0, 0, 0, 0), .null, [], 0, 0, []) := rfl
theorem f_160_35 : xfind (xnth xTs 160) 35 = some (35, .bipush 20, 2, (0, 0, 0, 0), (.int 20), [], 0, 0, []) := rfl
theorem f_160_37 : xfind (xnth xTs 160) 37 = some (37, .iaload, 1, (0, 0, 0, 0), .null, [], 0, 0, []) := rfl
theorem f_160_38 : xfind (xnth xTs 160) 38 = some (38, .iload 5, 2, (0, 0, 0, 0), .null, [], 0, 0, []) := rfl
theorem f_160_40 : xfind (xnth xTs 160) 40 = some (40, .invokestatic 137, 3, (133, 2, 9, 2), .null, [], 1034, 0, []) := rfl
theorem f_160_43 : xfind (xnth xTs 160) 43 = some (43, .ifCond .eq 54, 3, (0, 0, 0, 0), .null, [], 0, 0, []) := rfl
theorem f_160_46 : xfind (xnth xTs 160) 46 = some (46, .iload 5, 2, (0, 0, 0, 0), .null, [], 0, 0, []) := rfl
theorem f_160_48 : xfind (xnth xTs 160) 48 = some (48, .aload_n 0, 1, (0, 0, 0, 0), .null, [], 0, 0, []) := rfl
theorem f_160_49 : xfind (xnth xTs 160) 49 = some (49, .getfield 7, 3, (9, 0, 1, 0), .null, [], 909, 0, []) := rfl
theorem f_160_52 : xfind (xnth xTs 160) 52 = some (52, .iconst 0, 1, (0, 0, 0, 0), (.int 0), [], 0, 0, []) := rfl
theorem f_160_53 : xfind (xnth xTs 160) 53 = some (53, .iaload, 1, (0, 0, 0, 0), .null, [], 0, 0, []) := rfl
theorem f_160_54 : xfind (xnth xTs 160) 54 = some (54, .irem, 1, (0, 0, 0, 0), .null, [], 0, 0, []) := rfl
theorem f_160_55 : xfind (xnth xTs 160) 55 = some (55, .aload_n 1, 1, (0, 0, 0, 0), .null, [], 0, 0, []) := rfl
theorem f_160_56 : xfind (xnth xTs 160) 56 = some (56, .bipush 41, 2, (0, 0, 0, 0), (.int 41), [], 0, 0, []) := rfl
theorem f_160_58 : xfind (xnth xTs 160) 58 = some (58, .iload 4, 2, (0, 0, 0, 0), .null, [], 0, 0, []) := rfl
theorem f_160_60 : xfind (xnth xTs 160) 60 = some (60, .iadd, 1, (0, 0, 0, 0), .null, [], 0, 0, []) := rfl
theorem f_160_61 : xfind (xnth xTs 160) 61 = some (61, .iaload, 1, (0, 0, 0, 0), .null, [], 0, 0, []) := rfl
theorem f_160_62 : xfind (xnth xTs 160) 62 = some (62, .if_icmp .ne 35, 3, (0, 0, 0, 0), .null, [], 0, 0, []) := rfl
theorem f_160_65 : xfind (xnth xTs 160) 65 = some (65, .aload_n 0, 1, (0, 0, 0, 0), .null, [], 0, 0, []) := rfl
theorem f_160_66 : xfind (xnth xTs 160) 66 = some (66, .iload 5, 2, (0, 0, 0, 0), .null, [], 0, 0, []) := rfl
theorem f_160_68 : xfind (xnth xTs 160) 68 = some (68, .iload_n 2, 1, (0, 0, 0, 0), .null, [], 0, 0, []) := rfl
theorem f_160_69 : xfind (xnth xTs 160) 69 = some (69, .invokevirtual 173, 3, (159, 2, 9, 5), .null, [], 1073, 0, []) := rfl
theorem f_160_72 : xfind (xnth xTs 160) 72 = some (72, .i2l, 1, (0, 0, 0, 0), .null, [], 0, 0, []) := rfl
theorem f_160_73 : xfind (xnth xTs 160) 73 = some (73, .lconst 0, 1, (0, 0, 0, 0), (.long 0), [], 0, 0, []) := rfl
theorem f_160_74 : xfind (xnth xTs 160) 74 = some (74, .aload_n 0, 1, (0, 0, 0, 0), .null, [], 0, 0, []) := rfl
theorem f_160_75 : xfind (xnth xTs 160) 75 = some (75, .getfield 7, 3, (9, 0, 1, 0), .null, [], 909, 0, []) := rfl
theorem f_160_78 : xfind (xnth xTs 160) 78 = some (78, .bipush 20, 2, (0, 0, 0, 0), (.int 20), [], 0, 0, []) := rfl
theorem f_160_80 : xfind (xnth xTs 160) 80 = some (80, .iload 4, 2, (0, 0, 0, 0), .null, [], 0, 0, []) := rfl
theorem f_160_82 : xfind (xnth xTs 160) 82 = some (82, .iadd, 1, (0, 0, 0, 0), .null, [], 0, 0, []) := rfl
theorem f_160_83 : xfind (xnth xTs 160) 83 = some (83, .iaload, 1, (0, 0, 0, 0), .null, [], 0, 0, []) := rfl
theorem f_160_84 : xfind (xnth xTs 160) 84 = some (84, .iconst 1, 1, (0, 0, 0, 0), (.int 1), [], 0, 0, []) := rfl
theorem f_160_85 : xfind (xnth xTs 160) 85 = some (85, .isub, 1, (0, 0, 0, 0), .null, [], 0, 0, []) := rfl
theorem f_160_86 : xfind (xnth xTs 160) 86 = some (86, .i2l, 1, (0, 0, 0, 0), .null, [], 0, 0, []) := rfl
theorem f_160_87 : xfind (xnth xTs 160) 87 = some (87, .invokestatic 68, 3, (132, 3, 9, 6), .null, [], 897, 0, []) := rfl
theorem f_160_90 : xfind (xnth xTs 160) 90 = some (90, .ifCond .eq 7, 3, (0, 0, 0, 0), .null, [], 0, 0, []) := rfl
theorem f_160_93 : xfind (xnth xTs 160) 93 = some (93, .iconst 1, 1, (0, 0, 0, 0), (.int 1), [], 0, 0, []) := rfl
theorem f_160_94 : xfind (xnth xTs 160) 94 = some (94, .goto 4, 3, (0, 0, 0, 0), .null, [], 0, 0, []) := rfl
theorem f_160_97 : xfind (xnth xTs 160) 97 = some (97, .iconst 0, 1, (0, 0, 0, 0), (.int 0), [], 0, 0, []) := rfl
theorem f_160_98 : xfind (xnth xTs 160) 98 = some (98, .istore 6, 2, (0, 0, 0, 0), .null, [], 0, 0, []) := rfl
theorem f_160_100 : xfind (xnth xTs 160) 100 = some (100, .iload_n 3, 1, (0, 0, 0, 0), .null, [], 0, 0, []) := rfl
theorem f_160_101 : xfind (xnth xTs 160) 101 = some (101, .iload 6, 2, (0, 0, 0, 0), .null, [], 0, 0, []) := rfl
theorem f_160_103 : xfind (xnth xTs 160) 103 = some (103, .ifCond .eq 10, 3, (0, 0, 0, 0), .null, [], 0, 0, []) := rfl
theorem f_160_106 : xfind (xnth xTs 160) 106 = some (106, .iconst 1, 1, (0, 0, 0, 0), (.int 1), [], 0, 0, []) := rfl
theorem f_160_107 : xfind (xnth xTs 160) 107 = some (107, .iload 4, 2, (0, 0, 0, 0), .null, [], 0, 0, []) := rfl
theorem f_160_109 : xfind (xnth xTs 160) 109 = some (109, .ishl, 1, (0, 0, 0, 0), .null, [], 0, 0, []) := rfl
theorem f_160_110 : xfind (xnth xTs 160) 110 = some (110, .goto 4, 3, (0, 0, 0, 0), .null, [], 0, 0, []) := rfl
theorem f_160_113 : xfind (xnth xTs 160) 113 = some (113, .iconst 0, 1, (0, 0, 0, 0), (.int 0), [], 0, 0, []) := rfl
theorem f_160_114 : xfind (xnth xTs 160) 114 = some (114, .ior, 1, (0, 0, 0, 0), .null, [], 0, 0, []) := rfl
theorem f_160_115 : xfind (xnth xTs 160) 115 = some (115, .istore_n 3, 1, (0, 0, 0, 0), .null, [], 0, 0, []) := rfl
theorem f_160_116 : xfind (xnth xTs 160) 116 = some (116, .iinc 5 1, 3, (0, 0, 0, 0), .null, [], 0, 0, []) := rfl
theorem f_160_119 : xfind (xnth xTs 160) 119 = some (119, .goto (-94), 3, (0, 0, 0, 0), .null, [], 0, 0, []) := rfl
theorem f_160_122 : xfind (xnth xTs 160) 122 = some (122, .iinc 4 1, 3, (0, 0, 0, 0), .null, [], 0, 0, []) := rfl
theorem f_160_125 : xfind (xnth xTs 160) 125 = some (125, .goto (-114), 3, (0, 0, 0, 0), .null, [], 0, 0, []) := rfl
theorem f_160_128 : xfind (xnth xTs 160) 128 = some (128, .iload_n 3, 1, (0, 0, 0, 0), .null, [], 0, 0, []) := rfl
theorem f_160_129 : xfind (xnth xTs 160) 129 = some (129, .ireturn, 1, (0, 0, 0, 0), .null, [], 0, 0, []) := rfl
theorem hd_160_11 : xhead 160 11 = some [5, 6] := rfl
theorem hd_160_25 : xhead 160 25 = some [6] := rfl
theorem b_R_shown_0 (sh : xSh) (M : Nat → Nat → Int32) (J : Nat → Nat → Int64) (l0 : Nat) (l1 : Nat) : ev (160, 0, [.ref l0, .ref l1, .null, .null, .null, .null, .null], [], (sh, M, J)) = (bif (decide ((sh.2.2.1 l0).1 = 9) && true) then (ev (158, 0, [.ref l0, .ref l1, .null, .null, .null], [], (sh, M, J))).bind (fun r => ev (160, 5, [.ref l0, .ref l1, .null, .null, .null, .null, .null], r.1.toList ++ [], r.2)) else none) := by
  refine ev_nx (s1 := (160, 1, [.ref l0, .ref l1, .null, .null, .null, .null, .null], [.ref l0], (sh, M, J))) f_160_0 rfl ?_
  refine ev_nx (s1 := (160, 2, [.ref l0, .ref l1, .null, .null, .null, .null, .null], [.ref l1, .ref l0], (sh, M, J))) f_160_1 rfl ?_
  exact ev_ca (cc := (decide ((sh.2.2.1 l0).1 = 9) && true)) (s1 := (158, 0, [.ref l0, .ref l1, .null, .null, .null], [], (sh, M, J))) (k := (160, 5, [.ref l0, .ref l1, .null, .null, .null, .null, .null], [])) f_160_2 rfl
theorem b_R_shown_5 (sh : xSh) (M : Nat → Nat → Int32) (J : Nat → Nat → Int64) (l0 : Nat) (l1 : Nat) (k0 : Int32) : ev (160, 5, [.ref l0, .ref l1, .null, .null, .null, .null, .null], [.int k0], (sh, M, J)) = (ev (160, 11, [.ref l0, .ref l1, .int k0, .int 0, .int 0, .null, .null], [], (sh, M, J))) := by
  refine ev_nx (s1 := (160, 6, [.ref l0, .ref l1, .int k0, .null, .null, .null, .null], [], (sh, M, J))) f_160_5 rfl ?_
  refine ev_nx (s1 := (160, 7, [.ref l0, .ref l1, .int k0, .null, .null, .null, .null], [.int 0], (sh, M, J))) f_160_6 rfl ?_
  refine ev_nx (s1 := (160, 8, [.ref l0, .ref l1, .int k0, .int 0, .null, .null, .null], [], (sh, M, J))) f_160_7 rfl ?_
  refine ev_nx (s1 := (160, 9, [.ref l0, .ref l1, .int k0, .int 0, .null, .null, .null], [.int 0], (sh, M, J))) f_160_8 rfl ?_
  refine ev_nx (s1 := (160, 11, [.ref l0, .ref l1, .int k0, .int 0, .int 0, .null, .null], [], (sh, M, J))) f_160_9 rfl ?_
  exact rfl
theorem b_R_shown_11 (sh : xSh) (M : Nat → Nat → Int32) (J : Nat → Nat → Int64) (l0 : Nat) (l1 : Nat) (l2 : Int32) (l3 : Int32) (l4 : Int32) : ev (160, 11, [.ref l0, .ref l1, .int l2, .int l3, .int l4, .null, .null], [], (sh, M, J)) = (bif decide ((sh.2.2.1 l0).1 = 9) then bif (decide ((sh.2.2.1 (sh.2.2.2 l0 0)).1 = 11) && xin 2 (sh.2.2.1 (sh.2.2.2 l0 0)).2) then bif decide ((M (sh.2.2.2 l0 0) (2 : Int32).toNatClampNeg) ≤ l4) then some (some (.int l3), (sh, M, J)) else ev (160, 25, [.ref l0, .ref l1, .int l2, .int l3, .int l4, .int 0, .null], [], (sh, M, J)) else none else none) := by
  refine ev_nx (s1 := (160, 13, [.ref l0, .ref l1, .int l2, .int l3, .int l4, .null, .null], [.int l4], (sh, M, J))) f_160_11 rfl ?_
  refine ev_nx (s1 := (160, 14, [.ref l0, .ref l1, .int l2, .int l3, .int l4, .null, .null], [.ref l0, .int l4], (sh, M, J))) f_160_13 rfl ?_
  refine ev_gd (s1 := (160, 17, [.ref l0, .ref l1, .int l2, .int l3, .int l4, .null, .null], [.ref (sh.2.2.2 l0 0), .int l4], (sh, M, J))) f_160_14 rfl ?_
  refine ev_nx (s1 := (160, 18, [.ref l0, .ref l1, .int l2, .int l3, .int l4, .null, .null], [.int 2, .ref (sh.2.2.2 l0 0), .int l4], (sh, M, J))) f_160_17 rfl ?_
  refine ev_gd (s1 := (160, 19, [.ref l0, .ref l1, .int l2, .int l3, .int l4, .null, .null], [.int (M (sh.2.2.2 l0 0) (2 : Int32).toNatClampNeg), .int l4], (sh, M, J))) f_160_18 rfl ?_
  refine ev_br (s1 := (160, 128, [.ref l0, .ref l1, .int l2, .int l3, .int l4, .null, .null], [], (sh, M, J))) (s2 := (160, 22, [.ref l0, .ref l1, .int l2, .int l3, .int l4, .null, .null], [], (sh, M, J))) f_160_19 rfl ?_ ?_
  · refine ev_nx (s1 := (160, 129, [.ref l0, .ref l1, .int l2, .int l3, .int l4, .null, .null], [.int l3], (sh, M, J))) f_160_128 rfl ?_
    exact ev_r1 f_160_129 rfl
  · refine ev_nx (s1 := (160, 23, [.ref l0, .ref l1, .int l2, .int l3, .int l4, .null, .null], [.int 0], (sh, M, J))) f_160_22 rfl ?_
    refine ev_nx (s1 := (160, 25, [.ref l0, .ref l1, .int l2, .int l3, .int l4, .int 0, .null], [], (sh, M, J))) f_160_23 rfl ?_
    exact rfl
theorem b_R_shown_25 (sh : xSh) (M : Nat → Nat → Int32) (J : Nat → Nat → Int64) (l0 : Nat) (l1 : Nat) (l2 : Int32) (l3 : Int32) (l4 : Int32) (l5 : Int32) : ev (160, 25, [.ref l0, .ref l1, .int l2, .int l3, .int l4, .int l5, .null], [], (sh, M, J)) = (bif (decide ((sh.2.2.1 l0).1 = 9) && true) then (ev (151, 0, [.ref l0], [], (sh, M, J))).bind (fun r => ev (160, 31, [.ref l0, .ref l1, .int l2, .int l3, .int l4, .int l5, .null], r.1.toList ++ [.int l5], r.2)) else none) := by
  refine ev_nx (s1 := (160, 27, [.ref l0, .ref l1, .int l2, .int l3, .int l4, .int l5, .null], [.int l5], (sh, M, J))) f_160_25 rfl ?_
  refine ev_nx (s1 := (160, 28, [.ref l0, .ref l1, .int l2, .int l3, .int l4, .int l5, .null], [.ref l0, .int l5], (sh, M, J))) f_160_27 rfl ?_
  exact ev_ca (cc := (decide ((sh.2.2.1 l0).1 = 9) && true)) (s1 := (151, 0, [.ref l0], [], (sh, M, J))) (k := (160, 31, [.ref l0, .ref l1, .int l2, .int l3, .int l4, .int l5, .null], [.int l5])) f_160_28 rfl
theorem b_R_shown_31 (sh : xSh) (M : Nat → Nat → Int32) (J : Nat → Nat → Int64) (l0 : Nat) (l1 : Nat) (l2 : Int32) (l3 : Int32) (l4 : Int32) (l5 : Int32) (k0 : Int32) (k1 : Int32) : ev (160, 31, [.ref l0, .ref l1, .int l2, .int l3, .int l4, .int l5, .null], [.int k0, .int k1], (sh, M, J)) = (bif decide (k0 ≤ k1) then ev (160, 11, [.ref l0, .ref l1, .int l2, .int l3, .int (l4 + 1), .null, .null], [], (sh, M, J)) else bif (decide ((sh.2.2.1 l1).1 = 11) && xin 20 (sh.2.2.1 l1).2) then (ev (133, 0, [.int (M l1 (20 : Int32).toNatClampNeg), .int l5], [], (sh, M, J))).bind (fun r => ev (160, 43, [.ref l0, .ref l1, .int l2, .int l3, .int l4, .int l5, .null], r.1.toList ++ [], r.2)) else none) := by
  refine ev_br (s1 := (160, 122, [.ref l0, .ref l1, .int l2, .int l3, .int l4, .int l5, .null], [], (sh, M, J))) (s2 := (160, 34, [.ref l0, .ref l1, .int l2, .int l3, .int l4, .int l5, .null], [], (sh, M, J))) f_160_31 rfl ?_ ?_
  · refine ev_nx (s1 := (160, 125, [.ref l0, .ref l1, .int l2, .int l3, .int (l4 + 1), .int l5, .null], [], (sh, M, J))) f_160_122 rfl ?_
    refine ev_nx (s1 := (160, 11, [.ref l0, .ref l1, .int l2, .int l3, .int (l4 + 1), .int l5, .null], [], (sh, M, J))) f_160_125 rfl ?_
    exact (ev_kill hd_160_11).symm
  · refine ev_nx (s1 := (160, 35, [.ref l0, .ref l1, .int l2, .int l3, .int l4, .int l5, .null], [.ref l1], (sh, M, J))) f_160_34 rfl ?_
    refine ev_nx (s1 := (160, 37, [.ref l0, .ref l1, .int l2, .int l3, .int l4, .int l5, .null], [.int 20, .ref l1], (sh, M, J))) f_160_35 rfl ?_
    refine ev_gd (s1 := (160, 38, [.ref l0, .ref l1, .int l2, .int l3, .int l4, .int l5, .null], [.int (M l1 (20 : Int32).toNatClampNeg)], (sh, M, J))) f_160_37 rfl ?_
    refine ev_nx (s1 := (160, 40, [.ref l0, .ref l1, .int l2, .int l3, .int l4, .int l5, .null], [.int l5, .int (M l1 (20 : Int32).toNatClampNeg)], (sh, M, J))) f_160_38 rfl ?_
    exact ev_c1 (s1 := (133, 0, [.int (M l1 (20 : Int32).toNatClampNeg), .int l5], [], (sh, M, J))) (k := (160, 43, [.ref l0, .ref l1, .int l2, .int l3, .int l4, .int l5, .null], [])) f_160_40 rfl
theorem b_R_shown_43 (sh : xSh) (M : Nat → Nat → Int32) (J : Nat → Nat → Int64) (l0 : Nat) (l1 : Nat) (l2 : Int32) (l3 : Int32) (l4 : Int32) (l5 : Int32) (k0 : Int32) : ev (160, 43, [.ref l0, .ref l1, .int l2, .int l3, .int l4, .int l5, .null], [.int k0], (sh, M, J)) = (bif decide (k0 = 0) then ev (160, 25, [.ref l0, .ref l1, .int l2, .int (l3 ||| 0), .int l4, .int (l5 + 1), .null], [], (sh, M, J)) else bif decide ((sh.2.2.1 l0).1 = 9) then bif (decide ((sh.2.2.1 (sh.2.2.2 l0 0)).1 = 11) && xin 0 (sh.2.2.1 (sh.2.2.2 l0 0)).2) then bif !decide ((M (sh.2.2.2 l0 0) (0 : Int32).toNatClampNeg) = 0) then bif (decide ((sh.2.2.1 l1).1 = 11) && xin ((41 : Int32) + l4) (sh.2.2.1 l1).2) then bif !decide ((xrem l5 (M (sh.2.2.2 l0 0) (0 : Int32).toNatClampNeg)) = (M l1 (((41 : Int32) + l4) : Int32).toNatClampNeg)) then ev (160, 25, [.ref l0, .ref l1, .int l2, .int (l3 ||| 0), .int l4, .int (l5 + 1), .null], [], (sh, M, J)) else bif (decide ((sh.2.2.1 l0).1 = 9) && true) then (ev (159, 0, [.ref l0, .int l5, .int l2, .null, .null], [], (sh, M, J))).bind (fun r => ev (160, 72, [.ref l0, .ref l1, .int l2, .int l3, .int l4, .int l5, .null], r.1.toList ++ [], r.2)) else none else none else none else none else none) := by
  refine ev_br (s1 := (160, 97, [.ref l0, .ref l1, .int l2, .int l3, .int l4, .int l5, .null], [], (sh, M, J))) (s2 := (160, 46, [.ref l0, .ref l1, .int l2, .int l3, .int l4, .int l5, .null], [], (sh, M, J))) f_160_43 rfl ?_ ?_
  · refine ev_nx (s1 := (160, 98, [.ref l0, .ref l1, .int l2, .int l3, .int l4, .int l5, .null], [.int 0], (sh, M, J))) f_160_97 rfl ?_
    refine ev_nx (s1 := (160, 100, [.ref l0, .ref l1, .int l2, .int l3, .int l4, .int l5, .int 0], [], (sh, M, J))) f_160_98 rfl ?_
    refine ev_nx (s1 := (160, 101, [.ref l0, .ref l1, .int l2, .int l3, .int l4, .int l5, .int 0], [.int l3], (sh, M, J))) f_160_100 rfl ?_
    refine ev_nx (s1 := (160, 103, [.ref l0, .ref l1, .int l2, .int l3, .int l4, .int l5, .int 0], [.int 0, .int l3], (sh, M, J))) f_160_101 rfl ?_
    refine ev_bt (s1 := (160, 113, [.ref l0, .ref l1, .int l2, .int l3, .int l4, .int l5, .int 0], [.int l3], (sh, M, J))) (s2 := (160, 106, [.ref l0, .ref l1, .int l2, .int l3, .int l4, .int l5, .int 0], [.int l3], (sh, M, J))) f_160_103 rfl rfl ?_
    refine ev_nx (s1 := (160, 114, [.ref l0, .ref l1, .int l2, .int l3, .int l4, .int l5, .int 0], [.int 0, .int l3], (sh, M, J))) f_160_113 rfl ?_
    refine ev_nx (s1 := (160, 115, [.ref l0, .ref l1, .int l2, .int l3, .int l4, .int l5, .int 0], [.int (l3 ||| 0)], (sh, M, J))) f_160_114 rfl ?_
    refine ev_nx (s1 := (160, 116, [.ref l0, .ref l1, .int l2, .int (l3 ||| 0), .int l4, .int l5, .int 0], [], (sh, M, J))) f_160_115 rfl ?_
    refine ev_nx (s1 := (160, 119, [.ref l0, .ref l1, .int l2, .int (l3 ||| 0), .int l4, .int (l5 + 1), .int 0], [], (sh, M, J))) f_160_116 rfl ?_
    refine ev_nx (s1 := (160, 25, [.ref l0, .ref l1, .int l2, .int (l3 ||| 0), .int l4, .int (l5 + 1), .int 0], [], (sh, M, J))) f_160_119 rfl ?_
    exact (ev_kill hd_160_25).symm
  · refine ev_nx (s1 := (160, 48, [.ref l0, .ref l1, .int l2, .int l3, .int l4, .int l5, .null], [.int l5], (sh, M, J))) f_160_46 rfl ?_
    refine ev_nx (s1 := (160, 49, [.ref l0, .ref l1, .int l2, .int l3, .int l4, .int l5, .null], [.ref l0, .int l5], (sh, M, J))) f_160_48 rfl ?_
    refine ev_gd (s1 := (160, 52, [.ref l0, .ref l1, .int l2, .int l3, .int l4, .int l5, .null], [.ref (sh.2.2.2 l0 0), .int l5], (sh, M, J))) f_160_49 rfl ?_
    refine ev_nx (s1 := (160, 53, [.ref l0, .ref l1, .int l2, .int l3, .int l4, .int l5, .null], [.int 0, .ref (sh.2.2.2 l0 0), .int l5], (sh, M, J))) f_160_52 rfl ?_
    refine ev_gd (s1 := (160, 54, [.ref l0, .ref l1, .int l2, .int l3, .int l4, .int l5, .null], [.int (M (sh.2.2.2 l0 0) (0 : Int32).toNatClampNeg), .int l5], (sh, M, J))) f_160_53 rfl ?_
    refine ev_gd (s1 := (160, 55, [.ref l0, .ref l1, .int l2, .int l3, .int l4, .int l5, .null], [.int (xrem l5 (M (sh.2.2.2 l0 0) (0 : Int32).toNatClampNeg))], (sh, M, J))) f_160_54 rfl ?_
    refine ev_nx (s1 := (160, 56, [.ref l0, .ref l1, .int l2, .int l3, .int l4, .int l5, .null], [.ref l1, .int (xrem l5 (M (sh.2.2.2 l0 0) (0 : Int32).toNatClampNeg))], (sh, M, J))) f_160_55 rfl ?_
    refine ev_nx (s1 := (160, 58, [.ref l0, .ref l1, .int l2, .int l3, .int l4, .int l5, .null], [.int 41, .ref l1, .int (xrem l5 (M (sh.2.2.2 l0 0) (0 : Int32).toNatClampNeg))], (sh, M, J))) f_160_56 rfl ?_
    refine ev_nx (s1 := (160, 60, [.ref l0, .ref l1, .int l2, .int l3, .int l4, .int l5, .null], [.int l4, .int 41, .ref l1, .int (xrem l5 (M (sh.2.2.2 l0 0) (0 : Int32).toNatClampNeg))], (sh, M, J))) f_160_58 rfl ?_
    refine ev_nx (s1 := (160, 61, [.ref l0, .ref l1, .int l2, .int l3, .int l4, .int l5, .null], [.int ((41 : Int32) + l4), .ref l1, .int (xrem l5 (M (sh.2.2.2 l0 0) (0 : Int32).toNatClampNeg))], (sh, M, J))) f_160_60 rfl ?_
    refine ev_gd (s1 := (160, 62, [.ref l0, .ref l1, .int l2, .int l3, .int l4, .int l5, .null], [.int (M l1 (((41 : Int32) + l4) : Int32).toNatClampNeg), .int (xrem l5 (M (sh.2.2.2 l0 0) (0 : Int32).toNatClampNeg))], (sh, M, J))) f_160_61 rfl ?_
    refine ev_br (s1 := (160, 97, [.ref l0, .ref l1, .int l2, .int l3, .int l4, .int l5, .null], [], (sh, M, J))) (s2 := (160, 65, [.ref l0, .ref l1, .int l2, .int l3, .int l4, .int l5, .null], [], (sh, M, J))) f_160_62 rfl ?_ ?_
    · refine ev_nx (s1 := (160, 98, [.ref l0, .ref l1, .int l2, .int l3, .int l4, .int l5, .null], [.int 0], (sh, M, J))) f_160_97 rfl ?_
      refine ev_nx (s1 := (160, 100, [.ref l0, .ref l1, .int l2, .int l3, .int l4, .int l5, .int 0], [], (sh, M, J))) f_160_98 rfl ?_
      refine ev_nx (s1 := (160, 101, [.ref l0, .ref l1, .int l2, .int l3, .int l4, .int l5, .int 0], [.int l3], (sh, M, J))) f_160_100 rfl ?_
      refine ev_nx (s1 := (160, 103, [.ref l0, .ref l1, .int l2, .int l3, .int l4, .int l5, .int 0], [.int 0, .int l3], (sh, M, J))) f_160_101 rfl ?_
      refine ev_bt (s1 := (160, 113, [.ref l0, .ref l1, .int l2, .int l3, .int l4, .int l5, .int 0], [.int l3], (sh, M, J))) (s2 := (160, 106, [.ref l0, .ref l1, .int l2, .int l3, .int l4, .int l5, .int 0], [.int l3], (sh, M, J))) f_160_103 rfl rfl ?_
      refine ev_nx (s1 := (160, 114, [.ref l0, .ref l1, .int l2, .int l3, .int l4, .int l5, .int 0], [.int 0, .int l3], (sh, M, J))) f_160_113 rfl ?_
      refine ev_nx (s1 := (160, 115, [.ref l0, .ref l1, .int l2, .int l3, .int l4, .int l5, .int 0], [.int (l3 ||| 0)], (sh, M, J))) f_160_114 rfl ?_
      refine ev_nx (s1 := (160, 116, [.ref l0, .ref l1, .int l2, .int (l3 ||| 0), .int l4, .int l5, .int 0], [], (sh, M, J))) f_160_115 rfl ?_
      refine ev_nx (s1 := (160, 119, [.ref l0, .ref l1, .int l2, .int (l3 ||| 0), .int l4, .int (l5 + 1), .int 0], [], (sh, M, J))) f_160_116 rfl ?_
      refine ev_nx (s1 := (160, 25, [.ref l0, .ref l1, .int l2, .int (l3 ||| 0), .int l4, .int (l5 + 1), .int 0], [], (sh, M, J))) f_160_119 rfl ?_
      exact (ev_kill hd_160_25).symm
    · refine ev_nx (s1 := (160, 66, [.ref l0, .ref l1, .int l2, .int l3, .int l4, .int l5, .null], [.ref l0], (sh, M, J))) f_160_65 rfl ?_
      refine ev_nx (s1 := (160, 68, [.ref l0, .ref l1, .int l2, .int l3, .int l4, .int l5, .null], [.int l5, .ref l0], (sh, M, J))) f_160_66 rfl ?_
      refine ev_nx (s1 := (160, 69, [.ref l0, .ref l1, .int l2, .int l3, .int l4, .int l5, .null], [.int l2, .int l5, .ref l0], (sh, M, J))) f_160_68 rfl ?_
      exact ev_ca (cc := (decide ((sh.2.2.1 l0).1 = 9) && true)) (s1 := (159, 0, [.ref l0, .int l5, .int l2, .null, .null], [], (sh, M, J))) (k := (160, 72, [.ref l0, .ref l1, .int l2, .int l3, .int l4, .int l5, .null], [])) f_160_69 rfl
theorem b_R_shown_72 (sh : xSh) (M : Nat → Nat → Int32) (J : Nat → Nat → Int64) (l0 : Nat) (l1 : Nat) (l2 : Int32) (l3 : Int32) (l4 : Int32) (l5 : Int32) (k0 : Int32) : ev (160, 72, [.ref l0, .ref l1, .int l2, .int l3, .int l4, .int l5, .null], [.int k0], (sh, M, J)) = (bif decide ((sh.2.2.1 l0).1 = 9) then bif (decide ((sh.2.2.1 (sh.2.2.2 l0 0)).1 = 11) && xin ((20 : Int32) + l4) (sh.2.2.1 (sh.2.2.2 l0 0)).2) then (ev (132, 0, [.long (k0 : Int32).toInt64, .null, .long 0, .null, .long (((M (sh.2.2.2 l0 0) (((20 : Int32) + l4) : Int32).toNatClampNeg) - 1) : Int32).toInt64, .null], [], (sh, M, J))).bind (fun r => ev (160, 90, [.ref l0, .ref l1, .int l2, .int l3, .int l4, .int l5, .null], r.1.toList ++ [], r.2)) else none else none) := by
  refine ev_nx (s1 := (160, 73, [.ref l0, .ref l1, .int l2, .int l3, .int l4, .int l5, .null], [.long (k0 : Int32).toInt64], (sh, M, J))) f_160_72 rfl ?_
  refine ev_nx (s1 := (160, 74, [.ref l0, .ref l1, .int l2, .int l3, .int l4, .int l5, .null], [.long 0, .long (k0 : Int32).toInt64], (sh, M, J))) f_160_73 rfl ?_
  refine ev_nx (s1 := (160, 75, [.ref l0, .ref l1, .int l2, .int l3, .int l4, .int l5, .null], [.ref l0, .long 0, .long (k0 : Int32).toInt64], (sh, M, J))) f_160_74 rfl ?_
  refine ev_gd (s1 := (160, 78, [.ref l0, .ref l1, .int l2, .int l3, .int l4, .int l5, .null], [.ref (sh.2.2.2 l0 0), .long 0, .long (k0 : Int32).toInt64], (sh, M, J))) f_160_75 rfl ?_
  refine ev_nx (s1 := (160, 80, [.ref l0, .ref l1, .int l2, .int l3, .int l4, .int l5, .null], [.int 20, .ref (sh.2.2.2 l0 0), .long 0, .long (k0 : Int32).toInt64], (sh, M, J))) f_160_78 rfl ?_
  refine ev_nx (s1 := (160, 82, [.ref l0, .ref l1, .int l2, .int l3, .int l4, .int l5, .null], [.int l4, .int 20, .ref (sh.2.2.2 l0 0), .long 0, .long (k0 : Int32).toInt64], (sh, M, J))) f_160_80 rfl ?_
  refine ev_nx (s1 := (160, 83, [.ref l0, .ref l1, .int l2, .int l3, .int l4, .int l5, .null], [.int ((20 : Int32) + l4), .ref (sh.2.2.2 l0 0), .long 0, .long (k0 : Int32).toInt64], (sh, M, J))) f_160_82 rfl ?_
  refine ev_gd (s1 := (160, 84, [.ref l0, .ref l1, .int l2, .int l3, .int l4, .int l5, .null], [.int (M (sh.2.2.2 l0 0) (((20 : Int32) + l4) : Int32).toNatClampNeg), .long 0, .long (k0 : Int32).toInt64], (sh, M, J))) f_160_83 rfl ?_
  refine ev_nx (s1 := (160, 85, [.ref l0, .ref l1, .int l2, .int l3, .int l4, .int l5, .null], [.int 1, .int (M (sh.2.2.2 l0 0) (((20 : Int32) + l4) : Int32).toNatClampNeg), .long 0, .long (k0 : Int32).toInt64], (sh, M, J))) f_160_84 rfl ?_
  refine ev_nx (s1 := (160, 86, [.ref l0, .ref l1, .int l2, .int l3, .int l4, .int l5, .null], [.int ((M (sh.2.2.2 l0 0) (((20 : Int32) + l4) : Int32).toNatClampNeg) - 1), .long 0, .long (k0 : Int32).toInt64], (sh, M, J))) f_160_85 rfl ?_
  refine ev_nx (s1 := (160, 87, [.ref l0, .ref l1, .int l2, .int l3, .int l4, .int l5, .null], [.long (((M (sh.2.2.2 l0 0) (((20 : Int32) + l4) : Int32).toNatClampNeg) - 1) : Int32).toInt64, .long 0, .long (k0 : Int32).toInt64], (sh, M, J))) f_160_86 rfl ?_
  exact ev_c1 (s1 := (132, 0, [.long (k0 : Int32).toInt64, .null, .long 0, .null, .long (((M (sh.2.2.2 l0 0) (((20 : Int32) + l4) : Int32).toNatClampNeg) - 1) : Int32).toInt64, .null], [], (sh, M, J))) (k := (160, 90, [.ref l0, .ref l1, .int l2, .int l3, .int l4, .int l5, .null], [])) f_160_87 rfl
theorem b_R_shown_90 (sh : xSh) (M : Nat → Nat → Int32) (J : Nat → Nat → Int64) (l0 : Nat) (l1 : Nat) (l2 : Int32) (l3 : Int32) (l4 : Int32) (l5 : Int32) (k0 : Int32) : ev (160, 90, [.ref l0, .ref l1, .int l2, .int l3, .int l4, .int l5, .null], [.int k0], (sh, M, J)) = (bif decide (k0 = 0) then ev (160, 25, [.ref l0, .ref l1, .int l2, .int (l3 ||| 0), .int l4, .int (l5 + 1), .null], [], (sh, M, J)) else ev (160, 25, [.ref l0, .ref l1, .int l2, .int (l3 ||| ((1 : Int32) <<< (l4 &&& 31))), .int l4, .int (l5 + 1), .null], [], (sh, M, J))) := by
  refine ev_br (s1 := (160, 97, [.ref l0, .ref l1, .int l2, .int l3, .int l4, .int l5, .null], [], (sh, M, J))) (s2 := (160, 93, [.ref l0, .ref l1, .int l2, .int l3, .int l4, .int l5, .null], [], (sh, M, J))) f_160_90 rfl ?_ ?_
  · refine ev_nx (s1 := (160, 98, [.ref l0, .ref l1, .int l2, .int l3, .int l4, .int l5, .null], [.int 0], (sh, M, J))) f_160_97 rfl ?_
    refine ev_nx (s1 := (160, 100, [.ref l0, .ref l1, .int l2, .int l3, .int l4, .int l5, .int 0], [], (sh, M, J))) f_160_98 rfl ?_
    refine ev_nx (s1 := (160, 101, [.ref l0, .ref l1, .int l2, .int l3, .int l4, .int l5, .int 0], [.int l3], (sh, M, J))) f_160_100 rfl ?_
    refine ev_nx (s1 := (160, 103, [.ref l0, .ref l1, .int l2, .int l3, .int l4, .int l5, .int 0], [.int 0, .int l3], (sh, M, J))) f_160_101 rfl ?_
    refine ev_bt (s1 := (160, 113, [.ref l0, .ref l1, .int l2, .int l3, .int l4, .int l5, .int 0], [.int l3], (sh, M, J))) (s2 := (160, 106, [.ref l0, .ref l1, .int l2, .int l3, .int l4, .int l5, .int 0], [.int l3], (sh, M, J))) f_160_103 rfl rfl ?_
    refine ev_nx (s1 := (160, 114, [.ref l0, .ref l1, .int l2, .int l3, .int l4, .int l5, .int 0], [.int 0, .int l3], (sh, M, J))) f_160_113 rfl ?_
    refine ev_nx (s1 := (160, 115, [.ref l0, .ref l1, .int l2, .int l3, .int l4, .int l5, .int 0], [.int (l3 ||| 0)], (sh, M, J))) f_160_114 rfl ?_
    refine ev_nx (s1 := (160, 116, [.ref l0, .ref l1, .int l2, .int (l3 ||| 0), .int l4, .int l5, .int 0], [], (sh, M, J))) f_160_115 rfl ?_
    refine ev_nx (s1 := (160, 119, [.ref l0, .ref l1, .int l2, .int (l3 ||| 0), .int l4, .int (l5 + 1), .int 0], [], (sh, M, J))) f_160_116 rfl ?_
    refine ev_nx (s1 := (160, 25, [.ref l0, .ref l1, .int l2, .int (l3 ||| 0), .int l4, .int (l5 + 1), .int 0], [], (sh, M, J))) f_160_119 rfl ?_
    exact (ev_kill hd_160_25).symm
  · refine ev_nx (s1 := (160, 94, [.ref l0, .ref l1, .int l2, .int l3, .int l4, .int l5, .null], [.int 1], (sh, M, J))) f_160_93 rfl ?_
    refine ev_nx (s1 := (160, 98, [.ref l0, .ref l1, .int l2, .int l3, .int l4, .int l5, .null], [.int 1], (sh, M, J))) f_160_94 rfl ?_
    refine ev_nx (s1 := (160, 100, [.ref l0, .ref l1, .int l2, .int l3, .int l4, .int l5, .int 1], [], (sh, M, J))) f_160_98 rfl ?_
    refine ev_nx (s1 := (160, 101, [.ref l0, .ref l1, .int l2, .int l3, .int l4, .int l5, .int 1], [.int l3], (sh, M, J))) f_160_100 rfl ?_
    refine ev_nx (s1 := (160, 103, [.ref l0, .ref l1, .int l2, .int l3, .int l4, .int l5, .int 1], [.int 1, .int l3], (sh, M, J))) f_160_101 rfl ?_
    refine ev_bf (s1 := (160, 113, [.ref l0, .ref l1, .int l2, .int l3, .int l4, .int l5, .int 1], [.int l3], (sh, M, J))) (s2 := (160, 106, [.ref l0, .ref l1, .int l2, .int l3, .int l4, .int l5, .int 1], [.int l3], (sh, M, J))) f_160_103 rfl rfl ?_
    refine ev_nx (s1 := (160, 107, [.ref l0, .ref l1, .int l2, .int l3, .int l4, .int l5, .int 1], [.int 1, .int l3], (sh, M, J))) f_160_106 rfl ?_
    refine ev_nx (s1 := (160, 109, [.ref l0, .ref l1, .int l2, .int l3, .int l4, .int l5, .int 1], [.int l4, .int 1, .int l3], (sh, M, J))) f_160_107 rfl ?_
    refine ev_nx (s1 := (160, 110, [.ref l0, .ref l1, .int l2, .int l3, .int l4, .int l5, .int 1], [.int ((1 : Int32) <<< (l4 &&& 31)), .int l3], (sh, M, J))) f_160_109 rfl ?_
    refine ev_nx (s1 := (160, 114, [.ref l0, .ref l1, .int l2, .int l3, .int l4, .int l5, .int 1], [.int ((1 : Int32) <<< (l4 &&& 31)), .int l3], (sh, M, J))) f_160_110 rfl ?_
    refine ev_nx (s1 := (160, 115, [.ref l0, .ref l1, .int l2, .int l3, .int l4, .int l5, .int 1], [.int (l3 ||| ((1 : Int32) <<< (l4 &&& 31)))], (sh, M, J))) f_160_114 rfl ?_
    refine ev_nx (s1 := (160, 116, [.ref l0, .ref l1, .int l2, .int (l3 ||| ((1 : Int32) <<< (l4 &&& 31))), .int l4, .int l5, .int 1], [], (sh, M, J))) f_160_115 rfl ?_
    refine ev_nx (s1 := (160, 119, [.ref l0, .ref l1, .int l2, .int (l3 ||| ((1 : Int32) <<< (l4 &&& 31))), .int l4, .int (l5 + 1), .int 1], [], (sh, M, J))) f_160_116 rfl ?_
    refine ev_nx (s1 := (160, 25, [.ref l0, .ref l1, .int l2, .int (l3 ||| ((1 : Int32) <<< (l4 &&& 31))), .int l4, .int (l5 + 1), .int 1], [], (sh, M, J))) f_160_119 rfl ?_
    exact (ev_kill hd_160_25).symm
theorem f_161_0 : xfind (xnth xTs 161) 0 = some (0, .iconst 0, 1, (0, 0, 0, 0), (.int 0), [], 0, 0, []) := rfl
theorem f_161_1 : xfind (xnth xTs 161) 1 = some (1, .istore_n 3, 1, (0, 0, 0, 0), .null, [], 0, 0, []) := rfl
theorem f_161_2 : xfind (xnth xTs 161) 2 = some (2, .iload_n 3, 1, (0, 0, 0, 0), .null, [], 0, 1, []) := rfl
theorem f_161_3 : xfind (xnth xTs 161) 3 = some (3, .aload_n 0, 1, (0, 0, 0, 0), .null, [], 0, 0, []) := rfl
theorem f_161_4 : xfind (xnth xTs 161) 4 = some (4, .invokevirtual 156, 3, (151, 0, 9, 1), .null, [], 1061, 0, []) := rfl
theorem f_161_7 : xfind (xnth xTs 161) 7 = some (7, .if_icmp .ge 34, 3, (0, 0, 0, 0), .null, [], 0, 0, []) := rfl
theorem f_161_10 : xfind (xnth xTs 161) 10 = some (10, .aload_n 1, 1, (0, 0, 0, 0), .null, [], 0, 0, []) := rfl
theorem f_161_11 : xfind (xnth xTs 161) 11 = some (11, .bipush 20, 2, (0, 0, 0, 0), (.int 20), [], 0, 0, []) := rfl
theorem f_161_13 : xfind (xnth xTs 161) 13 = some (13, .iaload, 1, (0, 0, 0, 0), .null, [], 0, 0, []) := rfl
theorem f_161_14 : xfind (xnth xTs 161) 14 = some (14, .iload_n 3, 1, (0, 0, 0, 0), .null, [], 0, 0, []) := rfl
theorem f_161_15 : xfind (xnth xTs 161) 15 = some (15, .invokestatic 137, 3, (133, 2, 9, 2), .null, [], 1034, 0, []) := rfl
theorem f_161_18 : xfind (xnth xTs 161) 18 = some (18, .ifCond .eq 17, 3, (0, 0, 0, 0), .null, [], 0, 0, []) := rfl
theorem f_161_21 : xfind (xnth xTs 161) 21 = some (21, .iload_n 3, 1, (0, 0, 0, 0), .null, [], 0, 0, []) := rfl
theorem f_161_22 : xfind (xnth xTs 161) 22 = some (22, .aload_n 0, 1, (0, 0, 0, 0), .null, [], 0, 0, []) := rfl
theorem f_161_23 : xfind (xnth xTs 161) 23 = some (23, .getfield 7, 3, (9, 0, 1, 0), .null, [], 909, 0, []) := rfl
theorem f_161_26 : xfind (xnth xTs 161) 26 = some (26, .iconst 0, 1, (0, 0, 0, 0), (.int 0), [], 0, 0, []) := rfl
theorem f_161_27 : xfind (xnth xTs 161) 27 = some (27, .iaload, 1, (0, 0, 0, 0), .null, [], 0, 0, []) := rfl
theorem f_161_28 : xfind (xnth xTs 161) 28 = some (28, .irem, 1, (0, 0, 0, 0), .null, [], 0, 0, []) := rfl
theorem f_161_29 : xfind (xnth xTs 161) 29 = some (29, .iload_n 2, 1, (0, 0, 0, 0), .null, [], 0, 0, []) := rfl
theorem f_161_30 : xfind (xnth xTs 161) 30 = some (30, .if_icmp .ne 5, 3, (0, 0, 0, 0), .null, [], 0, 0, []) := rfl
theorem f_161_33 : xfind (xnth xTs 161) 33 = some (33, .iload_n 3, 1, (0, 0, 0, 0), .null, [], 0, 0, []) := rfl
theorem f_161_34 : xfind (xnth xTs 161) 34 = some (34, .ireturn, 1, (0, 0, 0, 0), .null, [], 0, 0, []) := rfl
theorem f_161_35 : xfind (xnth xTs 161) 35 = some (35, .iinc 3 1, 3, (0, 0, 0, 0), .null, [], 0, 0, []) := rfl
theorem f_161_38 : xfind (xnth xTs 161) 38 = some (38, .goto (-36), 3, (0, 0, 0, 0), .null, [], 0, 0, []) := rfl
theorem f_161_41 : xfind (xnth xTs 161) 41 = some (41, .iconst (-1), 1, (0, 0, 0, 0), (.int (-1)), [], 0, 0, []) := rfl
theorem f_161_42 : xfind (xnth xTs 161) 42 = some (42, .ireturn, 1, (0, 0, 0, 0), .null, [], 0, 0, []) := rfl
theorem hd_161_2 : xhead 161 2 = some [] := rfl
theorem b_R_holeOf_0 (sh : xSh) (M : Nat → Nat → Int32) (J : Nat → Nat → Int64) (l0 : Nat) (l1 : Nat) (l2 : Int32) : ev (161, 0, [.ref l0, .ref l1, .int l2, .null], [], (sh, M, J)) = (ev (161, 2, [.ref l0, .ref l1, .int l2, .int 0], [], (sh, M, J))) := by
  refine ev_nx (s1 := (161, 1, [.ref l0, .ref l1, .int l2, .null], [.int 0], (sh, M, J))) f_161_0 rfl ?_
  refine ev_nx (s1 := (161, 2, [.ref l0, .ref l1, .int l2, .int 0], [], (sh, M, J))) f_161_1 rfl ?_
  exact rfl
theorem b_R_holeOf_2 (sh : xSh) (M : Nat → Nat → Int32) (J : Nat → Nat → Int64) (l0 : Nat) (l1 : Nat) (l2 : Int32) (l3 : Int32) : ev (161, 2, [.ref l0, .ref l1, .int l2, .int l3], [], (sh, M, J)) = (bif (decide ((sh.2.2.1 l0).1 = 9) && true) then (ev (151, 0, [.ref l0], [], (sh, M, J))).bind (fun r => ev (161, 7, [.ref l0, .ref l1, .int l2, .int l3], r.1.toList ++ [.int l3], r.2)) else none) := by
  refine ev_nx (s1 := (161, 3, [.ref l0, .ref l1, .int l2, .int l3], [.int l3], (sh, M, J))) f_161_2 rfl ?_
  refine ev_nx (s1 := (161, 4, [.ref l0, .ref l1, .int l2, .int l3], [.ref l0, .int l3], (sh, M, J))) f_161_3 rfl ?_
  exact ev_ca (cc := (decide ((sh.2.2.1 l0).1 = 9) && true)) (s1 := (151, 0, [.ref l0], [], (sh, M, J))) (k := (161, 7, [.ref l0, .ref l1, .int l2, .int l3], [.int l3])) f_161_4 rfl
theorem b_R_holeOf_7 (sh : xSh) (M : Nat → Nat → Int32) (J : Nat → Nat → Int64) (l0 : Nat) (l1 : Nat) (l2 : Int32) (l3 : Int32) (k0 : Int32) (k1 : Int32) : ev (161, 7, [.ref l0, .ref l1, .int l2, .int l3], [.int k0, .int k1], (sh, M, J)) = (bif decide (k0 ≤ k1) then some (some (.int (-1)), (sh, M, J)) else bif (decide ((sh.2.2.1 l1).1 = 11) && xin 20 (sh.2.2.1 l1).2) then (ev (133, 0, [.int (M l1 (20 : Int32).toNatClampNeg), .int l3], [], (sh, M, J))).bind (fun r => ev (161, 18, [.ref l0, .ref l1, .int l2, .int l3], r.1.toList ++ [], r.2)) else none) := by
  refine ev_br (s1 := (161, 41, [.ref l0, .ref l1, .int l2, .int l3], [], (sh, M, J))) (s2 := (161, 10, [.ref l0, .ref l1, .int l2, .int l3], [], (sh, M, J))) f_161_7 rfl ?_ ?_
  · refine ev_nx (s1 := (161, 42, [.ref l0, .ref l1, .int l2, .int l3], [.int (-1)], (sh, M, J))) f_161_41 rfl ?_
    exact ev_r1 f_161_42 rfl
  · refine ev_nx (s1 := (161, 11, [.ref l0, .ref l1, .int l2, .int l3], [.ref l1], (sh, M, J))) f_161_10 rfl ?_
    refine ev_nx (s1 := (161, 13, [.ref l0, .ref l1, .int l2, .int l3], [.int 20, .ref l1], (sh, M, J))) f_161_11 rfl ?_
    refine ev_gd (s1 := (161, 14, [.ref l0, .ref l1, .int l2, .int l3], [.int (M l1 (20 : Int32).toNatClampNeg)], (sh, M, J))) f_161_13 rfl ?_
    refine ev_nx (s1 := (161, 15, [.ref l0, .ref l1, .int l2, .int l3], [.int l3, .int (M l1 (20 : Int32).toNatClampNeg)], (sh, M, J))) f_161_14 rfl ?_
    exact ev_c1 (s1 := (133, 0, [.int (M l1 (20 : Int32).toNatClampNeg), .int l3], [], (sh, M, J))) (k := (161, 18, [.ref l0, .ref l1, .int l2, .int l3], [])) f_161_15 rfl
theorem b_R_holeOf_18 (sh : xSh) (M : Nat → Nat → Int32) (J : Nat → Nat → Int64) (l0 : Nat) (l1 : Nat) (l2 : Int32) (l3 : Int32) (k0 : Int32) : ev (161, 18, [.ref l0, .ref l1, .int l2, .int l3], [.int k0], (sh, M, J)) = (bif decide (k0 = 0) then ev (161, 2, [.ref l0, .ref l1, .int l2, .int (l3 + 1)], [], (sh, M, J)) else bif decide ((sh.2.2.1 l0).1 = 9) then bif (decide ((sh.2.2.1 (sh.2.2.2 l0 0)).1 = 11) && xin 0 (sh.2.2.1 (sh.2.2.2 l0 0)).2) then bif !decide ((M (sh.2.2.2 l0 0) (0 : Int32).toNatClampNeg) = 0) then bif !decide ((xrem l3 (M (sh.2.2.2 l0 0) (0 : Int32).toNatClampNeg)) = l2) then ev (161, 2, [.ref l0, .ref l1, .int l2, .int (l3 + 1)], [], (sh, M, J)) else some (some (.int l3), (sh, M, J)) else none else none else none) := by
  refine ev_br (s1 := (161, 35, [.ref l0, .ref l1, .int l2, .int l3], [], (sh, M, J))) (s2 := (161, 21, [.ref l0, .ref l1, .int l2, .int l3], [], (sh, M, J))) f_161_18 rfl ?_ ?_
  · refine ev_nx (s1 := (161, 38, [.ref l0, .ref l1, .int l2, .int (l3 + 1)], [], (sh, M, J))) f_161_35 rfl ?_
    refine ev_nx (s1 := (161, 2, [.ref l0, .ref l1, .int l2, .int (l3 + 1)], [], (sh, M, J))) f_161_38 rfl ?_
    exact rfl
  · refine ev_nx (s1 := (161, 22, [.ref l0, .ref l1, .int l2, .int l3], [.int l3], (sh, M, J))) f_161_21 rfl ?_
    refine ev_nx (s1 := (161, 23, [.ref l0, .ref l1, .int l2, .int l3], [.ref l0, .int l3], (sh, M, J))) f_161_22 rfl ?_
    refine ev_gd (s1 := (161, 26, [.ref l0, .ref l1, .int l2, .int l3], [.ref (sh.2.2.2 l0 0), .int l3], (sh, M, J))) f_161_23 rfl ?_
    refine ev_nx (s1 := (161, 27, [.ref l0, .ref l1, .int l2, .int l3], [.int 0, .ref (sh.2.2.2 l0 0), .int l3], (sh, M, J))) f_161_26 rfl ?_
    refine ev_gd (s1 := (161, 28, [.ref l0, .ref l1, .int l2, .int l3], [.int (M (sh.2.2.2 l0 0) (0 : Int32).toNatClampNeg), .int l3], (sh, M, J))) f_161_27 rfl ?_
    refine ev_gd (s1 := (161, 29, [.ref l0, .ref l1, .int l2, .int l3], [.int (xrem l3 (M (sh.2.2.2 l0 0) (0 : Int32).toNatClampNeg))], (sh, M, J))) f_161_28 rfl ?_
    refine ev_nx (s1 := (161, 30, [.ref l0, .ref l1, .int l2, .int l3], [.int l2, .int (xrem l3 (M (sh.2.2.2 l0 0) (0 : Int32).toNatClampNeg))], (sh, M, J))) f_161_29 rfl ?_
    refine ev_br (s1 := (161, 35, [.ref l0, .ref l1, .int l2, .int l3], [], (sh, M, J))) (s2 := (161, 33, [.ref l0, .ref l1, .int l2, .int l3], [], (sh, M, J))) f_161_30 rfl ?_ ?_
    · refine ev_nx (s1 := (161, 38, [.ref l0, .ref l1, .int l2, .int (l3 + 1)], [], (sh, M, J))) f_161_35 rfl ?_
      refine ev_nx (s1 := (161, 2, [.ref l0, .ref l1, .int l2, .int (l3 + 1)], [], (sh, M, J))) f_161_38 rfl ?_
      exact rfl
    · refine ev_nx (s1 := (161, 34, [.ref l0, .ref l1, .int l2, .int l3], [.int l3], (sh, M, J))) f_161_33 rfl ?_
      exact ev_r1 f_161_34 rfl
theorem f_162_0 : xfind (xnth xTs 162) 0 = some (0, .aload_n 0, 1, (0, 0, 0, 0), .null, [], 0, 0, []) := rfl
theorem f_162_1 : xfind (xnth xTs 162) 1 = some (1, .aload_n 1, 1, (0, 0, 0, 0), .null, [], 0, 0, []) := rfl
theorem f_162_2 : xfind (xnth xTs 162) 2 = some (2, .invokevirtual 177, 3, (160, 1, 9, 7), .null, [], 1053, 0, []) := rfl
theorem f_162_5 : xfind (xnth xTs 162) 5 = some (5, .istore_n 2, 1, (0, 0, 0, 0), .null, [], 0, 0, []) := rfl
theorem f_162_6 : xfind (xnth xTs 162) 6 = some (6, .iconst 0, 1, (0, 0, 0, 0), (.int 0), [], 0, 0, []) := rfl
theorem f_162_7 : xfind (xnth xTs 162) 7 = some (7, .istore_n 3, 1, (0, 0, 0, 0), .null, [], 0, 0, []) := rfl
theorem f_162_8 : xfind (xnth xTs 162) 8 = some (8, .iload_n 3, 1, (0, 0, 0, 0), .null, [], 0, 1, [4]) := rfl
theorem f_162_9 : xfind (xnth xTs 162) 9 = some (9, .aload_n 0, 1, (0, 0, 0, 0), .null, [], 0, 0, []) := rfl
theorem f_162_10 : xfind (xnth xTs 162) 10 = some (10, .getfield 7, 3, (9, 0, 1, 0), .null, [], 909, 0, []) := rfl
theorem f_162_13 : xfind (xnth xTs 162) 13 = some (13, .iconst 2, 1, (0, 0, 0, 0), (.int 2), [], 0, 0, []) := rfl
theorem f_162_14 : xfind (xnth xTs 162) 14 = some (14, .iaload, 1, (0, 0, 0, 0), .null, [], 0, 0, []) := rfl
theorem f_162_15 : xfind (xnth xTs 162) 15 = some (15, .if_icmp .ge 111, 3, (0, 0, 0, 0), .null, [], 0, 0, []) := rfl
theorem f_162_18 : xfind (xnth xTs 162) 18 = some (18, .aload_n 0, 1, (0, 0, 0, 0), .null, [], 0, 0, []) := rfl
theorem f_162_19 : xfind (xnth xTs 162) 19 = some (19, .aload_n 1, 1, (0, 0, 0, 0), .null, [], 0, 0, []) := rfl
theorem f_162_20 : xfind (xnth xTs 162) 20 = some (20, .aload_n 1, 1, (0, 0, 0, 0), .null, [], 0, 0, []) := rfl
theorem f_162_21 : xfind (xnth xTs 162) 21 = some (21, .bipush 41, 2, (0, 0, 0, 0), (.int 41), [], 0, 0, []) := rfl
theorem f_162_23 : xfind (xnth xTs 162) 23 = some (23, .iload_n 3, 1, (0, 0, 0, 0), .null, [], 0, 0, []) := rfl
theorem f_162_24 : xfind (xnth xTs 162) 24 = some (24, .iadd, 1, (0, 0, 0, 0), .null, [], 0, 0, []) := rfl
theorem f_162_25 : xfind (xnth xTs 162) 25 = some (25, .iaload, 1, (0, 0, 0, 0), .null, [], 0, 0, []) := rfl
theorem f_162_26 : xfind (xnth xTs 162) 26 = some (26, .invokevirtual 180, 3, (161, 2, 9, 4), .null, [], 1128, 0, []) := rfl
theorem f_162_29 : xfind (xnth xTs 162) 29 = some (29, .istore 4, 2, (0, 0, 0, 0), .null, [], 0, 0, []) := rfl
theorem f_162_31 : xfind (xnth xTs 162) 31 = some (31, .iload_n 2, 1, (0, 0, 0, 0), .null, [], 0, 0, []) := rfl
theorem f_162_32 : xfind (xnth xTs 162) 32 = some (32, .iload_n 3, 1, (0, 0, 0, 0), .null, [], 0, 0, []) := rfl
theorem f_162_33 : xfind (xnth xTs 162) 33 = some (33, .invokestatic 137, 3, (133, 2, 9, 2), .null, [], 1034, 0, []) := rfl
theorem f_162_36 : xfind (xnth xTs 162) 36 = some (36, .ifCond .eq 25, 3, (0, 0, 0, 0), .null, [], 0, 0, []) := rfl
theorem f_162_39 : xfind (xnth xTs 162) 39 = some (39, .aload_n 1, 1, (0, 0, 0, 0), .null, [], 0, 0, []) := rfl
theorem f_162_40 : xfind (xnth xTs 162) 40 = some (40, .bipush 51, 2, (0, 0, 0, 0), (.int 51), [], 0, 0, []) := rfl
theorem f_162_42 : xfind (xnth xTs 162) 42 = some (42, .iload_n 3, 1, (0, 0, 0, 0), .null, [], 0, 0, []) := rfl
theorem f_162_43 : xfind (xnth xTs 162) 43 = some (43, .iadd, 1, (0, 0, 0, 0), .null, [], 0, 0, []) := rfl
theorem f_162_44 : xfind (xnth xTs 162) 44 = some (44, .iaload, 1, (0, 0, 0, 0), .null, [], 0, 0, []) := rfl
theorem f_162_45 : xfind (xnth xTs 162) 45 = some (45, .ifCond .ne 16, 3, (0, 0, 0, 0), .null, [], 0, 0, []) := rfl
theorem f_162_48 : xfind (xnth xTs 162) 48 = some (48, .aload_n 1, 1, (0, 0, 0, 0), .null, [], 0, 0, []) := rfl
theorem f_162_49 : xfind (xnth xTs 162) 49 = some (49, .bipush 56, 2, (0, 0, 0, 0), (.int 56), [], 0, 0, []) := rfl
theorem f_162_51 : xfind (xnth xTs 162) 51 = some (51, .iload_n 3, 1, (0, 0, 0, 0), .null, [], 0, 0, []) := rfl
theorem f_162_52 : xfind (xnth xTs 162) 52 = some (52, .iadd, 1, (0, 0, 0, 0), .null, [], 0, 0, []) := rfl
theorem f_162_53 : xfind (xnth xTs 162) 53 = some (53, .dup2, 1, (0, 0, 0, 0), .null, [], 0, 0, []) := rfl
theorem f_162_54 : xfind (xnth xTs 162) 54 = some (54, .iaload, 1, (0, 0, 0, 0), .null, [], 0, 0, []) := rfl
theorem f_162_55 : xfind (xnth xTs 162) 55 = some (55, .iconst 1, 1, (0, 0, 0, 0), (.int 1), [], 0, 0, []) := rfl
theorem f_162_56 : xfind (xnth xTs 162) 56 = some (56, .iadd, 1, (0, 0, 0, 0), .null, [], 0, 0, []) := rfl
theorem f_162_57 : xfind (xnth xTs 162) 57 = some (57, .iastore, 1, (0, 0, 0, 0), .null, [], 0, 0, []) := rfl
theorem f_162_58 : xfind (xnth xTs 162) 58 = some (58, .goto 62, 3, (0, 0, 0, 0), .null, [], 0, 0, []) := rfl
theorem f_162_61 : xfind (xnth xTs 162) 61 = some (61, .iload_n 2, 1, (0, 0, 0, 0), .null, [], 0, 0, []) := rfl
theorem f_162_62 : xfind (xnth xTs 162) 62 = some (62, .iload_n 3, 1, (0, 0, 0, 0), .null, [], 0, 0, []) := rfl
theorem f_162_63 : xfind (xnth xTs 162) 63 = some (63, .invokestatic 137, 3, (133, 2, 9, 2), .null, [], 1034, 0, []) := rfl
theorem f_162_66 : xfind (xnth xTs 162) 66 = some (66, .ifCond .eq 54, 3, (0, 0, 0, 0), .null, [], 0, 0, []) := rfl
theorem f_162_69 : xfind (xnth xTs 162) 69 = some (69, .iload 4, 2, (0, 0, 0, 0), .null, [], 0, 0, []) := rfl
theorem f_162_71 : xfind (xnth xTs 162) 71 = some (71, .ifCond .lt 49, 3, (0, 0, 0, 0), .null, [], 0, 0, []) := rfl
theorem f_162_74 : xfind (xnth xTs 162) 74 = some (74, .aload_n 1, 1, (0, 0, 0, 0), .null, [], 0, 0, []) := rfl
theorem f_162_75 : xfind (xnth xTs 162) 75 = some (75, .bipush 51, 2, (0, 0, 0, 0), (.int 51), [], 0, 0, []) := rfl
theorem f_162_77 : xfind (xnth xTs 162) 77 = some (77, .iload_n 3, 1, (0, 0, 0, 0), .null, [], 0, 0, []) := rfl
theorem f_162_78 : xfind (xnth xTs 162) 78 = some (78, .iadd, 1, (0, 0, 0, 0), .null, [], 0, 0, []) := rfl
theorem f_162_79 : xfind (xnth xTs 162) 79 = some (79, .dup2, 1, (0, 0, 0, 0), .null, [], 0, 0, []) := rfl
theorem f_162_80 : xfind (xnth xTs 162) 80 = some (80, .iaload, 1, (0, 0, 0, 0), .null, [], 0, 0, []) := rfl
theorem f_162_81 : xfind (xnth xTs 162) 81 = some (81, .iconst 1, 1, (0, 0, 0, 0), (.int 1), [], 0, 0, []) := rfl
theorem f_162_82 : xfind (xnth xTs 162) 82 = some (82, .isub, 1, (0, 0, 0, 0), .null, [], 0, 0, []) := rfl
theorem f_162_83 : xfind (xnth xTs 162) 83 = some (83, .iastore, 1, (0, 0, 0, 0), .null, [], 0, 0, []) := rfl
theorem f_162_84 : xfind (xnth xTs 162) 84 = some (84, .aload_n 1, 1, (0, 0, 0, 0), .null, [], 0, 0, []) := rfl
theorem f_162_85 : xfind (xnth xTs 162) 85 = some (85, .iconst 0, 1, (0, 0, 0, 0), (.int 0), [], 0, 0, []) := rfl
theorem f_162_86 : xfind (xnth xTs 162) 86 = some (86, .iload 4, 2, (0, 0, 0, 0), .null, [], 0, 0, []) := rfl
theorem f_162_88 : xfind (xnth xTs 162) 88 = some (88, .iadd, 1, (0, 0, 0, 0), .null, [], 0, 0, []) := rfl
theorem f_162_89 : xfind (xnth xTs 162) 89 = some (89, .aload_n 1, 1, (0, 0, 0, 0), .null, [], 0, 0, []) := rfl
theorem f_162_90 : xfind (xnth xTs 162) 90 = some (90, .bipush 46, 2, (0, 0, 0, 0), (.int 46), [], 0, 0, []) := rfl
theorem f_162_92 : xfind (xnth xTs 162) 92 = some (92, .iload_n 3, 1, (0, 0, 0, 0), .null, [], 0, 0, []) := rfl
theorem f_162_93 : xfind (xnth xTs 162) 93 = some (93, .iadd, 1, (0, 0, 0, 0), .null, [], 0, 0, []) := rfl
theorem f_162_94 : xfind (xnth xTs 162) 94 = some (94, .iaload, 1, (0, 0, 0, 0), .null, [], 0, 0, []) := rfl
theorem f_162_95 : xfind (xnth xTs 162) 95 = some (95, .iastore, 1, (0, 0, 0, 0), .null, [], 0, 0, []) := rfl
theorem f_162_96 : xfind (xnth xTs 162) 96 = some (96, .aload_n 1, 1, (0, 0, 0, 0), .null, [], 0, 0, []) := rfl
theorem f_162_97 : xfind (xnth xTs 162) 97 = some (97, .bipush 20, 2, (0, 0, 0, 0), (.int 20), [], 0, 0, []) := rfl
theorem f_162_99 : xfind (xnth xTs 162) 99 = some (99, .dup2, 1, (0, 0, 0, 0), .null, [], 0, 0, []) := rfl
theorem f_162_100 : xfind (xnth xTs 162) 100 = some (100, .iaload, 1, (0, 0, 0, 0), .null, [], 0, 0, []) := rfl
theorem f_162_101 : xfind (xnth xTs 162) 101 = some (101, .iconst 1, 1, (0, 0, 0, 0), (.int 1), [], 0, 0, []) := rfl
theorem f_162_102 : xfind (xnth xTs 162) 102 = some (102, .iload 4, 2, (0, 0, 0, 0), .null, [], 0, 0, []) := rfl
theorem f_162_104 : xfind (xnth xTs 162) 104 = some (104, .ishl, 1, (0, 0, 0, 0), .null, [], 0, 0, []) := rfl
theorem f_162_105 : xfind (xnth xTs 162) 105 = some (105, .iconst (-1), 1, (0, 0, 0, 0), (.int (-1)), [], 0, 0, []) := rfl
theorem f_162_106 : xfind (xnth xTs 162) 106 = some (106, .ixor, 1, (0, 0, 0, 0), .null, [], 0, 0, []) := rfl
theorem f_162_107 : xfind (xnth xTs 162) 107 = some (107, .iand, 1, (0, 0, 0, 0), .null, [], 0, 0, []) := rfl
theorem f_162_108 : xfind (xnth xTs 162) 108 = some (108, .iastore, 1, (0, 0, 0, 0), .null, [], 0, 0, []) := rfl
theorem f_162_109 : xfind (xnth xTs 162) 109 = some (109, .aload_n 1, 1, (0, 0, 0, 0), .null, [], 0, 0, []) := rfl
theorem f_162_110 : xfind (xnth xTs 162) 110 = some (110, .bipush 21, 2, (0, 0, 0, 0), (.int 21), [], 0, 0, []) := rfl
theorem f_162_112 : xfind (xnth xTs 162) 112 = some (112, .iload 4, 2, (0, 0, 0, 0), .null, [], 0, 0, []) := rfl
theorem f_162_114 : xfind (xnth xTs 162) 114 = some (114, .iadd, 1, (0, 0, 0, 0), .null, [], 0, 0, []) := rfl
theorem f_162_115 : xfind (xnth xTs 162) 115 = some (115, .dup2, 1, (0, 0, 0, 0), .null, [], 0, 0, []) := rfl
theorem f_162_116 : xfind (xnth xTs 162) 116 = some (116, .iaload, 1, (0, 0, 0, 0), .null, [], 0, 0, []) := rfl
theorem f_162_117 : xfind (xnth xTs 162) 117 = some (117, .iconst 1, 1, (0, 0, 0, 0), (.int 1), [], 0, 0, []) := rfl
theorem f_162_118 : xfind (xnth xTs 162) 118 = some (118, .iadd, 1, (0, 0, 0, 0), .null, [], 0, 0, []) := rfl
theorem f_162_119 : xfind (xnth xTs 162) 119 = some (119, .iastore, 1, (0, 0, 0, 0), .null, [], 0, 0, []) := rfl
theorem f_162_120 : xfind (xnth xTs 162) 120 = some (120, .iinc 3 1, 3, (0, 0, 0, 0), .null, [], 0, 0, []) := rfl
theorem f_162_123 : xfind (xnth xTs 162) 123 = some (123, .goto (-115), 3, (0, 0, 0, 0), .null, [], 0, 0, []) := rfl
theorem f_162_126 : xfind (xnth xTs 162) 126 = some (126, .aload_n 1, 1, (0, 0, 0, 0), .null, [], 0, 0, []) := rfl
theorem f_162_127 : xfind (xnth xTs 162) 127 = some (127, .bipush 61, 2, (0, 0, 0, 0), (.int 61), [], 0, 0, []) := rfl
theorem f_162_129 : xfind (xnth xTs 162) 129 = some (129, .dup2, 1, (0, 0, 0, 0), .null, [], 0, 0, []) := rfl
theorem f_162_130 : xfind (xnth xTs 162) 130 = some (130, .iaload, 1, (0, 0, 0, 0), .null, [], 0, 0, []) := rfl
theorem f_162_131 : xfind (xnth xTs 162) 131 = some (131, .iconst 1, 1, (0, 0, 0, 0), (.int 1), [], 0, 0, []) := rfl
theorem f_162_132 : xfind (xnth xTs 162) 132 = some (132, .iadd, 1, (0, 0, 0, 0), .null, [], 0, 0, []) := rfl
theorem f_162_133 : xfind (xnth xTs 162) 133 = some (133, .iastore, 1, (0, 0, 0, 0), .null, [], 0, 0, []) := rfl
theorem f_162_134 : xfind (xnth xTs 162) 134 = some (134, .iload_n 2, 1, (0, 0, 0, 0), .null, [], 0, 0, []) := rfl
theorem f_162_135 : xfind (xnth xTs 162) 135 = some (135, .ireturn, 1, (0, 0, 0, 0), .null, [], 0, 0, []) := rfl
theorem hd_162_8 : xhead 162 8 = some [4] := rfl
theorem b_R_nightGoes_0 (sh : xSh) (M : Nat → Nat → Int32) (J : Nat → Nat → Int64) (l0 : Nat) (l1 : Nat) : ev (162, 0, [.ref l0, .ref l1, .null, .null, .null], [], (sh, M, J)) = (bif (decide ((sh.2.2.1 l0).1 = 9) && true) then (ev (160, 0, [.ref l0, .ref l1, .null, .null, .null, .null, .null], [], (sh, M, J))).bind (fun r => ev (162, 5, [.ref l0, .ref l1, .null, .null, .null], r.1.toList ++ [], r.2)) else none) := by
  refine ev_nx (s1 := (162, 1, [.ref l0, .ref l1, .null, .null, .null], [.ref l0], (sh, M, J))) f_162_0 rfl ?_
  refine ev_nx (s1 := (162, 2, [.ref l0, .ref l1, .null, .null, .null], [.ref l1, .ref l0], (sh, M, J))) f_162_1 rfl ?_
  exact ev_ca (cc := (decide ((sh.2.2.1 l0).1 = 9) && true)) (s1 := (160, 0, [.ref l0, .ref l1, .null, .null, .null, .null, .null], [], (sh, M, J))) (k := (162, 5, [.ref l0, .ref l1, .null, .null, .null], [])) f_162_2 rfl
theorem b_R_nightGoes_5 (sh : xSh) (M : Nat → Nat → Int32) (J : Nat → Nat → Int64) (l0 : Nat) (l1 : Nat) (k0 : Int32) : ev (162, 5, [.ref l0, .ref l1, .null, .null, .null], [.int k0], (sh, M, J)) = (ev (162, 8, [.ref l0, .ref l1, .int k0, .int 0, .null], [], (sh, M, J))) := by
  refine ev_nx (s1 := (162, 6, [.ref l0, .ref l1, .int k0, .null, .null], [], (sh, M, J))) f_162_5 rfl ?_
  refine ev_nx (s1 := (162, 7, [.ref l0, .ref l1, .int k0, .null, .null], [.int 0], (sh, M, J))) f_162_6 rfl ?_
  refine ev_nx (s1 := (162, 8, [.ref l0, .ref l1, .int k0, .int 0, .null], [], (sh, M, J))) f_162_7 rfl ?_
  exact rfl
theorem b_R_nightGoes_8 (sh : xSh) (M : Nat → Nat → Int32) (J : Nat → Nat → Int64) (l0 : Nat) (l1 : Nat) (l2 : Int32) (l3 : Int32) : ev (162, 8, [.ref l0, .ref l1, .int l2, .int l3, .null], [], (sh, M, J)) = (bif decide ((sh.2.2.1 l0).1 = 9) then bif (decide ((sh.2.2.1 (sh.2.2.2 l0 0)).1 = 11) && xin 2 (sh.2.2.1 (sh.2.2.2 l0 0)).2) then bif decide ((M (sh.2.2.2 l0 0) (2 : Int32).toNatClampNeg) ≤ l3) then bif (decide ((sh.2.2.1 l1).1 = 11) && xin 61 (sh.2.2.1 l1).2) then bif (decide ((sh.2.2.1 l1).1 = 11) && xin 61 (sh.2.2.1 l1).2) then some (some (.int l2), (sh, (xu M l1 (61 : Int32).toNatClampNeg ((M l1 (61 : Int32).toNatClampNeg) + 1)), J)) else none else none else bif (decide ((sh.2.2.1 l1).1 = 11) && xin ((41 : Int32) + l3) (sh.2.2.1 l1).2) then bif (decide ((sh.2.2.1 l0).1 = 9) && true) then (ev (161, 0, [.ref l0, .ref l1, .int (M l1 (((41 : Int32) + l3) : Int32).toNatClampNeg), .null], [], (sh, M, J))).bind (fun r => ev (162, 29, [.ref l0, .ref l1, .int l2, .int l3, .null], r.1.toList ++ [], r.2)) else none else none else none else none) := by
  refine ev_nx (s1 := (162, 9, [.ref l0, .ref l1, .int l2, .int l3, .null], [.int l3], (sh, M, J))) f_162_8 rfl ?_
  refine ev_nx (s1 := (162, 10, [.ref l0, .ref l1, .int l2, .int l3, .null], [.ref l0, .int l3], (sh, M, J))) f_162_9 rfl ?_
  refine ev_gd (s1 := (162, 13, [.ref l0, .ref l1, .int l2, .int l3, .null], [.ref (sh.2.2.2 l0 0), .int l3], (sh, M, J))) f_162_10 rfl ?_
  refine ev_nx (s1 := (162, 14, [.ref l0, .ref l1, .int l2, .int l3, .null], [.int 2, .ref (sh.2.2.2 l0 0), .int l3], (sh, M, J))) f_162_13 rfl ?_
  refine ev_gd (s1 := (162, 15, [.ref l0, .ref l1, .int l2, .int l3, .null], [.int (M (sh.2.2.2 l0 0) (2 : Int32).toNatClampNeg), .int l3], (sh, M, J))) f_162_14 rfl ?_
  refine ev_br (s1 := (162, 126, [.ref l0, .ref l1, .int l2, .int l3, .null], [], (sh, M, J))) (s2 := (162, 18, [.ref l0, .ref l1, .int l2, .int l3, .null], [], (sh, M, J))) f_162_15 rfl ?_ ?_
  · refine ev_nx (s1 := (162, 127, [.ref l0, .ref l1, .int l2, .int l3, .null], [.ref l1], (sh, M, J))) f_162_126 rfl ?_
    refine ev_nx (s1 := (162, 129, [.ref l0, .ref l1, .int l2, .int l3, .null], [.int 61, .ref l1], (sh, M, J))) f_162_127 rfl ?_
    refine ev_nx (s1 := (162, 130, [.ref l0, .ref l1, .int l2, .int l3, .null], [.int 61, .ref l1, .int 61, .ref l1], (sh, M, J))) f_162_129 rfl ?_
    refine ev_gd (s1 := (162, 131, [.ref l0, .ref l1, .int l2, .int l3, .null], [.int (M l1 (61 : Int32).toNatClampNeg), .int 61, .ref l1], (sh, M, J))) f_162_130 rfl ?_
    refine ev_nx (s1 := (162, 132, [.ref l0, .ref l1, .int l2, .int l3, .null], [.int 1, .int (M l1 (61 : Int32).toNatClampNeg), .int 61, .ref l1], (sh, M, J))) f_162_131 rfl ?_
    refine ev_nx (s1 := (162, 133, [.ref l0, .ref l1, .int l2, .int l3, .null], [.int ((M l1 (61 : Int32).toNatClampNeg) + 1), .int 61, .ref l1], (sh, M, J))) f_162_132 rfl ?_
    refine ev_gd (s1 := (162, 134, [.ref l0, .ref l1, .int l2, .int l3, .null], [], (sh, (xu M l1 (61 : Int32).toNatClampNeg ((M l1 (61 : Int32).toNatClampNeg) + 1)), J))) f_162_133 rfl ?_
    refine ev_nx (s1 := (162, 135, [.ref l0, .ref l1, .int l2, .int l3, .null], [.int l2], (sh, (xu M l1 (61 : Int32).toNatClampNeg ((M l1 (61 : Int32).toNatClampNeg) + 1)), J))) f_162_134 rfl ?_
    exact ev_r1 f_162_135 rfl
  · refine ev_nx (s1 := (162, 19, [.ref l0, .ref l1, .int l2, .int l3, .null], [.ref l0], (sh, M, J))) f_162_18 rfl ?_
    refine ev_nx (s1 := (162, 20, [.ref l0, .ref l1, .int l2, .int l3, .null], [.ref l1, .ref l0], (sh, M, J))) f_162_19 rfl ?_
    refine ev_nx (s1 := (162, 21, [.ref l0, .ref l1, .int l2, .int l3, .null], [.ref l1, .ref l1, .ref l0], (sh, M, J))) f_162_20 rfl ?_
    refine ev_nx (s1 := (162, 23, [.ref l0, .ref l1, .int l2, .int l3, .null], [.int 41, .ref l1, .ref l1, .ref l0], (sh, M, J))) f_162_21 rfl ?_
    refine ev_nx (s1 := (162, 24, [.ref l0, .ref l1, .int l2, .int l3, .null], [.int l3, .int 41, .ref l1, .ref l1, .ref l0], (sh, M, J))) f_162_23 rfl ?_
    refine ev_nx (s1 := (162, 25, [.ref l0, .ref l1, .int l2, .int l3, .null], [.int ((41 : Int32) + l3), .ref l1, .ref l1, .ref l0], (sh, M, J))) f_162_24 rfl ?_
    refine ev_gd (s1 := (162, 26, [.ref l0, .ref l1, .int l2, .int l3, .null], [.int (M l1 (((41 : Int32) + l3) : Int32).toNatClampNeg), .ref l1, .ref l0], (sh, M, J))) f_162_25 rfl ?_
    exact ev_ca (cc := (decide ((sh.2.2.1 l0).1 = 9) && true)) (s1 := (161, 0, [.ref l0, .ref l1, .int (M l1 (((41 : Int32) + l3) : Int32).toNatClampNeg), .null], [], (sh, M, J))) (k := (162, 29, [.ref l0, .ref l1, .int l2, .int l3, .null], [])) f_162_26 rfl
theorem b_R_nightGoes_29 (sh : xSh) (M : Nat → Nat → Int32) (J : Nat → Nat → Int64) (l0 : Nat) (l1 : Nat) (l2 : Int32) (l3 : Int32) (k0 : Int32) : ev (162, 29, [.ref l0, .ref l1, .int l2, .int l3, .null], [.int k0], (sh, M, J)) = ((ev (133, 0, [.int l2, .int l3], [], (sh, M, J))).bind (fun r => ev (162, 36, [.ref l0, .ref l1, .int l2, .int l3, .int k0], r.1.toList ++ [], r.2))) := by
  refine ev_nx (s1 := (162, 31, [.ref l0, .ref l1, .int l2, .int l3, .int k0], [], (sh, M, J))) f_162_29 rfl ?_
  refine ev_nx (s1 := (162, 32, [.ref l0, .ref l1, .int l2, .int l3, .int k0], [.int l2], (sh, M, J))) f_162_31 rfl ?_
  refine ev_nx (s1 := (162, 33, [.ref l0, .ref l1, .int l2, .int l3, .int k0], [.int l3, .int l2], (sh, M, J))) f_162_32 rfl ?_
  exact ev_c1 (s1 := (133, 0, [.int l2, .int l3], [], (sh, M, J))) (k := (162, 36, [.ref l0, .ref l1, .int l2, .int l3, .int k0], [])) f_162_33 rfl
theorem b_R_nightGoes_36 (sh : xSh) (M : Nat → Nat → Int32) (J : Nat → Nat → Int64) (l0 : Nat) (l1 : Nat) (l2 : Int32) (l3 : Int32) (l4 : Int32) (k0 : Int32) : ev (162, 36, [.ref l0, .ref l1, .int l2, .int l3, .int l4], [.int k0], (sh, M, J)) = (bif decide (k0 = 0) then (ev (133, 0, [.int l2, .int l3], [], (sh, M, J))).bind (fun r => ev (162, 66, [.ref l0, .ref l1, .int l2, .int l3, .int l4], r.1.toList ++ [], r.2)) else bif (decide ((sh.2.2.1 l1).1 = 11) && xin ((51 : Int32) + l3) (sh.2.2.1 l1).2) then bif !decide ((M l1 (((51 : Int32) + l3) : Int32).toNatClampNeg) = 0) then (ev (133, 0, [.int l2, .int l3], [], (sh, M, J))).bind (fun r => ev (162, 66, [.ref l0, .ref l1, .int l2, .int l3, .int l4], r.1.toList ++ [], r.2)) else bif (decide ((sh.2.2.1 l1).1 = 11) && xin ((56 : Int32) + l3) (sh.2.2.1 l1).2) then bif (decide ((sh.2.2.1 l1).1 = 11) && xin ((56 : Int32) + l3) (sh.2.2.1 l1).2) then ev (162, 8, [.ref l0, .ref l1, .int l2, .int (l3 + 1), .null], [], (sh, (xu M l1 (((56 : Int32) + l3) : Int32).toNatClampNeg ((M l1 (((56 : Int32) + l3) : Int32).toNatClampNeg) + 1)), J)) else none else none else none) := by
  refine ev_br (s1 := (162, 61, [.ref l0, .ref l1, .int l2, .int l3, .int l4], [], (sh, M, J))) (s2 := (162, 39, [.ref l0, .ref l1, .int l2, .int l3, .int l4], [], (sh, M, J))) f_162_36 rfl ?_ ?_
  · refine ev_nx (s1 := (162, 62, [.ref l0, .ref l1, .int l2, .int l3, .int l4], [.int l2], (sh, M, J))) f_162_61 rfl ?_
    refine ev_nx (s1 := (162, 63, [.ref l0, .ref l1, .int l2, .int l3, .int l4], [.int l3, .int l2], (sh, M, J))) f_162_62 rfl ?_
    exact ev_c1 (s1 := (133, 0, [.int l2, .int l3], [], (sh, M, J))) (k := (162, 66, [.ref l0, .ref l1, .int l2, .int l3, .int l4], [])) f_162_63 rfl
  · refine ev_nx (s1 := (162, 40, [.ref l0, .ref l1, .int l2, .int l3, .int l4], [.ref l1], (sh, M, J))) f_162_39 rfl ?_
    refine ev_nx (s1 := (162, 42, [.ref l0, .ref l1, .int l2, .int l3, .int l4], [.int 51, .ref l1], (sh, M, J))) f_162_40 rfl ?_
    refine ev_nx (s1 := (162, 43, [.ref l0, .ref l1, .int l2, .int l3, .int l4], [.int l3, .int 51, .ref l1], (sh, M, J))) f_162_42 rfl ?_
    refine ev_nx (s1 := (162, 44, [.ref l0, .ref l1, .int l2, .int l3, .int l4], [.int ((51 : Int32) + l3), .ref l1], (sh, M, J))) f_162_43 rfl ?_
    refine ev_gd (s1 := (162, 45, [.ref l0, .ref l1, .int l2, .int l3, .int l4], [.int (M l1 (((51 : Int32) + l3) : Int32).toNatClampNeg)], (sh, M, J))) f_162_44 rfl ?_
    refine ev_br (s1 := (162, 61, [.ref l0, .ref l1, .int l2, .int l3, .int l4], [], (sh, M, J))) (s2 := (162, 48, [.ref l0, .ref l1, .int l2, .int l3, .int l4], [], (sh, M, J))) f_162_45 rfl ?_ ?_
    · refine ev_nx (s1 := (162, 62, [.ref l0, .ref l1, .int l2, .int l3, .int l4], [.int l2], (sh, M, J))) f_162_61 rfl ?_
      refine ev_nx (s1 := (162, 63, [.ref l0, .ref l1, .int l2, .int l3, .int l4], [.int l3, .int l2], (sh, M, J))) f_162_62 rfl ?_
      exact ev_c1 (s1 := (133, 0, [.int l2, .int l3], [], (sh, M, J))) (k := (162, 66, [.ref l0, .ref l1, .int l2, .int l3, .int l4], [])) f_162_63 rfl
    · refine ev_nx (s1 := (162, 49, [.ref l0, .ref l1, .int l2, .int l3, .int l4], [.ref l1], (sh, M, J))) f_162_48 rfl ?_
      refine ev_nx (s1 := (162, 51, [.ref l0, .ref l1, .int l2, .int l3, .int l4], [.int 56, .ref l1], (sh, M, J))) f_162_49 rfl ?_
      refine ev_nx (s1 := (162, 52, [.ref l0, .ref l1, .int l2, .int l3, .int l4], [.int l3, .int 56, .ref l1], (sh, M, J))) f_162_51 rfl ?_
      refine ev_nx (s1 := (162, 53, [.ref l0, .ref l1, .int l2, .int l3, .int l4], [.int ((56 : Int32) + l3), .ref l1], (sh, M, J))) f_162_52 rfl ?_
      refine ev_nx (s1 := (162, 54, [.ref l0, .ref l1, .int l2, .int l3, .int l4], [.int ((56 : Int32) + l3), .ref l1, .int ((56 : Int32) + l3), .ref l1], (sh, M, J))) f_162_53 rfl ?_
      refine ev_gd (s1 := (162, 55, [.ref l0, .ref l1, .int l2, .int l3, .int l4], [.int (M l1 (((56 : Int32) + l3) : Int32).toNatClampNeg), .int ((56 : Int32) + l3), .ref l1], (sh, M, J))) f_162_54 rfl ?_
      refine ev_nx (s1 := (162, 56, [.ref l0, .ref l1, .int l2, .int l3, .int l4], [.int 1, .int (M l1 (((56 : Int32) + l3) : Int32).toNatClampNeg), .int ((56 : Int32) + l3), .ref l1], (sh, M, J))) f_162_55 rfl ?_
      refine ev_nx (s1 := (162, 57, [.ref l0, .ref l1, .int l2, .int l3, .int l4], [.int ((M l1 (((56 : Int32) + l3) : Int32).toNatClampNeg) + 1), .int ((56 : Int32) + l3), .ref l1], (sh, M, J))) f_162_56 rfl ?_
      refine ev_gd (s1 := (162, 58, [.ref l0, .ref l1, .int l2, .int l3, .int l4], [], (sh, (xu M l1 (((56 : Int32) + l3) : Int32).toNatClampNeg ((M l1 (((56 : Int32) + l3) : Int32).toNatClampNeg) + 1)), J))) f_162_57 rfl ?_
      refine ev_nx (s1 := (162, 120, [.ref l0, .ref l1, .int l2, .int l3, .int l4], [], (sh, (xu M l1 (((56 : Int32) + l3) : Int32).toNatClampNeg ((M l1 (((56 : Int32) + l3) : Int32).toNatClampNeg) + 1)), J))) f_162_58 rfl ?_
      refine ev_nx (s1 := (162, 123, [.ref l0, .ref l1, .int l2, .int (l3 + 1), .int l4], [], (sh, (xu M l1 (((56 : Int32) + l3) : Int32).toNatClampNeg ((M l1 (((56 : Int32) + l3) : Int32).toNatClampNeg) + 1)), J))) f_162_120 rfl ?_
      refine ev_nx (s1 := (162, 8, [.ref l0, .ref l1, .int l2, .int (l3 + 1), .int l4], [], (sh, (xu M l1 (((56 : Int32) + l3) : Int32).toNatClampNeg ((M l1 (((56 : Int32) + l3) : Int32).toNatClampNeg) + 1)), J))) f_162_123 rfl ?_
      exact (ev_kill hd_162_8).symm
theorem b_R_nightGoes_66 (sh : xSh) (M : Nat → Nat → Int32) (J : Nat → Nat → Int64) (l0 : Nat) (l1 : Nat) (l2 : Int32) (l3 : Int32) (l4 : Int32) (k0 : Int32) : ev (162, 66, [.ref l0, .ref l1, .int l2, .int l3, .int l4], [.int k0], (sh, M, J)) = (bif decide (k0 = 0) then ev (162, 8, [.ref l0, .ref l1, .int l2, .int (l3 + 1), .null], [], (sh, M, J)) else bif decide (l4 < 0) then ev (162, 8, [.ref l0, .ref l1, .int l2, .int (l3 + 1), .null], [], (sh, M, J)) else bif (decide ((sh.2.2.1 l1).1 = 11) && xin ((51 : Int32) + l3) (sh.2.2.1 l1).2) then bif (decide ((sh.2.2.1 l1).1 = 11) && xin ((51 : Int32) + l3) (sh.2.2.1 l1).2) then bif (decide ((sh.2.2.1 l1).1 = 11) && xin ((46 : Int32) + l3) (sh.2.2.1 l1).2) then bif (decide ((sh.2.2.1 l1).1 = 11) && xin ((0 : Int32) + l4) (sh.2.2.1 l1).2) then bif (decide ((sh.2.2.1 l1).1 = 11) && xin 20 (sh.2.2.1 l1).2) then bif (decide ((sh.2.2.1 l1).1 = 11) && xin 20 (sh.2.2.1 l1).2) then bif (decide ((sh.2.2.1 l1).1 = 11) && xin ((21 : Int32) + l4) (sh.2.2.1 l1).2) then bif (decide ((sh.2.2.1 l1).1 = 11) && xin ((21 : Int32) + l4) (sh.2.2.1 l1).2) then ev (162, 8, [.ref l0, .ref l1, .int l2, .int (l3 + 1), .null], [], (sh, (xu (xu (xu (xu M l1 (((51 : Int32) + l3) : Int32).toNatClampNeg ((M l1 (((51 : Int32) + l3) : Int32).toNatClampNeg) - 1)) l1 (((0 : Int32) + l4) : Int32).toNatClampNeg ((xu M l1 (((51 : Int32) + l3) : Int32).toNatClampNeg ((M l1 (((51 : Int32) + l3) : Int32).toNatClampNeg) - 1)) l1 (((46 : Int32) + l3) : Int32).toNatClampNeg)) l1 (20 : Int32).toNatClampNeg (((xu (xu M l1 (((51 : Int32) + l3) : Int32).toNatClampNeg ((M l1 (((51 : Int32) + l3) : Int32).toNatClampNeg) - 1)) l1 (((0 : Int32) + l4) : Int32).toNatClampNeg ((xu M l1 (((51 : Int32) + l3) : Int32).toNatClampNeg ((M l1 (((51 : Int32) + l3) : Int32).toNatClampNeg) - 1)) l1 (((46 : Int32) + l3) : Int32).toNatClampNeg)) l1 (20 : Int32).toNatClampNeg) &&& (((1 : Int32) <<< (l4 &&& 31)) ^^^ (-1)))) l1 (((21 : Int32) + l4) : Int32).toNatClampNeg (((xu (xu (xu M l1 (((51 : Int32) + l3) : Int32).toNatClampNeg ((M l1 (((51 : Int32) + l3) : Int32).toNatClampNeg) - 1)) l1 (((0 : Int32) + l4) : Int32).toNatClampNeg ((xu M l1 (((51 : Int32) + l3) : Int32).toNatClampNeg ((M l1 (((51 : Int32) + l3) : Int32).toNatClampNeg) - 1)) l1 (((46 : Int32) + l3) : Int32).toNatClampNeg)) l1 (20 : Int32).toNatClampNeg (((xu (xu M l1 (((51 : Int32) + l3) : Int32).toNatClampNeg ((M l1 (((51 : Int32) + l3) : Int32).toNatClampNeg) - 1)) l1 (((0 : Int32) + l4) : Int32).toNatClampNeg ((xu M l1 (((51 : Int32) + l3) : Int32).toNatClampNeg ((M l1 (((51 : Int32) + l3) : Int32).toNatClampNeg) - 1)) l1 (((46 : Int32) + l3) : Int32).toNatClampNeg)) l1 (20 : Int32).toNatClampNeg) &&& (((1 : Int32) <<< (l4 &&& 31)) ^^^ (-1)))) l1 (((21 : Int32) + l4) : Int32).toNatClampNeg) + 1)), J)) else none else none else none else none else none else none else none else none) := by
  refine ev_br (s1 := (162, 120, [.ref l0, .ref l1, .int l2, .int l3, .int l4], [], (sh, M, J))) (s2 := (162, 69, [.ref l0, .ref l1, .int l2, .int l3, .int l4], [], (sh, M, J))) f_162_66 rfl ?_ ?_
  · refine ev_nx (s1 := (162, 123, [.ref l0, .ref l1, .int l2, .int (l3 + 1), .int l4], [], (sh, M, J))) f_162_120 rfl ?_
    refine ev_nx (s1 := (162, 8, [.ref l0, .ref l1, .int l2, .int (l3 + 1), .int l4], [], (sh, M, J))) f_162_123 rfl ?_
    exact (ev_kill hd_162_8).symm
  · refine ev_nx (s1 := (162, 71, [.ref l0, .ref l1, .int l2, .int l3, .int l4], [.int l4], (sh, M, J))) f_162_69 rfl ?_
    refine ev_br (s1 := (162, 120, [.ref l0, .ref l1, .int l2, .int l3, .int l4], [], (sh, M, J))) (s2 := (162, 74, [.ref l0, .ref l1, .int l2, .int l3, .int l4], [], (sh, M, J))) f_162_71 rfl ?_ ?_
    · refine ev_nx (s1 := (162, 123, [.ref l0, .ref l1, .int l2, .int (l3 + 1), .int l4], [], (sh, M, J))) f_162_120 rfl ?_
      refine ev_nx (s1 := (162, 8, [.ref l0, .ref l1, .int l2, .int (l3 + 1), .int l4], [], (sh, M, J))) f_162_123 rfl ?_
      exact (ev_kill hd_162_8).symm
    · refine ev_nx (s1 := (162, 75, [.ref l0, .ref l1, .int l2, .int l3, .int l4], [.ref l1], (sh, M, J))) f_162_74 rfl ?_
      refine ev_nx (s1 := (162, 77, [.ref l0, .ref l1, .int l2, .int l3, .int l4], [.int 51, .ref l1], (sh, M, J))) f_162_75 rfl ?_
      refine ev_nx (s1 := (162, 78, [.ref l0, .ref l1, .int l2, .int l3, .int l4], [.int l3, .int 51, .ref l1], (sh, M, J))) f_162_77 rfl ?_
      refine ev_nx (s1 := (162, 79, [.ref l0, .ref l1, .int l2, .int l3, .int l4], [.int ((51 : Int32) + l3), .ref l1], (sh, M, J))) f_162_78 rfl ?_
      refine ev_nx (s1 := (162, 80, [.ref l0, .ref l1, .int l2, .int l3, .int l4], [.int ((51 : Int32) + l3), .ref l1, .int ((51 : Int32) + l3), .ref l1], (sh, M, J))) f_162_79 rfl ?_
      refine ev_gd (s1 := (162, 81, [.ref l0, .ref l1, .int l2, .int l3, .int l4], [.int (M l1 (((51 : Int32) + l3) : Int32).toNatClampNeg), .int ((51 : Int32) + l3), .ref l1], (sh, M, J))) f_162_80 rfl ?_
      refine ev_nx (s1 := (162, 82, [.ref l0, .ref l1, .int l2, .int l3, .int l4], [.int 1, .int (M l1 (((51 : Int32) + l3) : Int32).toNatClampNeg), .int ((51 : Int32) + l3), .ref l1], (sh, M, J))) f_162_81 rfl ?_
      refine ev_nx (s1 := (162, 83, [.ref l0, .ref l1, .int l2, .int l3, .int l4], [.int ((M l1 (((51 : Int32) + l3) : Int32).toNatClampNeg) - 1), .int ((51 : Int32) + l3), .ref l1], (sh, M, J))) f_162_82 rfl ?_
      refine ev_gd (s1 := (162, 84, [.ref l0, .ref l1, .int l2, .int l3, .int l4], [], (sh, (xu M l1 (((51 : Int32) + l3) : Int32).toNatClampNeg ((M l1 (((51 : Int32) + l3) : Int32).toNatClampNeg) - 1)), J))) f_162_83 rfl ?_
      refine ev_nx (s1 := (162, 85, [.ref l0, .ref l1, .int l2, .int l3, .int l4], [.ref l1], (sh, (xu M l1 (((51 : Int32) + l3) : Int32).toNatClampNeg ((M l1 (((51 : Int32) + l3) : Int32).toNatClampNeg) - 1)), J))) f_162_84 rfl ?_
      refine ev_nx (s1 := (162, 86, [.ref l0, .ref l1, .int l2, .int l3, .int l4], [.int 0, .ref l1], (sh, (xu M l1 (((51 : Int32) + l3) : Int32).toNatClampNeg ((M l1 (((51 : Int32) + l3) : Int32).toNatClampNeg) - 1)), J))) f_162_85 rfl ?_
      refine ev_nx (s1 := (162, 88, [.ref l0, .ref l1, .int l2, .int l3, .int l4], [.int l4, .int 0, .ref l1], (sh, (xu M l1 (((51 : Int32) + l3) : Int32).toNatClampNeg ((M l1 (((51 : Int32) + l3) : Int32).toNatClampNeg) - 1)), J))) f_162_86 rfl ?_
      refine ev_nx (s1 := (162, 89, [.ref l0, .ref l1, .int l2, .int l3, .int l4], [.int ((0 : Int32) + l4), .ref l1], (sh, (xu M l1 (((51 : Int32) + l3) : Int32).toNatClampNeg ((M l1 (((51 : Int32) + l3) : Int32).toNatClampNeg) - 1)), J))) f_162_88 rfl ?_
      refine ev_nx (s1 := (162, 90, [.ref l0, .ref l1, .int l2, .int l3, .int l4], [.ref l1, .int ((0 : Int32) + l4), .ref l1], (sh, (xu M l1 (((51 : Int32) + l3) : Int32).toNatClampNeg ((M l1 (((51 : Int32) + l3) : Int32).toNatClampNeg) - 1)), J))) f_162_89 rfl ?_
      refine ev_nx (s1 := (162, 92, [.ref l0, .ref l1, .int l2, .int l3, .int l4], [.int 46, .ref l1, .int ((0 : Int32) + l4), .ref l1], (sh, (xu M l1 (((51 : Int32) + l3) : Int32).toNatClampNeg ((M l1 (((51 : Int32) + l3) : Int32).toNatClampNeg) - 1)), J))) f_162_90 rfl ?_
      refine ev_nx (s1 := (162, 93, [.ref l0, .ref l1, .int l2, .int l3, .int l4], [.int l3, .int 46, .ref l1, .int ((0 : Int32) + l4), .ref l1], (sh, (xu M l1 (((51 : Int32) + l3) : Int32).toNatClampNeg ((M l1 (((51 : Int32) + l3) : Int32).toNatClampNeg) - 1)), J))) f_162_92 rfl ?_
      refine ev_nx (s1 := (162, 94, [.ref l0, .ref l1, .int l2, .int l3, .int l4], [.int ((46 : Int32) + l3), .ref l1, .int ((0 : Int32) + l4), .ref l1], (sh, (xu M l1 (((51 : Int32) + l3) : Int32).toNatClampNeg ((M l1 (((51 : Int32) + l3) : Int32).toNatClampNeg) - 1)), J))) f_162_93 rfl ?_
      refine ev_gd (s1 := (162, 95, [.ref l0, .ref l1, .int l2, .int l3, .int l4], [.int ((xu M l1 (((51 : Int32) + l3) : Int32).toNatClampNeg ((M l1 (((51 : Int32) + l3) : Int32).toNatClampNeg) - 1)) l1 (((46 : Int32) + l3) : Int32).toNatClampNeg), .int ((0 : Int32) + l4), .ref l1], (sh, (xu M l1 (((51 : Int32) + l3) : Int32).toNatClampNeg ((M l1 (((51 : Int32) + l3) : Int32).toNatClampNeg) - 1)), J))) f_162_94 rfl ?_
      refine ev_gd (s1 := (162, 96, [.ref l0, .ref l1, .int l2, .int l3, .int l4], [], (sh, (xu (xu M l1 (((51 : Int32) + l3) : Int32).toNatClampNeg ((M l1 (((51 : Int32) + l3) : Int32).toNatClampNeg) - 1)) l1 (((0 : Int32) + l4) : Int32).toNatClampNeg ((xu M l1 (((51 : Int32) + l3) : Int32).toNatClampNeg ((M l1 (((51 : Int32) + l3) : Int32).toNatClampNeg) - 1)) l1 (((46 : Int32) + l3) : Int32).toNatClampNeg)), J))) f_162_95 rfl ?_
      refine ev_nx (s1 := (162, 97, [.ref l0, .ref l1, .int l2, .int l3, .int l4], [.ref l1], (sh, (xu (xu M l1 (((51 : Int32) + l3) : Int32).toNatClampNeg ((M l1 (((51 : Int32) + l3) : Int32).toNatClampNeg) - 1)) l1 (((0 : Int32) + l4) : Int32).toNatClampNeg ((xu M l1 (((51 : Int32) + l3) : Int32).toNatClampNeg ((M l1 (((51 : Int32) + l3) : Int32).toNatClampNeg) - 1)) l1 (((46 : Int32) + l3) : Int32).toNatClampNeg)), J))) f_162_96 rfl ?_
      refine ev_nx (s1 := (162, 99, [.ref l0, .ref l1, .int l2, .int l3, .int l4], [.int 20, .ref l1], (sh, (xu (xu M l1 (((51 : Int32) + l3) : Int32).toNatClampNeg ((M l1 (((51 : Int32) + l3) : Int32).toNatClampNeg) - 1)) l1 (((0 : Int32) + l4) : Int32).toNatClampNeg ((xu M l1 (((51 : Int32) + l3) : Int32).toNatClampNeg ((M l1 (((51 : Int32) + l3) : Int32).toNatClampNeg) - 1)) l1 (((46 : Int32) + l3) : Int32).toNatClampNeg)), J))) f_162_97 rfl ?_
      refine ev_nx (s1 := (162, 100, [.ref l0, .ref l1, .int l2, .int l3, .int l4], [.int 20, .ref l1, .int 20, .ref l1], (sh, (xu (xu M l1 (((51 : Int32) + l3) : Int32).toNatClampNeg ((M l1 (((51 : Int32) + l3) : Int32).toNatClampNeg) - 1)) l1 (((0 : Int32) + l4) : Int32).toNatClampNeg ((xu M l1 (((51 : Int32) + l3) : Int32).toNatClampNeg ((M l1 (((51 : Int32) + l3) : Int32).toNatClampNeg) - 1)) l1 (((46 : Int32) + l3) : Int32).toNatClampNeg)), J))) f_162_99 rfl ?_
      refine ev_gd (s1 := (162, 101, [.ref l0, .ref l1, .int l2, .int l3, .int l4], [.int ((xu (xu M l1 (((51 : Int32) + l3) : Int32).toNatClampNeg ((M l1 (((51 : Int32) + l3) : Int32).toNatClampNeg) - 1)) l1 (((0 : Int32) + l4) : Int32).toNatClampNeg ((xu M l1 (((51 : Int32) + l3) : Int32).toNatClampNeg ((M l1 (((51 : Int32) + l3) : Int32).toNatClampNeg) - 1)) l1 (((46 : Int32) + l3) : Int32).toNatClampNeg)) l1 (20 : Int32).toNatClampNeg), .int 20, .ref l1], (sh, (xu (xu M l1 (((51 : Int32) + l3) : Int32).toNatClampNeg ((M l1 (((51 : Int32) + l3) : Int32).toNatClampNeg) - 1)) l1 (((0 : Int32) + l4) : Int32).toNatClampNeg ((xu M l1 (((51 : Int32) + l3) : Int32).toNatClampNeg ((M l1 (((51 : Int32) + l3) : Int32).toNatClampNeg) - 1)) l1 (((46 : Int32) + l3) : Int32).toNatClampNeg)), J))) f_162_100 rfl ?_
      refine ev_nx (s1 := (162, 102, [.ref l0, .ref l1, .int l2, .int l3, .int l4], [.int 1, .int ((xu (xu M l1 (((51 : Int32) + l3) : Int32).toNatClampNeg ((M l1 (((51 : Int32) + l3) : Int32).toNatClampNeg) - 1)) l1 (((0 : Int32) + l4) : Int32).toNatClampNeg ((xu M l1 (((51 : Int32) + l3) : Int32).toNatClampNeg ((M l1 (((51 : Int32) + l3) : Int32).toNatClampNeg) - 1)) l1 (((46 : Int32) + l3) : Int32).toNatClampNeg)) l1 (20 : Int32).toNatClampNeg), .int 20, .ref l1], (sh, (xu (xu M l1 (((51 : Int32) + l3) : Int32).toNatClampNeg ((M l1 (((51 : Int32) + l3) : Int32).toNatClampNeg) - 1)) l1 (((0 : Int32) + l4) : Int32).toNatClampNeg ((xu M l1 (((51 : Int32) + l3) : Int32).toNatClampNeg ((M l1 (((51 : Int32) + l3) : Int32).toNatClampNeg) - 1)) l1 (((46 : Int32) + l3) : Int32).toNatClampNeg)), J))) f_162_101 rfl ?_
      refine ev_nx (s1 := (162, 104, [.ref l0, .ref l1, .int l2, .int l3, .int l4], [.int l4, .int 1, .int ((xu (xu M l1 (((51 : Int32) + l3) : Int32).toNatClampNeg ((M l1 (((51 : Int32) + l3) : Int32).toNatClampNeg) - 1)) l1 (((0 : Int32) + l4) : Int32).toNatClampNeg ((xu M l1 (((51 : Int32) + l3) : Int32).toNatClampNeg ((M l1 (((51 : Int32) + l3) : Int32).toNatClampNeg) - 1)) l1 (((46 : Int32) + l3) : Int32).toNatClampNeg)) l1 (20 : Int32).toNatClampNeg), .int 20, .ref l1], (sh, (xu (xu M l1 (((51 : Int32) + l3) : Int32).toNatClampNeg ((M l1 (((51 : Int32) + l3) : Int32).toNatClampNeg) - 1)) l1 (((0 : Int32) + l4) : Int32).toNatClampNeg ((xu M l1 (((51 : Int32) + l3) : Int32).toNatClampNeg ((M l1 (((51 : Int32) + l3) : Int32).toNatClampNeg) - 1)) l1 (((46 : Int32) + l3) : Int32).toNatClampNeg)), J))) f_162_102 rfl ?_
      refine ev_nx (s1 := (162, 105, [.ref l0, .ref l1, .int l2, .int l3, .int l4], [.int ((1 : Int32) <<< (l4 &&& 31)), .int ((xu (xu M l1 (((51 : Int32) + l3) : Int32).toNatClampNeg ((M l1 (((51 : Int32) + l3) : Int32).toNatClampNeg) - 1)) l1 (((0 : Int32) + l4) : Int32).toNatClampNeg ((xu M l1 (((51 : Int32) + l3) : Int32).toNatClampNeg ((M l1 (((51 : Int32) + l3) : Int32).toNatClampNeg) - 1)) l1 (((46 : Int32) + l3) : Int32).toNatClampNeg)) l1 (20 : Int32).toNatClampNeg), .int 20, .ref l1], (sh, (xu (xu M l1 (((51 : Int32) + l3) : Int32).toNatClampNeg ((M l1 (((51 : Int32) + l3) : Int32).toNatClampNeg) - 1)) l1 (((0 : Int32) + l4) : Int32).toNatClampNeg ((xu M l1 (((51 : Int32) + l3) : Int32).toNatClampNeg ((M l1 (((51 : Int32) + l3) : Int32).toNatClampNeg) - 1)) l1 (((46 : Int32) + l3) : Int32).toNatClampNeg)), J))) f_162_104 rfl ?_
      refine ev_nx (s1 := (162, 106, [.ref l0, .ref l1, .int l2, .int l3, .int l4], [.int (-1), .int ((1 : Int32) <<< (l4 &&& 31)), .int ((xu (xu M l1 (((51 : Int32) + l3) : Int32).toNatClampNeg ((M l1 (((51 : Int32) + l3) : Int32).toNatClampNeg) - 1)) l1 (((0 : Int32) + l4) : Int32).toNatClampNeg ((xu M l1 (((51 : Int32) + l3) : Int32).toNatClampNeg ((M l1 (((51 : Int32) + l3) : Int32).toNatClampNeg) - 1)) l1 (((46 : Int32) + l3) : Int32).toNatClampNeg)) l1 (20 : Int32).toNatClampNeg), .int 20, .ref l1], (sh, (xu (xu M l1 (((51 : Int32) + l3) : Int32).toNatClampNeg ((M l1 (((51 : Int32) + l3) : Int32).toNatClampNeg) - 1)) l1 (((0 : Int32) + l4) : Int32).toNatClampNeg ((xu M l1 (((51 : Int32) + l3) : Int32).toNatClampNeg ((M l1 (((51 : Int32) + l3) : Int32).toNatClampNeg) - 1)) l1 (((46 : Int32) + l3) : Int32).toNatClampNeg)), J))) f_162_105 rfl ?_
      refine ev_nx (s1 := (162, 107, [.ref l0, .ref l1, .int l2, .int l3, .int l4], [.int (((1 : Int32) <<< (l4 &&& 31)) ^^^ (-1)), .int ((xu (xu M l1 (((51 : Int32) + l3) : Int32).toNatClampNeg ((M l1 (((51 : Int32) + l3) : Int32).toNatClampNeg) - 1)) l1 (((0 : Int32) + l4) : Int32).toNatClampNeg ((xu M l1 (((51 : Int32) + l3) : Int32).toNatClampNeg ((M l1 (((51 : Int32) + l3) : Int32).toNatClampNeg) - 1)) l1 (((46 : Int32) + l3) : Int32).toNatClampNeg)) l1 (20 : Int32).toNatClampNeg), .int 20, .ref l1], (sh, (xu (xu M l1 (((51 : Int32) + l3) : Int32).toNatClampNeg ((M l1 (((51 : Int32) + l3) : Int32).toNatClampNeg) - 1)) l1 (((0 : Int32) + l4) : Int32).toNatClampNeg ((xu M l1 (((51 : Int32) + l3) : Int32).toNatClampNeg ((M l1 (((51 : Int32) + l3) : Int32).toNatClampNeg) - 1)) l1 (((46 : Int32) + l3) : Int32).toNatClampNeg)), J))) f_162_106 rfl ?_
      refine ev_nx (s1 := (162, 108, [.ref l0, .ref l1, .int l2, .int l3, .int l4], [.int (((xu (xu M l1 (((51 : Int32) + l3) : Int32).toNatClampNeg ((M l1 (((51 : Int32) + l3) : Int32).toNatClampNeg) - 1)) l1 (((0 : Int32) + l4) : Int32).toNatClampNeg ((xu M l1 (((51 : Int32) + l3) : Int32).toNatClampNeg ((M l1 (((51 : Int32) + l3) : Int32).toNatClampNeg) - 1)) l1 (((46 : Int32) + l3) : Int32).toNatClampNeg)) l1 (20 : Int32).toNatClampNeg) &&& (((1 : Int32) <<< (l4 &&& 31)) ^^^ (-1))), .int 20, .ref l1], (sh, (xu (xu M l1 (((51 : Int32) + l3) : Int32).toNatClampNeg ((M l1 (((51 : Int32) + l3) : Int32).toNatClampNeg) - 1)) l1 (((0 : Int32) + l4) : Int32).toNatClampNeg ((xu M l1 (((51 : Int32) + l3) : Int32).toNatClampNeg ((M l1 (((51 : Int32) + l3) : Int32).toNatClampNeg) - 1)) l1 (((46 : Int32) + l3) : Int32).toNatClampNeg)), J))) f_162_107 rfl ?_
      refine ev_gd (s1 := (162, 109, [.ref l0, .ref l1, .int l2, .int l3, .int l4], [], (sh, (xu (xu (xu M l1 (((51 : Int32) + l3) : Int32).toNatClampNeg ((M l1 (((51 : Int32) + l3) : Int32).toNatClampNeg) - 1)) l1 (((0 : Int32) + l4) : Int32).toNatClampNeg ((xu M l1 (((51 : Int32) + l3) : Int32).toNatClampNeg ((M l1 (((51 : Int32) + l3) : Int32).toNatClampNeg) - 1)) l1 (((46 : Int32) + l3) : Int32).toNatClampNeg)) l1 (20 : Int32).toNatClampNeg (((xu (xu M l1 (((51 : Int32) + l3) : Int32).toNatClampNeg ((M l1 (((51 : Int32) + l3) : Int32).toNatClampNeg) - 1)) l1 (((0 : Int32) + l4) : Int32).toNatClampNeg ((xu M l1 (((51 : Int32) + l3) : Int32).toNatClampNeg ((M l1 (((51 : Int32) + l3) : Int32).toNatClampNeg) - 1)) l1 (((46 : Int32) + l3) : Int32).toNatClampNeg)) l1 (20 : Int32).toNatClampNeg) &&& (((1 : Int32) <<< (l4 &&& 31)) ^^^ (-1)))), J))) f_162_108 rfl ?_
      refine ev_nx (s1 := (162, 110, [.ref l0, .ref l1, .int l2, .int l3, .int l4], [.ref l1], (sh, (xu (xu (xu M l1 (((51 : Int32) + l3) : Int32).toNatClampNeg ((M l1 (((51 : Int32) + l3) : Int32).toNatClampNeg) - 1)) l1 (((0 : Int32) + l4) : Int32).toNatClampNeg ((xu M l1 (((51 : Int32) + l3) : Int32).toNatClampNeg ((M l1 (((51 : Int32) + l3) : Int32).toNatClampNeg) - 1)) l1 (((46 : Int32) + l3) : Int32).toNatClampNeg)) l1 (20 : Int32).toNatClampNeg (((xu (xu M l1 (((51 : Int32) + l3) : Int32).toNatClampNeg ((M l1 (((51 : Int32) + l3) : Int32).toNatClampNeg) - 1)) l1 (((0 : Int32) + l4) : Int32).toNatClampNeg ((xu M l1 (((51 : Int32) + l3) : Int32).toNatClampNeg ((M l1 (((51 : Int32) + l3) : Int32).toNatClampNeg) - 1)) l1 (((46 : Int32) + l3) : Int32).toNatClampNeg)) l1 (20 : Int32).toNatClampNeg) &&& (((1 : Int32) <<< (l4 &&& 31)) ^^^ (-1)))), J))) f_162_109 rfl ?_
      refine ev_nx (s1 := (162, 112, [.ref l0, .ref l1, .int l2, .int l3, .int l4], [.int 21, .ref l1], (sh, (xu (xu (xu M l1 (((51 : Int32) + l3) : Int32).toNatClampNeg ((M l1 (((51 : Int32) + l3) : Int32).toNatClampNeg) - 1)) l1 (((0 : Int32) + l4) : Int32).toNatClampNeg ((xu M l1 (((51 : Int32) + l3) : Int32).toNatClampNeg ((M l1 (((51 : Int32) + l3) : Int32).toNatClampNeg) - 1)) l1 (((46 : Int32) + l3) : Int32).toNatClampNeg)) l1 (20 : Int32).toNatClampNeg (((xu (xu M l1 (((51 : Int32) + l3) : Int32).toNatClampNeg ((M l1 (((51 : Int32) + l3) : Int32).toNatClampNeg) - 1)) l1 (((0 : Int32) + l4) : Int32).toNatClampNeg ((xu M l1 (((51 : Int32) + l3) : Int32).toNatClampNeg ((M l1 (((51 : Int32) + l3) : Int32).toNatClampNeg) - 1)) l1 (((46 : Int32) + l3) : Int32).toNatClampNeg)) l1 (20 : Int32).toNatClampNeg) &&& (((1 : Int32) <<< (l4 &&& 31)) ^^^ (-1)))), J))) f_162_110 rfl ?_
      refine ev_nx (s1 := (162, 114, [.ref l0, .ref l1, .int l2, .int l3, .int l4], [.int l4, .int 21, .ref l1], (sh, (xu (xu (xu M l1 (((51 : Int32) + l3) : Int32).toNatClampNeg ((M l1 (((51 : Int32) + l3) : Int32).toNatClampNeg) - 1)) l1 (((0 : Int32) + l4) : Int32).toNatClampNeg ((xu M l1 (((51 : Int32) + l3) : Int32).toNatClampNeg ((M l1 (((51 : Int32) + l3) : Int32).toNatClampNeg) - 1)) l1 (((46 : Int32) + l3) : Int32).toNatClampNeg)) l1 (20 : Int32).toNatClampNeg (((xu (xu M l1 (((51 : Int32) + l3) : Int32).toNatClampNeg ((M l1 (((51 : Int32) + l3) : Int32).toNatClampNeg) - 1)) l1 (((0 : Int32) + l4) : Int32).toNatClampNeg ((xu M l1 (((51 : Int32) + l3) : Int32).toNatClampNeg ((M l1 (((51 : Int32) + l3) : Int32).toNatClampNeg) - 1)) l1 (((46 : Int32) + l3) : Int32).toNatClampNeg)) l1 (20 : Int32).toNatClampNeg) &&& (((1 : Int32) <<< (l4 &&& 31)) ^^^ (-1)))), J))) f_162_112 rfl ?_
      refine ev_nx (s1 := (162, 115, [.ref l0, .ref l1, .int l2, .int l3, .int l4], [.int ((21 : Int32) + l4), .ref l1], (sh, (xu (xu (xu M l1 (((51 : Int32) + l3) : Int32).toNatClampNeg ((M l1 (((51 : Int32) + l3) : Int32).toNatClampNeg) - 1)) l1 (((0 : Int32) + l4) : Int32).toNatClampNeg ((xu M l1 (((51 : Int32) + l3) : Int32).toNatClampNeg ((M l1 (((51 : Int32) + l3) : Int32).toNatClampNeg) - 1)) l1 (((46 : Int32) + l3) : Int32).toNatClampNeg)) l1 (20 : Int32).toNatClampNeg (((xu (xu M l1 (((51 : Int32) + l3) : Int32).toNatClampNeg ((M l1 (((51 : Int32) + l3) : Int32).toNatClampNeg) - 1)) l1 (((0 : Int32) + l4) : Int32).toNatClampNeg ((xu M l1 (((51 : Int32) + l3) : Int32).toNatClampNeg ((M l1 (((51 : Int32) + l3) : Int32).toNatClampNeg) - 1)) l1 (((46 : Int32) + l3) : Int32).toNatClampNeg)) l1 (20 : Int32).toNatClampNeg) &&& (((1 : Int32) <<< (l4 &&& 31)) ^^^ (-1)))), J))) f_162_114 rfl ?_
      refine ev_nx (s1 := (162, 116, [.ref l0, .ref l1, .int l2, .int l3, .int l4], [.int ((21 : Int32) + l4), .ref l1, .int ((21 : Int32) + l4), .ref l1], (sh, (xu (xu (xu M l1 (((51 : Int32) + l3) : Int32).toNatClampNeg ((M l1 (((51 : Int32) + l3) : Int32).toNatClampNeg) - 1)) l1 (((0 : Int32) + l4) : Int32).toNatClampNeg ((xu M l1 (((51 : Int32) + l3) : Int32).toNatClampNeg ((M l1 (((51 : Int32) + l3) : Int32).toNatClampNeg) - 1)) l1 (((46 : Int32) + l3) : Int32).toNatClampNeg)) l1 (20 : Int32).toNatClampNeg (((xu (xu M l1 (((51 : Int32) + l3) : Int32).toNatClampNeg ((M l1 (((51 : Int32) + l3) : Int32).toNatClampNeg) - 1)) l1 (((0 : Int32) + l4) : Int32).toNatClampNeg ((xu M l1 (((51 : Int32) + l3) : Int32).toNatClampNeg ((M l1 (((51 : Int32) + l3) : Int32).toNatClampNeg) - 1)) l1 (((46 : Int32) + l3) : Int32).toNatClampNeg)) l1 (20 : Int32).toNatClampNeg) &&& (((1 : Int32) <<< (l4 &&& 31)) ^^^ (-1)))), J))) f_162_115 rfl ?_
      refine ev_gd (s1 := (162, 117, [.ref l0, .ref l1, .int l2, .int l3, .int l4], [.int ((xu (xu (xu M l1 (((51 : Int32) + l3) : Int32).toNatClampNeg ((M l1 (((51 : Int32) + l3) : Int32).toNatClampNeg) - 1)) l1 (((0 : Int32) + l4) : Int32).toNatClampNeg ((xu M l1 (((51 : Int32) + l3) : Int32).toNatClampNeg ((M l1 (((51 : Int32) + l3) : Int32).toNatClampNeg) - 1)) l1 (((46 : Int32) + l3) : Int32).toNatClampNeg)) l1 (20 : Int32).toNatClampNeg (((xu (xu M l1 (((51 : Int32) + l3) : Int32).toNatClampNeg ((M l1 (((51 : Int32) + l3) : Int32).toNatClampNeg) - 1)) l1 (((0 : Int32) + l4) : Int32).toNatClampNeg ((xu M l1 (((51 : Int32) + l3) : Int32).toNatClampNeg ((M l1 (((51 : Int32) + l3) : Int32).toNatClampNeg) - 1)) l1 (((46 : Int32) + l3) : Int32).toNatClampNeg)) l1 (20 : Int32).toNatClampNeg) &&& (((1 : Int32) <<< (l4 &&& 31)) ^^^ (-1)))) l1 (((21 : Int32) + l4) : Int32).toNatClampNeg), .int ((21 : Int32) + l4), .ref l1], (sh, (xu (xu (xu M l1 (((51 : Int32) + l3) : Int32).toNatClampNeg ((M l1 (((51 : Int32) + l3) : Int32).toNatClampNeg) - 1)) l1 (((0 : Int32) + l4) : Int32).toNatClampNeg ((xu M l1 (((51 : Int32) + l3) : Int32).toNatClampNeg ((M l1 (((51 : Int32) + l3) : Int32).toNatClampNeg) - 1)) l1 (((46 : Int32) + l3) : Int32).toNatClampNeg)) l1 (20 : Int32).toNatClampNeg (((xu (xu M l1 (((51 : Int32) + l3) : Int32).toNatClampNeg ((M l1 (((51 : Int32) + l3) : Int32).toNatClampNeg) - 1)) l1 (((0 : Int32) + l4) : Int32).toNatClampNeg ((xu M l1 (((51 : Int32) + l3) : Int32).toNatClampNeg ((M l1 (((51 : Int32) + l3) : Int32).toNatClampNeg) - 1)) l1 (((46 : Int32) + l3) : Int32).toNatClampNeg)) l1 (20 : Int32).toNatClampNeg) &&& (((1 : Int32) <<< (l4 &&& 31)) ^^^ (-1)))), J))) f_162_116 rfl ?_
      refine ev_nx (s1 := (162, 118, [.ref l0, .ref l1, .int l2, .int l3, .int l4], [.int 1, .int ((xu (xu (xu M l1 (((51 : Int32) + l3) : Int32).toNatClampNeg ((M l1 (((51 : Int32) + l3) : Int32).toNatClampNeg) - 1)) l1 (((0 : Int32) + l4) : Int32).toNatClampNeg ((xu M l1 (((51 : Int32) + l3) : Int32).toNatClampNeg ((M l1 (((51 : Int32) + l3) : Int32).toNatClampNeg) - 1)) l1 (((46 : Int32) + l3) : Int32).toNatClampNeg)) l1 (20 : Int32).toNatClampNeg (((xu (xu M l1 (((51 : Int32) + l3) : Int32).toNatClampNeg ((M l1 (((51 : Int32) + l3) : Int32).toNatClampNeg) - 1)) l1 (((0 : Int32) + l4) : Int32).toNatClampNeg ((xu M l1 (((51 : Int32) + l3) : Int32).toNatClampNeg ((M l1 (((51 : Int32) + l3) : Int32).toNatClampNeg) - 1)) l1 (((46 : Int32) + l3) : Int32).toNatClampNeg)) l1 (20 : Int32).toNatClampNeg) &&& (((1 : Int32) <<< (l4 &&& 31)) ^^^ (-1)))) l1 (((21 : Int32) + l4) : Int32).toNatClampNeg), .int ((21 : Int32) + l4), .ref l1], (sh, (xu (xu (xu M l1 (((51 : Int32) + l3) : Int32).toNatClampNeg ((M l1 (((51 : Int32) + l3) : Int32).toNatClampNeg) - 1)) l1 (((0 : Int32) + l4) : Int32).toNatClampNeg ((xu M l1 (((51 : Int32) + l3) : Int32).toNatClampNeg ((M l1 (((51 : Int32) + l3) : Int32).toNatClampNeg) - 1)) l1 (((46 : Int32) + l3) : Int32).toNatClampNeg)) l1 (20 : Int32).toNatClampNeg (((xu (xu M l1 (((51 : Int32) + l3) : Int32).toNatClampNeg ((M l1 (((51 : Int32) + l3) : Int32).toNatClampNeg) - 1)) l1 (((0 : Int32) + l4) : Int32).toNatClampNeg ((xu M l1 (((51 : Int32) + l3) : Int32).toNatClampNeg ((M l1 (((51 : Int32) + l3) : Int32).toNatClampNeg) - 1)) l1 (((46 : Int32) + l3) : Int32).toNatClampNeg)) l1 (20 : Int32).toNatClampNeg) &&& (((1 : Int32) <<< (l4 &&& 31)) ^^^ (-1)))), J))) f_162_117 rfl ?_
      refine ev_nx (s1 := (162, 119, [.ref l0, .ref l1, .int l2, .int l3, .int l4], [.int (((xu (xu (xu M l1 (((51 : Int32) + l3) : Int32).toNatClampNeg ((M l1 (((51 : Int32) + l3) : Int32).toNatClampNeg) - 1)) l1 (((0 : Int32) + l4) : Int32).toNatClampNeg ((xu M l1 (((51 : Int32) + l3) : Int32).toNatClampNeg ((M l1 (((51 : Int32) + l3) : Int32).toNatClampNeg) - 1)) l1 (((46 : Int32) + l3) : Int32).toNatClampNeg)) l1 (20 : Int32).toNatClampNeg (((xu (xu M l1 (((51 : Int32) + l3) : Int32).toNatClampNeg ((M l1 (((51 : Int32) + l3) : Int32).toNatClampNeg) - 1)) l1 (((0 : Int32) + l4) : Int32).toNatClampNeg ((xu M l1 (((51 : Int32) + l3) : Int32).toNatClampNeg ((M l1 (((51 : Int32) + l3) : Int32).toNatClampNeg) - 1)) l1 (((46 : Int32) + l3) : Int32).toNatClampNeg)) l1 (20 : Int32).toNatClampNeg) &&& (((1 : Int32) <<< (l4 &&& 31)) ^^^ (-1)))) l1 (((21 : Int32) + l4) : Int32).toNatClampNeg) + 1), .int ((21 : Int32) + l4), .ref l1], (sh, (xu (xu (xu M l1 (((51 : Int32) + l3) : Int32).toNatClampNeg ((M l1 (((51 : Int32) + l3) : Int32).toNatClampNeg) - 1)) l1 (((0 : Int32) + l4) : Int32).toNatClampNeg ((xu M l1 (((51 : Int32) + l3) : Int32).toNatClampNeg ((M l1 (((51 : Int32) + l3) : Int32).toNatClampNeg) - 1)) l1 (((46 : Int32) + l3) : Int32).toNatClampNeg)) l1 (20 : Int32).toNatClampNeg (((xu (xu M l1 (((51 : Int32) + l3) : Int32).toNatClampNeg ((M l1 (((51 : Int32) + l3) : Int32).toNatClampNeg) - 1)) l1 (((0 : Int32) + l4) : Int32).toNatClampNeg ((xu M l1 (((51 : Int32) + l3) : Int32).toNatClampNeg ((M l1 (((51 : Int32) + l3) : Int32).toNatClampNeg) - 1)) l1 (((46 : Int32) + l3) : Int32).toNatClampNeg)) l1 (20 : Int32).toNatClampNeg) &&& (((1 : Int32) <<< (l4 &&& 31)) ^^^ (-1)))), J))) f_162_118 rfl ?_
      refine ev_gd (s1 := (162, 120, [.ref l0, .ref l1, .int l2, .int l3, .int l4], [], (sh, (xu (xu (xu (xu M l1 (((51 : Int32) + l3) : Int32).toNatClampNeg ((M l1 (((51 : Int32) + l3) : Int32).toNatClampNeg) - 1)) l1 (((0 : Int32) + l4) : Int32).toNatClampNeg ((xu M l1 (((51 : Int32) + l3) : Int32).toNatClampNeg ((M l1 (((51 : Int32) + l3) : Int32).toNatClampNeg) - 1)) l1 (((46 : Int32) + l3) : Int32).toNatClampNeg)) l1 (20 : Int32).toNatClampNeg (((xu (xu M l1 (((51 : Int32) + l3) : Int32).toNatClampNeg ((M l1 (((51 : Int32) + l3) : Int32).toNatClampNeg) - 1)) l1 (((0 : Int32) + l4) : Int32).toNatClampNeg ((xu M l1 (((51 : Int32) + l3) : Int32).toNatClampNeg ((M l1 (((51 : Int32) + l3) : Int32).toNatClampNeg) - 1)) l1 (((46 : Int32) + l3) : Int32).toNatClampNeg)) l1 (20 : Int32).toNatClampNeg) &&& (((1 : Int32) <<< (l4 &&& 31)) ^^^ (-1)))) l1 (((21 : Int32) + l4) : Int32).toNatClampNeg (((xu (xu (xu M l1 (((51 : Int32) + l3) : Int32).toNatClampNeg ((M l1 (((51 : Int32) + l3) : Int32).toNatClampNeg) - 1)) l1 (((0 : Int32) + l4) : Int32).toNatClampNeg ((xu M l1 (((51 : Int32) + l3) : Int32).toNatClampNeg ((M l1 (((51 : Int32) + l3) : Int32).toNatClampNeg) - 1)) l1 (((46 : Int32) + l3) : Int32).toNatClampNeg)) l1 (20 : Int32).toNatClampNeg (((xu (xu M l1 (((51 : Int32) + l3) : Int32).toNatClampNeg ((M l1 (((51 : Int32) + l3) : Int32).toNatClampNeg) - 1)) l1 (((0 : Int32) + l4) : Int32).toNatClampNeg ((xu M l1 (((51 : Int32) + l3) : Int32).toNatClampNeg ((M l1 (((51 : Int32) + l3) : Int32).toNatClampNeg) - 1)) l1 (((46 : Int32) + l3) : Int32).toNatClampNeg)) l1 (20 : Int32).toNatClampNeg) &&& (((1 : Int32) <<< (l4 &&& 31)) ^^^ (-1)))) l1 (((21 : Int32) + l4) : Int32).toNatClampNeg) + 1)), J))) f_162_119 rfl ?_
      refine ev_nx (s1 := (162, 123, [.ref l0, .ref l1, .int l2, .int (l3 + 1), .int l4], [], (sh, (xu (xu (xu (xu M l1 (((51 : Int32) + l3) : Int32).toNatClampNeg ((M l1 (((51 : Int32) + l3) : Int32).toNatClampNeg) - 1)) l1 (((0 : Int32) + l4) : Int32).toNatClampNeg ((xu M l1 (((51 : Int32) + l3) : Int32).toNatClampNeg ((M l1 (((51 : Int32) + l3) : Int32).toNatClampNeg) - 1)) l1 (((46 : Int32) + l3) : Int32).toNatClampNeg)) l1 (20 : Int32).toNatClampNeg (((xu (xu M l1 (((51 : Int32) + l3) : Int32).toNatClampNeg ((M l1 (((51 : Int32) + l3) : Int32).toNatClampNeg) - 1)) l1 (((0 : Int32) + l4) : Int32).toNatClampNeg ((xu M l1 (((51 : Int32) + l3) : Int32).toNatClampNeg ((M l1 (((51 : Int32) + l3) : Int32).toNatClampNeg) - 1)) l1 (((46 : Int32) + l3) : Int32).toNatClampNeg)) l1 (20 : Int32).toNatClampNeg) &&& (((1 : Int32) <<< (l4 &&& 31)) ^^^ (-1)))) l1 (((21 : Int32) + l4) : Int32).toNatClampNeg (((xu (xu (xu M l1 (((51 : Int32) + l3) : Int32).toNatClampNeg ((M l1 (((51 : Int32) + l3) : Int32).toNatClampNeg) - 1)) l1 (((0 : Int32) + l4) : Int32).toNatClampNeg ((xu M l1 (((51 : Int32) + l3) : Int32).toNatClampNeg ((M l1 (((51 : Int32) + l3) : Int32).toNatClampNeg) - 1)) l1 (((46 : Int32) + l3) : Int32).toNatClampNeg)) l1 (20 : Int32).toNatClampNeg (((xu (xu M l1 (((51 : Int32) + l3) : Int32).toNatClampNeg ((M l1 (((51 : Int32) + l3) : Int32).toNatClampNeg) - 1)) l1 (((0 : Int32) + l4) : Int32).toNatClampNeg ((xu M l1 (((51 : Int32) + l3) : Int32).toNatClampNeg ((M l1 (((51 : Int32) + l3) : Int32).toNatClampNeg) - 1)) l1 (((46 : Int32) + l3) : Int32).toNatClampNeg)) l1 (20 : Int32).toNatClampNeg) &&& (((1 : Int32) <<< (l4 &&& 31)) ^^^ (-1)))) l1 (((21 : Int32) + l4) : Int32).toNatClampNeg) + 1)), J))) f_162_120 rfl ?_
      refine ev_nx (s1 := (162, 8, [.ref l0, .ref l1, .int l2, .int (l3 + 1), .int l4], [], (sh, (xu (xu (xu (xu M l1 (((51 : Int32) + l3) : Int32).toNatClampNeg ((M l1 (((51 : Int32) + l3) : Int32).toNatClampNeg) - 1)) l1 (((0 : Int32) + l4) : Int32).toNatClampNeg ((xu M l1 (((51 : Int32) + l3) : Int32).toNatClampNeg ((M l1 (((51 : Int32) + l3) : Int32).toNatClampNeg) - 1)) l1 (((46 : Int32) + l3) : Int32).toNatClampNeg)) l1 (20 : Int32).toNatClampNeg (((xu (xu M l1 (((51 : Int32) + l3) : Int32).toNatClampNeg ((M l1 (((51 : Int32) + l3) : Int32).toNatClampNeg) - 1)) l1 (((0 : Int32) + l4) : Int32).toNatClampNeg ((xu M l1 (((51 : Int32) + l3) : Int32).toNatClampNeg ((M l1 (((51 : Int32) + l3) : Int32).toNatClampNeg) - 1)) l1 (((46 : Int32) + l3) : Int32).toNatClampNeg)) l1 (20 : Int32).toNatClampNeg) &&& (((1 : Int32) <<< (l4 &&& 31)) ^^^ (-1)))) l1 (((21 : Int32) + l4) : Int32).toNatClampNeg (((xu (xu (xu M l1 (((51 : Int32) + l3) : Int32).toNatClampNeg ((M l1 (((51 : Int32) + l3) : Int32).toNatClampNeg) - 1)) l1 (((0 : Int32) + l4) : Int32).toNatClampNeg ((xu M l1 (((51 : Int32) + l3) : Int32).toNatClampNeg ((M l1 (((51 : Int32) + l3) : Int32).toNatClampNeg) - 1)) l1 (((46 : Int32) + l3) : Int32).toNatClampNeg)) l1 (20 : Int32).toNatClampNeg (((xu (xu M l1 (((51 : Int32) + l3) : Int32).toNatClampNeg ((M l1 (((51 : Int32) + l3) : Int32).toNatClampNeg) - 1)) l1 (((0 : Int32) + l4) : Int32).toNatClampNeg ((xu M l1 (((51 : Int32) + l3) : Int32).toNatClampNeg ((M l1 (((51 : Int32) + l3) : Int32).toNatClampNeg) - 1)) l1 (((46 : Int32) + l3) : Int32).toNatClampNeg)) l1 (20 : Int32).toNatClampNeg) &&& (((1 : Int32) <<< (l4 &&& 31)) ^^^ (-1)))) l1 (((21 : Int32) + l4) : Int32).toNatClampNeg) + 1)), J))) f_162_123 rfl ?_
      exact (ev_kill hd_162_8).symm
theorem f_163_0 : xfind (xnth xTs 163) 0 = some (0, .iconst 0, 1, (0, 0, 0, 0), (.int 0), [], 0, 0, []) := rfl
theorem f_163_1 : xfind (xnth xTs 163) 1 = some (1, .istore_n 1, 1, (0, 0, 0, 0), .null, [], 0, 0, []) := rfl
theorem f_163_2 : xfind (xnth xTs 163) 2 = some (2, .iconst 0, 1, (0, 0, 0, 0), (.int 0), [], 0, 0, []) := rfl
theorem f_163_3 : xfind (xnth xTs 163) 3 = some (3, .istore_n 2, 1, (0, 0, 0, 0), .null, [], 0, 0, []) := rfl
theorem f_163_4 : xfind (xnth xTs 163) 4 = some (4, .iload_n 2, 1, (0, 0, 0, 0), .null, [], 0, 1, []) := rfl
theorem f_163_5 : xfind (xnth xTs 163) 5 = some (5, .iconst 5, 1, (0, 0, 0, 0), (.int 5), [], 0, 0, []) := rfl
theorem f_163_6 : xfind (xnth xTs 163) 6 = some (6, .if_icmp .ge 18, 3, (0, 0, 0, 0), .null, [], 0, 0, []) := rfl
theorem f_163_9 : xfind (xnth xTs 163) 9 = some (9, .iload_n 1, 1, (0, 0, 0, 0), .null, [], 0, 0, []) := rfl
theorem f_163_10 : xfind (xnth xTs 163) 10 = some (10, .aload_n 0, 1, (0, 0, 0, 0), .null, [], 0, 0, []) := rfl
theorem f_163_11 : xfind (xnth xTs 163) 11 = some (11, .bipush 56, 2, (0, 0, 0, 0), (.int 56), [], 0, 0, []) := rfl
theorem f_163_13 : xfind (xnth xTs 163) 13 = some (13, .iload_n 2, 1, (0, 0, 0, 0), .null, [], 0, 0, []) := rfl
theorem f_163_14 : xfind (xnth xTs 163) 14 = some (14, .iadd, 1, (0, 0, 0, 0), .null, [], 0, 0, []) := rfl
theorem f_163_15 : xfind (xnth xTs 163) 15 = some (15, .iaload, 1, (0, 0, 0, 0), .null, [], 0, 0, []) := rfl
theorem f_163_16 : xfind (xnth xTs 163) 16 = some (16, .iadd, 1, (0, 0, 0, 0), .null, [], 0, 0, []) := rfl
theorem f_163_17 : xfind (xnth xTs 163) 17 = some (17, .istore_n 1, 1, (0, 0, 0, 0), .null, [], 0, 0, []) := rfl
theorem f_163_18 : xfind (xnth xTs 163) 18 = some (18, .iinc 2 1, 3, (0, 0, 0, 0), .null, [], 0, 0, []) := rfl
theorem f_163_21 : xfind (xnth xTs 163) 21 = some (21, .goto (-17), 3, (0, 0, 0, 0), .null, [], 0, 0, []) := rfl
theorem f_163_24 : xfind (xnth xTs 163) 24 = some (24, .iload_n 1, 1, (0, 0, 0, 0), .null, [], 0, 0, []) := rfl
theorem f_163_25 : xfind (xnth xTs 163) 25 = some (25, .ireturn, 1, (0, 0, 0, 0), .null, [], 0, 0, []) := rfl
theorem hd_163_4 : xhead 163 4 = some [] := rfl
theorem b_R_baredOf_0 (sh : xSh) (M : Nat → Nat → Int32) (J : Nat → Nat → Int64) (l0 : Nat) : ev (163, 0, [.ref l0, .null, .null], [], (sh, M, J)) = (ev (163, 4, [.ref l0, .int 0, .int 0], [], (sh, M, J))) := by
  refine ev_nx (s1 := (163, 1, [.ref l0, .null, .null], [.int 0], (sh, M, J))) f_163_0 rfl ?_
  refine ev_nx (s1 := (163, 2, [.ref l0, .int 0, .null], [], (sh, M, J))) f_163_1 rfl ?_
  refine ev_nx (s1 := (163, 3, [.ref l0, .int 0, .null], [.int 0], (sh, M, J))) f_163_2 rfl ?_
  refine ev_nx (s1 := (163, 4, [.ref l0, .int 0, .int 0], [], (sh, M, J))) f_163_3 rfl ?_
  exact rfl
theorem b_R_baredOf_4 (sh : xSh) (M : Nat → Nat → Int32) (J : Nat → Nat → Int64) (l0 : Nat) (l1 : Int32) (l2 : Int32) : ev (163, 4, [.ref l0, .int l1, .int l2], [], (sh, M, J)) = (bif decide (5 ≤ l2) then some (some (.int l1), (sh, M, J)) else bif (decide ((sh.2.2.1 l0).1 = 11) && xin ((56 : Int32) + l2) (sh.2.2.1 l0).2) then ev (163, 4, [.ref l0, .int (l1 + (M l0 (((56 : Int32) + l2) : Int32).toNatClampNeg)), .int (l2 + 1)], [], (sh, M, J)) else none) := by
  refine ev_nx (s1 := (163, 5, [.ref l0, .int l1, .int l2], [.int l2], (sh, M, J))) f_163_4 rfl ?_
  refine ev_nx (s1 := (163, 6, [.ref l0, .int l1, .int l2], [.int 5, .int l2], (sh, M, J))) f_163_5 rfl ?_
  refine ev_br (s1 := (163, 24, [.ref l0, .int l1, .int l2], [], (sh, M, J))) (s2 := (163, 9, [.ref l0, .int l1, .int l2], [], (sh, M, J))) f_163_6 rfl ?_ ?_
  · refine ev_nx (s1 := (163, 25, [.ref l0, .int l1, .int l2], [.int l1], (sh, M, J))) f_163_24 rfl ?_
    exact ev_r1 f_163_25 rfl
  · refine ev_nx (s1 := (163, 10, [.ref l0, .int l1, .int l2], [.int l1], (sh, M, J))) f_163_9 rfl ?_
    refine ev_nx (s1 := (163, 11, [.ref l0, .int l1, .int l2], [.ref l0, .int l1], (sh, M, J))) f_163_10 rfl ?_
    refine ev_nx (s1 := (163, 13, [.ref l0, .int l1, .int l2], [.int 56, .ref l0, .int l1], (sh, M, J))) f_163_11 rfl ?_
    refine ev_nx (s1 := (163, 14, [.ref l0, .int l1, .int l2], [.int l2, .int 56, .ref l0, .int l1], (sh, M, J))) f_163_13 rfl ?_
    refine ev_nx (s1 := (163, 15, [.ref l0, .int l1, .int l2], [.int ((56 : Int32) + l2), .ref l0, .int l1], (sh, M, J))) f_163_14 rfl ?_
    refine ev_gd (s1 := (163, 16, [.ref l0, .int l1, .int l2], [.int (M l0 (((56 : Int32) + l2) : Int32).toNatClampNeg), .int l1], (sh, M, J))) f_163_15 rfl ?_
    refine ev_nx (s1 := (163, 17, [.ref l0, .int l1, .int l2], [.int (l1 + (M l0 (((56 : Int32) + l2) : Int32).toNatClampNeg))], (sh, M, J))) f_163_16 rfl ?_
    refine ev_nx (s1 := (163, 18, [.ref l0, .int (l1 + (M l0 (((56 : Int32) + l2) : Int32).toNatClampNeg)), .int l2], [], (sh, M, J))) f_163_17 rfl ?_
    refine ev_nx (s1 := (163, 21, [.ref l0, .int (l1 + (M l0 (((56 : Int32) + l2) : Int32).toNatClampNeg)), .int (l2 + 1)], [], (sh, M, J))) f_163_18 rfl ?_
    refine ev_nx (s1 := (163, 4, [.ref l0, .int (l1 + (M l0 (((56 : Int32) + l2) : Int32).toNatClampNeg)), .int (l2 + 1)], [], (sh, M, J))) f_163_21 rfl ?_
    exact rfl
theorem f_164_0 : xfind (xnth xTs 164) 0 = some (0, .iload_n 1, 1, (0, 0, 0, 0), .null, [], 0, 0, []) := rfl
theorem f_164_1 : xfind (xnth xTs 164) 1 = some (1, .tableswitch 151 0 12 #[67, 67, 67, 74, 79, 87, 95, 104, 112, 124, 136, 141, 146], 67, (0, 0, 0, 152), .null, [(0, 68), (1, 68), (2, 68), (3, 75), (4, 80), (5, 88), (6, 96), (7, 105), (8, 113), (9, 125), (10, 137), (11, 142), (12, 147)], 0, 0, []) := rfl
theorem f_164_68 : xfind (xnth xTs 164) 68 = some (68, .aload_n 0, 1, (0, 0, 0, 0), .null, [], 0, 0, []) := rfl
theorem f_164_69 : xfind (xnth xTs 164) 69 = some (69, .getfield 7, 3, (9, 0, 1, 0), .null, [], 909, 0, []) := rfl
theorem f_164_72 : xfind (xnth xTs 164) 72 = some (72, .iload_n 1, 1, (0, 0, 0, 0), .null, [], 0, 0, []) := rfl
theorem f_164_73 : xfind (xnth xTs 164) 73 = some (73, .iaload, 1, (0, 0, 0, 0), .null, [], 0, 0, []) := rfl
theorem f_164_74 : xfind (xnth xTs 164) 74 = some (74, .ireturn, 1, (0, 0, 0, 0), .null, [], 0, 0, []) := rfl
theorem f_164_75 : xfind (xnth xTs 164) 75 = some (75, .aload_n 0, 1, (0, 0, 0, 0), .null, [], 0, 0, []) := rfl
theorem f_164_76 : xfind (xnth xTs 164) 76 = some (76, .getfield 92, 3, (9, 10, 0, 0), .null, [], 919, 0, []) := rfl
theorem f_164_79 : xfind (xnth xTs 164) 79 = some (79, .ireturn, 1, (0, 0, 0, 0), .null, [], 0, 0, []) := rfl
theorem f_164_80 : xfind (xnth xTs 164) 80 = some (80, .aload_n 0, 1, (0, 0, 0, 0), .null, [], 0, 0, []) := rfl
theorem f_164_81 : xfind (xnth xTs 164) 81 = some (81, .getfield 16, 3, (9, 2, 1, 0), .null, [], 911, 0, []) := rfl
theorem f_164_84 : xfind (xnth xTs 164) 84 = some (84, .bipush 61, 2, (0, 0, 0, 0), (.int 61), [], 0, 0, []) := rfl
theorem f_164_86 : xfind (xnth xTs 164) 86 = some (86, .iaload, 1, (0, 0, 0, 0), .null, [], 0, 0, []) := rfl
theorem f_164_87 : xfind (xnth xTs 164) 87 = some (87, .ireturn, 1, (0, 0, 0, 0), .null, [], 0, 0, []) := rfl
theorem f_164_88 : xfind (xnth xTs 164) 88 = some (88, .aload_n 0, 1, (0, 0, 0, 0), .null, [], 0, 0, []) := rfl
theorem f_164_89 : xfind (xnth xTs 164) 89 = some (89, .getfield 16, 3, (9, 2, 1, 0), .null, [], 911, 0, []) := rfl
theorem f_164_92 : xfind (xnth xTs 164) 92 = some (92, .bipush 20, 2, (0, 0, 0, 0), (.int 20), [], 0, 0, []) := rfl
theorem f_164_94 : xfind (xnth xTs 164) 94 = some (94, .iaload, 1, (0, 0, 0, 0), .null, [], 0, 0, []) := rfl
theorem f_164_95 : xfind (xnth xTs 164) 95 = some (95, .ireturn, 1, (0, 0, 0, 0), .null, [], 0, 0, []) := rfl
theorem f_164_96 : xfind (xnth xTs 164) 96 = some (96, .aload_n 0, 1, (0, 0, 0, 0), .null, [], 0, 0, []) := rfl
theorem f_164_97 : xfind (xnth xTs 164) 97 = some (97, .aload_n 0, 1, (0, 0, 0, 0), .null, [], 0, 0, []) := rfl
theorem f_164_98 : xfind (xnth xTs 164) 98 = some (98, .getfield 16, 3, (9, 2, 1, 0), .null, [], 911, 0, []) := rfl
theorem f_164_101 : xfind (xnth xTs 164) 101 = some (101, .invokevirtual 177, 3, (160, 1, 9, 7), .null, [], 1053, 0, []) := rfl
theorem f_164_104 : xfind (xnth xTs 164) 104 = some (104, .ireturn, 1, (0, 0, 0, 0), .null, [], 0, 0, []) := rfl
theorem f_164_105 : xfind (xnth xTs 164) 105 = some (105, .aload_n 0, 1, (0, 0, 0, 0), .null, [], 0, 0, []) := rfl
theorem f_164_106 : xfind (xnth xTs 164) 106 = some (106, .getfield 16, 3, (9, 2, 1, 0), .null, [], 911, 0, []) := rfl
theorem f_164_109 : xfind (xnth xTs 164) 109 = some (109, .invokestatic 183, 3, (163, 1, 9, 3), .null, [], 1077, 0, []) := rfl
theorem f_164_112 : xfind (xnth xTs 164) 112 = some (112, .ireturn, 1, (0, 0, 0, 0), .null, [], 0, 0, []) := rfl
theorem f_164_113 : xfind (xnth xTs 164) 113 = some (113, .aload_n 0, 1, (0, 0, 0, 0), .null, [], 0, 0, []) := rfl
theorem f_164_114 : xfind (xnth xTs 164) 114 = some (114, .aload_n 0, 1, (0, 0, 0, 0), .null, [], 0, 0, []) := rfl
theorem f_164_115 : xfind (xnth xTs 164) 115 = some (115, .getfield 16, 3, (9, 2, 1, 0), .null, [], 911, 0, []) := rfl
theorem f_164_118 : xfind (xnth xTs 164) 118 = some (118, .invokevirtual 186, 3, (156, 1, 9, 4), .null, [], 1080, 0, []) := rfl
theorem f_164_121 : xfind (xnth xTs 164) 121 = some (121, .bipush 50, 2, (0, 0, 0, 0), (.int 50), [], 0, 0, []) := rfl
theorem f_164_123 : xfind (xnth xTs 164) 123 = some (123, .idiv, 1, (0, 0, 0, 0), .null, [], 0, 0, []) := rfl
theorem f_164_124 : xfind (xnth xTs 164) 124 = some (124, .ireturn, 1, (0, 0, 0, 0), .null, [], 0, 0, []) := rfl
theorem f_164_125 : xfind (xnth xTs 164) 125 = some (125, .aload_n 0, 1, (0, 0, 0, 0), .null, [], 0, 0, []) := rfl
theorem f_164_126 : xfind (xnth xTs 164) 126 = some (126, .aload_n 0, 1, (0, 0, 0, 0), .null, [], 0, 0, []) := rfl
theorem f_164_127 : xfind (xnth xTs 164) 127 = some (127, .getfield 16, 3, (9, 2, 1, 0), .null, [], 911, 0, []) := rfl
theorem f_164_130 : xfind (xnth xTs 164) 130 = some (130, .invokevirtual 169, 3, (158, 1, 9, 5), .null, [], 1057, 0, []) := rfl
theorem f_164_133 : xfind (xnth xTs 164) 133 = some (133, .bipush 100, 2, (0, 0, 0, 0), (.int 100), [], 0, 0, []) := rfl
theorem f_164_135 : xfind (xnth xTs 164) 135 = some (135, .iadd, 1, (0, 0, 0, 0), .null, [], 0, 0, []) := rfl
theorem f_164_136 : xfind (xnth xTs 164) 136 = some (136, .ireturn, 1, (0, 0, 0, 0), .null, [], 0, 0, []) := rfl
theorem f_164_137 : xfind (xnth xTs 164) 137 = some (137, .aload_n 0, 1, (0, 0, 0, 0), .null, [], 0, 0, []) := rfl
theorem f_164_138 : xfind (xnth xTs 164) 138 = some (138, .getfield 83, 3, (9, 13, 0, 0), .null, [], 922, 0, []) := rfl
theorem f_164_141 : xfind (xnth xTs 164) 141 = some (141, .ireturn, 1, (0, 0, 0, 0), .null, [], 0, 0, []) := rfl
theorem f_164_142 : xfind (xnth xTs 164) 142 = some (142, .aload_n 0, 1, (0, 0, 0, 0), .null, [], 0, 0, []) := rfl
theorem f_164_143 : xfind (xnth xTs 164) 143 = some (143, .getfield 86, 3, (9, 15, 0, 0), .null, [], 924, 0, []) := rfl
theorem f_164_146 : xfind (xnth xTs 164) 146 = some (146, .ireturn, 1, (0, 0, 0, 0), .null, [], 0, 0, []) := rfl
theorem f_164_147 : xfind (xnth xTs 164) 147 = some (147, .aload_n 0, 1, (0, 0, 0, 0), .null, [], 0, 0, []) := rfl
theorem f_164_148 : xfind (xnth xTs 164) 148 = some (148, .getfield 80, 3, (9, 5, 0, 0), .null, [], 914, 0, []) := rfl
theorem f_164_151 : xfind (xnth xTs 164) 151 = some (151, .ireturn, 1, (0, 0, 0, 0), .null, [], 0, 0, []) := rfl
theorem f_164_152 : xfind (xnth xTs 164) 152 = some (152, .ldc 91, 2, (0, 0, 0, 0), (.int (-1000000002)), [], 994, 0, []) := rfl
theorem f_164_154 : xfind (xnth xTs 164) 154 = some (154, .ireturn, 1, (0, 0, 0, 0), .null, [], 0, 0, []) := rfl
theorem b_R_told_0 (sh : xSh) (M : Nat → Nat → Int32) (J : Nat → Nat → Int64) (l0 : Nat) (l1 : Int32) : ev (164, 0, [.ref l0, .int l1], [], (sh, M, J)) = (if l1 = 0 then bif decide ((sh.2.2.1 l0).1 = 9) then bif (decide ((sh.2.2.1 (sh.2.2.2 l0 0)).1 = 11) && xin l1 (sh.2.2.1 (sh.2.2.2 l0 0)).2) then some (some (.int (M (sh.2.2.2 l0 0) (l1 : Int32).toNatClampNeg)), (sh, M, J)) else none else none else if l1 = 1 then bif decide ((sh.2.2.1 l0).1 = 9) then bif (decide ((sh.2.2.1 (sh.2.2.2 l0 0)).1 = 11) && xin l1 (sh.2.2.1 (sh.2.2.2 l0 0)).2) then some (some (.int (M (sh.2.2.2 l0 0) (l1 : Int32).toNatClampNeg)), (sh, M, J)) else none else none else if l1 = 2 then bif decide ((sh.2.2.1 l0).1 = 9) then bif (decide ((sh.2.2.1 (sh.2.2.2 l0 0)).1 = 11) && xin l1 (sh.2.2.1 (sh.2.2.2 l0 0)).2) then some (some (.int (M (sh.2.2.2 l0 0) (l1 : Int32).toNatClampNeg)), (sh, M, J)) else none else none else if l1 = 3 then bif decide ((sh.2.2.1 l0).1 = 9) then some (some (.int (M l0 10)), (sh, M, J)) else none else if l1 = 4 then bif decide ((sh.2.2.1 l0).1 = 9) then bif (decide ((sh.2.2.1 (sh.2.2.2 l0 2)).1 = 11) && xin 61 (sh.2.2.1 (sh.2.2.2 l0 2)).2) then some (some (.int (M (sh.2.2.2 l0 2) (61 : Int32).toNatClampNeg)), (sh, M, J)) else none else none else if l1 = 5 then bif decide ((sh.2.2.1 l0).1 = 9) then bif (decide ((sh.2.2.1 (sh.2.2.2 l0 2)).1 = 11) && xin 20 (sh.2.2.1 (sh.2.2.2 l0 2)).2) then some (some (.int (M (sh.2.2.2 l0 2) (20 : Int32).toNatClampNeg)), (sh, M, J)) else none else none else if l1 = 6 then bif decide ((sh.2.2.1 l0).1 = 9) then bif (decide ((sh.2.2.1 l0).1 = 9) && true) then (ev (160, 0, [.ref l0, .ref (sh.2.2.2 l0 2), .null, .null, .null, .null, .null], [], (sh, M, J))).bind (fun r => ev (164, 104, [.ref l0, .int l1], r.1.toList ++ [], r.2)) else none else none else if l1 = 7 then bif decide ((sh.2.2.1 l0).1 = 9) then (ev (163, 0, [.ref (sh.2.2.2 l0 2), .null, .null], [], (sh, M, J))).bind (fun r => ev (164, 112, [.ref l0, .int l1], r.1.toList ++ [], r.2)) else none else if l1 = 8 then bif decide ((sh.2.2.1 l0).1 = 9) then bif (decide ((sh.2.2.1 l0).1 = 9) && true) then (ev (156, 0, [.ref l0, .ref (sh.2.2.2 l0 2), .null, .null], [], (sh, M, J))).bind (fun r => ev (164, 121, [.ref l0, .int l1], r.1.toList ++ [], r.2)) else none else none else if l1 = 9 then bif decide ((sh.2.2.1 l0).1 = 9) then bif (decide ((sh.2.2.1 l0).1 = 9) && true) then (ev (158, 0, [.ref l0, .ref (sh.2.2.2 l0 2), .null, .null, .null], [], (sh, M, J))).bind (fun r => ev (164, 133, [.ref l0, .int l1], r.1.toList ++ [], r.2)) else none else none else if l1 = 10 then bif decide ((sh.2.2.1 l0).1 = 9) then some (some (.int (M l0 13)), (sh, M, J)) else none else if l1 = 11 then bif decide ((sh.2.2.1 l0).1 = 9) then some (some (.int (M l0 15)), (sh, M, J)) else none else if l1 = 12 then bif decide ((sh.2.2.1 l0).1 = 9) then some (some (.int (M l0 5)), (sh, M, J)) else none else some (some (.int (-1000000002)), (sh, M, J))) := by
  refine ev_nx (s1 := (164, 1, [.ref l0, .int l1], [.int l1], (sh, M, J))) f_164_0 rfl ?_
  refine ev_sw f_164_1 rfl ?_
  refine ev_swc ?_ ?_
  · refine ev_nx (s1 := (164, 69, [.ref l0, .int l1], [.ref l0], (sh, M, J))) f_164_68 rfl ?_
    refine ev_gd (s1 := (164, 72, [.ref l0, .int l1], [.ref (sh.2.2.2 l0 0)], (sh, M, J))) f_164_69 rfl ?_
    refine ev_nx (s1 := (164, 73, [.ref l0, .int l1], [.int l1, .ref (sh.2.2.2 l0 0)], (sh, M, J))) f_164_72 rfl ?_
    refine ev_gd (s1 := (164, 74, [.ref l0, .int l1], [.int (M (sh.2.2.2 l0 0) (l1 : Int32).toNatClampNeg)], (sh, M, J))) f_164_73 rfl ?_
    exact ev_r1 f_164_74 rfl
  refine ev_swc ?_ ?_
  · refine ev_nx (s1 := (164, 69, [.ref l0, .int l1], [.ref l0], (sh, M, J))) f_164_68 rfl ?_
    refine ev_gd (s1 := (164, 72, [.ref l0, .int l1], [.ref (sh.2.2.2 l0 0)], (sh, M, J))) f_164_69 rfl ?_
    refine ev_nx (s1 := (164, 73, [.ref l0, .int l1], [.int l1, .ref (sh.2.2.2 l0 0)], (sh, M, J))) f_164_72 rfl ?_
    refine ev_gd (s1 := (164, 74, [.ref l0, .int l1], [.int (M (sh.2.2.2 l0 0) (l1 : Int32).toNatClampNeg)], (sh, M, J))) f_164_73 rfl ?_
    exact ev_r1 f_164_74 rfl
  refine ev_swc ?_ ?_
  · refine ev_nx (s1 := (164, 69, [.ref l0, .int l1], [.ref l0], (sh, M, J))) f_164_68 rfl ?_
    refine ev_gd (s1 := (164, 72, [.ref l0, .int l1], [.ref (sh.2.2.2 l0 0)], (sh, M, J))) f_164_69 rfl ?_
    refine ev_nx (s1 := (164, 73, [.ref l0, .int l1], [.int l1, .ref (sh.2.2.2 l0 0)], (sh, M, J))) f_164_72 rfl ?_
    refine ev_gd (s1 := (164, 74, [.ref l0, .int l1], [.int (M (sh.2.2.2 l0 0) (l1 : Int32).toNatClampNeg)], (sh, M, J))) f_164_73 rfl ?_
    exact ev_r1 f_164_74 rfl
  refine ev_swc ?_ ?_
  · refine ev_nx (s1 := (164, 76, [.ref l0, .int l1], [.ref l0], (sh, M, J))) f_164_75 rfl ?_
    refine ev_gd (s1 := (164, 79, [.ref l0, .int l1], [.int (M l0 10)], (sh, M, J))) f_164_76 rfl ?_
    exact ev_r1 f_164_79 rfl
  refine ev_swc ?_ ?_
  · refine ev_nx (s1 := (164, 81, [.ref l0, .int l1], [.ref l0], (sh, M, J))) f_164_80 rfl ?_
    refine ev_gd (s1 := (164, 84, [.ref l0, .int l1], [.ref (sh.2.2.2 l0 2)], (sh, M, J))) f_164_81 rfl ?_
    refine ev_nx (s1 := (164, 86, [.ref l0, .int l1], [.int 61, .ref (sh.2.2.2 l0 2)], (sh, M, J))) f_164_84 rfl ?_
    refine ev_gd (s1 := (164, 87, [.ref l0, .int l1], [.int (M (sh.2.2.2 l0 2) (61 : Int32).toNatClampNeg)], (sh, M, J))) f_164_86 rfl ?_
    exact ev_r1 f_164_87 rfl
  refine ev_swc ?_ ?_
  · refine ev_nx (s1 := (164, 89, [.ref l0, .int l1], [.ref l0], (sh, M, J))) f_164_88 rfl ?_
    refine ev_gd (s1 := (164, 92, [.ref l0, .int l1], [.ref (sh.2.2.2 l0 2)], (sh, M, J))) f_164_89 rfl ?_
    refine ev_nx (s1 := (164, 94, [.ref l0, .int l1], [.int 20, .ref (sh.2.2.2 l0 2)], (sh, M, J))) f_164_92 rfl ?_
    refine ev_gd (s1 := (164, 95, [.ref l0, .int l1], [.int (M (sh.2.2.2 l0 2) (20 : Int32).toNatClampNeg)], (sh, M, J))) f_164_94 rfl ?_
    exact ev_r1 f_164_95 rfl
  refine ev_swc ?_ ?_
  · refine ev_nx (s1 := (164, 97, [.ref l0, .int l1], [.ref l0], (sh, M, J))) f_164_96 rfl ?_
    refine ev_nx (s1 := (164, 98, [.ref l0, .int l1], [.ref l0, .ref l0], (sh, M, J))) f_164_97 rfl ?_
    refine ev_gd (s1 := (164, 101, [.ref l0, .int l1], [.ref (sh.2.2.2 l0 2), .ref l0], (sh, M, J))) f_164_98 rfl ?_
    exact ev_ca (cc := (decide ((sh.2.2.1 l0).1 = 9) && true)) (s1 := (160, 0, [.ref l0, .ref (sh.2.2.2 l0 2), .null, .null, .null, .null, .null], [], (sh, M, J))) (k := (164, 104, [.ref l0, .int l1], [])) f_164_101 rfl
  refine ev_swc ?_ ?_
  · refine ev_nx (s1 := (164, 106, [.ref l0, .int l1], [.ref l0], (sh, M, J))) f_164_105 rfl ?_
    refine ev_gd (s1 := (164, 109, [.ref l0, .int l1], [.ref (sh.2.2.2 l0 2)], (sh, M, J))) f_164_106 rfl ?_
    exact ev_c1 (s1 := (163, 0, [.ref (sh.2.2.2 l0 2), .null, .null], [], (sh, M, J))) (k := (164, 112, [.ref l0, .int l1], [])) f_164_109 rfl
  refine ev_swc ?_ ?_
  · refine ev_nx (s1 := (164, 114, [.ref l0, .int l1], [.ref l0], (sh, M, J))) f_164_113 rfl ?_
    refine ev_nx (s1 := (164, 115, [.ref l0, .int l1], [.ref l0, .ref l0], (sh, M, J))) f_164_114 rfl ?_
    refine ev_gd (s1 := (164, 118, [.ref l0, .int l1], [.ref (sh.2.2.2 l0 2), .ref l0], (sh, M, J))) f_164_115 rfl ?_
    exact ev_ca (cc := (decide ((sh.2.2.1 l0).1 = 9) && true)) (s1 := (156, 0, [.ref l0, .ref (sh.2.2.2 l0 2), .null, .null], [], (sh, M, J))) (k := (164, 121, [.ref l0, .int l1], [])) f_164_118 rfl
  refine ev_swc ?_ ?_
  · refine ev_nx (s1 := (164, 126, [.ref l0, .int l1], [.ref l0], (sh, M, J))) f_164_125 rfl ?_
    refine ev_nx (s1 := (164, 127, [.ref l0, .int l1], [.ref l0, .ref l0], (sh, M, J))) f_164_126 rfl ?_
    refine ev_gd (s1 := (164, 130, [.ref l0, .int l1], [.ref (sh.2.2.2 l0 2), .ref l0], (sh, M, J))) f_164_127 rfl ?_
    exact ev_ca (cc := (decide ((sh.2.2.1 l0).1 = 9) && true)) (s1 := (158, 0, [.ref l0, .ref (sh.2.2.2 l0 2), .null, .null, .null], [], (sh, M, J))) (k := (164, 133, [.ref l0, .int l1], [])) f_164_130 rfl
  refine ev_swc ?_ ?_
  · refine ev_nx (s1 := (164, 138, [.ref l0, .int l1], [.ref l0], (sh, M, J))) f_164_137 rfl ?_
    refine ev_gd (s1 := (164, 141, [.ref l0, .int l1], [.int (M l0 13)], (sh, M, J))) f_164_138 rfl ?_
    exact ev_r1 f_164_141 rfl
  refine ev_swc ?_ ?_
  · refine ev_nx (s1 := (164, 143, [.ref l0, .int l1], [.ref l0], (sh, M, J))) f_164_142 rfl ?_
    refine ev_gd (s1 := (164, 146, [.ref l0, .int l1], [.int (M l0 15)], (sh, M, J))) f_164_143 rfl ?_
    exact ev_r1 f_164_146 rfl
  refine ev_swc ?_ ?_
  · refine ev_nx (s1 := (164, 148, [.ref l0, .int l1], [.ref l0], (sh, M, J))) f_164_147 rfl ?_
    refine ev_gd (s1 := (164, 151, [.ref l0, .int l1], [.int (M l0 5)], (sh, M, J))) f_164_148 rfl ?_
    exact ev_r1 f_164_151 rfl
  show ev (164, 152, [.ref l0, .int l1], [], (sh, M, J)) = _
  refine ev_nx (s1 := (164, 154, [.ref l0, .int l1], [.int (-1000000002)], (sh, M, J))) f_164_152 rfl ?_
  exact ev_r1 f_164_154 rfl
theorem b_R_told_104 (sh : xSh) (M : Nat → Nat → Int32) (J : Nat → Nat → Int64) (l0 : Nat) (l1 : Int32) (k0 : Int32) : ev (164, 104, [.ref l0, .int l1], [.int k0], (sh, M, J)) = (some (some (.int k0), (sh, M, J))) := by
  exact ev_r1 f_164_104 rfl
theorem b_R_told_112 (sh : xSh) (M : Nat → Nat → Int32) (J : Nat → Nat → Int64) (l0 : Nat) (l1 : Int32) (k0 : Int32) : ev (164, 112, [.ref l0, .int l1], [.int k0], (sh, M, J)) = (some (some (.int k0), (sh, M, J))) := by
  exact ev_r1 f_164_112 rfl
theorem b_R_told_121 (sh : xSh) (M : Nat → Nat → Int32) (J : Nat → Nat → Int64) (l0 : Nat) (l1 : Int32) (k0 : Int32) : ev (164, 121, [.ref l0, .int l1], [.int k0], (sh, M, J)) = (some (some (.int (k0 / 50)), (sh, M, J))) := by
  refine ev_nx (s1 := (164, 123, [.ref l0, .int l1], [.int 50, .int k0], (sh, M, J))) f_164_121 rfl ?_
  refine ev_nx (s1 := (164, 124, [.ref l0, .int l1], [.int (k0 / 50)], (sh, M, J))) f_164_123 rfl ?_
  exact ev_r1 f_164_124 rfl
theorem b_R_told_133 (sh : xSh) (M : Nat → Nat → Int32) (J : Nat → Nat → Int64) (l0 : Nat) (l1 : Int32) (k0 : Int32) : ev (164, 133, [.ref l0, .int l1], [.int k0], (sh, M, J)) = (some (some (.int (k0 + 100)), (sh, M, J))) := by
  refine ev_nx (s1 := (164, 135, [.ref l0, .int l1], [.int 100, .int k0], (sh, M, J))) f_164_133 rfl ?_
  refine ev_nx (s1 := (164, 136, [.ref l0, .int l1], [.int (k0 + 100)], (sh, M, J))) f_164_135 rfl ?_
  exact ev_r1 f_164_136 rfl
theorem f_165_0 : xfind (xnth xTs 165) 0 = some (0, .aload_n 0, 1, (0, 0, 0, 0), .null, [], 0, 0, []) := rfl
theorem f_165_1 : xfind (xnth xTs 165) 1 = some (1, .iload_n 1, 1, (0, 0, 0, 0), .null, [], 0, 0, []) := rfl
theorem f_165_2 : xfind (xnth xTs 165) 2 = some (2, .invokevirtual 189, 3, (152, 1, 9, 2), .null, [], 1088, 0, []) := rfl
theorem f_165_5 : xfind (xnth xTs 165) 5 = some (5, .ifCond .ne 6, 3, (0, 0, 0, 0), .null, [], 0, 0, []) := rfl
theorem f_165_8 : xfind (xnth xTs 165) 8 = some (8, .ldc 192, 2, (0, 0, 0, 0), (.int (-1000000001)), [], 1092, 0, []) := rfl
theorem f_165_10 : xfind (xnth xTs 165) 10 = some (10, .ireturn, 1, (0, 0, 0, 0), .null, [], 0, 0, []) := rfl
theorem f_165_11 : xfind (xnth xTs 165) 11 = some (11, .iload_n 2, 1, (0, 0, 0, 0), .null, [], 0, 0, []) := rfl
theorem f_165_12 : xfind (xnth xTs 165) 12 = some (12, .tableswitch 88 0 3 #[32, 41, 61, 71], 32, (0, 0, 0, 100), .null, [(0, 44), (1, 53), (2, 73), (3, 83)], 0, 0, []) := rfl
theorem f_165_44 : xfind (xnth xTs 165) 44 = some (44, .aload_n 0, 1, (0, 0, 0, 0), .null, [], 0, 0, []) := rfl
theorem f_165_45 : xfind (xnth xTs 165) 45 = some (45, .getfield 16, 3, (9, 2, 1, 0), .null, [], 911, 0, []) := rfl
theorem f_165_48 : xfind (xnth xTs 165) 48 = some (48, .iconst 0, 1, (0, 0, 0, 0), (.int 0), [], 0, 0, []) := rfl
theorem f_165_49 : xfind (xnth xTs 165) 49 = some (49, .iload_n 1, 1, (0, 0, 0, 0), .null, [], 0, 0, []) := rfl
theorem f_165_50 : xfind (xnth xTs 165) 50 = some (50, .iadd, 1, (0, 0, 0, 0), .null, [], 0, 0, []) := rfl
theorem f_165_51 : xfind (xnth xTs 165) 51 = some (51, .iaload, 1, (0, 0, 0, 0), .null, [], 0, 0, []) := rfl
theorem f_165_52 : xfind (xnth xTs 165) 52 = some (52, .ireturn, 1, (0, 0, 0, 0), .null, [], 0, 0, []) := rfl
theorem f_165_53 : xfind (xnth xTs 165) 53 = some (53, .aload_n 0, 1, (0, 0, 0, 0), .null, [], 0, 0, []) := rfl
theorem f_165_54 : xfind (xnth xTs 165) 54 = some (54, .getfield 16, 3, (9, 2, 1, 0), .null, [], 911, 0, []) := rfl
theorem f_165_57 : xfind (xnth xTs 165) 57 = some (57, .bipush 20, 2, (0, 0, 0, 0), (.int 20), [], 0, 0, []) := rfl
theorem f_165_59 : xfind (xnth xTs 165) 59 = some (59, .iaload, 1, (0, 0, 0, 0), .null, [], 0, 0, []) := rfl
theorem f_165_60 : xfind (xnth xTs 165) 60 = some (60, .iload_n 1, 1, (0, 0, 0, 0), .null, [], 0, 0, []) := rfl
theorem f_165_61 : xfind (xnth xTs 165) 61 = some (61, .invokestatic 137, 3, (133, 2, 9, 2), .null, [], 1034, 0, []) := rfl
theorem f_165_64 : xfind (xnth xTs 165) 64 = some (64, .ifCond .eq 7, 3, (0, 0, 0, 0), .null, [], 0, 0, []) := rfl
theorem f_165_67 : xfind (xnth xTs 165) 67 = some (67, .iconst 1, 1, (0, 0, 0, 0), (.int 1), [], 0, 0, []) := rfl
theorem f_165_68 : xfind (xnth xTs 165) 68 = some (68, .goto 4, 3, (0, 0, 0, 0), .null, [], 0, 0, []) := rfl
theorem f_165_71 : xfind (xnth xTs 165) 71 = some (71, .iconst 0, 1, (0, 0, 0, 0), (.int 0), [], 0, 0, []) := rfl
theorem f_165_72 : xfind (xnth xTs 165) 72 = some (72, .ireturn, 1, (0, 0, 0, 0), .null, [], 0, 0, []) := rfl
theorem f_165_73 : xfind (xnth xTs 165) 73 = some (73, .aload_n 0, 1, (0, 0, 0, 0), .null, [], 0, 0, []) := rfl
theorem f_165_74 : xfind (xnth xTs 165) 74 = some (74, .getfield 16, 3, (9, 2, 1, 0), .null, [], 911, 0, []) := rfl
theorem f_165_77 : xfind (xnth xTs 165) 77 = some (77, .bipush 21, 2, (0, 0, 0, 0), (.int 21), [], 0, 0, []) := rfl
theorem f_165_79 : xfind (xnth xTs 165) 79 = some (79, .iload_n 1, 1, (0, 0, 0, 0), .null, [], 0, 0, []) := rfl
theorem f_165_80 : xfind (xnth xTs 165) 80 = some (80, .iadd, 1, (0, 0, 0, 0), .null, [], 0, 0, []) := rfl
theorem f_165_81 : xfind (xnth xTs 165) 81 = some (81, .iaload, 1, (0, 0, 0, 0), .null, [], 0, 0, []) := rfl
theorem f_165_82 : xfind (xnth xTs 165) 82 = some (82, .ireturn, 1, (0, 0, 0, 0), .null, [], 0, 0, []) := rfl
theorem f_165_83 : xfind (xnth xTs 165) 83 = some (83, .aload_n 0, 1, (0, 0, 0, 0), .null, [], 0, 0, []) := rfl
theorem f_165_84 : xfind (xnth xTs 165) 84 = some (84, .iload_n 1, 1, (0, 0, 0, 0), .null, [], 0, 0, []) := rfl
theorem f_165_85 : xfind (xnth xTs 165) 85 = some (85, .aload_n 0, 1, (0, 0, 0, 0), .null, [], 0, 0, []) := rfl
theorem f_165_86 : xfind (xnth xTs 165) 86 = some (86, .aload_n 0, 1, (0, 0, 0, 0), .null, [], 0, 0, []) := rfl
theorem f_165_87 : xfind (xnth xTs 165) 87 = some (87, .getfield 16, 3, (9, 2, 1, 0), .null, [], 911, 0, []) := rfl
theorem f_165_90 : xfind (xnth xTs 165) 90 = some (90, .invokevirtual 169, 3, (158, 1, 9, 5), .null, [], 1057, 0, []) := rfl
theorem f_165_93 : xfind (xnth xTs 165) 93 = some (93, .invokevirtual 173, 3, (159, 2, 9, 5), .null, [], 1073, 0, []) := rfl
theorem f_165_96 : xfind (xnth xTs 165) 96 = some (96, .bipush 100, 2, (0, 0, 0, 0), (.int 100), [], 0, 0, []) := rfl
theorem f_165_98 : xfind (xnth xTs 165) 98 = some (98, .iadd, 1, (0, 0, 0, 0), .null, [], 0, 0, []) := rfl
theorem f_165_99 : xfind (xnth xTs 165) 99 = some (99, .ireturn, 1, (0, 0, 0, 0), .null, [], 0, 0, []) := rfl
theorem f_165_100 : xfind (xnth xTs 165) 100 = some (100, .ldc 91, 2, (0, 0, 0, 0), (.int (-1000000002)), [], 994, 0, []) := rfl
theorem f_165_102 : xfind (xnth xTs 165) 102 = some (102, .ireturn, 1, (0, 0, 0, 0), .null, [], 0, 0, []) := rfl
theorem b_R_cell_0 (sh : xSh) (M : Nat → Nat → Int32) (J : Nat → Nat → Int64) (l0 : Nat) (l1 : Int32) (l2 : Int32) : ev (165, 0, [.ref l0, .int l1, .int l2], [], (sh, M, J)) = (bif (decide ((sh.2.2.1 l0).1 = 9) && true) then (ev (152, 0, [.ref l0, .int l1], [], (sh, M, J))).bind (fun r => ev (165, 5, [.ref l0, .int l1, .int l2], r.1.toList ++ [], r.2)) else none) := by
  refine ev_nx (s1 := (165, 1, [.ref l0, .int l1, .int l2], [.ref l0], (sh, M, J))) f_165_0 rfl ?_
  refine ev_nx (s1 := (165, 2, [.ref l0, .int l1, .int l2], [.int l1, .ref l0], (sh, M, J))) f_165_1 rfl ?_
  exact ev_ca (cc := (decide ((sh.2.2.1 l0).1 = 9) && true)) (s1 := (152, 0, [.ref l0, .int l1], [], (sh, M, J))) (k := (165, 5, [.ref l0, .int l1, .int l2], [])) f_165_2 rfl
theorem b_R_cell_5 (sh : xSh) (M : Nat → Nat → Int32) (J : Nat → Nat → Int64) (l0 : Nat) (l1 : Int32) (l2 : Int32) (k0 : Int32) : ev (165, 5, [.ref l0, .int l1, .int l2], [.int k0], (sh, M, J)) = (bif !decide (k0 = 0) then if l2 = 0 then bif decide ((sh.2.2.1 l0).1 = 9) then bif (decide ((sh.2.2.1 (sh.2.2.2 l0 2)).1 = 11) && xin ((0 : Int32) + l1) (sh.2.2.1 (sh.2.2.2 l0 2)).2) then some (some (.int (M (sh.2.2.2 l0 2) (((0 : Int32) + l1) : Int32).toNatClampNeg)), (sh, M, J)) else none else none else if l2 = 1 then bif decide ((sh.2.2.1 l0).1 = 9) then bif (decide ((sh.2.2.1 (sh.2.2.2 l0 2)).1 = 11) && xin 20 (sh.2.2.1 (sh.2.2.2 l0 2)).2) then (ev (133, 0, [.int (M (sh.2.2.2 l0 2) (20 : Int32).toNatClampNeg), .int l1], [], (sh, M, J))).bind (fun r => ev (165, 64, [.ref l0, .int l1, .int l2], r.1.toList ++ [], r.2)) else none else none else if l2 = 2 then bif decide ((sh.2.2.1 l0).1 = 9) then bif (decide ((sh.2.2.1 (sh.2.2.2 l0 2)).1 = 11) && xin ((21 : Int32) + l1) (sh.2.2.1 (sh.2.2.2 l0 2)).2) then some (some (.int (M (sh.2.2.2 l0 2) (((21 : Int32) + l1) : Int32).toNatClampNeg)), (sh, M, J)) else none else none else if l2 = 3 then bif decide ((sh.2.2.1 l0).1 = 9) then bif (decide ((sh.2.2.1 l0).1 = 9) && true) then (ev (158, 0, [.ref l0, .ref (sh.2.2.2 l0 2), .null, .null, .null], [], (sh, M, J))).bind (fun r => ev (165, 93, [.ref l0, .int l1, .int l2], r.1.toList ++ [.int l1, .ref l0], r.2)) else none else none else some (some (.int (-1000000002)), (sh, M, J)) else some (some (.int (-1000000001)), (sh, M, J))) := by
  refine ev_br (s1 := (165, 11, [.ref l0, .int l1, .int l2], [], (sh, M, J))) (s2 := (165, 8, [.ref l0, .int l1, .int l2], [], (sh, M, J))) f_165_5 rfl ?_ ?_
  · refine ev_nx (s1 := (165, 12, [.ref l0, .int l1, .int l2], [.int l2], (sh, M, J))) f_165_11 rfl ?_
    refine ev_sw f_165_12 rfl ?_
    refine ev_swc ?_ ?_
    · refine ev_nx (s1 := (165, 45, [.ref l0, .int l1, .int l2], [.ref l0], (sh, M, J))) f_165_44 rfl ?_
      refine ev_gd (s1 := (165, 48, [.ref l0, .int l1, .int l2], [.ref (sh.2.2.2 l0 2)], (sh, M, J))) f_165_45 rfl ?_
      refine ev_nx (s1 := (165, 49, [.ref l0, .int l1, .int l2], [.int 0, .ref (sh.2.2.2 l0 2)], (sh, M, J))) f_165_48 rfl ?_
      refine ev_nx (s1 := (165, 50, [.ref l0, .int l1, .int l2], [.int l1, .int 0, .ref (sh.2.2.2 l0 2)], (sh, M, J))) f_165_49 rfl ?_
      refine ev_nx (s1 := (165, 51, [.ref l0, .int l1, .int l2], [.int ((0 : Int32) + l1), .ref (sh.2.2.2 l0 2)], (sh, M, J))) f_165_50 rfl ?_
      refine ev_gd (s1 := (165, 52, [.ref l0, .int l1, .int l2], [.int (M (sh.2.2.2 l0 2) (((0 : Int32) + l1) : Int32).toNatClampNeg)], (sh, M, J))) f_165_51 rfl ?_
      exact ev_r1 f_165_52 rfl
    refine ev_swc ?_ ?_
    · refine ev_nx (s1 := (165, 54, [.ref l0, .int l1, .int l2], [.ref l0], (sh, M, J))) f_165_53 rfl ?_
      refine ev_gd (s1 := (165, 57, [.ref l0, .int l1, .int l2], [.ref (sh.2.2.2 l0 2)], (sh, M, J))) f_165_54 rfl ?_
      refine ev_nx (s1 := (165, 59, [.ref l0, .int l1, .int l2], [.int 20, .ref (sh.2.2.2 l0 2)], (sh, M, J))) f_165_57 rfl ?_
      refine ev_gd (s1 := (165, 60, [.ref l0, .int l1, .int l2], [.int (M (sh.2.2.2 l0 2) (20 : Int32).toNatClampNeg)], (sh, M, J))) f_165_59 rfl ?_
      refine ev_nx (s1 := (165, 61, [.ref l0, .int l1, .int l2], [.int l1, .int (M (sh.2.2.2 l0 2) (20 : Int32).toNatClampNeg)], (sh, M, J))) f_165_60 rfl ?_
      exact ev_c1 (s1 := (133, 0, [.int (M (sh.2.2.2 l0 2) (20 : Int32).toNatClampNeg), .int l1], [], (sh, M, J))) (k := (165, 64, [.ref l0, .int l1, .int l2], [])) f_165_61 rfl
    refine ev_swc ?_ ?_
    · refine ev_nx (s1 := (165, 74, [.ref l0, .int l1, .int l2], [.ref l0], (sh, M, J))) f_165_73 rfl ?_
      refine ev_gd (s1 := (165, 77, [.ref l0, .int l1, .int l2], [.ref (sh.2.2.2 l0 2)], (sh, M, J))) f_165_74 rfl ?_
      refine ev_nx (s1 := (165, 79, [.ref l0, .int l1, .int l2], [.int 21, .ref (sh.2.2.2 l0 2)], (sh, M, J))) f_165_77 rfl ?_
      refine ev_nx (s1 := (165, 80, [.ref l0, .int l1, .int l2], [.int l1, .int 21, .ref (sh.2.2.2 l0 2)], (sh, M, J))) f_165_79 rfl ?_
      refine ev_nx (s1 := (165, 81, [.ref l0, .int l1, .int l2], [.int ((21 : Int32) + l1), .ref (sh.2.2.2 l0 2)], (sh, M, J))) f_165_80 rfl ?_
      refine ev_gd (s1 := (165, 82, [.ref l0, .int l1, .int l2], [.int (M (sh.2.2.2 l0 2) (((21 : Int32) + l1) : Int32).toNatClampNeg)], (sh, M, J))) f_165_81 rfl ?_
      exact ev_r1 f_165_82 rfl
    refine ev_swc ?_ ?_
    · refine ev_nx (s1 := (165, 84, [.ref l0, .int l1, .int l2], [.ref l0], (sh, M, J))) f_165_83 rfl ?_
      refine ev_nx (s1 := (165, 85, [.ref l0, .int l1, .int l2], [.int l1, .ref l0], (sh, M, J))) f_165_84 rfl ?_
      refine ev_nx (s1 := (165, 86, [.ref l0, .int l1, .int l2], [.ref l0, .int l1, .ref l0], (sh, M, J))) f_165_85 rfl ?_
      refine ev_nx (s1 := (165, 87, [.ref l0, .int l1, .int l2], [.ref l0, .ref l0, .int l1, .ref l0], (sh, M, J))) f_165_86 rfl ?_
      refine ev_gd (s1 := (165, 90, [.ref l0, .int l1, .int l2], [.ref (sh.2.2.2 l0 2), .ref l0, .int l1, .ref l0], (sh, M, J))) f_165_87 rfl ?_
      exact ev_ca (cc := (decide ((sh.2.2.1 l0).1 = 9) && true)) (s1 := (158, 0, [.ref l0, .ref (sh.2.2.2 l0 2), .null, .null, .null], [], (sh, M, J))) (k := (165, 93, [.ref l0, .int l1, .int l2], [.int l1, .ref l0])) f_165_90 rfl
    show ev (165, 100, [.ref l0, .int l1, .int l2], [], (sh, M, J)) = _
    refine ev_nx (s1 := (165, 102, [.ref l0, .int l1, .int l2], [.int (-1000000002)], (sh, M, J))) f_165_100 rfl ?_
    exact ev_r1 f_165_102 rfl
  · refine ev_nx (s1 := (165, 10, [.ref l0, .int l1, .int l2], [.int (-1000000001)], (sh, M, J))) f_165_8 rfl ?_
    exact ev_r1 f_165_10 rfl
theorem b_R_cell_64 (sh : xSh) (M : Nat → Nat → Int32) (J : Nat → Nat → Int64) (l0 : Nat) (l1 : Int32) (l2 : Int32) (k0 : Int32) : ev (165, 64, [.ref l0, .int l1, .int l2], [.int k0], (sh, M, J)) = (bif decide (k0 = 0) then some (some (.int 0), (sh, M, J)) else some (some (.int 1), (sh, M, J))) := by
  refine ev_br (s1 := (165, 71, [.ref l0, .int l1, .int l2], [], (sh, M, J))) (s2 := (165, 67, [.ref l0, .int l1, .int l2], [], (sh, M, J))) f_165_64 rfl ?_ ?_
  · refine ev_nx (s1 := (165, 72, [.ref l0, .int l1, .int l2], [.int 0], (sh, M, J))) f_165_71 rfl ?_
    exact ev_r1 f_165_72 rfl
  · refine ev_nx (s1 := (165, 68, [.ref l0, .int l1, .int l2], [.int 1], (sh, M, J))) f_165_67 rfl ?_
    refine ev_nx (s1 := (165, 72, [.ref l0, .int l1, .int l2], [.int 1], (sh, M, J))) f_165_68 rfl ?_
    exact ev_r1 f_165_72 rfl
theorem b_R_cell_93 (sh : xSh) (M : Nat → Nat → Int32) (J : Nat → Nat → Int64) (l0 : Nat) (l1 : Int32) (l2 : Int32) (k0 : Int32) (k1 : Int32) (k2 : Nat) : ev (165, 93, [.ref l0, .int l1, .int l2], [.int k0, .int k1, .ref k2], (sh, M, J)) = (bif (decide ((sh.2.2.1 k2).1 = 9) && true) then (ev (159, 0, [.ref k2, .int k1, .int k0, .null, .null], [], (sh, M, J))).bind (fun r => ev (165, 96, [.ref l0, .int l1, .int l2], r.1.toList ++ [], r.2)) else none) := by
  exact ev_ca (cc := (decide ((sh.2.2.1 k2).1 = 9) && true)) (s1 := (159, 0, [.ref k2, .int k1, .int k0, .null, .null], [], (sh, M, J))) (k := (165, 96, [.ref l0, .int l1, .int l2], [])) f_165_93 rfl
theorem b_R_cell_96 (sh : xSh) (M : Nat → Nat → Int32) (J : Nat → Nat → Int64) (l0 : Nat) (l1 : Int32) (l2 : Int32) (k0 : Int32) : ev (165, 96, [.ref l0, .int l1, .int l2], [.int k0], (sh, M, J)) = (some (some (.int (k0 + 100)), (sh, M, J))) := by
  refine ev_nx (s1 := (165, 98, [.ref l0, .int l1, .int l2], [.int 100, .int k0], (sh, M, J))) f_165_96 rfl ?_
  refine ev_nx (s1 := (165, 99, [.ref l0, .int l1, .int l2], [.int (k0 + 100)], (sh, M, J))) f_165_98 rfl ?_
  exact ev_r1 f_165_99 rfl
theorem f_166_0 : xfind (xnth xTs 166) 0 = some (0, .iload_n 1, 1, (0, 0, 0, 0), .null, [], 0, 0, []) := rfl
theorem f_166_1 : xfind (xnth xTs 166) 1 = some (1, .invokestatic 193, 3, (154, 1, 9, 1), .null, [], 1097, 0, []) := rfl
theorem f_166_4 : xfind (xnth xTs 166) 4 = some (4, .ifCond .ne 6, 3, (0, 0, 0, 0), .null, [], 0, 0, []) := rfl
theorem f_166_7 : xfind (xnth xTs 166) 7 = some (7, .ldc 192, 2, (0, 0, 0, 0), (.int (-1000000001)), [], 1092, 0, []) := rfl
theorem f_166_9 : xfind (xnth xTs 166) 9 = some (9, .ireturn, 1, (0, 0, 0, 0), .null, [], 0, 0, []) := rfl
theorem f_166_10 : xfind (xnth xTs 166) 10 = some (10, .iload_n 2, 1, (0, 0, 0, 0), .null, [], 0, 0, []) := rfl
theorem f_166_11 : xfind (xnth xTs 166) 11 = some (11, .i2l, 1, (0, 0, 0, 0), .null, [], 0, 0, []) := rfl
theorem f_166_12 : xfind (xnth xTs 166) 12 = some (12, .lconst 0, 1, (0, 0, 0, 0), (.long 0), [], 0, 0, []) := rfl
theorem f_166_13 : xfind (xnth xTs 166) 13 = some (13, .ldc2_w 196, 3, (0, 0, 0, 0), (.long 2), [], 1101, 0, []) := rfl
theorem f_166_16 : xfind (xnth xTs 166) 16 = some (16, .invokestatic 68, 3, (132, 3, 9, 6), .null, [], 897, 0, []) := rfl
theorem f_166_19 : xfind (xnth xTs 166) 19 = some (19, .ifCond .eq 18, 3, (0, 0, 0, 0), .null, [], 0, 0, []) := rfl
theorem f_166_22 : xfind (xnth xTs 166) 22 = some (22, .aload_n 0, 1, (0, 0, 0, 0), .null, [], 0, 0, []) := rfl
theorem f_166_23 : xfind (xnth xTs 166) 23 = some (23, .getfield 7, 3, (9, 0, 1, 0), .null, [], 909, 0, []) := rfl
theorem f_166_26 : xfind (xnth xTs 166) 26 = some (26, .iconst 5, 1, (0, 0, 0, 0), (.int 5), [], 0, 0, []) := rfl
theorem f_166_27 : xfind (xnth xTs 166) 27 = some (27, .iconst 5, 1, (0, 0, 0, 0), (.int 5), [], 0, 0, []) := rfl
theorem f_166_28 : xfind (xnth xTs 166) 28 = some (28, .iload_n 2, 1, (0, 0, 0, 0), .null, [], 0, 0, []) := rfl
theorem f_166_29 : xfind (xnth xTs 166) 29 = some (29, .imul, 1, (0, 0, 0, 0), .null, [], 0, 0, []) := rfl
theorem f_166_30 : xfind (xnth xTs 166) 30 = some (30, .iadd, 1, (0, 0, 0, 0), .null, [], 0, 0, []) := rfl
theorem f_166_31 : xfind (xnth xTs 166) 31 = some (31, .iload_n 1, 1, (0, 0, 0, 0), .null, [], 0, 0, []) := rfl
theorem f_166_32 : xfind (xnth xTs 166) 32 = some (32, .iadd, 1, (0, 0, 0, 0), .null, [], 0, 0, []) := rfl
theorem f_166_33 : xfind (xnth xTs 166) 33 = some (33, .iaload, 1, (0, 0, 0, 0), .null, [], 0, 0, []) := rfl
theorem f_166_34 : xfind (xnth xTs 166) 34 = some (34, .goto 5, 3, (0, 0, 0, 0), .null, [], 0, 0, []) := rfl
theorem f_166_37 : xfind (xnth xTs 166) 37 = some (37, .ldc 91, 2, (0, 0, 0, 0), (.int (-1000000002)), [], 994, 0, []) := rfl
theorem f_166_39 : xfind (xnth xTs 166) 39 = some (39, .ireturn, 1, (0, 0, 0, 0), .null, [], 0, 0, []) := rfl
theorem b_R_cloth_0 (sh : xSh) (M : Nat → Nat → Int32) (J : Nat → Nat → Int64) (l0 : Nat) (l1 : Int32) (l2 : Int32) : ev (166, 0, [.ref l0, .int l1, .int l2], [], (sh, M, J)) = ((ev (154, 0, [.int l1], [], (sh, M, J))).bind (fun r => ev (166, 4, [.ref l0, .int l1, .int l2], r.1.toList ++ [], r.2))) := by
  refine ev_nx (s1 := (166, 1, [.ref l0, .int l1, .int l2], [.int l1], (sh, M, J))) f_166_0 rfl ?_
  exact ev_c1 (s1 := (154, 0, [.int l1], [], (sh, M, J))) (k := (166, 4, [.ref l0, .int l1, .int l2], [])) f_166_1 rfl
theorem b_R_cloth_4 (sh : xSh) (M : Nat → Nat → Int32) (J : Nat → Nat → Int64) (l0 : Nat) (l1 : Int32) (l2 : Int32) (k0 : Int32) : ev (166, 4, [.ref l0, .int l1, .int l2], [.int k0], (sh, M, J)) = (bif !decide (k0 = 0) then (ev (132, 0, [.long (l2 : Int32).toInt64, .null, .long 0, .null, .long 2, .null], [], (sh, M, J))).bind (fun r => ev (166, 19, [.ref l0, .int l1, .int l2], r.1.toList ++ [], r.2)) else some (some (.int (-1000000001)), (sh, M, J))) := by
  refine ev_br (s1 := (166, 10, [.ref l0, .int l1, .int l2], [], (sh, M, J))) (s2 := (166, 7, [.ref l0, .int l1, .int l2], [], (sh, M, J))) f_166_4 rfl ?_ ?_
  · refine ev_nx (s1 := (166, 11, [.ref l0, .int l1, .int l2], [.int l2], (sh, M, J))) f_166_10 rfl ?_
    refine ev_nx (s1 := (166, 12, [.ref l0, .int l1, .int l2], [.long (l2 : Int32).toInt64], (sh, M, J))) f_166_11 rfl ?_
    refine ev_nx (s1 := (166, 13, [.ref l0, .int l1, .int l2], [.long 0, .long (l2 : Int32).toInt64], (sh, M, J))) f_166_12 rfl ?_
    refine ev_nx (s1 := (166, 16, [.ref l0, .int l1, .int l2], [.long 2, .long 0, .long (l2 : Int32).toInt64], (sh, M, J))) f_166_13 rfl ?_
    exact ev_c1 (s1 := (132, 0, [.long (l2 : Int32).toInt64, .null, .long 0, .null, .long 2, .null], [], (sh, M, J))) (k := (166, 19, [.ref l0, .int l1, .int l2], [])) f_166_16 rfl
  · refine ev_nx (s1 := (166, 9, [.ref l0, .int l1, .int l2], [.int (-1000000001)], (sh, M, J))) f_166_7 rfl ?_
    exact ev_r1 f_166_9 rfl
theorem b_R_cloth_19 (sh : xSh) (M : Nat → Nat → Int32) (J : Nat → Nat → Int64) (l0 : Nat) (l1 : Int32) (l2 : Int32) (k0 : Int32) : ev (166, 19, [.ref l0, .int l1, .int l2], [.int k0], (sh, M, J)) = (bif decide (k0 = 0) then some (some (.int (-1000000002)), (sh, M, J)) else bif decide ((sh.2.2.1 l0).1 = 9) then bif (decide ((sh.2.2.1 (sh.2.2.2 l0 0)).1 = 11) && xin (((5 : Int32) + ((5 : Int32) * l2)) + l1) (sh.2.2.1 (sh.2.2.2 l0 0)).2) then some (some (.int (M (sh.2.2.2 l0 0) ((((5 : Int32) + ((5 : Int32) * l2)) + l1) : Int32).toNatClampNeg)), (sh, M, J)) else none else none) := by
  refine ev_br (s1 := (166, 37, [.ref l0, .int l1, .int l2], [], (sh, M, J))) (s2 := (166, 22, [.ref l0, .int l1, .int l2], [], (sh, M, J))) f_166_19 rfl ?_ ?_
  · refine ev_nx (s1 := (166, 39, [.ref l0, .int l1, .int l2], [.int (-1000000002)], (sh, M, J))) f_166_37 rfl ?_
    exact ev_r1 f_166_39 rfl
  · refine ev_nx (s1 := (166, 23, [.ref l0, .int l1, .int l2], [.ref l0], (sh, M, J))) f_166_22 rfl ?_
    refine ev_gd (s1 := (166, 26, [.ref l0, .int l1, .int l2], [.ref (sh.2.2.2 l0 0)], (sh, M, J))) f_166_23 rfl ?_
    refine ev_nx (s1 := (166, 27, [.ref l0, .int l1, .int l2], [.int 5, .ref (sh.2.2.2 l0 0)], (sh, M, J))) f_166_26 rfl ?_
    refine ev_nx (s1 := (166, 28, [.ref l0, .int l1, .int l2], [.int 5, .int 5, .ref (sh.2.2.2 l0 0)], (sh, M, J))) f_166_27 rfl ?_
    refine ev_nx (s1 := (166, 29, [.ref l0, .int l1, .int l2], [.int l2, .int 5, .int 5, .ref (sh.2.2.2 l0 0)], (sh, M, J))) f_166_28 rfl ?_
    refine ev_nx (s1 := (166, 30, [.ref l0, .int l1, .int l2], [.int ((5 : Int32) * l2), .int 5, .ref (sh.2.2.2 l0 0)], (sh, M, J))) f_166_29 rfl ?_
    refine ev_nx (s1 := (166, 31, [.ref l0, .int l1, .int l2], [.int ((5 : Int32) + ((5 : Int32) * l2)), .ref (sh.2.2.2 l0 0)], (sh, M, J))) f_166_30 rfl ?_
    refine ev_nx (s1 := (166, 32, [.ref l0, .int l1, .int l2], [.int l1, .int ((5 : Int32) + ((5 : Int32) * l2)), .ref (sh.2.2.2 l0 0)], (sh, M, J))) f_166_31 rfl ?_
    refine ev_nx (s1 := (166, 33, [.ref l0, .int l1, .int l2], [.int (((5 : Int32) + ((5 : Int32) * l2)) + l1), .ref (sh.2.2.2 l0 0)], (sh, M, J))) f_166_32 rfl ?_
    refine ev_gd (s1 := (166, 34, [.ref l0, .int l1, .int l2], [.int (M (sh.2.2.2 l0 0) ((((5 : Int32) + ((5 : Int32) * l2)) + l1) : Int32).toNatClampNeg)], (sh, M, J))) f_166_33 rfl ?_
    refine ev_nx (s1 := (166, 39, [.ref l0, .int l1, .int l2], [.int (M (sh.2.2.2 l0 0) ((((5 : Int32) + ((5 : Int32) * l2)) + l1) : Int32).toNatClampNeg)], (sh, M, J))) f_166_34 rfl ?_
    exact ev_r1 f_166_39 rfl
theorem f_167_0 : xfind (xnth xTs 167) 0 = some (0, .aload_n 0, 1, (0, 0, 0, 0), .null, [], 0, 0, []) := rfl
theorem f_167_1 : xfind (xnth xTs 167) 1 = some (1, .iload_n 1, 1, (0, 0, 0, 0), .null, [], 0, 0, []) := rfl
theorem f_167_2 : xfind (xnth xTs 167) 2 = some (2, .invokevirtual 198, 3, (153, 1, 9, 2), .null, [], 1106, 0, []) := rfl
theorem f_167_5 : xfind (xnth xTs 167) 5 = some (5, .ifCond .ne 6, 3, (0, 0, 0, 0), .null, [], 0, 0, []) := rfl
theorem f_167_8 : xfind (xnth xTs 167) 8 = some (8, .ldc 192, 2, (0, 0, 0, 0), (.int (-1000000001)), [], 1092, 0, []) := rfl
theorem f_167_10 : xfind (xnth xTs 167) 10 = some (10, .ireturn, 1, (0, 0, 0, 0), .null, [], 0, 0, []) := rfl
theorem f_167_11 : xfind (xnth xTs 167) 11 = some (11, .iload_n 2, 1, (0, 0, 0, 0), .null, [], 0, 0, []) := rfl
theorem f_167_12 : xfind (xnth xTs 167) 12 = some (12, .tableswitch 86 0 4 #[36, 46, 56, 66, 76], 36, (0, 0, 0, 98), .null, [(0, 48), (1, 58), (2, 68), (3, 78), (4, 88)], 0, 0, []) := rfl
theorem f_167_48 : xfind (xnth xTs 167) 48 = some (48, .aload_n 0, 1, (0, 0, 0, 0), .null, [], 0, 0, []) := rfl
theorem f_167_49 : xfind (xnth xTs 167) 49 = some (49, .getfield 16, 3, (9, 2, 1, 0), .null, [], 911, 0, []) := rfl
theorem f_167_52 : xfind (xnth xTs 167) 52 = some (52, .bipush 41, 2, (0, 0, 0, 0), (.int 41), [], 0, 0, []) := rfl
theorem f_167_54 : xfind (xnth xTs 167) 54 = some (54, .iload_n 1, 1, (0, 0, 0, 0), .null, [], 0, 0, []) := rfl
theorem f_167_55 : xfind (xnth xTs 167) 55 = some (55, .iadd, 1, (0, 0, 0, 0), .null, [], 0, 0, []) := rfl
theorem f_167_56 : xfind (xnth xTs 167) 56 = some (56, .iaload, 1, (0, 0, 0, 0), .null, [], 0, 0, []) := rfl
theorem f_167_57 : xfind (xnth xTs 167) 57 = some (57, .ireturn, 1, (0, 0, 0, 0), .null, [], 0, 0, []) := rfl
theorem f_167_58 : xfind (xnth xTs 167) 58 = some (58, .aload_n 0, 1, (0, 0, 0, 0), .null, [], 0, 0, []) := rfl
theorem f_167_59 : xfind (xnth xTs 167) 59 = some (59, .getfield 7, 3, (9, 0, 1, 0), .null, [], 909, 0, []) := rfl
theorem f_167_62 : xfind (xnth xTs 167) 62 = some (62, .bipush 20, 2, (0, 0, 0, 0), (.int 20), [], 0, 0, []) := rfl
theorem f_167_64 : xfind (xnth xTs 167) 64 = some (64, .iload_n 1, 1, (0, 0, 0, 0), .null, [], 0, 0, []) := rfl
theorem f_167_65 : xfind (xnth xTs 167) 65 = some (65, .iadd, 1, (0, 0, 0, 0), .null, [], 0, 0, []) := rfl
theorem f_167_66 : xfind (xnth xTs 167) 66 = some (66, .iaload, 1, (0, 0, 0, 0), .null, [], 0, 0, []) := rfl
theorem f_167_67 : xfind (xnth xTs 167) 67 = some (67, .ireturn, 1, (0, 0, 0, 0), .null, [], 0, 0, []) := rfl
theorem f_167_68 : xfind (xnth xTs 167) 68 = some (68, .aload_n 0, 1, (0, 0, 0, 0), .null, [], 0, 0, []) := rfl
theorem f_167_69 : xfind (xnth xTs 167) 69 = some (69, .getfield 16, 3, (9, 2, 1, 0), .null, [], 911, 0, []) := rfl
theorem f_167_72 : xfind (xnth xTs 167) 72 = some (72, .bipush 46, 2, (0, 0, 0, 0), (.int 46), [], 0, 0, []) := rfl
theorem f_167_74 : xfind (xnth xTs 167) 74 = some (74, .iload_n 1, 1, (0, 0, 0, 0), .null, [], 0, 0, []) := rfl
theorem f_167_75 : xfind (xnth xTs 167) 75 = some (75, .iadd, 1, (0, 0, 0, 0), .null, [], 0, 0, []) := rfl
theorem f_167_76 : xfind (xnth xTs 167) 76 = some (76, .iaload, 1, (0, 0, 0, 0), .null, [], 0, 0, []) := rfl
theorem f_167_77 : xfind (xnth xTs 167) 77 = some (77, .ireturn, 1, (0, 0, 0, 0), .null, [], 0, 0, []) := rfl
theorem f_167_78 : xfind (xnth xTs 167) 78 = some (78, .aload_n 0, 1, (0, 0, 0, 0), .null, [], 0, 0, []) := rfl
theorem f_167_79 : xfind (xnth xTs 167) 79 = some (79, .getfield 16, 3, (9, 2, 1, 0), .null, [], 911, 0, []) := rfl
theorem f_167_82 : xfind (xnth xTs 167) 82 = some (82, .bipush 51, 2, (0, 0, 0, 0), (.int 51), [], 0, 0, []) := rfl
theorem f_167_84 : xfind (xnth xTs 167) 84 = some (84, .iload_n 1, 1, (0, 0, 0, 0), .null, [], 0, 0, []) := rfl
theorem f_167_85 : xfind (xnth xTs 167) 85 = some (85, .iadd, 1, (0, 0, 0, 0), .null, [], 0, 0, []) := rfl
theorem f_167_86 : xfind (xnth xTs 167) 86 = some (86, .iaload, 1, (0, 0, 0, 0), .null, [], 0, 0, []) := rfl
theorem f_167_87 : xfind (xnth xTs 167) 87 = some (87, .ireturn, 1, (0, 0, 0, 0), .null, [], 0, 0, []) := rfl
theorem f_167_88 : xfind (xnth xTs 167) 88 = some (88, .aload_n 0, 1, (0, 0, 0, 0), .null, [], 0, 0, []) := rfl
theorem f_167_89 : xfind (xnth xTs 167) 89 = some (89, .getfield 16, 3, (9, 2, 1, 0), .null, [], 911, 0, []) := rfl
theorem f_167_92 : xfind (xnth xTs 167) 92 = some (92, .bipush 56, 2, (0, 0, 0, 0), (.int 56), [], 0, 0, []) := rfl
theorem f_167_94 : xfind (xnth xTs 167) 94 = some (94, .iload_n 1, 1, (0, 0, 0, 0), .null, [], 0, 0, []) := rfl
theorem f_167_95 : xfind (xnth xTs 167) 95 = some (95, .iadd, 1, (0, 0, 0, 0), .null, [], 0, 0, []) := rfl
theorem f_167_96 : xfind (xnth xTs 167) 96 = some (96, .iaload, 1, (0, 0, 0, 0), .null, [], 0, 0, []) := rfl
theorem f_167_97 : xfind (xnth xTs 167) 97 = some (97, .ireturn, 1, (0, 0, 0, 0), .null, [], 0, 0, []) := rfl
theorem f_167_98 : xfind (xnth xTs 167) 98 = some (98, .ldc 91, 2, (0, 0, 0, 0), (.int (-1000000002)), [], 994, 0, []) := rfl
theorem f_167_100 : xfind (xnth xTs 167) 100 = some (100, .ireturn, 1, (0, 0, 0, 0), .null, [], 0, 0, []) := rfl
theorem b_R_actor_0 (sh : xSh) (M : Nat → Nat → Int32) (J : Nat → Nat → Int64) (l0 : Nat) (l1 : Int32) (l2 : Int32) : ev (167, 0, [.ref l0, .int l1, .int l2], [], (sh, M, J)) = (bif (decide ((sh.2.2.1 l0).1 = 9) && true) then (ev (153, 0, [.ref l0, .int l1], [], (sh, M, J))).bind (fun r => ev (167, 5, [.ref l0, .int l1, .int l2], r.1.toList ++ [], r.2)) else none) := by
  refine ev_nx (s1 := (167, 1, [.ref l0, .int l1, .int l2], [.ref l0], (sh, M, J))) f_167_0 rfl ?_
  refine ev_nx (s1 := (167, 2, [.ref l0, .int l1, .int l2], [.int l1, .ref l0], (sh, M, J))) f_167_1 rfl ?_
  exact ev_ca (cc := (decide ((sh.2.2.1 l0).1 = 9) && true)) (s1 := (153, 0, [.ref l0, .int l1], [], (sh, M, J))) (k := (167, 5, [.ref l0, .int l1, .int l2], [])) f_167_2 rfl
theorem b_R_actor_5 (sh : xSh) (M : Nat → Nat → Int32) (J : Nat → Nat → Int64) (l0 : Nat) (l1 : Int32) (l2 : Int32) (k0 : Int32) : ev (167, 5, [.ref l0, .int l1, .int l2], [.int k0], (sh, M, J)) = (bif !decide (k0 = 0) then if l2 = 0 then bif decide ((sh.2.2.1 l0).1 = 9) then bif (decide ((sh.2.2.1 (sh.2.2.2 l0 2)).1 = 11) && xin ((41 : Int32) + l1) (sh.2.2.1 (sh.2.2.2 l0 2)).2) then some (some (.int (M (sh.2.2.2 l0 2) (((41 : Int32) + l1) : Int32).toNatClampNeg)), (sh, M, J)) else none else none else if l2 = 1 then bif decide ((sh.2.2.1 l0).1 = 9) then bif (decide ((sh.2.2.1 (sh.2.2.2 l0 0)).1 = 11) && xin ((20 : Int32) + l1) (sh.2.2.1 (sh.2.2.2 l0 0)).2) then some (some (.int (M (sh.2.2.2 l0 0) (((20 : Int32) + l1) : Int32).toNatClampNeg)), (sh, M, J)) else none else none else if l2 = 2 then bif decide ((sh.2.2.1 l0).1 = 9) then bif (decide ((sh.2.2.1 (sh.2.2.2 l0 2)).1 = 11) && xin ((46 : Int32) + l1) (sh.2.2.1 (sh.2.2.2 l0 2)).2) then some (some (.int (M (sh.2.2.2 l0 2) (((46 : Int32) + l1) : Int32).toNatClampNeg)), (sh, M, J)) else none else none else if l2 = 3 then bif decide ((sh.2.2.1 l0).1 = 9) then bif (decide ((sh.2.2.1 (sh.2.2.2 l0 2)).1 = 11) && xin ((51 : Int32) + l1) (sh.2.2.1 (sh.2.2.2 l0 2)).2) then some (some (.int (M (sh.2.2.2 l0 2) (((51 : Int32) + l1) : Int32).toNatClampNeg)), (sh, M, J)) else none else none else if l2 = 4 then bif decide ((sh.2.2.1 l0).1 = 9) then bif (decide ((sh.2.2.1 (sh.2.2.2 l0 2)).1 = 11) && xin ((56 : Int32) + l1) (sh.2.2.1 (sh.2.2.2 l0 2)).2) then some (some (.int (M (sh.2.2.2 l0 2) (((56 : Int32) + l1) : Int32).toNatClampNeg)), (sh, M, J)) else none else none else some (some (.int (-1000000002)), (sh, M, J)) else some (some (.int (-1000000001)), (sh, M, J))) := by
  refine ev_br (s1 := (167, 11, [.ref l0, .int l1, .int l2], [], (sh, M, J))) (s2 := (167, 8, [.ref l0, .int l1, .int l2], [], (sh, M, J))) f_167_5 rfl ?_ ?_
  · refine ev_nx (s1 := (167, 12, [.ref l0, .int l1, .int l2], [.int l2], (sh, M, J))) f_167_11 rfl ?_
    refine ev_sw f_167_12 rfl ?_
    refine ev_swc ?_ ?_
    · refine ev_nx (s1 := (167, 49, [.ref l0, .int l1, .int l2], [.ref l0], (sh, M, J))) f_167_48 rfl ?_
      refine ev_gd (s1 := (167, 52, [.ref l0, .int l1, .int l2], [.ref (sh.2.2.2 l0 2)], (sh, M, J))) f_167_49 rfl ?_
      refine ev_nx (s1 := (167, 54, [.ref l0, .int l1, .int l2], [.int 41, .ref (sh.2.2.2 l0 2)], (sh, M, J))) f_167_52 rfl ?_
      refine ev_nx (s1 := (167, 55, [.ref l0, .int l1, .int l2], [.int l1, .int 41, .ref (sh.2.2.2 l0 2)], (sh, M, J))) f_167_54 rfl ?_
      refine ev_nx (s1 := (167, 56, [.ref l0, .int l1, .int l2], [.int ((41 : Int32) + l1), .ref (sh.2.2.2 l0 2)], (sh, M, J))) f_167_55 rfl ?_
      refine ev_gd (s1 := (167, 57, [.ref l0, .int l1, .int l2], [.int (M (sh.2.2.2 l0 2) (((41 : Int32) + l1) : Int32).toNatClampNeg)], (sh, M, J))) f_167_56 rfl ?_
      exact ev_r1 f_167_57 rfl
    refine ev_swc ?_ ?_
    · refine ev_nx (s1 := (167, 59, [.ref l0, .int l1, .int l2], [.ref l0], (sh, M, J))) f_167_58 rfl ?_
      refine ev_gd (s1 := (167, 62, [.ref l0, .int l1, .int l2], [.ref (sh.2.2.2 l0 0)], (sh, M, J))) f_167_59 rfl ?_
      refine ev_nx (s1 := (167, 64, [.ref l0, .int l1, .int l2], [.int 20, .ref (sh.2.2.2 l0 0)], (sh, M, J))) f_167_62 rfl ?_
      refine ev_nx (s1 := (167, 65, [.ref l0, .int l1, .int l2], [.int l1, .int 20, .ref (sh.2.2.2 l0 0)], (sh, M, J))) f_167_64 rfl ?_
      refine ev_nx (s1 := (167, 66, [.ref l0, .int l1, .int l2], [.int ((20 : Int32) + l1), .ref (sh.2.2.2 l0 0)], (sh, M, J))) f_167_65 rfl ?_
      refine ev_gd (s1 := (167, 67, [.ref l0, .int l1, .int l2], [.int (M (sh.2.2.2 l0 0) (((20 : Int32) + l1) : Int32).toNatClampNeg)], (sh, M, J))) f_167_66 rfl ?_
      exact ev_r1 f_167_67 rfl
    refine ev_swc ?_ ?_
    · refine ev_nx (s1 := (167, 69, [.ref l0, .int l1, .int l2], [.ref l0], (sh, M, J))) f_167_68 rfl ?_
      refine ev_gd (s1 := (167, 72, [.ref l0, .int l1, .int l2], [.ref (sh.2.2.2 l0 2)], (sh, M, J))) f_167_69 rfl ?_
      refine ev_nx (s1 := (167, 74, [.ref l0, .int l1, .int l2], [.int 46, .ref (sh.2.2.2 l0 2)], (sh, M, J))) f_167_72 rfl ?_
      refine ev_nx (s1 := (167, 75, [.ref l0, .int l1, .int l2], [.int l1, .int 46, .ref (sh.2.2.2 l0 2)], (sh, M, J))) f_167_74 rfl ?_
      refine ev_nx (s1 := (167, 76, [.ref l0, .int l1, .int l2], [.int ((46 : Int32) + l1), .ref (sh.2.2.2 l0 2)], (sh, M, J))) f_167_75 rfl ?_
      refine ev_gd (s1 := (167, 77, [.ref l0, .int l1, .int l2], [.int (M (sh.2.2.2 l0 2) (((46 : Int32) + l1) : Int32).toNatClampNeg)], (sh, M, J))) f_167_76 rfl ?_
      exact ev_r1 f_167_77 rfl
    refine ev_swc ?_ ?_
    · refine ev_nx (s1 := (167, 79, [.ref l0, .int l1, .int l2], [.ref l0], (sh, M, J))) f_167_78 rfl ?_
      refine ev_gd (s1 := (167, 82, [.ref l0, .int l1, .int l2], [.ref (sh.2.2.2 l0 2)], (sh, M, J))) f_167_79 rfl ?_
      refine ev_nx (s1 := (167, 84, [.ref l0, .int l1, .int l2], [.int 51, .ref (sh.2.2.2 l0 2)], (sh, M, J))) f_167_82 rfl ?_
      refine ev_nx (s1 := (167, 85, [.ref l0, .int l1, .int l2], [.int l1, .int 51, .ref (sh.2.2.2 l0 2)], (sh, M, J))) f_167_84 rfl ?_
      refine ev_nx (s1 := (167, 86, [.ref l0, .int l1, .int l2], [.int ((51 : Int32) + l1), .ref (sh.2.2.2 l0 2)], (sh, M, J))) f_167_85 rfl ?_
      refine ev_gd (s1 := (167, 87, [.ref l0, .int l1, .int l2], [.int (M (sh.2.2.2 l0 2) (((51 : Int32) + l1) : Int32).toNatClampNeg)], (sh, M, J))) f_167_86 rfl ?_
      exact ev_r1 f_167_87 rfl
    refine ev_swc ?_ ?_
    · refine ev_nx (s1 := (167, 89, [.ref l0, .int l1, .int l2], [.ref l0], (sh, M, J))) f_167_88 rfl ?_
      refine ev_gd (s1 := (167, 92, [.ref l0, .int l1, .int l2], [.ref (sh.2.2.2 l0 2)], (sh, M, J))) f_167_89 rfl ?_
      refine ev_nx (s1 := (167, 94, [.ref l0, .int l1, .int l2], [.int 56, .ref (sh.2.2.2 l0 2)], (sh, M, J))) f_167_92 rfl ?_
      refine ev_nx (s1 := (167, 95, [.ref l0, .int l1, .int l2], [.int l1, .int 56, .ref (sh.2.2.2 l0 2)], (sh, M, J))) f_167_94 rfl ?_
      refine ev_nx (s1 := (167, 96, [.ref l0, .int l1, .int l2], [.int ((56 : Int32) + l1), .ref (sh.2.2.2 l0 2)], (sh, M, J))) f_167_95 rfl ?_
      refine ev_gd (s1 := (167, 97, [.ref l0, .int l1, .int l2], [.int (M (sh.2.2.2 l0 2) (((56 : Int32) + l1) : Int32).toNatClampNeg)], (sh, M, J))) f_167_96 rfl ?_
      exact ev_r1 f_167_97 rfl
    show ev (167, 98, [.ref l0, .int l1, .int l2], [], (sh, M, J)) = _
    refine ev_nx (s1 := (167, 100, [.ref l0, .int l1, .int l2], [.int (-1000000002)], (sh, M, J))) f_167_98 rfl ?_
    exact ev_r1 f_167_100 rfl
  · refine ev_nx (s1 := (167, 10, [.ref l0, .int l1, .int l2], [.int (-1000000001)], (sh, M, J))) f_167_8 rfl ?_
    exact ev_r1 f_167_10 rfl
theorem f_168_0 : xfind (xnth xTs 168) 0 = some (0, .aload_n 0, 1, (0, 0, 0, 0), .null, [], 0, 0, []) := rfl
theorem f_168_1 : xfind (xnth xTs 168) 1 = some (1, .getfield 80, 3, (9, 5, 0, 0), .null, [], 914, 0, []) := rfl
theorem f_168_4 : xfind (xnth xTs 168) 4 = some (4, .bipush 20, 2, (0, 0, 0, 0), (.int 20), [], 0, 0, []) := rfl
theorem f_168_6 : xfind (xnth xTs 168) 6 = some (6, .if_icmp .ne 43, 3, (0, 0, 0, 0), .null, [], 0, 0, []) := rfl
theorem f_168_9 : xfind (xnth xTs 168) 9 = some (9, .iconst 0, 1, (0, 0, 0, 0), (.int 0), [], 0, 0, []) := rfl
theorem f_168_10 : xfind (xnth xTs 168) 10 = some (10, .istore_n 1, 1, (0, 0, 0, 0), .null, [], 0, 0, []) := rfl
theorem f_168_11 : xfind (xnth xTs 168) 11 = some (11, .iload_n 1, 1, (0, 0, 0, 0), .null, [], 0, 1, []) := rfl
theorem f_168_12 : xfind (xnth xTs 168) 12 = some (12, .sipush 1178, 3, (0, 0, 0, 0), (.int 1178), [], 0, 0, []) := rfl
theorem f_168_15 : xfind (xnth xTs 168) 15 = some (15, .if_icmp .ge 24, 3, (0, 0, 0, 0), .null, [], 0, 0, []) := rfl
theorem f_168_18 : xfind (xnth xTs 168) 18 = some (18, .aload_n 0, 1, (0, 0, 0, 0), .null, [], 0, 0, []) := rfl
theorem f_168_19 : xfind (xnth xTs 168) 19 = some (19, .getfield 22, 3, (9, 4, 1, 0), .null, [], 913, 0, []) := rfl
theorem f_168_22 : xfind (xnth xTs 168) 22 = some (22, .iload_n 1, 1, (0, 0, 0, 0), .null, [], 0, 0, []) := rfl
theorem f_168_23 : xfind (xnth xTs 168) 23 = some (23, .aload_n 0, 1, (0, 0, 0, 0), .null, [], 0, 0, []) := rfl
theorem f_168_24 : xfind (xnth xTs 168) 24 = some (24, .getfield 22, 3, (9, 4, 1, 0), .null, [], 913, 0, []) := rfl
theorem f_168_27 : xfind (xnth xTs 168) 27 = some (27, .iload_n 1, 1, (0, 0, 0, 0), .null, [], 0, 0, []) := rfl
theorem f_168_28 : xfind (xnth xTs 168) 28 = some (28, .bipush 62, 2, (0, 0, 0, 0), (.int 62), [], 0, 0, []) := rfl
theorem f_168_30 : xfind (xnth xTs 168) 30 = some (30, .iadd, 1, (0, 0, 0, 0), .null, [], 0, 0, []) := rfl
theorem f_168_31 : xfind (xnth xTs 168) 31 = some (31, .iaload, 1, (0, 0, 0, 0), .null, [], 0, 0, []) := rfl
theorem f_168_32 : xfind (xnth xTs 168) 32 = some (32, .iastore, 1, (0, 0, 0, 0), .null, [], 0, 0, []) := rfl
theorem f_168_33 : xfind (xnth xTs 168) 33 = some (33, .iinc 1 1, 3, (0, 0, 0, 0), .null, [], 0, 0, []) := rfl
theorem f_168_36 : xfind (xnth xTs 168) 36 = some (36, .goto (-25), 3, (0, 0, 0, 0), .null, [], 0, 0, []) := rfl
theorem f_168_39 : xfind (xnth xTs 168) 39 = some (39, .aload_n 0, 1, (0, 0, 0, 0), .null, [], 0, 0, []) := rfl
theorem f_168_40 : xfind (xnth xTs 168) 40 = some (40, .dup, 1, (0, 0, 0, 0), .null, [], 0, 0, []) := rfl
theorem f_168_41 : xfind (xnth xTs 168) 41 = some (41, .getfield 80, 3, (9, 5, 0, 0), .null, [], 914, 0, []) := rfl
theorem f_168_44 : xfind (xnth xTs 168) 44 = some (44, .iconst 1, 1, (0, 0, 0, 0), (.int 1), [], 0, 0, []) := rfl
theorem f_168_45 : xfind (xnth xTs 168) 45 = some (45, .isub, 1, (0, 0, 0, 0), .null, [], 0, 0, []) := rfl
theorem f_168_46 : xfind (xnth xTs 168) 46 = some (46, .putfield 80, 3, (9, 5, 0, 0), .null, [], 914, 0, []) := rfl
theorem f_168_49 : xfind (xnth xTs 168) 49 = some (49, .aload_n 0, 1, (0, 0, 0, 0), .null, [], 0, 0, []) := rfl
theorem f_168_50 : xfind (xnth xTs 168) 50 = some (50, .getfield 16, 3, (9, 2, 1, 0), .null, [], 911, 0, []) := rfl
theorem f_168_53 : xfind (xnth xTs 168) 53 = some (53, .iconst 0, 1, (0, 0, 0, 0), (.int 0), [], 0, 0, []) := rfl
theorem f_168_54 : xfind (xnth xTs 168) 54 = some (54, .aload_n 0, 1, (0, 0, 0, 0), .null, [], 0, 0, []) := rfl
theorem f_168_55 : xfind (xnth xTs 168) 55 = some (55, .getfield 22, 3, (9, 4, 1, 0), .null, [], 913, 0, []) := rfl
theorem f_168_58 : xfind (xnth xTs 168) 58 = some (58, .bipush 62, 2, (0, 0, 0, 0), (.int 62), [], 0, 0, []) := rfl
theorem f_168_60 : xfind (xnth xTs 168) 60 = some (60, .aload_n 0, 1, (0, 0, 0, 0), .null, [], 0, 0, []) := rfl
theorem f_168_61 : xfind (xnth xTs 168) 61 = some (61, .getfield 80, 3, (9, 5, 0, 0), .null, [], 914, 0, []) := rfl
theorem f_168_64 : xfind (xnth xTs 168) 64 = some (64, .imul, 1, (0, 0, 0, 0), .null, [], 0, 0, []) := rfl
theorem f_168_65 : xfind (xnth xTs 168) 65 = some (65, .bipush 62, 2, (0, 0, 0, 0), (.int 62), [], 0, 0, []) := rfl
theorem f_168_67 : xfind (xnth xTs 168) 67 = some (67, .invokestatic 76, 3, (136, 5, 9, 6), .null, [], 906, 0, []) := rfl
theorem f_168_70 : xfind (xnth xTs 168) 70 = some (70, .aload_n 0, 1, (0, 0, 0, 0), .null, [], 0, 0, []) := rfl
theorem f_168_71 : xfind (xnth xTs 168) 71 = some (71, .dup, 1, (0, 0, 0, 0), .null, [], 0, 0, []) := rfl
theorem f_168_72 : xfind (xnth xTs 168) 72 = some (72, .getfield 80, 3, (9, 5, 0, 0), .null, [], 914, 0, []) := rfl
theorem f_168_75 : xfind (xnth xTs 168) 75 = some (75, .iconst 1, 1, (0, 0, 0, 0), (.int 1), [], 0, 0, []) := rfl
theorem f_168_76 : xfind (xnth xTs 168) 76 = some (76, .iadd, 1, (0, 0, 0, 0), .null, [], 0, 0, []) := rfl
theorem f_168_77 : xfind (xnth xTs 168) 77 = some (77, .putfield 80, 3, (9, 5, 0, 0), .null, [], 914, 0, []) := rfl
theorem f_168_80 : xfind (xnth xTs 168) 80 = some (80, .return_, 1, (0, 0, 0, 0), .null, [], 0, 0, []) := rfl
theorem hd_168_11 : xhead 168 11 = some [] := rfl
theorem b_R_remember_0 (sh : xSh) (M : Nat → Nat → Int32) (J : Nat → Nat → Int64) (l0 : Nat) : ev (168, 0, [.ref l0, .null], [], (sh, M, J)) = (bif decide ((sh.2.2.1 l0).1 = 9) then bif !decide ((M l0 5) = 20) then bif decide ((sh.2.2.1 l0).1 = 9) then bif decide ((sh.2.2.1 l0).1 = 9) then bif decide ((sh.2.2.1 l0).1 = 9) then (ev (136, 0, [.ref (sh.2.2.2 l0 2), .int 0, .ref (sh.2.2.2 l0 4), .int ((62 : Int32) * (M l0 5)), .int 62, .null], [], (sh, M, J))).bind (fun r => ev (168, 70, [.ref l0, .null], r.1.toList ++ [], r.2)) else none else none else none else ev (168, 11, [.ref l0, .int 0], [], (sh, M, J)) else none) := by
  refine ev_nx (s1 := (168, 1, [.ref l0, .null], [.ref l0], (sh, M, J))) f_168_0 rfl ?_
  refine ev_gd (s1 := (168, 4, [.ref l0, .null], [.int (M l0 5)], (sh, M, J))) f_168_1 rfl ?_
  refine ev_nx (s1 := (168, 6, [.ref l0, .null], [.int 20, .int (M l0 5)], (sh, M, J))) f_168_4 rfl ?_
  refine ev_br (s1 := (168, 49, [.ref l0, .null], [], (sh, M, J))) (s2 := (168, 9, [.ref l0, .null], [], (sh, M, J))) f_168_6 rfl ?_ ?_
  · refine ev_nx (s1 := (168, 50, [.ref l0, .null], [.ref l0], (sh, M, J))) f_168_49 rfl ?_
    refine ev_gd (s1 := (168, 53, [.ref l0, .null], [.ref (sh.2.2.2 l0 2)], (sh, M, J))) f_168_50 rfl ?_
    refine ev_nx (s1 := (168, 54, [.ref l0, .null], [.int 0, .ref (sh.2.2.2 l0 2)], (sh, M, J))) f_168_53 rfl ?_
    refine ev_nx (s1 := (168, 55, [.ref l0, .null], [.ref l0, .int 0, .ref (sh.2.2.2 l0 2)], (sh, M, J))) f_168_54 rfl ?_
    refine ev_gd (s1 := (168, 58, [.ref l0, .null], [.ref (sh.2.2.2 l0 4), .int 0, .ref (sh.2.2.2 l0 2)], (sh, M, J))) f_168_55 rfl ?_
    refine ev_nx (s1 := (168, 60, [.ref l0, .null], [.int 62, .ref (sh.2.2.2 l0 4), .int 0, .ref (sh.2.2.2 l0 2)], (sh, M, J))) f_168_58 rfl ?_
    refine ev_nx (s1 := (168, 61, [.ref l0, .null], [.ref l0, .int 62, .ref (sh.2.2.2 l0 4), .int 0, .ref (sh.2.2.2 l0 2)], (sh, M, J))) f_168_60 rfl ?_
    refine ev_gd (s1 := (168, 64, [.ref l0, .null], [.int (M l0 5), .int 62, .ref (sh.2.2.2 l0 4), .int 0, .ref (sh.2.2.2 l0 2)], (sh, M, J))) f_168_61 rfl ?_
    refine ev_nx (s1 := (168, 65, [.ref l0, .null], [.int ((62 : Int32) * (M l0 5)), .ref (sh.2.2.2 l0 4), .int 0, .ref (sh.2.2.2 l0 2)], (sh, M, J))) f_168_64 rfl ?_
    refine ev_nx (s1 := (168, 67, [.ref l0, .null], [.int 62, .int ((62 : Int32) * (M l0 5)), .ref (sh.2.2.2 l0 4), .int 0, .ref (sh.2.2.2 l0 2)], (sh, M, J))) f_168_65 rfl ?_
    exact ev_c1 (s1 := (136, 0, [.ref (sh.2.2.2 l0 2), .int 0, .ref (sh.2.2.2 l0 4), .int ((62 : Int32) * (M l0 5)), .int 62, .null], [], (sh, M, J))) (k := (168, 70, [.ref l0, .null], [])) f_168_67 rfl
  · refine ev_nx (s1 := (168, 10, [.ref l0, .null], [.int 0], (sh, M, J))) f_168_9 rfl ?_
    refine ev_nx (s1 := (168, 11, [.ref l0, .int 0], [], (sh, M, J))) f_168_10 rfl ?_
    exact rfl
theorem b_R_remember_11 (sh : xSh) (M : Nat → Nat → Int32) (J : Nat → Nat → Int64) (l0 : Nat) (l1 : Int32) : ev (168, 11, [.ref l0, .int l1], [], (sh, M, J)) = (bif decide (1178 ≤ l1) then bif decide ((sh.2.2.1 l0).1 = 9) then bif decide ((sh.2.2.1 l0).1 = 9) then bif decide ((sh.2.2.1 l0).1 = 9) then bif decide ((sh.2.2.1 l0).1 = 9) then bif decide ((sh.2.2.1 l0).1 = 9) then (ev (136, 0, [.ref (sh.2.2.2 l0 2), .int 0, .ref (sh.2.2.2 l0 4), .int ((62 : Int32) * ((xu M l0 5 ((M l0 5) - 1)) l0 5)), .int 62, .null], [], (sh, (xu M l0 5 ((M l0 5) - 1)), J))).bind (fun r => ev (168, 70, [.ref l0, .int l1], r.1.toList ++ [], r.2)) else none else none else none else none else none else bif decide ((sh.2.2.1 l0).1 = 9) then bif decide ((sh.2.2.1 l0).1 = 9) then bif (decide ((sh.2.2.1 (sh.2.2.2 l0 4)).1 = 11) && xin (l1 + 62) (sh.2.2.1 (sh.2.2.2 l0 4)).2) then bif (decide ((sh.2.2.1 (sh.2.2.2 l0 4)).1 = 11) && xin l1 (sh.2.2.1 (sh.2.2.2 l0 4)).2) then ev (168, 11, [.ref l0, .int (l1 + 1)], [], (sh, (xu M (sh.2.2.2 l0 4) (l1 : Int32).toNatClampNeg (M (sh.2.2.2 l0 4) ((l1 + 62) : Int32).toNatClampNeg)), J)) else none else none else none else none) := by
  refine ev_nx (s1 := (168, 12, [.ref l0, .int l1], [.int l1], (sh, M, J))) f_168_11 rfl ?_
  refine ev_nx (s1 := (168, 15, [.ref l0, .int l1], [.int 1178, .int l1], (sh, M, J))) f_168_12 rfl ?_
  refine ev_br (s1 := (168, 39, [.ref l0, .int l1], [], (sh, M, J))) (s2 := (168, 18, [.ref l0, .int l1], [], (sh, M, J))) f_168_15 rfl ?_ ?_
  · refine ev_nx (s1 := (168, 40, [.ref l0, .int l1], [.ref l0], (sh, M, J))) f_168_39 rfl ?_
    refine ev_nx (s1 := (168, 41, [.ref l0, .int l1], [.ref l0, .ref l0], (sh, M, J))) f_168_40 rfl ?_
    refine ev_gd (s1 := (168, 44, [.ref l0, .int l1], [.int (M l0 5), .ref l0], (sh, M, J))) f_168_41 rfl ?_
    refine ev_nx (s1 := (168, 45, [.ref l0, .int l1], [.int 1, .int (M l0 5), .ref l0], (sh, M, J))) f_168_44 rfl ?_
    refine ev_nx (s1 := (168, 46, [.ref l0, .int l1], [.int ((M l0 5) - 1), .ref l0], (sh, M, J))) f_168_45 rfl ?_
    refine ev_gd (s1 := (168, 49, [.ref l0, .int l1], [], (sh, (xu M l0 5 ((M l0 5) - 1)), J))) f_168_46 rfl ?_
    refine ev_nx (s1 := (168, 50, [.ref l0, .int l1], [.ref l0], (sh, (xu M l0 5 ((M l0 5) - 1)), J))) f_168_49 rfl ?_
    refine ev_gd (s1 := (168, 53, [.ref l0, .int l1], [.ref (sh.2.2.2 l0 2)], (sh, (xu M l0 5 ((M l0 5) - 1)), J))) f_168_50 rfl ?_
    refine ev_nx (s1 := (168, 54, [.ref l0, .int l1], [.int 0, .ref (sh.2.2.2 l0 2)], (sh, (xu M l0 5 ((M l0 5) - 1)), J))) f_168_53 rfl ?_
    refine ev_nx (s1 := (168, 55, [.ref l0, .int l1], [.ref l0, .int 0, .ref (sh.2.2.2 l0 2)], (sh, (xu M l0 5 ((M l0 5) - 1)), J))) f_168_54 rfl ?_
    refine ev_gd (s1 := (168, 58, [.ref l0, .int l1], [.ref (sh.2.2.2 l0 4), .int 0, .ref (sh.2.2.2 l0 2)], (sh, (xu M l0 5 ((M l0 5) - 1)), J))) f_168_55 rfl ?_
    refine ev_nx (s1 := (168, 60, [.ref l0, .int l1], [.int 62, .ref (sh.2.2.2 l0 4), .int 0, .ref (sh.2.2.2 l0 2)], (sh, (xu M l0 5 ((M l0 5) - 1)), J))) f_168_58 rfl ?_
    refine ev_nx (s1 := (168, 61, [.ref l0, .int l1], [.ref l0, .int 62, .ref (sh.2.2.2 l0 4), .int 0, .ref (sh.2.2.2 l0 2)], (sh, (xu M l0 5 ((M l0 5) - 1)), J))) f_168_60 rfl ?_
    refine ev_gd (s1 := (168, 64, [.ref l0, .int l1], [.int ((xu M l0 5 ((M l0 5) - 1)) l0 5), .int 62, .ref (sh.2.2.2 l0 4), .int 0, .ref (sh.2.2.2 l0 2)], (sh, (xu M l0 5 ((M l0 5) - 1)), J))) f_168_61 rfl ?_
    refine ev_nx (s1 := (168, 65, [.ref l0, .int l1], [.int ((62 : Int32) * ((xu M l0 5 ((M l0 5) - 1)) l0 5)), .ref (sh.2.2.2 l0 4), .int 0, .ref (sh.2.2.2 l0 2)], (sh, (xu M l0 5 ((M l0 5) - 1)), J))) f_168_64 rfl ?_
    refine ev_nx (s1 := (168, 67, [.ref l0, .int l1], [.int 62, .int ((62 : Int32) * ((xu M l0 5 ((M l0 5) - 1)) l0 5)), .ref (sh.2.2.2 l0 4), .int 0, .ref (sh.2.2.2 l0 2)], (sh, (xu M l0 5 ((M l0 5) - 1)), J))) f_168_65 rfl ?_
    exact ev_c1 (s1 := (136, 0, [.ref (sh.2.2.2 l0 2), .int 0, .ref (sh.2.2.2 l0 4), .int ((62 : Int32) * ((xu M l0 5 ((M l0 5) - 1)) l0 5)), .int 62, .null], [], (sh, (xu M l0 5 ((M l0 5) - 1)), J))) (k := (168, 70, [.ref l0, .int l1], [])) f_168_67 rfl
  · refine ev_nx (s1 := (168, 19, [.ref l0, .int l1], [.ref l0], (sh, M, J))) f_168_18 rfl ?_
    refine ev_gd (s1 := (168, 22, [.ref l0, .int l1], [.ref (sh.2.2.2 l0 4)], (sh, M, J))) f_168_19 rfl ?_
    refine ev_nx (s1 := (168, 23, [.ref l0, .int l1], [.int l1, .ref (sh.2.2.2 l0 4)], (sh, M, J))) f_168_22 rfl ?_
    refine ev_nx (s1 := (168, 24, [.ref l0, .int l1], [.ref l0, .int l1, .ref (sh.2.2.2 l0 4)], (sh, M, J))) f_168_23 rfl ?_
    refine ev_gd (s1 := (168, 27, [.ref l0, .int l1], [.ref (sh.2.2.2 l0 4), .int l1, .ref (sh.2.2.2 l0 4)], (sh, M, J))) f_168_24 rfl ?_
    refine ev_nx (s1 := (168, 28, [.ref l0, .int l1], [.int l1, .ref (sh.2.2.2 l0 4), .int l1, .ref (sh.2.2.2 l0 4)], (sh, M, J))) f_168_27 rfl ?_
    refine ev_nx (s1 := (168, 30, [.ref l0, .int l1], [.int 62, .int l1, .ref (sh.2.2.2 l0 4), .int l1, .ref (sh.2.2.2 l0 4)], (sh, M, J))) f_168_28 rfl ?_
    refine ev_nx (s1 := (168, 31, [.ref l0, .int l1], [.int (l1 + 62), .ref (sh.2.2.2 l0 4), .int l1, .ref (sh.2.2.2 l0 4)], (sh, M, J))) f_168_30 rfl ?_
    refine ev_gd (s1 := (168, 32, [.ref l0, .int l1], [.int (M (sh.2.2.2 l0 4) ((l1 + 62) : Int32).toNatClampNeg), .int l1, .ref (sh.2.2.2 l0 4)], (sh, M, J))) f_168_31 rfl ?_
    refine ev_gd (s1 := (168, 33, [.ref l0, .int l1], [], (sh, (xu M (sh.2.2.2 l0 4) (l1 : Int32).toNatClampNeg (M (sh.2.2.2 l0 4) ((l1 + 62) : Int32).toNatClampNeg)), J))) f_168_32 rfl ?_
    refine ev_nx (s1 := (168, 36, [.ref l0, .int (l1 + 1)], [], (sh, (xu M (sh.2.2.2 l0 4) (l1 : Int32).toNatClampNeg (M (sh.2.2.2 l0 4) ((l1 + 62) : Int32).toNatClampNeg)), J))) f_168_33 rfl ?_
    refine ev_nx (s1 := (168, 11, [.ref l0, .int (l1 + 1)], [], (sh, (xu M (sh.2.2.2 l0 4) (l1 : Int32).toNatClampNeg (M (sh.2.2.2 l0 4) ((l1 + 62) : Int32).toNatClampNeg)), J))) f_168_36 rfl ?_
    exact rfl
theorem b_R_remember_70 (sh : xSh) (M : Nat → Nat → Int32) (J : Nat → Nat → Int64) (l0 : Nat) (l1 : Value) : ev (168, 70, [.ref l0, l1], [], (sh, M, J)) = (bif decide ((sh.2.2.1 l0).1 = 9) then bif decide ((sh.2.2.1 l0).1 = 9) then some (none, (sh, (xu M l0 5 ((M l0 5) + 1)), J)) else none else none) := by
  refine ev_nx (s1 := (168, 71, [.ref l0, l1], [.ref l0], (sh, M, J))) f_168_70 rfl ?_
  refine ev_nx (s1 := (168, 72, [.ref l0, l1], [.ref l0, .ref l0], (sh, M, J))) f_168_71 rfl ?_
  refine ev_gd (s1 := (168, 75, [.ref l0, l1], [.int (M l0 5), .ref l0], (sh, M, J))) f_168_72 rfl ?_
  refine ev_nx (s1 := (168, 76, [.ref l0, l1], [.int 1, .int (M l0 5), .ref l0], (sh, M, J))) f_168_75 rfl ?_
  refine ev_nx (s1 := (168, 77, [.ref l0, l1], [.int ((M l0 5) + 1), .ref l0], (sh, M, J))) f_168_76 rfl ?_
  refine ev_gd (s1 := (168, 80, [.ref l0, l1], [], (sh, (xu M l0 5 ((M l0 5) + 1)), J))) f_168_77 rfl ?_
  exact ev_r1 f_168_80 rfl
theorem f_169_0 : xfind (xnth xTs 169) 0 = some (0, .iload_n 1, 1, (0, 0, 0, 0), .null, [], 0, 0, []) := rfl
theorem f_169_1 : xfind (xnth xTs 169) 1 = some (1, .i2l, 1, (0, 0, 0, 0), .null, [], 0, 0, []) := rfl
theorem f_169_2 : xfind (xnth xTs 169) 2 = some (2, .lconst 1, 1, (0, 0, 0, 0), (.long 1), [], 0, 0, []) := rfl
theorem f_169_3 : xfind (xnth xTs 169) 3 = some (3, .ldc2_w 201, 3, (0, 0, 0, 0), (.long 20), [], 1118, 0, []) := rfl
theorem f_169_6 : xfind (xnth xTs 169) 6 = some (6, .invokestatic 68, 3, (132, 3, 9, 6), .null, [], 897, 0, []) := rfl
theorem f_169_9 : xfind (xnth xTs 169) 9 = some (9, .ifCond .ne 6, 3, (0, 0, 0, 0), .null, [], 0, 0, []) := rfl
theorem f_169_12 : xfind (xnth xTs 169) 12 = some (12, .ldc 91, 2, (0, 0, 0, 0), (.int (-1000000002)), [], 994, 0, []) := rfl
theorem f_169_14 : xfind (xnth xTs 169) 14 = some (14, .ireturn, 1, (0, 0, 0, 0), .null, [], 0, 0, []) := rfl
theorem f_169_15 : xfind (xnth xTs 169) 15 = some (15, .aload_n 0, 1, (0, 0, 0, 0), .null, [], 0, 0, []) := rfl
theorem f_169_16 : xfind (xnth xTs 169) 16 = some (16, .getfield 7, 3, (9, 0, 1, 0), .null, [], 909, 0, []) := rfl
theorem f_169_19 : xfind (xnth xTs 169) 19 = some (19, .iconst 0, 1, (0, 0, 0, 0), (.int 0), [], 0, 0, []) := rfl
theorem f_169_20 : xfind (xnth xTs 169) 20 = some (20, .iaload, 1, (0, 0, 0, 0), .null, [], 0, 0, []) := rfl
theorem f_169_21 : xfind (xnth xTs 169) 21 = some (21, .ifCond .ne 8, 3, (0, 0, 0, 0), .null, [], 0, 0, []) := rfl
theorem f_169_24 : xfind (xnth xTs 169) 24 = some (24, .ldc 203, 2, (0, 0, 0, 0), (.int (-1000000003)), [], 1119, 0, []) := rfl
theorem f_169_26 : xfind (xnth xTs 169) 26 = some (26, .goto 22, 3, (0, 0, 0, 0), .null, [], 0, 0, []) := rfl
theorem f_169_29 : xfind (xnth xTs 169) 29 = some (29, .aload_n 0, 1, (0, 0, 0, 0), .null, [], 0, 0, []) := rfl
theorem f_169_30 : xfind (xnth xTs 169) 30 = some (30, .getfield 16, 3, (9, 2, 1, 0), .null, [], 911, 0, []) := rfl
theorem f_169_33 : xfind (xnth xTs 169) 33 = some (33, .bipush 61, 2, (0, 0, 0, 0), (.int 61), [], 0, 0, []) := rfl
theorem f_169_35 : xfind (xnth xTs 169) 35 = some (35, .iaload, 1, (0, 0, 0, 0), .null, [], 0, 0, []) := rfl
theorem f_169_36 : xfind (xnth xTs 169) 36 = some (36, .sipush 9000, 3, (0, 0, 0, 0), (.int 9000), [], 0, 0, []) := rfl
theorem f_169_39 : xfind (xnth xTs 169) 39 = some (39, .if_icmp .le 8, 3, (0, 0, 0, 0), .null, [], 0, 0, []) := rfl
theorem f_169_42 : xfind (xnth xTs 169) 42 = some (42, .ldc 95, 2, (0, 0, 0, 0), (.int (-1000000004)), [], 995, 0, []) := rfl
theorem f_169_44 : xfind (xnth xTs 169) 44 = some (44, .goto 4, 3, (0, 0, 0, 0), .null, [], 0, 0, []) := rfl
theorem f_169_47 : xfind (xnth xTs 169) 47 = some (47, .iconst 0, 1, (0, 0, 0, 0), (.int 0), [], 0, 0, []) := rfl
theorem f_169_48 : xfind (xnth xTs 169) 48 = some (48, .ireturn, 1, (0, 0, 0, 0), .null, [], 0, 0, []) := rfl
theorem b_R_refuses_0 (sh : xSh) (M : Nat → Nat → Int32) (J : Nat → Nat → Int64) (l0 : Nat) (l1 : Int32) : ev (169, 0, [.ref l0, .int l1], [], (sh, M, J)) = ((ev (132, 0, [.long (l1 : Int32).toInt64, .null, .long 1, .null, .long 20, .null], [], (sh, M, J))).bind (fun r => ev (169, 9, [.ref l0, .int l1], r.1.toList ++ [], r.2))) := by
  refine ev_nx (s1 := (169, 1, [.ref l0, .int l1], [.int l1], (sh, M, J))) f_169_0 rfl ?_
  refine ev_nx (s1 := (169, 2, [.ref l0, .int l1], [.long (l1 : Int32).toInt64], (sh, M, J))) f_169_1 rfl ?_
  refine ev_nx (s1 := (169, 3, [.ref l0, .int l1], [.long 1, .long (l1 : Int32).toInt64], (sh, M, J))) f_169_2 rfl ?_
  refine ev_nx (s1 := (169, 6, [.ref l0, .int l1], [.long 20, .long 1, .long (l1 : Int32).toInt64], (sh, M, J))) f_169_3 rfl ?_
  exact ev_c1 (s1 := (132, 0, [.long (l1 : Int32).toInt64, .null, .long 1, .null, .long 20, .null], [], (sh, M, J))) (k := (169, 9, [.ref l0, .int l1], [])) f_169_6 rfl
theorem b_R_refuses_9 (sh : xSh) (M : Nat → Nat → Int32) (J : Nat → Nat → Int64) (l0 : Nat) (l1 : Int32) (k0 : Int32) : ev (169, 9, [.ref l0, .int l1], [.int k0], (sh, M, J)) = (bif !decide (k0 = 0) then bif decide ((sh.2.2.1 l0).1 = 9) then bif (decide ((sh.2.2.1 (sh.2.2.2 l0 0)).1 = 11) && xin 0 (sh.2.2.1 (sh.2.2.2 l0 0)).2) then bif !decide ((M (sh.2.2.2 l0 0) (0 : Int32).toNatClampNeg) = 0) then bif decide ((sh.2.2.1 l0).1 = 9) then bif (decide ((sh.2.2.1 (sh.2.2.2 l0 2)).1 = 11) && xin 61 (sh.2.2.1 (sh.2.2.2 l0 2)).2) then bif decide ((M (sh.2.2.2 l0 2) (61 : Int32).toNatClampNeg) ≤ 9000) then some (some (.int 0), (sh, M, J)) else some (some (.int (-1000000004)), (sh, M, J)) else none else none else some (some (.int (-1000000003)), (sh, M, J)) else none else none else some (some (.int (-1000000002)), (sh, M, J))) := by
  refine ev_br (s1 := (169, 15, [.ref l0, .int l1], [], (sh, M, J))) (s2 := (169, 12, [.ref l0, .int l1], [], (sh, M, J))) f_169_9 rfl ?_ ?_
  · refine ev_nx (s1 := (169, 16, [.ref l0, .int l1], [.ref l0], (sh, M, J))) f_169_15 rfl ?_
    refine ev_gd (s1 := (169, 19, [.ref l0, .int l1], [.ref (sh.2.2.2 l0 0)], (sh, M, J))) f_169_16 rfl ?_
    refine ev_nx (s1 := (169, 20, [.ref l0, .int l1], [.int 0, .ref (sh.2.2.2 l0 0)], (sh, M, J))) f_169_19 rfl ?_
    refine ev_gd (s1 := (169, 21, [.ref l0, .int l1], [.int (M (sh.2.2.2 l0 0) (0 : Int32).toNatClampNeg)], (sh, M, J))) f_169_20 rfl ?_
    refine ev_br (s1 := (169, 29, [.ref l0, .int l1], [], (sh, M, J))) (s2 := (169, 24, [.ref l0, .int l1], [], (sh, M, J))) f_169_21 rfl ?_ ?_
    · refine ev_nx (s1 := (169, 30, [.ref l0, .int l1], [.ref l0], (sh, M, J))) f_169_29 rfl ?_
      refine ev_gd (s1 := (169, 33, [.ref l0, .int l1], [.ref (sh.2.2.2 l0 2)], (sh, M, J))) f_169_30 rfl ?_
      refine ev_nx (s1 := (169, 35, [.ref l0, .int l1], [.int 61, .ref (sh.2.2.2 l0 2)], (sh, M, J))) f_169_33 rfl ?_
      refine ev_gd (s1 := (169, 36, [.ref l0, .int l1], [.int (M (sh.2.2.2 l0 2) (61 : Int32).toNatClampNeg)], (sh, M, J))) f_169_35 rfl ?_
      refine ev_nx (s1 := (169, 39, [.ref l0, .int l1], [.int 9000, .int (M (sh.2.2.2 l0 2) (61 : Int32).toNatClampNeg)], (sh, M, J))) f_169_36 rfl ?_
      refine ev_br (s1 := (169, 47, [.ref l0, .int l1], [], (sh, M, J))) (s2 := (169, 42, [.ref l0, .int l1], [], (sh, M, J))) f_169_39 rfl ?_ ?_
      · refine ev_nx (s1 := (169, 48, [.ref l0, .int l1], [.int 0], (sh, M, J))) f_169_47 rfl ?_
        exact ev_r1 f_169_48 rfl
      · refine ev_nx (s1 := (169, 44, [.ref l0, .int l1], [.int (-1000000004)], (sh, M, J))) f_169_42 rfl ?_
        refine ev_nx (s1 := (169, 48, [.ref l0, .int l1], [.int (-1000000004)], (sh, M, J))) f_169_44 rfl ?_
        exact ev_r1 f_169_48 rfl
    · refine ev_nx (s1 := (169, 26, [.ref l0, .int l1], [.int (-1000000003)], (sh, M, J))) f_169_24 rfl ?_
      refine ev_nx (s1 := (169, 48, [.ref l0, .int l1], [.int (-1000000003)], (sh, M, J))) f_169_26 rfl ?_
      exact ev_r1 f_169_48 rfl
  · refine ev_nx (s1 := (169, 14, [.ref l0, .int l1], [.int (-1000000002)], (sh, M, J))) f_169_12 rfl ?_
    exact ev_r1 f_169_14 rfl
theorem f_170_0 : xfind (xnth xTs 170) 0 = some (0, .aload_n 0, 1, (0, 0, 0, 0), .null, [], 0, 0, []) := rfl
theorem f_170_1 : xfind (xnth xTs 170) 1 = some (1, .iload_n 1, 1, (0, 0, 0, 0), .null, [], 0, 0, []) := rfl
theorem f_170_2 : xfind (xnth xTs 170) 2 = some (2, .invokevirtual 204, 3, (169, 1, 9, 2), .null, [], 1114, 0, []) := rfl
theorem f_170_5 : xfind (xnth xTs 170) 5 = some (5, .istore_n 2, 1, (0, 0, 0, 0), .null, [], 0, 0, []) := rfl
theorem f_170_6 : xfind (xnth xTs 170) 6 = some (6, .iload_n 2, 1, (0, 0, 0, 0), .null, [], 0, 0, []) := rfl
theorem f_170_7 : xfind (xnth xTs 170) 7 = some (7, .ifCond .eq 5, 3, (0, 0, 0, 0), .null, [], 0, 0, []) := rfl
theorem f_170_10 : xfind (xnth xTs 170) 10 = some (10, .iload_n 2, 1, (0, 0, 0, 0), .null, [], 0, 0, []) := rfl
theorem f_170_11 : xfind (xnth xTs 170) 11 = some (11, .ireturn, 1, (0, 0, 0, 0), .null, [], 0, 0, []) := rfl
theorem f_170_12 : xfind (xnth xTs 170) 12 = some (12, .aload_n 0, 1, (0, 0, 0, 0), .null, [], 0, 0, []) := rfl
theorem f_170_13 : xfind (xnth xTs 170) 13 = some (13, .invokevirtual 207, 3, (168, 0, 9, 2), .null, [], 1120, 0, []) := rfl
theorem f_170_16 : xfind (xnth xTs 170) 16 = some (16, .iconst 0, 1, (0, 0, 0, 0), (.int 0), [], 0, 0, []) := rfl
theorem f_170_17 : xfind (xnth xTs 170) 17 = some (17, .istore_n 3, 1, (0, 0, 0, 0), .null, [], 0, 0, []) := rfl
theorem f_170_18 : xfind (xnth xTs 170) 18 = some (18, .iconst 0, 1, (0, 0, 0, 0), (.int 0), [], 0, 0, []) := rfl
theorem f_170_19 : xfind (xnth xTs 170) 19 = some (19, .istore 4, 2, (0, 0, 0, 0), .null, [], 0, 0, []) := rfl
theorem f_170_21 : xfind (xnth xTs 170) 21 = some (21, .iload 4, 2, (0, 0, 0, 0), .null, [], 0, 1, [2]) := rfl
theorem f_170_23 : xfind (xnth xTs 170) 23 = some (23, .iload_n 1, 1, (0, 0, 0, 0), .null, [], 0, 0, []) := rfl
theorem f_170_24 : xfind (xnth xTs 170) 24 = some (24, .if_icmp .ge 18, 3, (0, 0, 0, 0), .null, [], 0, 0, []) := rfl
theorem f_170_27 : xfind (xnth xTs 170) 27 = some (27, .aload_n 0, 1, (0, 0, 0, 0), .null, [], 0, 0, []) := rfl
theorem f_170_28 : xfind (xnth xTs 170) 28 = some (28, .aload_n 0, 1, (0, 0, 0, 0), .null, [], 0, 0, []) := rfl
theorem f_170_29 : xfind (xnth xTs 170) 29 = some (29, .getfield 16, 3, (9, 2, 1, 0), .null, [], 911, 0, []) := rfl
theorem f_170_32 : xfind (xnth xTs 170) 32 = some (32, .invokevirtual 210, 3, (162, 1, 9, 5), .null, [], 1124, 0, []) := rfl
theorem f_170_35 : xfind (xnth xTs 170) 35 = some (35, .istore_n 3, 1, (0, 0, 0, 0), .null, [], 0, 0, []) := rfl
theorem f_170_36 : xfind (xnth xTs 170) 36 = some (36, .iinc 4 1, 3, (0, 0, 0, 0), .null, [], 0, 0, []) := rfl
theorem f_170_39 : xfind (xnth xTs 170) 39 = some (39, .goto (-18), 3, (0, 0, 0, 0), .null, [], 0, 0, []) := rfl
theorem f_170_42 : xfind (xnth xTs 170) 42 = some (42, .iload_n 3, 1, (0, 0, 0, 0), .null, [], 0, 0, []) := rfl
theorem f_170_43 : xfind (xnth xTs 170) 43 = some (43, .ireturn, 1, (0, 0, 0, 0), .null, [], 0, 0, []) := rfl
theorem hd_170_21 : xhead 170 21 = some [2] := rfl
theorem b_R_night_0 (sh : xSh) (M : Nat → Nat → Int32) (J : Nat → Nat → Int64) (l0 : Nat) (l1 : Int32) : ev (170, 0, [.ref l0, .int l1, .null, .null, .null], [], (sh, M, J)) = (bif (decide ((sh.2.2.1 l0).1 = 9) && true) then (ev (169, 0, [.ref l0, .int l1], [], (sh, M, J))).bind (fun r => ev (170, 5, [.ref l0, .int l1, .null, .null, .null], r.1.toList ++ [], r.2)) else none) := by
  refine ev_nx (s1 := (170, 1, [.ref l0, .int l1, .null, .null, .null], [.ref l0], (sh, M, J))) f_170_0 rfl ?_
  refine ev_nx (s1 := (170, 2, [.ref l0, .int l1, .null, .null, .null], [.int l1, .ref l0], (sh, M, J))) f_170_1 rfl ?_
  exact ev_ca (cc := (decide ((sh.2.2.1 l0).1 = 9) && true)) (s1 := (169, 0, [.ref l0, .int l1], [], (sh, M, J))) (k := (170, 5, [.ref l0, .int l1, .null, .null, .null], [])) f_170_2 rfl
theorem b_R_night_5 (sh : xSh) (M : Nat → Nat → Int32) (J : Nat → Nat → Int64) (l0 : Nat) (l1 : Int32) (k0 : Int32) : ev (170, 5, [.ref l0, .int l1, .null, .null, .null], [.int k0], (sh, M, J)) = (bif decide (k0 = 0) then bif (decide ((sh.2.2.1 l0).1 = 9) && true) then (ev (168, 0, [.ref l0, .null], [], (sh, M, J))).bind (fun r => ev (170, 16, [.ref l0, .int l1, .int k0, .null, .null], r.1.toList ++ [], r.2)) else none else some (some (.int k0), (sh, M, J))) := by
  refine ev_nx (s1 := (170, 6, [.ref l0, .int l1, .int k0, .null, .null], [], (sh, M, J))) f_170_5 rfl ?_
  refine ev_nx (s1 := (170, 7, [.ref l0, .int l1, .int k0, .null, .null], [.int k0], (sh, M, J))) f_170_6 rfl ?_
  refine ev_br (s1 := (170, 12, [.ref l0, .int l1, .int k0, .null, .null], [], (sh, M, J))) (s2 := (170, 10, [.ref l0, .int l1, .int k0, .null, .null], [], (sh, M, J))) f_170_7 rfl ?_ ?_
  · refine ev_nx (s1 := (170, 13, [.ref l0, .int l1, .int k0, .null, .null], [.ref l0], (sh, M, J))) f_170_12 rfl ?_
    exact ev_ca (cc := (decide ((sh.2.2.1 l0).1 = 9) && true)) (s1 := (168, 0, [.ref l0, .null], [], (sh, M, J))) (k := (170, 16, [.ref l0, .int l1, .int k0, .null, .null], [])) f_170_13 rfl
  · refine ev_nx (s1 := (170, 11, [.ref l0, .int l1, .int k0, .null, .null], [.int k0], (sh, M, J))) f_170_10 rfl ?_
    exact ev_r1 f_170_11 rfl
theorem b_R_night_16 (sh : xSh) (M : Nat → Nat → Int32) (J : Nat → Nat → Int64) (l0 : Nat) (l1 : Int32) (l2 : Int32) : ev (170, 16, [.ref l0, .int l1, .int l2, .null, .null], [], (sh, M, J)) = (ev (170, 21, [.ref l0, .int l1, .null, .int 0, .int 0], [], (sh, M, J))) := by
  refine ev_nx (s1 := (170, 17, [.ref l0, .int l1, .int l2, .null, .null], [.int 0], (sh, M, J))) f_170_16 rfl ?_
  refine ev_nx (s1 := (170, 18, [.ref l0, .int l1, .int l2, .int 0, .null], [], (sh, M, J))) f_170_17 rfl ?_
  refine ev_nx (s1 := (170, 19, [.ref l0, .int l1, .int l2, .int 0, .null], [.int 0], (sh, M, J))) f_170_18 rfl ?_
  refine ev_nx (s1 := (170, 21, [.ref l0, .int l1, .int l2, .int 0, .int 0], [], (sh, M, J))) f_170_19 rfl ?_
  exact (ev_kill hd_170_21).symm
theorem b_R_night_21 (sh : xSh) (M : Nat → Nat → Int32) (J : Nat → Nat → Int64) (l0 : Nat) (l1 : Int32) (l3 : Int32) (l4 : Int32) : ev (170, 21, [.ref l0, .int l1, .null, .int l3, .int l4], [], (sh, M, J)) = (bif decide (l1 ≤ l4) then some (some (.int l3), (sh, M, J)) else bif decide ((sh.2.2.1 l0).1 = 9) then bif (decide ((sh.2.2.1 l0).1 = 9) && true) then (ev (162, 0, [.ref l0, .ref (sh.2.2.2 l0 2), .null, .null, .null], [], (sh, M, J))).bind (fun r => ev (170, 35, [.ref l0, .int l1, .null, .int l3, .int l4], r.1.toList ++ [], r.2)) else none else none) := by
  refine ev_nx (s1 := (170, 23, [.ref l0, .int l1, .null, .int l3, .int l4], [.int l4], (sh, M, J))) f_170_21 rfl ?_
  refine ev_nx (s1 := (170, 24, [.ref l0, .int l1, .null, .int l3, .int l4], [.int l1, .int l4], (sh, M, J))) f_170_23 rfl ?_
  refine ev_br (s1 := (170, 42, [.ref l0, .int l1, .null, .int l3, .int l4], [], (sh, M, J))) (s2 := (170, 27, [.ref l0, .int l1, .null, .int l3, .int l4], [], (sh, M, J))) f_170_24 rfl ?_ ?_
  · refine ev_nx (s1 := (170, 43, [.ref l0, .int l1, .null, .int l3, .int l4], [.int l3], (sh, M, J))) f_170_42 rfl ?_
    exact ev_r1 f_170_43 rfl
  · refine ev_nx (s1 := (170, 28, [.ref l0, .int l1, .null, .int l3, .int l4], [.ref l0], (sh, M, J))) f_170_27 rfl ?_
    refine ev_nx (s1 := (170, 29, [.ref l0, .int l1, .null, .int l3, .int l4], [.ref l0, .ref l0], (sh, M, J))) f_170_28 rfl ?_
    refine ev_gd (s1 := (170, 32, [.ref l0, .int l1, .null, .int l3, .int l4], [.ref (sh.2.2.2 l0 2), .ref l0], (sh, M, J))) f_170_29 rfl ?_
    exact ev_ca (cc := (decide ((sh.2.2.1 l0).1 = 9) && true)) (s1 := (162, 0, [.ref l0, .ref (sh.2.2.2 l0 2), .null, .null, .null], [], (sh, M, J))) (k := (170, 35, [.ref l0, .int l1, .null, .int l3, .int l4], [])) f_170_32 rfl
theorem b_R_night_35 (sh : xSh) (M : Nat → Nat → Int32) (J : Nat → Nat → Int64) (l0 : Nat) (l1 : Int32) (l3 : Int32) (l4 : Int32) (k0 : Int32) : ev (170, 35, [.ref l0, .int l1, .null, .int l3, .int l4], [.int k0], (sh, M, J)) = (ev (170, 21, [.ref l0, .int l1, .null, .int k0, .int (l4 + 1)], [], (sh, M, J))) := by
  refine ev_nx (s1 := (170, 36, [.ref l0, .int l1, .null, .int k0, .int l4], [], (sh, M, J))) f_170_35 rfl ?_
  refine ev_nx (s1 := (170, 39, [.ref l0, .int l1, .null, .int k0, .int (l4 + 1)], [], (sh, M, J))) f_170_36 rfl ?_
  refine ev_nx (s1 := (170, 21, [.ref l0, .int l1, .null, .int k0, .int (l4 + 1)], [], (sh, M, J))) f_170_39 rfl ?_
  exact rfl
theorem f_171_0 : xfind (xnth xTs 171) 0 = some (0, .aload_n 0, 1, (0, 0, 0, 0), .null, [], 0, 0, []) := rfl
theorem f_171_1 : xfind (xnth xTs 171) 1 = some (1, .iload_n 1, 1, (0, 0, 0, 0), .null, [], 0, 0, []) := rfl
theorem f_171_2 : xfind (xnth xTs 171) 2 = some (2, .invokevirtual 189, 3, (152, 1, 9, 2), .null, [], 1088, 0, []) := rfl
theorem f_171_5 : xfind (xnth xTs 171) 5 = some (5, .ifCond .ne 6, 3, (0, 0, 0, 0), .null, [], 0, 0, []) := rfl
theorem f_171_8 : xfind (xnth xTs 171) 8 = some (8, .ldc 192, 2, (0, 0, 0, 0), (.int (-1000000001)), [], 1092, 0, []) := rfl
theorem f_171_10 : xfind (xnth xTs 171) 10 = some (10, .ireturn, 1, (0, 0, 0, 0), .null, [], 0, 0, []) := rfl
theorem f_171_11 : xfind (xnth xTs 171) 11 = some (11, .aload_n 0, 1, (0, 0, 0, 0), .null, [], 0, 0, []) := rfl
theorem f_171_12 : xfind (xnth xTs 171) 12 = some (12, .getfield 16, 3, (9, 2, 1, 0), .null, [], 911, 0, []) := rfl
theorem f_171_15 : xfind (xnth xTs 171) 15 = some (15, .bipush 20, 2, (0, 0, 0, 0), (.int 20), [], 0, 0, []) := rfl
theorem f_171_17 : xfind (xnth xTs 171) 17 = some (17, .iaload, 1, (0, 0, 0, 0), .null, [], 0, 0, []) := rfl
theorem f_171_18 : xfind (xnth xTs 171) 18 = some (18, .iload_n 1, 1, (0, 0, 0, 0), .null, [], 0, 0, []) := rfl
theorem f_171_19 : xfind (xnth xTs 171) 19 = some (19, .invokestatic 137, 3, (133, 2, 9, 2), .null, [], 1034, 0, []) := rfl
theorem f_171_22 : xfind (xnth xTs 171) 22 = some (22, .ifCond .eq 6, 3, (0, 0, 0, 0), .null, [], 0, 0, []) := rfl
theorem f_171_25 : xfind (xnth xTs 171) 25 = some (25, .ldc 203, 2, (0, 0, 0, 0), (.int (-1000000003)), [], 1119, 0, []) := rfl
theorem f_171_27 : xfind (xnth xTs 171) 27 = some (27, .ireturn, 1, (0, 0, 0, 0), .null, [], 0, 0, []) := rfl
theorem f_171_28 : xfind (xnth xTs 171) 28 = some (28, .aload_n 0, 1, (0, 0, 0, 0), .null, [], 0, 0, []) := rfl
theorem f_171_29 : xfind (xnth xTs 171) 29 = some (29, .invokevirtual 207, 3, (168, 0, 9, 2), .null, [], 1120, 0, []) := rfl
theorem f_171_32 : xfind (xnth xTs 171) 32 = some (32, .aload_n 0, 1, (0, 0, 0, 0), .null, [], 0, 0, []) := rfl
theorem f_171_33 : xfind (xnth xTs 171) 33 = some (33, .getfield 16, 3, (9, 2, 1, 0), .null, [], 911, 0, []) := rfl
theorem f_171_36 : xfind (xnth xTs 171) 36 = some (36, .bipush 20, 2, (0, 0, 0, 0), (.int 20), [], 0, 0, []) := rfl
theorem f_171_38 : xfind (xnth xTs 171) 38 = some (38, .dup2, 1, (0, 0, 0, 0), .null, [], 0, 0, []) := rfl
theorem f_171_39 : xfind (xnth xTs 171) 39 = some (39, .iaload, 1, (0, 0, 0, 0), .null, [], 0, 0, []) := rfl
theorem f_171_40 : xfind (xnth xTs 171) 40 = some (40, .iconst 1, 1, (0, 0, 0, 0), (.int 1), [], 0, 0, []) := rfl
theorem f_171_41 : xfind (xnth xTs 171) 41 = some (41, .iload_n 1, 1, (0, 0, 0, 0), .null, [], 0, 0, []) := rfl
theorem f_171_42 : xfind (xnth xTs 171) 42 = some (42, .ishl, 1, (0, 0, 0, 0), .null, [], 0, 0, []) := rfl
theorem f_171_43 : xfind (xnth xTs 171) 43 = some (43, .ior, 1, (0, 0, 0, 0), .null, [], 0, 0, []) := rfl
theorem f_171_44 : xfind (xnth xTs 171) 44 = some (44, .iastore, 1, (0, 0, 0, 0), .null, [], 0, 0, []) := rfl
theorem f_171_45 : xfind (xnth xTs 171) 45 = some (45, .aload_n 0, 1, (0, 0, 0, 0), .null, [], 0, 0, []) := rfl
theorem f_171_46 : xfind (xnth xTs 171) 46 = some (46, .getfield 16, 3, (9, 2, 1, 0), .null, [], 911, 0, []) := rfl
theorem f_171_49 : xfind (xnth xTs 171) 49 = some (49, .bipush 20, 2, (0, 0, 0, 0), (.int 20), [], 0, 0, []) := rfl
theorem f_171_51 : xfind (xnth xTs 171) 51 = some (51, .iaload, 1, (0, 0, 0, 0), .null, [], 0, 0, []) := rfl
theorem f_171_52 : xfind (xnth xTs 171) 52 = some (52, .invokestatic 213, 3, (134, 1, 9, 3), .null, [], 1136, 0, []) := rfl
theorem f_171_55 : xfind (xnth xTs 171) 55 = some (55, .ireturn, 1, (0, 0, 0, 0), .null, [], 0, 0, []) := rfl
theorem b_R_cut_0 (sh : xSh) (M : Nat → Nat → Int32) (J : Nat → Nat → Int64) (l0 : Nat) (l1 : Int32) : ev (171, 0, [.ref l0, .int l1], [], (sh, M, J)) = (bif (decide ((sh.2.2.1 l0).1 = 9) && true) then (ev (152, 0, [.ref l0, .int l1], [], (sh, M, J))).bind (fun r => ev (171, 5, [.ref l0, .int l1], r.1.toList ++ [], r.2)) else none) := by
  refine ev_nx (s1 := (171, 1, [.ref l0, .int l1], [.ref l0], (sh, M, J))) f_171_0 rfl ?_
  refine ev_nx (s1 := (171, 2, [.ref l0, .int l1], [.int l1, .ref l0], (sh, M, J))) f_171_1 rfl ?_
  exact ev_ca (cc := (decide ((sh.2.2.1 l0).1 = 9) && true)) (s1 := (152, 0, [.ref l0, .int l1], [], (sh, M, J))) (k := (171, 5, [.ref l0, .int l1], [])) f_171_2 rfl
theorem b_R_cut_5 (sh : xSh) (M : Nat → Nat → Int32) (J : Nat → Nat → Int64) (l0 : Nat) (l1 : Int32) (k0 : Int32) : ev (171, 5, [.ref l0, .int l1], [.int k0], (sh, M, J)) = (bif !decide (k0 = 0) then bif decide ((sh.2.2.1 l0).1 = 9) then bif (decide ((sh.2.2.1 (sh.2.2.2 l0 2)).1 = 11) && xin 20 (sh.2.2.1 (sh.2.2.2 l0 2)).2) then (ev (133, 0, [.int (M (sh.2.2.2 l0 2) (20 : Int32).toNatClampNeg), .int l1], [], (sh, M, J))).bind (fun r => ev (171, 22, [.ref l0, .int l1], r.1.toList ++ [], r.2)) else none else none else some (some (.int (-1000000001)), (sh, M, J))) := by
  refine ev_br (s1 := (171, 11, [.ref l0, .int l1], [], (sh, M, J))) (s2 := (171, 8, [.ref l0, .int l1], [], (sh, M, J))) f_171_5 rfl ?_ ?_
  · refine ev_nx (s1 := (171, 12, [.ref l0, .int l1], [.ref l0], (sh, M, J))) f_171_11 rfl ?_
    refine ev_gd (s1 := (171, 15, [.ref l0, .int l1], [.ref (sh.2.2.2 l0 2)], (sh, M, J))) f_171_12 rfl ?_
    refine ev_nx (s1 := (171, 17, [.ref l0, .int l1], [.int 20, .ref (sh.2.2.2 l0 2)], (sh, M, J))) f_171_15 rfl ?_
    refine ev_gd (s1 := (171, 18, [.ref l0, .int l1], [.int (M (sh.2.2.2 l0 2) (20 : Int32).toNatClampNeg)], (sh, M, J))) f_171_17 rfl ?_
    refine ev_nx (s1 := (171, 19, [.ref l0, .int l1], [.int l1, .int (M (sh.2.2.2 l0 2) (20 : Int32).toNatClampNeg)], (sh, M, J))) f_171_18 rfl ?_
    exact ev_c1 (s1 := (133, 0, [.int (M (sh.2.2.2 l0 2) (20 : Int32).toNatClampNeg), .int l1], [], (sh, M, J))) (k := (171, 22, [.ref l0, .int l1], [])) f_171_19 rfl
  · refine ev_nx (s1 := (171, 10, [.ref l0, .int l1], [.int (-1000000001)], (sh, M, J))) f_171_8 rfl ?_
    exact ev_r1 f_171_10 rfl
theorem b_R_cut_22 (sh : xSh) (M : Nat → Nat → Int32) (J : Nat → Nat → Int64) (l0 : Nat) (l1 : Int32) (k0 : Int32) : ev (171, 22, [.ref l0, .int l1], [.int k0], (sh, M, J)) = (bif decide (k0 = 0) then bif (decide ((sh.2.2.1 l0).1 = 9) && true) then (ev (168, 0, [.ref l0, .null], [], (sh, M, J))).bind (fun r => ev (171, 32, [.ref l0, .int l1], r.1.toList ++ [], r.2)) else none else some (some (.int (-1000000003)), (sh, M, J))) := by
  refine ev_br (s1 := (171, 28, [.ref l0, .int l1], [], (sh, M, J))) (s2 := (171, 25, [.ref l0, .int l1], [], (sh, M, J))) f_171_22 rfl ?_ ?_
  · refine ev_nx (s1 := (171, 29, [.ref l0, .int l1], [.ref l0], (sh, M, J))) f_171_28 rfl ?_
    exact ev_ca (cc := (decide ((sh.2.2.1 l0).1 = 9) && true)) (s1 := (168, 0, [.ref l0, .null], [], (sh, M, J))) (k := (171, 32, [.ref l0, .int l1], [])) f_171_29 rfl
  · refine ev_nx (s1 := (171, 27, [.ref l0, .int l1], [.int (-1000000003)], (sh, M, J))) f_171_25 rfl ?_
    exact ev_r1 f_171_27 rfl
theorem b_R_cut_32 (sh : xSh) (M : Nat → Nat → Int32) (J : Nat → Nat → Int64) (l0 : Nat) (l1 : Int32) : ev (171, 32, [.ref l0, .int l1], [], (sh, M, J)) = (bif decide ((sh.2.2.1 l0).1 = 9) then bif (decide ((sh.2.2.1 (sh.2.2.2 l0 2)).1 = 11) && xin 20 (sh.2.2.1 (sh.2.2.2 l0 2)).2) then bif (decide ((sh.2.2.1 (sh.2.2.2 l0 2)).1 = 11) && xin 20 (sh.2.2.1 (sh.2.2.2 l0 2)).2) then bif decide ((sh.2.2.1 l0).1 = 9) then bif (decide ((sh.2.2.1 (sh.2.2.2 l0 2)).1 = 11) && xin 20 (sh.2.2.1 (sh.2.2.2 l0 2)).2) then (ev (134, 0, [.int ((xu M (sh.2.2.2 l0 2) (20 : Int32).toNatClampNeg ((M (sh.2.2.2 l0 2) (20 : Int32).toNatClampNeg) ||| ((1 : Int32) <<< (l1 &&& 31)))) (sh.2.2.2 l0 2) (20 : Int32).toNatClampNeg), .null, .null], [], (sh, (xu M (sh.2.2.2 l0 2) (20 : Int32).toNatClampNeg ((M (sh.2.2.2 l0 2) (20 : Int32).toNatClampNeg) ||| ((1 : Int32) <<< (l1 &&& 31)))), J))).bind (fun r => ev (171, 55, [.ref l0, .int l1], r.1.toList ++ [], r.2)) else none else none else none else none else none) := by
  refine ev_nx (s1 := (171, 33, [.ref l0, .int l1], [.ref l0], (sh, M, J))) f_171_32 rfl ?_
  refine ev_gd (s1 := (171, 36, [.ref l0, .int l1], [.ref (sh.2.2.2 l0 2)], (sh, M, J))) f_171_33 rfl ?_
  refine ev_nx (s1 := (171, 38, [.ref l0, .int l1], [.int 20, .ref (sh.2.2.2 l0 2)], (sh, M, J))) f_171_36 rfl ?_
  refine ev_nx (s1 := (171, 39, [.ref l0, .int l1], [.int 20, .ref (sh.2.2.2 l0 2), .int 20, .ref (sh.2.2.2 l0 2)], (sh, M, J))) f_171_38 rfl ?_
  refine ev_gd (s1 := (171, 40, [.ref l0, .int l1], [.int (M (sh.2.2.2 l0 2) (20 : Int32).toNatClampNeg), .int 20, .ref (sh.2.2.2 l0 2)], (sh, M, J))) f_171_39 rfl ?_
  refine ev_nx (s1 := (171, 41, [.ref l0, .int l1], [.int 1, .int (M (sh.2.2.2 l0 2) (20 : Int32).toNatClampNeg), .int 20, .ref (sh.2.2.2 l0 2)], (sh, M, J))) f_171_40 rfl ?_
  refine ev_nx (s1 := (171, 42, [.ref l0, .int l1], [.int l1, .int 1, .int (M (sh.2.2.2 l0 2) (20 : Int32).toNatClampNeg), .int 20, .ref (sh.2.2.2 l0 2)], (sh, M, J))) f_171_41 rfl ?_
  refine ev_nx (s1 := (171, 43, [.ref l0, .int l1], [.int ((1 : Int32) <<< (l1 &&& 31)), .int (M (sh.2.2.2 l0 2) (20 : Int32).toNatClampNeg), .int 20, .ref (sh.2.2.2 l0 2)], (sh, M, J))) f_171_42 rfl ?_
  refine ev_nx (s1 := (171, 44, [.ref l0, .int l1], [.int ((M (sh.2.2.2 l0 2) (20 : Int32).toNatClampNeg) ||| ((1 : Int32) <<< (l1 &&& 31))), .int 20, .ref (sh.2.2.2 l0 2)], (sh, M, J))) f_171_43 rfl ?_
  refine ev_gd (s1 := (171, 45, [.ref l0, .int l1], [], (sh, (xu M (sh.2.2.2 l0 2) (20 : Int32).toNatClampNeg ((M (sh.2.2.2 l0 2) (20 : Int32).toNatClampNeg) ||| ((1 : Int32) <<< (l1 &&& 31)))), J))) f_171_44 rfl ?_
  refine ev_nx (s1 := (171, 46, [.ref l0, .int l1], [.ref l0], (sh, (xu M (sh.2.2.2 l0 2) (20 : Int32).toNatClampNeg ((M (sh.2.2.2 l0 2) (20 : Int32).toNatClampNeg) ||| ((1 : Int32) <<< (l1 &&& 31)))), J))) f_171_45 rfl ?_
  refine ev_gd (s1 := (171, 49, [.ref l0, .int l1], [.ref (sh.2.2.2 l0 2)], (sh, (xu M (sh.2.2.2 l0 2) (20 : Int32).toNatClampNeg ((M (sh.2.2.2 l0 2) (20 : Int32).toNatClampNeg) ||| ((1 : Int32) <<< (l1 &&& 31)))), J))) f_171_46 rfl ?_
  refine ev_nx (s1 := (171, 51, [.ref l0, .int l1], [.int 20, .ref (sh.2.2.2 l0 2)], (sh, (xu M (sh.2.2.2 l0 2) (20 : Int32).toNatClampNeg ((M (sh.2.2.2 l0 2) (20 : Int32).toNatClampNeg) ||| ((1 : Int32) <<< (l1 &&& 31)))), J))) f_171_49 rfl ?_
  refine ev_gd (s1 := (171, 52, [.ref l0, .int l1], [.int ((xu M (sh.2.2.2 l0 2) (20 : Int32).toNatClampNeg ((M (sh.2.2.2 l0 2) (20 : Int32).toNatClampNeg) ||| ((1 : Int32) <<< (l1 &&& 31)))) (sh.2.2.2 l0 2) (20 : Int32).toNatClampNeg)], (sh, (xu M (sh.2.2.2 l0 2) (20 : Int32).toNatClampNeg ((M (sh.2.2.2 l0 2) (20 : Int32).toNatClampNeg) ||| ((1 : Int32) <<< (l1 &&& 31)))), J))) f_171_51 rfl ?_
  exact ev_c1 (s1 := (134, 0, [.int ((xu M (sh.2.2.2 l0 2) (20 : Int32).toNatClampNeg ((M (sh.2.2.2 l0 2) (20 : Int32).toNatClampNeg) ||| ((1 : Int32) <<< (l1 &&& 31)))) (sh.2.2.2 l0 2) (20 : Int32).toNatClampNeg), .null, .null], [], (sh, (xu M (sh.2.2.2 l0 2) (20 : Int32).toNatClampNeg ((M (sh.2.2.2 l0 2) (20 : Int32).toNatClampNeg) ||| ((1 : Int32) <<< (l1 &&& 31)))), J))) (k := (171, 55, [.ref l0, .int l1], [])) f_171_52 rfl
theorem b_R_cut_55 (sh : xSh) (M : Nat → Nat → Int32) (J : Nat → Nat → Int64) (l0 : Nat) (l1 : Int32) (k0 : Int32) : ev (171, 55, [.ref l0, .int l1], [.int k0], (sh, M, J)) = (some (some (.int k0), (sh, M, J))) := by
  exact ev_r1 f_171_55 rfl
theorem f_172_0 : xfind (xnth xTs 172) 0 = some (0, .aload_n 0, 1, (0, 0, 0, 0), .null, [], 0, 0, []) := rfl
theorem f_172_1 : xfind (xnth xTs 172) 1 = some (1, .iload_n 1, 1, (0, 0, 0, 0), .null, [], 0, 0, []) := rfl
theorem f_172_2 : xfind (xnth xTs 172) 2 = some (2, .invokevirtual 198, 3, (153, 1, 9, 2), .null, [], 1106, 0, []) := rfl
theorem f_172_5 : xfind (xnth xTs 172) 5 = some (5, .ifCond .eq 21, 3, (0, 0, 0, 0), .null, [], 0, 0, []) := rfl
theorem f_172_8 : xfind (xnth xTs 172) 8 = some (8, .iload_n 2, 1, (0, 0, 0, 0), .null, [], 0, 0, []) := rfl
theorem f_172_9 : xfind (xnth xTs 172) 9 = some (9, .i2l, 1, (0, 0, 0, 0), .null, [], 0, 0, []) := rfl
theorem f_172_10 : xfind (xnth xTs 172) 10 = some (10, .lconst 0, 1, (0, 0, 0, 0), (.long 0), [], 0, 0, []) := rfl
theorem f_172_11 : xfind (xnth xTs 172) 11 = some (11, .aload_n 0, 1, (0, 0, 0, 0), .null, [], 0, 0, []) := rfl
theorem f_172_12 : xfind (xnth xTs 172) 12 = some (12, .getfield 7, 3, (9, 0, 1, 0), .null, [], 909, 0, []) := rfl
theorem f_172_15 : xfind (xnth xTs 172) 15 = some (15, .iconst 0, 1, (0, 0, 0, 0), (.int 0), [], 0, 0, []) := rfl
theorem f_172_16 : xfind (xnth xTs 172) 16 = some (16, .iaload, 1, (0, 0, 0, 0), .null, [], 0, 0, []) := rfl
theorem f_172_17 : xfind (xnth xTs 172) 17 = some (17, .iconst 1, 1, (0, 0, 0, 0), (.int 1), [], 0, 0, []) := rfl
theorem f_172_18 : xfind (xnth xTs 172) 18 = some (18, .isub, 1, (0, 0, 0, 0), .null, [], 0, 0, []) := rfl
theorem f_172_19 : xfind (xnth xTs 172) 19 = some (19, .i2l, 1, (0, 0, 0, 0), .null, [], 0, 0, []) := rfl
theorem f_172_20 : xfind (xnth xTs 172) 20 = some (20, .invokestatic 68, 3, (132, 3, 9, 6), .null, [], 897, 0, []) := rfl
theorem f_172_23 : xfind (xnth xTs 172) 23 = some (23, .ifCond .ne 6, 3, (0, 0, 0, 0), .null, [], 0, 0, []) := rfl
theorem f_172_26 : xfind (xnth xTs 172) 26 = some (26, .ldc 192, 2, (0, 0, 0, 0), (.int (-1000000001)), [], 1092, 0, []) := rfl
theorem f_172_28 : xfind (xnth xTs 172) 28 = some (28, .ireturn, 1, (0, 0, 0, 0), .null, [], 0, 0, []) := rfl
theorem f_172_29 : xfind (xnth xTs 172) 29 = some (29, .aload_n 0, 1, (0, 0, 0, 0), .null, [], 0, 0, []) := rfl
theorem f_172_30 : xfind (xnth xTs 172) 30 = some (30, .invokevirtual 207, 3, (168, 0, 9, 2), .null, [], 1120, 0, []) := rfl
theorem f_172_33 : xfind (xnth xTs 172) 33 = some (33, .aload_n 0, 1, (0, 0, 0, 0), .null, [], 0, 0, []) := rfl
theorem f_172_34 : xfind (xnth xTs 172) 34 = some (34, .getfield 16, 3, (9, 2, 1, 0), .null, [], 911, 0, []) := rfl
theorem f_172_37 : xfind (xnth xTs 172) 37 = some (37, .bipush 41, 2, (0, 0, 0, 0), (.int 41), [], 0, 0, []) := rfl
theorem f_172_39 : xfind (xnth xTs 172) 39 = some (39, .iload_n 1, 1, (0, 0, 0, 0), .null, [], 0, 0, []) := rfl
theorem f_172_40 : xfind (xnth xTs 172) 40 = some (40, .iadd, 1, (0, 0, 0, 0), .null, [], 0, 0, []) := rfl
theorem f_172_41 : xfind (xnth xTs 172) 41 = some (41, .iaload, 1, (0, 0, 0, 0), .null, [], 0, 0, []) := rfl
theorem f_172_42 : xfind (xnth xTs 172) 42 = some (42, .istore_n 3, 1, (0, 0, 0, 0), .null, [], 0, 0, []) := rfl
theorem f_172_43 : xfind (xnth xTs 172) 43 = some (43, .aload_n 0, 1, (0, 0, 0, 0), .null, [], 0, 0, []) := rfl
theorem f_172_44 : xfind (xnth xTs 172) 44 = some (44, .getfield 16, 3, (9, 2, 1, 0), .null, [], 911, 0, []) := rfl
theorem f_172_47 : xfind (xnth xTs 172) 47 = some (47, .bipush 41, 2, (0, 0, 0, 0), (.int 41), [], 0, 0, []) := rfl
theorem f_172_49 : xfind (xnth xTs 172) 49 = some (49, .iload_n 1, 1, (0, 0, 0, 0), .null, [], 0, 0, []) := rfl
theorem f_172_50 : xfind (xnth xTs 172) 50 = some (50, .iadd, 1, (0, 0, 0, 0), .null, [], 0, 0, []) := rfl
theorem f_172_51 : xfind (xnth xTs 172) 51 = some (51, .iload_n 2, 1, (0, 0, 0, 0), .null, [], 0, 0, []) := rfl
theorem f_172_52 : xfind (xnth xTs 172) 52 = some (52, .iastore, 1, (0, 0, 0, 0), .null, [], 0, 0, []) := rfl
theorem f_172_53 : xfind (xnth xTs 172) 53 = some (53, .iload_n 3, 1, (0, 0, 0, 0), .null, [], 0, 0, []) := rfl
theorem f_172_54 : xfind (xnth xTs 172) 54 = some (54, .ireturn, 1, (0, 0, 0, 0), .null, [], 0, 0, []) := rfl
theorem b_R_go_0 (sh : xSh) (M : Nat → Nat → Int32) (J : Nat → Nat → Int64) (l0 : Nat) (l1 : Int32) (l2 : Int32) : ev (172, 0, [.ref l0, .int l1, .int l2, .null], [], (sh, M, J)) = (bif (decide ((sh.2.2.1 l0).1 = 9) && true) then (ev (153, 0, [.ref l0, .int l1], [], (sh, M, J))).bind (fun r => ev (172, 5, [.ref l0, .int l1, .int l2, .null], r.1.toList ++ [], r.2)) else none) := by
  refine ev_nx (s1 := (172, 1, [.ref l0, .int l1, .int l2, .null], [.ref l0], (sh, M, J))) f_172_0 rfl ?_
  refine ev_nx (s1 := (172, 2, [.ref l0, .int l1, .int l2, .null], [.int l1, .ref l0], (sh, M, J))) f_172_1 rfl ?_
  exact ev_ca (cc := (decide ((sh.2.2.1 l0).1 = 9) && true)) (s1 := (153, 0, [.ref l0, .int l1], [], (sh, M, J))) (k := (172, 5, [.ref l0, .int l1, .int l2, .null], [])) f_172_2 rfl
theorem b_R_go_5 (sh : xSh) (M : Nat → Nat → Int32) (J : Nat → Nat → Int64) (l0 : Nat) (l1 : Int32) (l2 : Int32) (k0 : Int32) : ev (172, 5, [.ref l0, .int l1, .int l2, .null], [.int k0], (sh, M, J)) = (bif decide (k0 = 0) then some (some (.int (-1000000001)), (sh, M, J)) else bif decide ((sh.2.2.1 l0).1 = 9) then bif (decide ((sh.2.2.1 (sh.2.2.2 l0 0)).1 = 11) && xin 0 (sh.2.2.1 (sh.2.2.2 l0 0)).2) then (ev (132, 0, [.long (l2 : Int32).toInt64, .null, .long 0, .null, .long (((M (sh.2.2.2 l0 0) (0 : Int32).toNatClampNeg) - 1) : Int32).toInt64, .null], [], (sh, M, J))).bind (fun r => ev (172, 23, [.ref l0, .int l1, .int l2, .null], r.1.toList ++ [], r.2)) else none else none) := by
  refine ev_br (s1 := (172, 26, [.ref l0, .int l1, .int l2, .null], [], (sh, M, J))) (s2 := (172, 8, [.ref l0, .int l1, .int l2, .null], [], (sh, M, J))) f_172_5 rfl ?_ ?_
  · refine ev_nx (s1 := (172, 28, [.ref l0, .int l1, .int l2, .null], [.int (-1000000001)], (sh, M, J))) f_172_26 rfl ?_
    exact ev_r1 f_172_28 rfl
  · refine ev_nx (s1 := (172, 9, [.ref l0, .int l1, .int l2, .null], [.int l2], (sh, M, J))) f_172_8 rfl ?_
    refine ev_nx (s1 := (172, 10, [.ref l0, .int l1, .int l2, .null], [.long (l2 : Int32).toInt64], (sh, M, J))) f_172_9 rfl ?_
    refine ev_nx (s1 := (172, 11, [.ref l0, .int l1, .int l2, .null], [.long 0, .long (l2 : Int32).toInt64], (sh, M, J))) f_172_10 rfl ?_
    refine ev_nx (s1 := (172, 12, [.ref l0, .int l1, .int l2, .null], [.ref l0, .long 0, .long (l2 : Int32).toInt64], (sh, M, J))) f_172_11 rfl ?_
    refine ev_gd (s1 := (172, 15, [.ref l0, .int l1, .int l2, .null], [.ref (sh.2.2.2 l0 0), .long 0, .long (l2 : Int32).toInt64], (sh, M, J))) f_172_12 rfl ?_
    refine ev_nx (s1 := (172, 16, [.ref l0, .int l1, .int l2, .null], [.int 0, .ref (sh.2.2.2 l0 0), .long 0, .long (l2 : Int32).toInt64], (sh, M, J))) f_172_15 rfl ?_
    refine ev_gd (s1 := (172, 17, [.ref l0, .int l1, .int l2, .null], [.int (M (sh.2.2.2 l0 0) (0 : Int32).toNatClampNeg), .long 0, .long (l2 : Int32).toInt64], (sh, M, J))) f_172_16 rfl ?_
    refine ev_nx (s1 := (172, 18, [.ref l0, .int l1, .int l2, .null], [.int 1, .int (M (sh.2.2.2 l0 0) (0 : Int32).toNatClampNeg), .long 0, .long (l2 : Int32).toInt64], (sh, M, J))) f_172_17 rfl ?_
    refine ev_nx (s1 := (172, 19, [.ref l0, .int l1, .int l2, .null], [.int ((M (sh.2.2.2 l0 0) (0 : Int32).toNatClampNeg) - 1), .long 0, .long (l2 : Int32).toInt64], (sh, M, J))) f_172_18 rfl ?_
    refine ev_nx (s1 := (172, 20, [.ref l0, .int l1, .int l2, .null], [.long (((M (sh.2.2.2 l0 0) (0 : Int32).toNatClampNeg) - 1) : Int32).toInt64, .long 0, .long (l2 : Int32).toInt64], (sh, M, J))) f_172_19 rfl ?_
    exact ev_c1 (s1 := (132, 0, [.long (l2 : Int32).toInt64, .null, .long 0, .null, .long (((M (sh.2.2.2 l0 0) (0 : Int32).toNatClampNeg) - 1) : Int32).toInt64, .null], [], (sh, M, J))) (k := (172, 23, [.ref l0, .int l1, .int l2, .null], [])) f_172_20 rfl
theorem b_R_go_23 (sh : xSh) (M : Nat → Nat → Int32) (J : Nat → Nat → Int64) (l0 : Nat) (l1 : Int32) (l2 : Int32) (k0 : Int32) : ev (172, 23, [.ref l0, .int l1, .int l2, .null], [.int k0], (sh, M, J)) = (bif !decide (k0 = 0) then bif (decide ((sh.2.2.1 l0).1 = 9) && true) then (ev (168, 0, [.ref l0, .null], [], (sh, M, J))).bind (fun r => ev (172, 33, [.ref l0, .int l1, .int l2, .null], r.1.toList ++ [], r.2)) else none else some (some (.int (-1000000001)), (sh, M, J))) := by
  refine ev_br (s1 := (172, 29, [.ref l0, .int l1, .int l2, .null], [], (sh, M, J))) (s2 := (172, 26, [.ref l0, .int l1, .int l2, .null], [], (sh, M, J))) f_172_23 rfl ?_ ?_
  · refine ev_nx (s1 := (172, 30, [.ref l0, .int l1, .int l2, .null], [.ref l0], (sh, M, J))) f_172_29 rfl ?_
    exact ev_ca (cc := (decide ((sh.2.2.1 l0).1 = 9) && true)) (s1 := (168, 0, [.ref l0, .null], [], (sh, M, J))) (k := (172, 33, [.ref l0, .int l1, .int l2, .null], [])) f_172_30 rfl
  · refine ev_nx (s1 := (172, 28, [.ref l0, .int l1, .int l2, .null], [.int (-1000000001)], (sh, M, J))) f_172_26 rfl ?_
    exact ev_r1 f_172_28 rfl
theorem b_R_go_33 (sh : xSh) (M : Nat → Nat → Int32) (J : Nat → Nat → Int64) (l0 : Nat) (l1 : Int32) (l2 : Int32) : ev (172, 33, [.ref l0, .int l1, .int l2, .null], [], (sh, M, J)) = (bif decide ((sh.2.2.1 l0).1 = 9) then bif (decide ((sh.2.2.1 (sh.2.2.2 l0 2)).1 = 11) && xin ((41 : Int32) + l1) (sh.2.2.1 (sh.2.2.2 l0 2)).2) then bif decide ((sh.2.2.1 l0).1 = 9) then bif (decide ((sh.2.2.1 (sh.2.2.2 l0 2)).1 = 11) && xin ((41 : Int32) + l1) (sh.2.2.1 (sh.2.2.2 l0 2)).2) then some (some (.int (M (sh.2.2.2 l0 2) (((41 : Int32) + l1) : Int32).toNatClampNeg)), (sh, (xu M (sh.2.2.2 l0 2) (((41 : Int32) + l1) : Int32).toNatClampNeg l2), J)) else none else none else none else none) := by
  refine ev_nx (s1 := (172, 34, [.ref l0, .int l1, .int l2, .null], [.ref l0], (sh, M, J))) f_172_33 rfl ?_
  refine ev_gd (s1 := (172, 37, [.ref l0, .int l1, .int l2, .null], [.ref (sh.2.2.2 l0 2)], (sh, M, J))) f_172_34 rfl ?_
  refine ev_nx (s1 := (172, 39, [.ref l0, .int l1, .int l2, .null], [.int 41, .ref (sh.2.2.2 l0 2)], (sh, M, J))) f_172_37 rfl ?_
  refine ev_nx (s1 := (172, 40, [.ref l0, .int l1, .int l2, .null], [.int l1, .int 41, .ref (sh.2.2.2 l0 2)], (sh, M, J))) f_172_39 rfl ?_
  refine ev_nx (s1 := (172, 41, [.ref l0, .int l1, .int l2, .null], [.int ((41 : Int32) + l1), .ref (sh.2.2.2 l0 2)], (sh, M, J))) f_172_40 rfl ?_
  refine ev_gd (s1 := (172, 42, [.ref l0, .int l1, .int l2, .null], [.int (M (sh.2.2.2 l0 2) (((41 : Int32) + l1) : Int32).toNatClampNeg)], (sh, M, J))) f_172_41 rfl ?_
  refine ev_nx (s1 := (172, 43, [.ref l0, .int l1, .int l2, .int (M (sh.2.2.2 l0 2) (((41 : Int32) + l1) : Int32).toNatClampNeg)], [], (sh, M, J))) f_172_42 rfl ?_
  refine ev_nx (s1 := (172, 44, [.ref l0, .int l1, .int l2, .int (M (sh.2.2.2 l0 2) (((41 : Int32) + l1) : Int32).toNatClampNeg)], [.ref l0], (sh, M, J))) f_172_43 rfl ?_
  refine ev_gd (s1 := (172, 47, [.ref l0, .int l1, .int l2, .int (M (sh.2.2.2 l0 2) (((41 : Int32) + l1) : Int32).toNatClampNeg)], [.ref (sh.2.2.2 l0 2)], (sh, M, J))) f_172_44 rfl ?_
  refine ev_nx (s1 := (172, 49, [.ref l0, .int l1, .int l2, .int (M (sh.2.2.2 l0 2) (((41 : Int32) + l1) : Int32).toNatClampNeg)], [.int 41, .ref (sh.2.2.2 l0 2)], (sh, M, J))) f_172_47 rfl ?_
  refine ev_nx (s1 := (172, 50, [.ref l0, .int l1, .int l2, .int (M (sh.2.2.2 l0 2) (((41 : Int32) + l1) : Int32).toNatClampNeg)], [.int l1, .int 41, .ref (sh.2.2.2 l0 2)], (sh, M, J))) f_172_49 rfl ?_
  refine ev_nx (s1 := (172, 51, [.ref l0, .int l1, .int l2, .int (M (sh.2.2.2 l0 2) (((41 : Int32) + l1) : Int32).toNatClampNeg)], [.int ((41 : Int32) + l1), .ref (sh.2.2.2 l0 2)], (sh, M, J))) f_172_50 rfl ?_
  refine ev_nx (s1 := (172, 52, [.ref l0, .int l1, .int l2, .int (M (sh.2.2.2 l0 2) (((41 : Int32) + l1) : Int32).toNatClampNeg)], [.int l2, .int ((41 : Int32) + l1), .ref (sh.2.2.2 l0 2)], (sh, M, J))) f_172_51 rfl ?_
  refine ev_gd (s1 := (172, 53, [.ref l0, .int l1, .int l2, .int (M (sh.2.2.2 l0 2) (((41 : Int32) + l1) : Int32).toNatClampNeg)], [], (sh, (xu M (sh.2.2.2 l0 2) (((41 : Int32) + l1) : Int32).toNatClampNeg l2), J))) f_172_52 rfl ?_
  refine ev_nx (s1 := (172, 54, [.ref l0, .int l1, .int l2, .int (M (sh.2.2.2 l0 2) (((41 : Int32) + l1) : Int32).toNatClampNeg)], [.int (M (sh.2.2.2 l0 2) (((41 : Int32) + l1) : Int32).toNatClampNeg)], (sh, (xu M (sh.2.2.2 l0 2) (((41 : Int32) + l1) : Int32).toNatClampNeg l2), J))) f_172_53 rfl ?_
  exact ev_r1 f_172_54 rfl
theorem f_173_0 : xfind (xnth xTs 173) 0 = some (0, .aload_n 0, 1, (0, 0, 0, 0), .null, [], 0, 0, []) := rfl
theorem f_173_1 : xfind (xnth xTs 173) 1 = some (1, .iload_n 1, 1, (0, 0, 0, 0), .null, [], 0, 0, []) := rfl
theorem f_173_2 : xfind (xnth xTs 173) 2 = some (2, .invokevirtual 198, 3, (153, 1, 9, 2), .null, [], 1106, 0, []) := rfl
theorem f_173_5 : xfind (xnth xTs 173) 5 = some (5, .ifCond .eq 10, 3, (0, 0, 0, 0), .null, [], 0, 0, []) := rfl
theorem f_173_8 : xfind (xnth xTs 173) 8 = some (8, .iload_n 2, 1, (0, 0, 0, 0), .null, [], 0, 0, []) := rfl
theorem f_173_9 : xfind (xnth xTs 173) 9 = some (9, .invokestatic 193, 3, (154, 1, 9, 1), .null, [], 1097, 0, []) := rfl
theorem f_173_12 : xfind (xnth xTs 173) 12 = some (12, .ifCond .ne 6, 3, (0, 0, 0, 0), .null, [], 0, 0, []) := rfl
theorem f_173_15 : xfind (xnth xTs 173) 15 = some (15, .ldc 192, 2, (0, 0, 0, 0), (.int (-1000000001)), [], 1092, 0, []) := rfl
theorem f_173_17 : xfind (xnth xTs 173) 17 = some (17, .ireturn, 1, (0, 0, 0, 0), .null, [], 0, 0, []) := rfl
theorem f_173_18 : xfind (xnth xTs 173) 18 = some (18, .iload_n 3, 1, (0, 0, 0, 0), .null, [], 0, 0, []) := rfl
theorem f_173_19 : xfind (xnth xTs 173) 19 = some (19, .i2l, 1, (0, 0, 0, 0), .null, [], 0, 0, []) := rfl
theorem f_173_20 : xfind (xnth xTs 173) 20 = some (20, .lconst 0, 1, (0, 0, 0, 0), (.long 0), [], 0, 0, []) := rfl
theorem f_173_21 : xfind (xnth xTs 173) 21 = some (21, .ldc2_w 66, 3, (0, 0, 0, 0), (.long 9), [], 896, 0, []) := rfl
theorem f_173_24 : xfind (xnth xTs 173) 24 = some (24, .invokestatic 68, 3, (132, 3, 9, 6), .null, [], 897, 0, []) := rfl
theorem f_173_27 : xfind (xnth xTs 173) 27 = some (27, .ifCond .ne 6, 3, (0, 0, 0, 0), .null, [], 0, 0, []) := rfl
theorem f_173_30 : xfind (xnth xTs 173) 30 = some (30, .ldc 91, 2, (0, 0, 0, 0), (.int (-1000000002)), [], 994, 0, []) := rfl
theorem f_173_32 : xfind (xnth xTs 173) 32 = some (32, .ireturn, 1, (0, 0, 0, 0), .null, [], 0, 0, []) := rfl
theorem f_173_33 : xfind (xnth xTs 173) 33 = some (33, .aload_n 0, 1, (0, 0, 0, 0), .null, [], 0, 0, []) := rfl
theorem f_173_34 : xfind (xnth xTs 173) 34 = some (34, .invokevirtual 207, 3, (168, 0, 9, 2), .null, [], 1120, 0, []) := rfl
theorem f_173_37 : xfind (xnth xTs 173) 37 = some (37, .aload_n 0, 1, (0, 0, 0, 0), .null, [], 0, 0, []) := rfl
theorem f_173_38 : xfind (xnth xTs 173) 38 = some (38, .getfield 16, 3, (9, 2, 1, 0), .null, [], 911, 0, []) := rfl
theorem f_173_41 : xfind (xnth xTs 173) 41 = some (41, .bipush 51, 2, (0, 0, 0, 0), (.int 51), [], 0, 0, []) := rfl
theorem f_173_43 : xfind (xnth xTs 173) 43 = some (43, .iload_n 1, 1, (0, 0, 0, 0), .null, [], 0, 0, []) := rfl
theorem f_173_44 : xfind (xnth xTs 173) 44 = some (44, .iadd, 1, (0, 0, 0, 0), .null, [], 0, 0, []) := rfl
theorem f_173_45 : xfind (xnth xTs 173) 45 = some (45, .iaload, 1, (0, 0, 0, 0), .null, [], 0, 0, []) := rfl
theorem f_173_46 : xfind (xnth xTs 173) 46 = some (46, .istore 4, 2, (0, 0, 0, 0), .null, [], 0, 0, []) := rfl
theorem f_173_48 : xfind (xnth xTs 173) 48 = some (48, .aload_n 0, 1, (0, 0, 0, 0), .null, [], 0, 0, []) := rfl
theorem f_173_49 : xfind (xnth xTs 173) 49 = some (49, .getfield 16, 3, (9, 2, 1, 0), .null, [], 911, 0, []) := rfl
theorem f_173_52 : xfind (xnth xTs 173) 52 = some (52, .bipush 46, 2, (0, 0, 0, 0), (.int 46), [], 0, 0, []) := rfl
theorem f_173_54 : xfind (xnth xTs 173) 54 = some (54, .iload_n 1, 1, (0, 0, 0, 0), .null, [], 0, 0, []) := rfl
theorem f_173_55 : xfind (xnth xTs 173) 55 = some (55, .iadd, 1, (0, 0, 0, 0), .null, [], 0, 0, []) := rfl
theorem f_173_56 : xfind (xnth xTs 173) 56 = some (56, .iload_n 2, 1, (0, 0, 0, 0), .null, [], 0, 0, []) := rfl
theorem f_173_57 : xfind (xnth xTs 173) 57 = some (57, .iastore, 1, (0, 0, 0, 0), .null, [], 0, 0, []) := rfl
theorem f_173_58 : xfind (xnth xTs 173) 58 = some (58, .aload_n 0, 1, (0, 0, 0, 0), .null, [], 0, 0, []) := rfl
theorem f_173_59 : xfind (xnth xTs 173) 59 = some (59, .getfield 16, 3, (9, 2, 1, 0), .null, [], 911, 0, []) := rfl
theorem f_173_62 : xfind (xnth xTs 173) 62 = some (62, .bipush 51, 2, (0, 0, 0, 0), (.int 51), [], 0, 0, []) := rfl
theorem f_173_64 : xfind (xnth xTs 173) 64 = some (64, .iload_n 1, 1, (0, 0, 0, 0), .null, [], 0, 0, []) := rfl
theorem f_173_65 : xfind (xnth xTs 173) 65 = some (65, .iadd, 1, (0, 0, 0, 0), .null, [], 0, 0, []) := rfl
theorem f_173_66 : xfind (xnth xTs 173) 66 = some (66, .iload_n 3, 1, (0, 0, 0, 0), .null, [], 0, 0, []) := rfl
theorem f_173_67 : xfind (xnth xTs 173) 67 = some (67, .iastore, 1, (0, 0, 0, 0), .null, [], 0, 0, []) := rfl
theorem f_173_68 : xfind (xnth xTs 173) 68 = some (68, .iload 4, 2, (0, 0, 0, 0), .null, [], 0, 0, []) := rfl
theorem f_173_70 : xfind (xnth xTs 173) 70 = some (70, .ireturn, 1, (0, 0, 0, 0), .null, [], 0, 0, []) := rfl
theorem b_R_dress_0 (sh : xSh) (M : Nat → Nat → Int32) (J : Nat → Nat → Int64) (l0 : Nat) (l1 : Int32) (l2 : Int32) (l3 : Int32) : ev (173, 0, [.ref l0, .int l1, .int l2, .int l3, .null], [], (sh, M, J)) = (bif (decide ((sh.2.2.1 l0).1 = 9) && true) then (ev (153, 0, [.ref l0, .int l1], [], (sh, M, J))).bind (fun r => ev (173, 5, [.ref l0, .int l1, .int l2, .int l3, .null], r.1.toList ++ [], r.2)) else none) := by
  refine ev_nx (s1 := (173, 1, [.ref l0, .int l1, .int l2, .int l3, .null], [.ref l0], (sh, M, J))) f_173_0 rfl ?_
  refine ev_nx (s1 := (173, 2, [.ref l0, .int l1, .int l2, .int l3, .null], [.int l1, .ref l0], (sh, M, J))) f_173_1 rfl ?_
  exact ev_ca (cc := (decide ((sh.2.2.1 l0).1 = 9) && true)) (s1 := (153, 0, [.ref l0, .int l1], [], (sh, M, J))) (k := (173, 5, [.ref l0, .int l1, .int l2, .int l3, .null], [])) f_173_2 rfl
theorem b_R_dress_5 (sh : xSh) (M : Nat → Nat → Int32) (J : Nat → Nat → Int64) (l0 : Nat) (l1 : Int32) (l2 : Int32) (l3 : Int32) (k0 : Int32) : ev (173, 5, [.ref l0, .int l1, .int l2, .int l3, .null], [.int k0], (sh, M, J)) = (bif decide (k0 = 0) then some (some (.int (-1000000001)), (sh, M, J)) else (ev (154, 0, [.int l2], [], (sh, M, J))).bind (fun r => ev (173, 12, [.ref l0, .int l1, .int l2, .int l3, .null], r.1.toList ++ [], r.2))) := by
  refine ev_br (s1 := (173, 15, [.ref l0, .int l1, .int l2, .int l3, .null], [], (sh, M, J))) (s2 := (173, 8, [.ref l0, .int l1, .int l2, .int l3, .null], [], (sh, M, J))) f_173_5 rfl ?_ ?_
  · refine ev_nx (s1 := (173, 17, [.ref l0, .int l1, .int l2, .int l3, .null], [.int (-1000000001)], (sh, M, J))) f_173_15 rfl ?_
    exact ev_r1 f_173_17 rfl
  · refine ev_nx (s1 := (173, 9, [.ref l0, .int l1, .int l2, .int l3, .null], [.int l2], (sh, M, J))) f_173_8 rfl ?_
    exact ev_c1 (s1 := (154, 0, [.int l2], [], (sh, M, J))) (k := (173, 12, [.ref l0, .int l1, .int l2, .int l3, .null], [])) f_173_9 rfl
theorem b_R_dress_12 (sh : xSh) (M : Nat → Nat → Int32) (J : Nat → Nat → Int64) (l0 : Nat) (l1 : Int32) (l2 : Int32) (l3 : Int32) (k0 : Int32) : ev (173, 12, [.ref l0, .int l1, .int l2, .int l3, .null], [.int k0], (sh, M, J)) = (bif !decide (k0 = 0) then (ev (132, 0, [.long (l3 : Int32).toInt64, .null, .long 0, .null, .long 9, .null], [], (sh, M, J))).bind (fun r => ev (173, 27, [.ref l0, .int l1, .int l2, .int l3, .null], r.1.toList ++ [], r.2)) else some (some (.int (-1000000001)), (sh, M, J))) := by
  refine ev_br (s1 := (173, 18, [.ref l0, .int l1, .int l2, .int l3, .null], [], (sh, M, J))) (s2 := (173, 15, [.ref l0, .int l1, .int l2, .int l3, .null], [], (sh, M, J))) f_173_12 rfl ?_ ?_
  · refine ev_nx (s1 := (173, 19, [.ref l0, .int l1, .int l2, .int l3, .null], [.int l3], (sh, M, J))) f_173_18 rfl ?_
    refine ev_nx (s1 := (173, 20, [.ref l0, .int l1, .int l2, .int l3, .null], [.long (l3 : Int32).toInt64], (sh, M, J))) f_173_19 rfl ?_
    refine ev_nx (s1 := (173, 21, [.ref l0, .int l1, .int l2, .int l3, .null], [.long 0, .long (l3 : Int32).toInt64], (sh, M, J))) f_173_20 rfl ?_
    refine ev_nx (s1 := (173, 24, [.ref l0, .int l1, .int l2, .int l3, .null], [.long 9, .long 0, .long (l3 : Int32).toInt64], (sh, M, J))) f_173_21 rfl ?_
    exact ev_c1 (s1 := (132, 0, [.long (l3 : Int32).toInt64, .null, .long 0, .null, .long 9, .null], [], (sh, M, J))) (k := (173, 27, [.ref l0, .int l1, .int l2, .int l3, .null], [])) f_173_24 rfl
  · refine ev_nx (s1 := (173, 17, [.ref l0, .int l1, .int l2, .int l3, .null], [.int (-1000000001)], (sh, M, J))) f_173_15 rfl ?_
    exact ev_r1 f_173_17 rfl
theorem b_R_dress_27 (sh : xSh) (M : Nat → Nat → Int32) (J : Nat → Nat → Int64) (l0 : Nat) (l1 : Int32) (l2 : Int32) (l3 : Int32) (k0 : Int32) : ev (173, 27, [.ref l0, .int l1, .int l2, .int l3, .null], [.int k0], (sh, M, J)) = (bif !decide (k0 = 0) then bif (decide ((sh.2.2.1 l0).1 = 9) && true) then (ev (168, 0, [.ref l0, .null], [], (sh, M, J))).bind (fun r => ev (173, 37, [.ref l0, .int l1, .int l2, .int l3, .null], r.1.toList ++ [], r.2)) else none else some (some (.int (-1000000002)), (sh, M, J))) := by
  refine ev_br (s1 := (173, 33, [.ref l0, .int l1, .int l2, .int l3, .null], [], (sh, M, J))) (s2 := (173, 30, [.ref l0, .int l1, .int l2, .int l3, .null], [], (sh, M, J))) f_173_27 rfl ?_ ?_
  · refine ev_nx (s1 := (173, 34, [.ref l0, .int l1, .int l2, .int l3, .null], [.ref l0], (sh, M, J))) f_173_33 rfl ?_
    exact ev_ca (cc := (decide ((sh.2.2.1 l0).1 = 9) && true)) (s1 := (168, 0, [.ref l0, .null], [], (sh, M, J))) (k := (173, 37, [.ref l0, .int l1, .int l2, .int l3, .null], [])) f_173_34 rfl
  · refine ev_nx (s1 := (173, 32, [.ref l0, .int l1, .int l2, .int l3, .null], [.int (-1000000002)], (sh, M, J))) f_173_30 rfl ?_
    exact ev_r1 f_173_32 rfl
theorem b_R_dress_37 (sh : xSh) (M : Nat → Nat → Int32) (J : Nat → Nat → Int64) (l0 : Nat) (l1 : Int32) (l2 : Int32) (l3 : Int32) : ev (173, 37, [.ref l0, .int l1, .int l2, .int l3, .null], [], (sh, M, J)) = (bif decide ((sh.2.2.1 l0).1 = 9) then bif (decide ((sh.2.2.1 (sh.2.2.2 l0 2)).1 = 11) && xin ((51 : Int32) + l1) (sh.2.2.1 (sh.2.2.2 l0 2)).2) then bif decide ((sh.2.2.1 l0).1 = 9) then bif (decide ((sh.2.2.1 (sh.2.2.2 l0 2)).1 = 11) && xin ((46 : Int32) + l1) (sh.2.2.1 (sh.2.2.2 l0 2)).2) then bif decide ((sh.2.2.1 l0).1 = 9) then bif (decide ((sh.2.2.1 (sh.2.2.2 l0 2)).1 = 11) && xin ((51 : Int32) + l1) (sh.2.2.1 (sh.2.2.2 l0 2)).2) then some (some (.int (M (sh.2.2.2 l0 2) (((51 : Int32) + l1) : Int32).toNatClampNeg)), (sh, (xu (xu M (sh.2.2.2 l0 2) (((46 : Int32) + l1) : Int32).toNatClampNeg l2) (sh.2.2.2 l0 2) (((51 : Int32) + l1) : Int32).toNatClampNeg l3), J)) else none else none else none else none else none else none) := by
  refine ev_nx (s1 := (173, 38, [.ref l0, .int l1, .int l2, .int l3, .null], [.ref l0], (sh, M, J))) f_173_37 rfl ?_
  refine ev_gd (s1 := (173, 41, [.ref l0, .int l1, .int l2, .int l3, .null], [.ref (sh.2.2.2 l0 2)], (sh, M, J))) f_173_38 rfl ?_
  refine ev_nx (s1 := (173, 43, [.ref l0, .int l1, .int l2, .int l3, .null], [.int 51, .ref (sh.2.2.2 l0 2)], (sh, M, J))) f_173_41 rfl ?_
  refine ev_nx (s1 := (173, 44, [.ref l0, .int l1, .int l2, .int l3, .null], [.int l1, .int 51, .ref (sh.2.2.2 l0 2)], (sh, M, J))) f_173_43 rfl ?_
  refine ev_nx (s1 := (173, 45, [.ref l0, .int l1, .int l2, .int l3, .null], [.int ((51 : Int32) + l1), .ref (sh.2.2.2 l0 2)], (sh, M, J))) f_173_44 rfl ?_
  refine ev_gd (s1 := (173, 46, [.ref l0, .int l1, .int l2, .int l3, .null], [.int (M (sh.2.2.2 l0 2) (((51 : Int32) + l1) : Int32).toNatClampNeg)], (sh, M, J))) f_173_45 rfl ?_
  refine ev_nx (s1 := (173, 48, [.ref l0, .int l1, .int l2, .int l3, .int (M (sh.2.2.2 l0 2) (((51 : Int32) + l1) : Int32).toNatClampNeg)], [], (sh, M, J))) f_173_46 rfl ?_
  refine ev_nx (s1 := (173, 49, [.ref l0, .int l1, .int l2, .int l3, .int (M (sh.2.2.2 l0 2) (((51 : Int32) + l1) : Int32).toNatClampNeg)], [.ref l0], (sh, M, J))) f_173_48 rfl ?_
  refine ev_gd (s1 := (173, 52, [.ref l0, .int l1, .int l2, .int l3, .int (M (sh.2.2.2 l0 2) (((51 : Int32) + l1) : Int32).toNatClampNeg)], [.ref (sh.2.2.2 l0 2)], (sh, M, J))) f_173_49 rfl ?_
  refine ev_nx (s1 := (173, 54, [.ref l0, .int l1, .int l2, .int l3, .int (M (sh.2.2.2 l0 2) (((51 : Int32) + l1) : Int32).toNatClampNeg)], [.int 46, .ref (sh.2.2.2 l0 2)], (sh, M, J))) f_173_52 rfl ?_
  refine ev_nx (s1 := (173, 55, [.ref l0, .int l1, .int l2, .int l3, .int (M (sh.2.2.2 l0 2) (((51 : Int32) + l1) : Int32).toNatClampNeg)], [.int l1, .int 46, .ref (sh.2.2.2 l0 2)], (sh, M, J))) f_173_54 rfl ?_
  refine ev_nx (s1 := (173, 56, [.ref l0, .int l1, .int l2, .int l3, .int (M (sh.2.2.2 l0 2) (((51 : Int32) + l1) : Int32).toNatClampNeg)], [.int ((46 : Int32) + l1), .ref (sh.2.2.2 l0 2)], (sh, M, J))) f_173_55 rfl ?_
  refine ev_nx (s1 := (173, 57, [.ref l0, .int l1, .int l2, .int l3, .int (M (sh.2.2.2 l0 2) (((51 : Int32) + l1) : Int32).toNatClampNeg)], [.int l2, .int ((46 : Int32) + l1), .ref (sh.2.2.2 l0 2)], (sh, M, J))) f_173_56 rfl ?_
  refine ev_gd (s1 := (173, 58, [.ref l0, .int l1, .int l2, .int l3, .int (M (sh.2.2.2 l0 2) (((51 : Int32) + l1) : Int32).toNatClampNeg)], [], (sh, (xu M (sh.2.2.2 l0 2) (((46 : Int32) + l1) : Int32).toNatClampNeg l2), J))) f_173_57 rfl ?_
  refine ev_nx (s1 := (173, 59, [.ref l0, .int l1, .int l2, .int l3, .int (M (sh.2.2.2 l0 2) (((51 : Int32) + l1) : Int32).toNatClampNeg)], [.ref l0], (sh, (xu M (sh.2.2.2 l0 2) (((46 : Int32) + l1) : Int32).toNatClampNeg l2), J))) f_173_58 rfl ?_
  refine ev_gd (s1 := (173, 62, [.ref l0, .int l1, .int l2, .int l3, .int (M (sh.2.2.2 l0 2) (((51 : Int32) + l1) : Int32).toNatClampNeg)], [.ref (sh.2.2.2 l0 2)], (sh, (xu M (sh.2.2.2 l0 2) (((46 : Int32) + l1) : Int32).toNatClampNeg l2), J))) f_173_59 rfl ?_
  refine ev_nx (s1 := (173, 64, [.ref l0, .int l1, .int l2, .int l3, .int (M (sh.2.2.2 l0 2) (((51 : Int32) + l1) : Int32).toNatClampNeg)], [.int 51, .ref (sh.2.2.2 l0 2)], (sh, (xu M (sh.2.2.2 l0 2) (((46 : Int32) + l1) : Int32).toNatClampNeg l2), J))) f_173_62 rfl ?_
  refine ev_nx (s1 := (173, 65, [.ref l0, .int l1, .int l2, .int l3, .int (M (sh.2.2.2 l0 2) (((51 : Int32) + l1) : Int32).toNatClampNeg)], [.int l1, .int 51, .ref (sh.2.2.2 l0 2)], (sh, (xu M (sh.2.2.2 l0 2) (((46 : Int32) + l1) : Int32).toNatClampNeg l2), J))) f_173_64 rfl ?_
  refine ev_nx (s1 := (173, 66, [.ref l0, .int l1, .int l2, .int l3, .int (M (sh.2.2.2 l0 2) (((51 : Int32) + l1) : Int32).toNatClampNeg)], [.int ((51 : Int32) + l1), .ref (sh.2.2.2 l0 2)], (sh, (xu M (sh.2.2.2 l0 2) (((46 : Int32) + l1) : Int32).toNatClampNeg l2), J))) f_173_65 rfl ?_
  refine ev_nx (s1 := (173, 67, [.ref l0, .int l1, .int l2, .int l3, .int (M (sh.2.2.2 l0 2) (((51 : Int32) + l1) : Int32).toNatClampNeg)], [.int l3, .int ((51 : Int32) + l1), .ref (sh.2.2.2 l0 2)], (sh, (xu M (sh.2.2.2 l0 2) (((46 : Int32) + l1) : Int32).toNatClampNeg l2), J))) f_173_66 rfl ?_
  refine ev_gd (s1 := (173, 68, [.ref l0, .int l1, .int l2, .int l3, .int (M (sh.2.2.2 l0 2) (((51 : Int32) + l1) : Int32).toNatClampNeg)], [], (sh, (xu (xu M (sh.2.2.2 l0 2) (((46 : Int32) + l1) : Int32).toNatClampNeg l2) (sh.2.2.2 l0 2) (((51 : Int32) + l1) : Int32).toNatClampNeg l3), J))) f_173_67 rfl ?_
  refine ev_nx (s1 := (173, 70, [.ref l0, .int l1, .int l2, .int l3, .int (M (sh.2.2.2 l0 2) (((51 : Int32) + l1) : Int32).toNatClampNeg)], [.int (M (sh.2.2.2 l0 2) (((51 : Int32) + l1) : Int32).toNatClampNeg)], (sh, (xu (xu M (sh.2.2.2 l0 2) (((46 : Int32) + l1) : Int32).toNatClampNeg l2) (sh.2.2.2 l0 2) (((51 : Int32) + l1) : Int32).toNatClampNeg l3), J))) f_173_68 rfl ?_
  exact ev_r1 f_173_70 rfl
theorem f_174_0 : xfind (xnth xTs 174) 0 = some (0, .aload_n 0, 1, (0, 0, 0, 0), .null, [], 0, 0, []) := rfl
theorem f_174_1 : xfind (xnth xTs 174) 1 = some (1, .aload_n 0, 1, (0, 0, 0, 0), .null, [], 0, 0, []) := rfl
theorem f_174_2 : xfind (xnth xTs 174) 2 = some (2, .getfield 216, 3, (9, 8, 2, 0), .null, [], 917, 0, []) := rfl
theorem f_174_5 : xfind (xnth xTs 174) 5 = some (5, .ldc2_w 220, 3, (0, 0, 0, 0), (.long 1103515245), [], 1155, 0, []) := rfl
theorem f_174_8 : xfind (xnth xTs 174) 8 = some (8, .lmul, 1, (0, 0, 0, 0), .null, [], 0, 0, []) := rfl
theorem f_174_9 : xfind (xnth xTs 174) 9 = some (9, .ldc2_w 222, 3, (0, 0, 0, 0), (.long 12345), [], 1156, 0, []) := rfl
theorem f_174_12 : xfind (xnth xTs 174) 12 = some (12, .ladd, 1, (0, 0, 0, 0), .null, [], 0, 0, []) := rfl
theorem f_174_13 : xfind (xnth xTs 174) 13 = some (13, .ldc2_w 224, 3, (0, 0, 0, 0), (.long 2147483648), [], 1157, 0, []) := rfl
theorem f_174_16 : xfind (xnth xTs 174) 16 = some (16, .lrem, 1, (0, 0, 0, 0), .null, [], 0, 0, []) := rfl
theorem f_174_17 : xfind (xnth xTs 174) 17 = some (17, .putfield 216, 3, (9, 8, 2, 0), .null, [], 917, 0, []) := rfl
theorem f_174_20 : xfind (xnth xTs 174) 20 = some (20, .aload_n 0, 1, (0, 0, 0, 0), .null, [], 0, 0, []) := rfl
theorem f_174_21 : xfind (xnth xTs 174) 21 = some (21, .getfield 216, 3, (9, 8, 2, 0), .null, [], 917, 0, []) := rfl
theorem f_174_24 : xfind (xnth xTs 174) 24 = some (24, .ldc2_w 226, 3, (0, 0, 0, 0), (.long 65536), [], 1158, 0, []) := rfl
theorem f_174_27 : xfind (xnth xTs 174) 27 = some (27, .ldiv, 1, (0, 0, 0, 0), .null, [], 0, 0, []) := rfl
theorem f_174_28 : xfind (xnth xTs 174) 28 = some (28, .iload_n 1, 1, (0, 0, 0, 0), .null, [], 0, 0, []) := rfl
theorem f_174_29 : xfind (xnth xTs 174) 29 = some (29, .i2l, 1, (0, 0, 0, 0), .null, [], 0, 0, []) := rfl
theorem f_174_30 : xfind (xnth xTs 174) 30 = some (30, .lrem, 1, (0, 0, 0, 0), .null, [], 0, 0, []) := rfl
theorem f_174_31 : xfind (xnth xTs 174) 31 = some (31, .l2i, 1, (0, 0, 0, 0), .null, [], 0, 0, []) := rfl
theorem f_174_32 : xfind (xnth xTs 174) 32 = some (32, .ireturn, 1, (0, 0, 0, 0), .null, [], 0, 0, []) := rfl
theorem b_R_draw_0 (sh : xSh) (M : Nat → Nat → Int32) (J : Nat → Nat → Int64) (l0 : Nat) (l1 : Int32) : ev (174, 0, [.ref l0, .int l1], [], (sh, M, J)) = (bif decide ((sh.2.2.1 l0).1 = 9) then bif decide ((sh.2.2.1 l0).1 = 9) then bif decide ((sh.2.2.1 l0).1 = 9) then bif !decide ((l1 : Int32).toInt64 = 0) then some (some (.int ((xremL (((xu J l0 8 (xremL (((J l0 8) * 1103515245) + 12345) 2147483648)) l0 8) / 65536) (l1 : Int32).toInt64) : Int64).toInt32), (sh, M, (xu J l0 8 (xremL (((J l0 8) * 1103515245) + 12345) 2147483648)))) else none else none else none else none) := by
  refine ev_nx (s1 := (174, 1, [.ref l0, .int l1], [.ref l0], (sh, M, J))) f_174_0 rfl ?_
  refine ev_nx (s1 := (174, 2, [.ref l0, .int l1], [.ref l0, .ref l0], (sh, M, J))) f_174_1 rfl ?_
  refine ev_gd (s1 := (174, 5, [.ref l0, .int l1], [.long (J l0 8), .ref l0], (sh, M, J))) f_174_2 rfl ?_
  refine ev_nx (s1 := (174, 8, [.ref l0, .int l1], [.long 1103515245, .long (J l0 8), .ref l0], (sh, M, J))) f_174_5 rfl ?_
  refine ev_nx (s1 := (174, 9, [.ref l0, .int l1], [.long ((J l0 8) * 1103515245), .ref l0], (sh, M, J))) f_174_8 rfl ?_
  refine ev_nx (s1 := (174, 12, [.ref l0, .int l1], [.long 12345, .long ((J l0 8) * 1103515245), .ref l0], (sh, M, J))) f_174_9 rfl ?_
  refine ev_nx (s1 := (174, 13, [.ref l0, .int l1], [.long (((J l0 8) * 1103515245) + 12345), .ref l0], (sh, M, J))) f_174_12 rfl ?_
  refine ev_nx (s1 := (174, 16, [.ref l0, .int l1], [.long 2147483648, .long (((J l0 8) * 1103515245) + 12345), .ref l0], (sh, M, J))) f_174_13 rfl ?_
  refine ev_nx (s1 := (174, 17, [.ref l0, .int l1], [.long (xremL (((J l0 8) * 1103515245) + 12345) 2147483648), .ref l0], (sh, M, J))) f_174_16 rfl ?_
  refine ev_gd (s1 := (174, 20, [.ref l0, .int l1], [], (sh, M, (xu J l0 8 (xremL (((J l0 8) * 1103515245) + 12345) 2147483648))))) f_174_17 rfl ?_
  refine ev_nx (s1 := (174, 21, [.ref l0, .int l1], [.ref l0], (sh, M, (xu J l0 8 (xremL (((J l0 8) * 1103515245) + 12345) 2147483648))))) f_174_20 rfl ?_
  refine ev_gd (s1 := (174, 24, [.ref l0, .int l1], [.long ((xu J l0 8 (xremL (((J l0 8) * 1103515245) + 12345) 2147483648)) l0 8)], (sh, M, (xu J l0 8 (xremL (((J l0 8) * 1103515245) + 12345) 2147483648))))) f_174_21 rfl ?_
  refine ev_nx (s1 := (174, 27, [.ref l0, .int l1], [.long 65536, .long ((xu J l0 8 (xremL (((J l0 8) * 1103515245) + 12345) 2147483648)) l0 8)], (sh, M, (xu J l0 8 (xremL (((J l0 8) * 1103515245) + 12345) 2147483648))))) f_174_24 rfl ?_
  refine ev_nx (s1 := (174, 28, [.ref l0, .int l1], [.long (((xu J l0 8 (xremL (((J l0 8) * 1103515245) + 12345) 2147483648)) l0 8) / 65536)], (sh, M, (xu J l0 8 (xremL (((J l0 8) * 1103515245) + 12345) 2147483648))))) f_174_27 rfl ?_
  refine ev_nx (s1 := (174, 29, [.ref l0, .int l1], [.int l1, .long (((xu J l0 8 (xremL (((J l0 8) * 1103515245) + 12345) 2147483648)) l0 8) / 65536)], (sh, M, (xu J l0 8 (xremL (((J l0 8) * 1103515245) + 12345) 2147483648))))) f_174_28 rfl ?_
  refine ev_nx (s1 := (174, 30, [.ref l0, .int l1], [.long (l1 : Int32).toInt64, .long (((xu J l0 8 (xremL (((J l0 8) * 1103515245) + 12345) 2147483648)) l0 8) / 65536)], (sh, M, (xu J l0 8 (xremL (((J l0 8) * 1103515245) + 12345) 2147483648))))) f_174_29 rfl ?_
  refine ev_gd (s1 := (174, 31, [.ref l0, .int l1], [.long (xremL (((xu J l0 8 (xremL (((J l0 8) * 1103515245) + 12345) 2147483648)) l0 8) / 65536) (l1 : Int32).toInt64)], (sh, M, (xu J l0 8 (xremL (((J l0 8) * 1103515245) + 12345) 2147483648))))) f_174_30 rfl ?_
  refine ev_nx (s1 := (174, 32, [.ref l0, .int l1], [.int ((xremL (((xu J l0 8 (xremL (((J l0 8) * 1103515245) + 12345) 2147483648)) l0 8) / 65536) (l1 : Int32).toInt64) : Int64).toInt32], (sh, M, (xu J l0 8 (xremL (((J l0 8) * 1103515245) + 12345) 2147483648))))) f_174_31 rfl ?_
  exact ev_r1 f_174_32 rfl
theorem f_175_0 : xfind (xnth xTs 175) 0 = some (0, .aload_n 0, 1, (0, 0, 0, 0), .null, [], 0, 0, []) := rfl
theorem f_175_1 : xfind (xnth xTs 175) 1 = some (1, .iload_n 1, 1, (0, 0, 0, 0), .null, [], 0, 0, []) := rfl
theorem f_175_2 : xfind (xnth xTs 175) 2 = some (2, .invokevirtual 204, 3, (169, 1, 9, 2), .null, [], 1114, 0, []) := rfl
theorem f_175_5 : xfind (xnth xTs 175) 5 = some (5, .istore_n 2, 1, (0, 0, 0, 0), .null, [], 0, 0, []) := rfl
theorem f_175_6 : xfind (xnth xTs 175) 6 = some (6, .iload_n 2, 1, (0, 0, 0, 0), .null, [], 0, 0, []) := rfl
theorem f_175_7 : xfind (xnth xTs 175) 7 = some (7, .ifCond .eq 5, 3, (0, 0, 0, 0), .null, [], 0, 0, []) := rfl
theorem f_175_10 : xfind (xnth xTs 175) 10 = some (10, .iload_n 2, 1, (0, 0, 0, 0), .null, [], 0, 0, []) := rfl
theorem f_175_11 : xfind (xnth xTs 175) 11 = some (11, .ireturn, 1, (0, 0, 0, 0), .null, [], 0, 0, []) := rfl
theorem f_175_12 : xfind (xnth xTs 175) 12 = some (12, .aload_n 0, 1, (0, 0, 0, 0), .null, [], 0, 0, []) := rfl
theorem f_175_13 : xfind (xnth xTs 175) 13 = some (13, .invokevirtual 207, 3, (168, 0, 9, 2), .null, [], 1120, 0, []) := rfl
theorem f_175_16 : xfind (xnth xTs 175) 16 = some (16, .iconst 0, 1, (0, 0, 0, 0), (.int 0), [], 0, 0, []) := rfl
theorem f_175_17 : xfind (xnth xTs 175) 17 = some (17, .istore_n 3, 1, (0, 0, 0, 0), .null, [], 0, 0, []) := rfl
theorem f_175_18 : xfind (xnth xTs 175) 18 = some (18, .iload_n 3, 1, (0, 0, 0, 0), .null, [], 0, 1, [2, 4, 5, 6]) := rfl
theorem f_175_19 : xfind (xnth xTs 175) 19 = some (19, .iload_n 1, 1, (0, 0, 0, 0), .null, [], 0, 0, []) := rfl
theorem f_175_20 : xfind (xnth xTs 175) 20 = some (20, .if_icmp .ge 85, 3, (0, 0, 0, 0), .null, [], 0, 0, []) := rfl
theorem f_175_23 : xfind (xnth xTs 175) 23 = some (23, .aload_n 0, 1, (0, 0, 0, 0), .null, [], 0, 0, []) := rfl
theorem f_175_24 : xfind (xnth xTs 175) 24 = some (24, .aload_n 0, 1, (0, 0, 0, 0), .null, [], 0, 0, []) := rfl
theorem f_175_25 : xfind (xnth xTs 175) 25 = some (25, .invokevirtual 156, 3, (151, 0, 9, 1), .null, [], 1061, 0, []) := rfl
theorem f_175_28 : xfind (xnth xTs 175) 28 = some (28, .invokevirtual 228, 3, (174, 1, 9, 2), .null, [], 1151, 0, []) := rfl
theorem f_175_31 : xfind (xnth xTs 175) 31 = some (31, .istore 4, 2, (0, 0, 0, 0), .null, [], 0, 0, []) := rfl
theorem f_175_33 : xfind (xnth xTs 175) 33 = some (33, .aload_n 0, 1, (0, 0, 0, 0), .null, [], 0, 0, []) := rfl
theorem f_175_34 : xfind (xnth xTs 175) 34 = some (34, .bipush 10, 2, (0, 0, 0, 0), (.int 10), [], 0, 0, []) := rfl
theorem f_175_36 : xfind (xnth xTs 175) 36 = some (36, .invokevirtual 228, 3, (174, 1, 9, 2), .null, [], 1151, 0, []) := rfl
theorem f_175_39 : xfind (xnth xTs 175) 39 = some (39, .aload_n 0, 1, (0, 0, 0, 0), .null, [], 0, 0, []) := rfl
theorem f_175_40 : xfind (xnth xTs 175) 40 = some (40, .getfield 7, 3, (9, 0, 1, 0), .null, [], 909, 0, []) := rfl
theorem f_175_43 : xfind (xnth xTs 175) 43 = some (43, .bipush 10, 2, (0, 0, 0, 0), (.int 10), [], 0, 0, []) := rfl
theorem f_175_45 : xfind (xnth xTs 175) 45 = some (45, .aload_n 0, 1, (0, 0, 0, 0), .null, [], 0, 0, []) := rfl
theorem f_175_46 : xfind (xnth xTs 175) 46 = some (46, .getfield 16, 3, (9, 2, 1, 0), .null, [], 911, 0, []) := rfl
theorem f_175_49 : xfind (xnth xTs 175) 49 = some (49, .iconst 0, 1, (0, 0, 0, 0), (.int 0), [], 0, 0, []) := rfl
theorem f_175_50 : xfind (xnth xTs 175) 50 = some (50, .iload 4, 2, (0, 0, 0, 0), .null, [], 0, 0, []) := rfl
theorem f_175_52 : xfind (xnth xTs 175) 52 = some (52, .iadd, 1, (0, 0, 0, 0), .null, [], 0, 0, []) := rfl
theorem f_175_53 : xfind (xnth xTs 175) 53 = some (53, .iaload, 1, (0, 0, 0, 0), .null, [], 0, 0, []) := rfl
theorem f_175_54 : xfind (xnth xTs 175) 54 = some (54, .iadd, 1, (0, 0, 0, 0), .null, [], 0, 0, []) := rfl
theorem f_175_55 : xfind (xnth xTs 175) 55 = some (55, .iaload, 1, (0, 0, 0, 0), .null, [], 0, 0, []) := rfl
theorem f_175_56 : xfind (xnth xTs 175) 56 = some (56, .if_icmp .ge 7, 3, (0, 0, 0, 0), .null, [], 0, 0, []) := rfl
theorem f_175_59 : xfind (xnth xTs 175) 59 = some (59, .iconst 1, 1, (0, 0, 0, 0), (.int 1), [], 0, 0, []) := rfl
theorem f_175_60 : xfind (xnth xTs 175) 60 = some (60, .goto 4, 3, (0, 0, 0, 0), .null, [], 0, 0, []) := rfl
theorem f_175_63 : xfind (xnth xTs 175) 63 = some (63, .iconst 0, 1, (0, 0, 0, 0), (.int 0), [], 0, 0, []) := rfl
theorem f_175_64 : xfind (xnth xTs 175) 64 = some (64, .istore 5, 2, (0, 0, 0, 0), .null, [], 0, 0, []) := rfl
theorem f_175_66 : xfind (xnth xTs 175) 66 = some (66, .aload_n 0, 1, (0, 0, 0, 0), .null, [], 0, 0, []) := rfl
theorem f_175_67 : xfind (xnth xTs 175) 67 = some (67, .getfield 16, 3, (9, 2, 1, 0), .null, [], 911, 0, []) := rfl
theorem f_175_70 : xfind (xnth xTs 175) 70 = some (70, .bipush 20, 2, (0, 0, 0, 0), (.int 20), [], 0, 0, []) := rfl
theorem f_175_72 : xfind (xnth xTs 175) 72 = some (72, .dup2, 1, (0, 0, 0, 0), .null, [], 0, 0, []) := rfl
theorem f_175_73 : xfind (xnth xTs 175) 73 = some (73, .iaload, 1, (0, 0, 0, 0), .null, [], 0, 0, []) := rfl
theorem f_175_74 : xfind (xnth xTs 175) 74 = some (74, .iload 5, 2, (0, 0, 0, 0), .null, [], 0, 0, []) := rfl
theorem f_175_76 : xfind (xnth xTs 175) 76 = some (76, .ifCond .eq 10, 3, (0, 0, 0, 0), .null, [], 0, 0, []) := rfl
theorem f_175_79 : xfind (xnth xTs 175) 79 = some (79, .iconst 1, 1, (0, 0, 0, 0), (.int 1), [], 0, 0, []) := rfl
theorem f_175_80 : xfind (xnth xTs 175) 80 = some (80, .iload 4, 2, (0, 0, 0, 0), .null, [], 0, 0, []) := rfl
theorem f_175_82 : xfind (xnth xTs 175) 82 = some (82, .ishl, 1, (0, 0, 0, 0), .null, [], 0, 0, []) := rfl
theorem f_175_83 : xfind (xnth xTs 175) 83 = some (83, .goto 4, 3, (0, 0, 0, 0), .null, [], 0, 0, []) := rfl
theorem f_175_86 : xfind (xnth xTs 175) 86 = some (86, .iconst 0, 1, (0, 0, 0, 0), (.int 0), [], 0, 0, []) := rfl
theorem f_175_87 : xfind (xnth xTs 175) 87 = some (87, .ior, 1, (0, 0, 0, 0), .null, [], 0, 0, []) := rfl
theorem f_175_88 : xfind (xnth xTs 175) 88 = some (88, .iastore, 1, (0, 0, 0, 0), .null, [], 0, 0, []) := rfl
theorem f_175_89 : xfind (xnth xTs 175) 89 = some (89, .aload_n 0, 1, (0, 0, 0, 0), .null, [], 0, 0, []) := rfl
theorem f_175_90 : xfind (xnth xTs 175) 90 = some (90, .aload_n 0, 1, (0, 0, 0, 0), .null, [], 0, 0, []) := rfl
theorem f_175_91 : xfind (xnth xTs 175) 91 = some (91, .getfield 16, 3, (9, 2, 1, 0), .null, [], 911, 0, []) := rfl
theorem f_175_94 : xfind (xnth xTs 175) 94 = some (94, .invokevirtual 210, 3, (162, 1, 9, 5), .null, [], 1124, 0, []) := rfl
theorem f_175_97 : xfind (xnth xTs 175) 97 = some (97, .istore 6, 2, (0, 0, 0, 0), .null, [], 0, 0, []) := rfl
theorem f_175_99 : xfind (xnth xTs 175) 99 = some (99, .iinc 3 1, 3, (0, 0, 0, 0), .null, [], 0, 0, []) := rfl
theorem f_175_102 : xfind (xnth xTs 175) 102 = some (102, .goto (-84), 3, (0, 0, 0, 0), .null, [], 0, 0, []) := rfl
theorem f_175_105 : xfind (xnth xTs 175) 105 = some (105, .aload_n 0, 1, (0, 0, 0, 0), .null, [], 0, 0, []) := rfl
theorem f_175_106 : xfind (xnth xTs 175) 106 = some (106, .getfield 16, 3, (9, 2, 1, 0), .null, [], 911, 0, []) := rfl
theorem f_175_109 : xfind (xnth xTs 175) 109 = some (109, .bipush 20, 2, (0, 0, 0, 0), (.int 20), [], 0, 0, []) := rfl
theorem f_175_111 : xfind (xnth xTs 175) 111 = some (111, .iaload, 1, (0, 0, 0, 0), .null, [], 0, 0, []) := rfl
theorem f_175_112 : xfind (xnth xTs 175) 112 = some (112, .ireturn, 1, (0, 0, 0, 0), .null, [], 0, 0, []) := rfl
theorem hd_175_18 : xhead 175 18 = some [2, 4, 5, 6] := rfl
theorem b_R_drift_0 (sh : xSh) (M : Nat → Nat → Int32) (J : Nat → Nat → Int64) (l0 : Nat) (l1 : Int32) : ev (175, 0, [.ref l0, .int l1, .null, .null, .null, .null, .null], [], (sh, M, J)) = (bif (decide ((sh.2.2.1 l0).1 = 9) && true) then (ev (169, 0, [.ref l0, .int l1], [], (sh, M, J))).bind (fun r => ev (175, 5, [.ref l0, .int l1, .null, .null, .null, .null, .null], r.1.toList ++ [], r.2)) else none) := by
  refine ev_nx (s1 := (175, 1, [.ref l0, .int l1, .null, .null, .null, .null, .null], [.ref l0], (sh, M, J))) f_175_0 rfl ?_
  refine ev_nx (s1 := (175, 2, [.ref l0, .int l1, .null, .null, .null, .null, .null], [.int l1, .ref l0], (sh, M, J))) f_175_1 rfl ?_
  exact ev_ca (cc := (decide ((sh.2.2.1 l0).1 = 9) && true)) (s1 := (169, 0, [.ref l0, .int l1], [], (sh, M, J))) (k := (175, 5, [.ref l0, .int l1, .null, .null, .null, .null, .null], [])) f_175_2 rfl
theorem b_R_drift_5 (sh : xSh) (M : Nat → Nat → Int32) (J : Nat → Nat → Int64) (l0 : Nat) (l1 : Int32) (k0 : Int32) : ev (175, 5, [.ref l0, .int l1, .null, .null, .null, .null, .null], [.int k0], (sh, M, J)) = (bif decide (k0 = 0) then bif (decide ((sh.2.2.1 l0).1 = 9) && true) then (ev (168, 0, [.ref l0, .null], [], (sh, M, J))).bind (fun r => ev (175, 16, [.ref l0, .int l1, .int k0, .null, .null, .null, .null], r.1.toList ++ [], r.2)) else none else some (some (.int k0), (sh, M, J))) := by
  refine ev_nx (s1 := (175, 6, [.ref l0, .int l1, .int k0, .null, .null, .null, .null], [], (sh, M, J))) f_175_5 rfl ?_
  refine ev_nx (s1 := (175, 7, [.ref l0, .int l1, .int k0, .null, .null, .null, .null], [.int k0], (sh, M, J))) f_175_6 rfl ?_
  refine ev_br (s1 := (175, 12, [.ref l0, .int l1, .int k0, .null, .null, .null, .null], [], (sh, M, J))) (s2 := (175, 10, [.ref l0, .int l1, .int k0, .null, .null, .null, .null], [], (sh, M, J))) f_175_7 rfl ?_ ?_
  · refine ev_nx (s1 := (175, 13, [.ref l0, .int l1, .int k0, .null, .null, .null, .null], [.ref l0], (sh, M, J))) f_175_12 rfl ?_
    exact ev_ca (cc := (decide ((sh.2.2.1 l0).1 = 9) && true)) (s1 := (168, 0, [.ref l0, .null], [], (sh, M, J))) (k := (175, 16, [.ref l0, .int l1, .int k0, .null, .null, .null, .null], [])) f_175_13 rfl
  · refine ev_nx (s1 := (175, 11, [.ref l0, .int l1, .int k0, .null, .null, .null, .null], [.int k0], (sh, M, J))) f_175_10 rfl ?_
    exact ev_r1 f_175_11 rfl
theorem b_R_drift_16 (sh : xSh) (M : Nat → Nat → Int32) (J : Nat → Nat → Int64) (l0 : Nat) (l1 : Int32) (l2 : Int32) : ev (175, 16, [.ref l0, .int l1, .int l2, .null, .null, .null, .null], [], (sh, M, J)) = (ev (175, 18, [.ref l0, .int l1, .null, .int 0, .null, .null, .null], [], (sh, M, J))) := by
  refine ev_nx (s1 := (175, 17, [.ref l0, .int l1, .int l2, .null, .null, .null, .null], [.int 0], (sh, M, J))) f_175_16 rfl ?_
  refine ev_nx (s1 := (175, 18, [.ref l0, .int l1, .int l2, .int 0, .null, .null, .null], [], (sh, M, J))) f_175_17 rfl ?_
  exact (ev_kill hd_175_18).symm
theorem b_R_drift_18 (sh : xSh) (M : Nat → Nat → Int32) (J : Nat → Nat → Int64) (l0 : Nat) (l1 : Int32) (l3 : Int32) : ev (175, 18, [.ref l0, .int l1, .null, .int l3, .null, .null, .null], [], (sh, M, J)) = (bif decide (l1 ≤ l3) then bif decide ((sh.2.2.1 l0).1 = 9) then bif (decide ((sh.2.2.1 (sh.2.2.2 l0 2)).1 = 11) && xin 20 (sh.2.2.1 (sh.2.2.2 l0 2)).2) then some (some (.int (M (sh.2.2.2 l0 2) (20 : Int32).toNatClampNeg)), (sh, M, J)) else none else none else bif (decide ((sh.2.2.1 l0).1 = 9) && true) then (ev (151, 0, [.ref l0], [], (sh, M, J))).bind (fun r => ev (175, 28, [.ref l0, .int l1, .null, .int l3, .null, .null, .null], r.1.toList ++ [.ref l0], r.2)) else none) := by
  refine ev_nx (s1 := (175, 19, [.ref l0, .int l1, .null, .int l3, .null, .null, .null], [.int l3], (sh, M, J))) f_175_18 rfl ?_
  refine ev_nx (s1 := (175, 20, [.ref l0, .int l1, .null, .int l3, .null, .null, .null], [.int l1, .int l3], (sh, M, J))) f_175_19 rfl ?_
  refine ev_br (s1 := (175, 105, [.ref l0, .int l1, .null, .int l3, .null, .null, .null], [], (sh, M, J))) (s2 := (175, 23, [.ref l0, .int l1, .null, .int l3, .null, .null, .null], [], (sh, M, J))) f_175_20 rfl ?_ ?_
  · refine ev_nx (s1 := (175, 106, [.ref l0, .int l1, .null, .int l3, .null, .null, .null], [.ref l0], (sh, M, J))) f_175_105 rfl ?_
    refine ev_gd (s1 := (175, 109, [.ref l0, .int l1, .null, .int l3, .null, .null, .null], [.ref (sh.2.2.2 l0 2)], (sh, M, J))) f_175_106 rfl ?_
    refine ev_nx (s1 := (175, 111, [.ref l0, .int l1, .null, .int l3, .null, .null, .null], [.int 20, .ref (sh.2.2.2 l0 2)], (sh, M, J))) f_175_109 rfl ?_
    refine ev_gd (s1 := (175, 112, [.ref l0, .int l1, .null, .int l3, .null, .null, .null], [.int (M (sh.2.2.2 l0 2) (20 : Int32).toNatClampNeg)], (sh, M, J))) f_175_111 rfl ?_
    exact ev_r1 f_175_112 rfl
  · refine ev_nx (s1 := (175, 24, [.ref l0, .int l1, .null, .int l3, .null, .null, .null], [.ref l0], (sh, M, J))) f_175_23 rfl ?_
    refine ev_nx (s1 := (175, 25, [.ref l0, .int l1, .null, .int l3, .null, .null, .null], [.ref l0, .ref l0], (sh, M, J))) f_175_24 rfl ?_
    exact ev_ca (cc := (decide ((sh.2.2.1 l0).1 = 9) && true)) (s1 := (151, 0, [.ref l0], [], (sh, M, J))) (k := (175, 28, [.ref l0, .int l1, .null, .int l3, .null, .null, .null], [.ref l0])) f_175_25 rfl
theorem b_R_drift_28 (sh : xSh) (M : Nat → Nat → Int32) (J : Nat → Nat → Int64) (l0 : Nat) (l1 : Int32) (l3 : Int32) (k0 : Int32) (k1 : Nat) : ev (175, 28, [.ref l0, .int l1, .null, .int l3, .null, .null, .null], [.int k0, .ref k1], (sh, M, J)) = (bif (decide ((sh.2.2.1 k1).1 = 9) && true) then (ev (174, 0, [.ref k1, .int k0], [], (sh, M, J))).bind (fun r => ev (175, 31, [.ref l0, .int l1, .null, .int l3, .null, .null, .null], r.1.toList ++ [], r.2)) else none) := by
  exact ev_ca (cc := (decide ((sh.2.2.1 k1).1 = 9) && true)) (s1 := (174, 0, [.ref k1, .int k0], [], (sh, M, J))) (k := (175, 31, [.ref l0, .int l1, .null, .int l3, .null, .null, .null], [])) f_175_28 rfl
theorem b_R_drift_31 (sh : xSh) (M : Nat → Nat → Int32) (J : Nat → Nat → Int64) (l0 : Nat) (l1 : Int32) (l3 : Int32) (k0 : Int32) : ev (175, 31, [.ref l0, .int l1, .null, .int l3, .null, .null, .null], [.int k0], (sh, M, J)) = (bif (decide ((sh.2.2.1 l0).1 = 9) && true) then (ev (174, 0, [.ref l0, .int 10], [], (sh, M, J))).bind (fun r => ev (175, 39, [.ref l0, .int l1, .null, .int l3, .int k0, .null, .null], r.1.toList ++ [], r.2)) else none) := by
  refine ev_nx (s1 := (175, 33, [.ref l0, .int l1, .null, .int l3, .int k0, .null, .null], [], (sh, M, J))) f_175_31 rfl ?_
  refine ev_nx (s1 := (175, 34, [.ref l0, .int l1, .null, .int l3, .int k0, .null, .null], [.ref l0], (sh, M, J))) f_175_33 rfl ?_
  refine ev_nx (s1 := (175, 36, [.ref l0, .int l1, .null, .int l3, .int k0, .null, .null], [.int 10, .ref l0], (sh, M, J))) f_175_34 rfl ?_
  exact ev_ca (cc := (decide ((sh.2.2.1 l0).1 = 9) && true)) (s1 := (174, 0, [.ref l0, .int 10], [], (sh, M, J))) (k := (175, 39, [.ref l0, .int l1, .null, .int l3, .int k0, .null, .null], [])) f_175_36 rfl
theorem b_R_drift_39 (sh : xSh) (M : Nat → Nat → Int32) (J : Nat → Nat → Int64) (l0 : Nat) (l1 : Int32) (l3 : Int32) (l4 : Int32) (k0 : Int32) : ev (175, 39, [.ref l0, .int l1, .null, .int l3, .int l4, .null, .null], [.int k0], (sh, M, J)) = (bif decide ((sh.2.2.1 l0).1 = 9) then bif decide ((sh.2.2.1 l0).1 = 9) then bif (decide ((sh.2.2.1 (sh.2.2.2 l0 2)).1 = 11) && xin ((0 : Int32) + l4) (sh.2.2.1 (sh.2.2.2 l0 2)).2) then bif (decide ((sh.2.2.1 (sh.2.2.2 l0 0)).1 = 11) && xin ((10 : Int32) + (M (sh.2.2.2 l0 2) (((0 : Int32) + l4) : Int32).toNatClampNeg)) (sh.2.2.1 (sh.2.2.2 l0 0)).2) then bif decide ((M (sh.2.2.2 l0 0) (((10 : Int32) + (M (sh.2.2.2 l0 2) (((0 : Int32) + l4) : Int32).toNatClampNeg)) : Int32).toNatClampNeg) ≤ k0) then bif decide ((sh.2.2.1 l0).1 = 9) then bif (decide ((sh.2.2.1 (sh.2.2.2 l0 2)).1 = 11) && xin 20 (sh.2.2.1 (sh.2.2.2 l0 2)).2) then bif (decide ((sh.2.2.1 (sh.2.2.2 l0 2)).1 = 11) && xin 20 (sh.2.2.1 (sh.2.2.2 l0 2)).2) then bif decide ((sh.2.2.1 l0).1 = 9) then bif (decide ((sh.2.2.1 l0).1 = 9) && true) then (ev (162, 0, [.ref l0, .ref (sh.2.2.2 l0 2), .null, .null, .null], [], (sh, (xu M (sh.2.2.2 l0 2) (20 : Int32).toNatClampNeg ((M (sh.2.2.2 l0 2) (20 : Int32).toNatClampNeg) ||| 0)), J))).bind (fun r => ev (175, 97, [.ref l0, .int l1, .null, .int l3, .int l4, .int 0, .null], r.1.toList ++ [], r.2)) else none else none else none else none else none else bif decide ((sh.2.2.1 l0).1 = 9) then bif (decide ((sh.2.2.1 (sh.2.2.2 l0 2)).1 = 11) && xin 20 (sh.2.2.1 (sh.2.2.2 l0 2)).2) then bif (decide ((sh.2.2.1 (sh.2.2.2 l0 2)).1 = 11) && xin 20 (sh.2.2.1 (sh.2.2.2 l0 2)).2) then bif decide ((sh.2.2.1 l0).1 = 9) then bif (decide ((sh.2.2.1 l0).1 = 9) && true) then (ev (162, 0, [.ref l0, .ref (sh.2.2.2 l0 2), .null, .null, .null], [], (sh, (xu M (sh.2.2.2 l0 2) (20 : Int32).toNatClampNeg ((M (sh.2.2.2 l0 2) (20 : Int32).toNatClampNeg) ||| ((1 : Int32) <<< (l4 &&& 31)))), J))).bind (fun r => ev (175, 97, [.ref l0, .int l1, .null, .int l3, .int l4, .int 1, .null], r.1.toList ++ [], r.2)) else none else none else none else none else none else none else none else none else none) := by
  refine ev_nx (s1 := (175, 40, [.ref l0, .int l1, .null, .int l3, .int l4, .null, .null], [.ref l0, .int k0], (sh, M, J))) f_175_39 rfl ?_
  refine ev_gd (s1 := (175, 43, [.ref l0, .int l1, .null, .int l3, .int l4, .null, .null], [.ref (sh.2.2.2 l0 0), .int k0], (sh, M, J))) f_175_40 rfl ?_
  refine ev_nx (s1 := (175, 45, [.ref l0, .int l1, .null, .int l3, .int l4, .null, .null], [.int 10, .ref (sh.2.2.2 l0 0), .int k0], (sh, M, J))) f_175_43 rfl ?_
  refine ev_nx (s1 := (175, 46, [.ref l0, .int l1, .null, .int l3, .int l4, .null, .null], [.ref l0, .int 10, .ref (sh.2.2.2 l0 0), .int k0], (sh, M, J))) f_175_45 rfl ?_
  refine ev_gd (s1 := (175, 49, [.ref l0, .int l1, .null, .int l3, .int l4, .null, .null], [.ref (sh.2.2.2 l0 2), .int 10, .ref (sh.2.2.2 l0 0), .int k0], (sh, M, J))) f_175_46 rfl ?_
  refine ev_nx (s1 := (175, 50, [.ref l0, .int l1, .null, .int l3, .int l4, .null, .null], [.int 0, .ref (sh.2.2.2 l0 2), .int 10, .ref (sh.2.2.2 l0 0), .int k0], (sh, M, J))) f_175_49 rfl ?_
  refine ev_nx (s1 := (175, 52, [.ref l0, .int l1, .null, .int l3, .int l4, .null, .null], [.int l4, .int 0, .ref (sh.2.2.2 l0 2), .int 10, .ref (sh.2.2.2 l0 0), .int k0], (sh, M, J))) f_175_50 rfl ?_
  refine ev_nx (s1 := (175, 53, [.ref l0, .int l1, .null, .int l3, .int l4, .null, .null], [.int ((0 : Int32) + l4), .ref (sh.2.2.2 l0 2), .int 10, .ref (sh.2.2.2 l0 0), .int k0], (sh, M, J))) f_175_52 rfl ?_
  refine ev_gd (s1 := (175, 54, [.ref l0, .int l1, .null, .int l3, .int l4, .null, .null], [.int (M (sh.2.2.2 l0 2) (((0 : Int32) + l4) : Int32).toNatClampNeg), .int 10, .ref (sh.2.2.2 l0 0), .int k0], (sh, M, J))) f_175_53 rfl ?_
  refine ev_nx (s1 := (175, 55, [.ref l0, .int l1, .null, .int l3, .int l4, .null, .null], [.int ((10 : Int32) + (M (sh.2.2.2 l0 2) (((0 : Int32) + l4) : Int32).toNatClampNeg)), .ref (sh.2.2.2 l0 0), .int k0], (sh, M, J))) f_175_54 rfl ?_
  refine ev_gd (s1 := (175, 56, [.ref l0, .int l1, .null, .int l3, .int l4, .null, .null], [.int (M (sh.2.2.2 l0 0) (((10 : Int32) + (M (sh.2.2.2 l0 2) (((0 : Int32) + l4) : Int32).toNatClampNeg)) : Int32).toNatClampNeg), .int k0], (sh, M, J))) f_175_55 rfl ?_
  refine ev_br (s1 := (175, 63, [.ref l0, .int l1, .null, .int l3, .int l4, .null, .null], [], (sh, M, J))) (s2 := (175, 59, [.ref l0, .int l1, .null, .int l3, .int l4, .null, .null], [], (sh, M, J))) f_175_56 rfl ?_ ?_
  · refine ev_nx (s1 := (175, 64, [.ref l0, .int l1, .null, .int l3, .int l4, .null, .null], [.int 0], (sh, M, J))) f_175_63 rfl ?_
    refine ev_nx (s1 := (175, 66, [.ref l0, .int l1, .null, .int l3, .int l4, .int 0, .null], [], (sh, M, J))) f_175_64 rfl ?_
    refine ev_nx (s1 := (175, 67, [.ref l0, .int l1, .null, .int l3, .int l4, .int 0, .null], [.ref l0], (sh, M, J))) f_175_66 rfl ?_
    refine ev_gd (s1 := (175, 70, [.ref l0, .int l1, .null, .int l3, .int l4, .int 0, .null], [.ref (sh.2.2.2 l0 2)], (sh, M, J))) f_175_67 rfl ?_
    refine ev_nx (s1 := (175, 72, [.ref l0, .int l1, .null, .int l3, .int l4, .int 0, .null], [.int 20, .ref (sh.2.2.2 l0 2)], (sh, M, J))) f_175_70 rfl ?_
    refine ev_nx (s1 := (175, 73, [.ref l0, .int l1, .null, .int l3, .int l4, .int 0, .null], [.int 20, .ref (sh.2.2.2 l0 2), .int 20, .ref (sh.2.2.2 l0 2)], (sh, M, J))) f_175_72 rfl ?_
    refine ev_gd (s1 := (175, 74, [.ref l0, .int l1, .null, .int l3, .int l4, .int 0, .null], [.int (M (sh.2.2.2 l0 2) (20 : Int32).toNatClampNeg), .int 20, .ref (sh.2.2.2 l0 2)], (sh, M, J))) f_175_73 rfl ?_
    refine ev_nx (s1 := (175, 76, [.ref l0, .int l1, .null, .int l3, .int l4, .int 0, .null], [.int 0, .int (M (sh.2.2.2 l0 2) (20 : Int32).toNatClampNeg), .int 20, .ref (sh.2.2.2 l0 2)], (sh, M, J))) f_175_74 rfl ?_
    refine ev_bt (s1 := (175, 86, [.ref l0, .int l1, .null, .int l3, .int l4, .int 0, .null], [.int (M (sh.2.2.2 l0 2) (20 : Int32).toNatClampNeg), .int 20, .ref (sh.2.2.2 l0 2)], (sh, M, J))) (s2 := (175, 79, [.ref l0, .int l1, .null, .int l3, .int l4, .int 0, .null], [.int (M (sh.2.2.2 l0 2) (20 : Int32).toNatClampNeg), .int 20, .ref (sh.2.2.2 l0 2)], (sh, M, J))) f_175_76 rfl rfl ?_
    refine ev_nx (s1 := (175, 87, [.ref l0, .int l1, .null, .int l3, .int l4, .int 0, .null], [.int 0, .int (M (sh.2.2.2 l0 2) (20 : Int32).toNatClampNeg), .int 20, .ref (sh.2.2.2 l0 2)], (sh, M, J))) f_175_86 rfl ?_
    refine ev_nx (s1 := (175, 88, [.ref l0, .int l1, .null, .int l3, .int l4, .int 0, .null], [.int ((M (sh.2.2.2 l0 2) (20 : Int32).toNatClampNeg) ||| 0), .int 20, .ref (sh.2.2.2 l0 2)], (sh, M, J))) f_175_87 rfl ?_
    refine ev_gd (s1 := (175, 89, [.ref l0, .int l1, .null, .int l3, .int l4, .int 0, .null], [], (sh, (xu M (sh.2.2.2 l0 2) (20 : Int32).toNatClampNeg ((M (sh.2.2.2 l0 2) (20 : Int32).toNatClampNeg) ||| 0)), J))) f_175_88 rfl ?_
    refine ev_nx (s1 := (175, 90, [.ref l0, .int l1, .null, .int l3, .int l4, .int 0, .null], [.ref l0], (sh, (xu M (sh.2.2.2 l0 2) (20 : Int32).toNatClampNeg ((M (sh.2.2.2 l0 2) (20 : Int32).toNatClampNeg) ||| 0)), J))) f_175_89 rfl ?_
    refine ev_nx (s1 := (175, 91, [.ref l0, .int l1, .null, .int l3, .int l4, .int 0, .null], [.ref l0, .ref l0], (sh, (xu M (sh.2.2.2 l0 2) (20 : Int32).toNatClampNeg ((M (sh.2.2.2 l0 2) (20 : Int32).toNatClampNeg) ||| 0)), J))) f_175_90 rfl ?_
    refine ev_gd (s1 := (175, 94, [.ref l0, .int l1, .null, .int l3, .int l4, .int 0, .null], [.ref (sh.2.2.2 l0 2), .ref l0], (sh, (xu M (sh.2.2.2 l0 2) (20 : Int32).toNatClampNeg ((M (sh.2.2.2 l0 2) (20 : Int32).toNatClampNeg) ||| 0)), J))) f_175_91 rfl ?_
    exact ev_ca (cc := (decide ((sh.2.2.1 l0).1 = 9) && true)) (s1 := (162, 0, [.ref l0, .ref (sh.2.2.2 l0 2), .null, .null, .null], [], (sh, (xu M (sh.2.2.2 l0 2) (20 : Int32).toNatClampNeg ((M (sh.2.2.2 l0 2) (20 : Int32).toNatClampNeg) ||| 0)), J))) (k := (175, 97, [.ref l0, .int l1, .null, .int l3, .int l4, .int 0, .null], [])) f_175_94 rfl
  · refine ev_nx (s1 := (175, 60, [.ref l0, .int l1, .null, .int l3, .int l4, .null, .null], [.int 1], (sh, M, J))) f_175_59 rfl ?_
    refine ev_nx (s1 := (175, 64, [.ref l0, .int l1, .null, .int l3, .int l4, .null, .null], [.int 1], (sh, M, J))) f_175_60 rfl ?_
    refine ev_nx (s1 := (175, 66, [.ref l0, .int l1, .null, .int l3, .int l4, .int 1, .null], [], (sh, M, J))) f_175_64 rfl ?_
    refine ev_nx (s1 := (175, 67, [.ref l0, .int l1, .null, .int l3, .int l4, .int 1, .null], [.ref l0], (sh, M, J))) f_175_66 rfl ?_
    refine ev_gd (s1 := (175, 70, [.ref l0, .int l1, .null, .int l3, .int l4, .int 1, .null], [.ref (sh.2.2.2 l0 2)], (sh, M, J))) f_175_67 rfl ?_
    refine ev_nx (s1 := (175, 72, [.ref l0, .int l1, .null, .int l3, .int l4, .int 1, .null], [.int 20, .ref (sh.2.2.2 l0 2)], (sh, M, J))) f_175_70 rfl ?_
    refine ev_nx (s1 := (175, 73, [.ref l0, .int l1, .null, .int l3, .int l4, .int 1, .null], [.int 20, .ref (sh.2.2.2 l0 2), .int 20, .ref (sh.2.2.2 l0 2)], (sh, M, J))) f_175_72 rfl ?_
    refine ev_gd (s1 := (175, 74, [.ref l0, .int l1, .null, .int l3, .int l4, .int 1, .null], [.int (M (sh.2.2.2 l0 2) (20 : Int32).toNatClampNeg), .int 20, .ref (sh.2.2.2 l0 2)], (sh, M, J))) f_175_73 rfl ?_
    refine ev_nx (s1 := (175, 76, [.ref l0, .int l1, .null, .int l3, .int l4, .int 1, .null], [.int 1, .int (M (sh.2.2.2 l0 2) (20 : Int32).toNatClampNeg), .int 20, .ref (sh.2.2.2 l0 2)], (sh, M, J))) f_175_74 rfl ?_
    refine ev_bf (s1 := (175, 86, [.ref l0, .int l1, .null, .int l3, .int l4, .int 1, .null], [.int (M (sh.2.2.2 l0 2) (20 : Int32).toNatClampNeg), .int 20, .ref (sh.2.2.2 l0 2)], (sh, M, J))) (s2 := (175, 79, [.ref l0, .int l1, .null, .int l3, .int l4, .int 1, .null], [.int (M (sh.2.2.2 l0 2) (20 : Int32).toNatClampNeg), .int 20, .ref (sh.2.2.2 l0 2)], (sh, M, J))) f_175_76 rfl rfl ?_
    refine ev_nx (s1 := (175, 80, [.ref l0, .int l1, .null, .int l3, .int l4, .int 1, .null], [.int 1, .int (M (sh.2.2.2 l0 2) (20 : Int32).toNatClampNeg), .int 20, .ref (sh.2.2.2 l0 2)], (sh, M, J))) f_175_79 rfl ?_
    refine ev_nx (s1 := (175, 82, [.ref l0, .int l1, .null, .int l3, .int l4, .int 1, .null], [.int l4, .int 1, .int (M (sh.2.2.2 l0 2) (20 : Int32).toNatClampNeg), .int 20, .ref (sh.2.2.2 l0 2)], (sh, M, J))) f_175_80 rfl ?_
    refine ev_nx (s1 := (175, 83, [.ref l0, .int l1, .null, .int l3, .int l4, .int 1, .null], [.int ((1 : Int32) <<< (l4 &&& 31)), .int (M (sh.2.2.2 l0 2) (20 : Int32).toNatClampNeg), .int 20, .ref (sh.2.2.2 l0 2)], (sh, M, J))) f_175_82 rfl ?_
    refine ev_nx (s1 := (175, 87, [.ref l0, .int l1, .null, .int l3, .int l4, .int 1, .null], [.int ((1 : Int32) <<< (l4 &&& 31)), .int (M (sh.2.2.2 l0 2) (20 : Int32).toNatClampNeg), .int 20, .ref (sh.2.2.2 l0 2)], (sh, M, J))) f_175_83 rfl ?_
    refine ev_nx (s1 := (175, 88, [.ref l0, .int l1, .null, .int l3, .int l4, .int 1, .null], [.int ((M (sh.2.2.2 l0 2) (20 : Int32).toNatClampNeg) ||| ((1 : Int32) <<< (l4 &&& 31))), .int 20, .ref (sh.2.2.2 l0 2)], (sh, M, J))) f_175_87 rfl ?_
    refine ev_gd (s1 := (175, 89, [.ref l0, .int l1, .null, .int l3, .int l4, .int 1, .null], [], (sh, (xu M (sh.2.2.2 l0 2) (20 : Int32).toNatClampNeg ((M (sh.2.2.2 l0 2) (20 : Int32).toNatClampNeg) ||| ((1 : Int32) <<< (l4 &&& 31)))), J))) f_175_88 rfl ?_
    refine ev_nx (s1 := (175, 90, [.ref l0, .int l1, .null, .int l3, .int l4, .int 1, .null], [.ref l0], (sh, (xu M (sh.2.2.2 l0 2) (20 : Int32).toNatClampNeg ((M (sh.2.2.2 l0 2) (20 : Int32).toNatClampNeg) ||| ((1 : Int32) <<< (l4 &&& 31)))), J))) f_175_89 rfl ?_
    refine ev_nx (s1 := (175, 91, [.ref l0, .int l1, .null, .int l3, .int l4, .int 1, .null], [.ref l0, .ref l0], (sh, (xu M (sh.2.2.2 l0 2) (20 : Int32).toNatClampNeg ((M (sh.2.2.2 l0 2) (20 : Int32).toNatClampNeg) ||| ((1 : Int32) <<< (l4 &&& 31)))), J))) f_175_90 rfl ?_
    refine ev_gd (s1 := (175, 94, [.ref l0, .int l1, .null, .int l3, .int l4, .int 1, .null], [.ref (sh.2.2.2 l0 2), .ref l0], (sh, (xu M (sh.2.2.2 l0 2) (20 : Int32).toNatClampNeg ((M (sh.2.2.2 l0 2) (20 : Int32).toNatClampNeg) ||| ((1 : Int32) <<< (l4 &&& 31)))), J))) f_175_91 rfl ?_
    exact ev_ca (cc := (decide ((sh.2.2.1 l0).1 = 9) && true)) (s1 := (162, 0, [.ref l0, .ref (sh.2.2.2 l0 2), .null, .null, .null], [], (sh, (xu M (sh.2.2.2 l0 2) (20 : Int32).toNatClampNeg ((M (sh.2.2.2 l0 2) (20 : Int32).toNatClampNeg) ||| ((1 : Int32) <<< (l4 &&& 31)))), J))) (k := (175, 97, [.ref l0, .int l1, .null, .int l3, .int l4, .int 1, .null], [])) f_175_94 rfl
theorem b_R_drift_97 (sh : xSh) (M : Nat → Nat → Int32) (J : Nat → Nat → Int64) (l0 : Nat) (l1 : Int32) (l3 : Int32) (l4 : Int32) (l5 : Int32) (k0 : Int32) : ev (175, 97, [.ref l0, .int l1, .null, .int l3, .int l4, .int l5, .null], [.int k0], (sh, M, J)) = (ev (175, 18, [.ref l0, .int l1, .null, .int (l3 + 1), .null, .null, .null], [], (sh, M, J))) := by
  refine ev_nx (s1 := (175, 99, [.ref l0, .int l1, .null, .int l3, .int l4, .int l5, .int k0], [], (sh, M, J))) f_175_97 rfl ?_
  refine ev_nx (s1 := (175, 102, [.ref l0, .int l1, .null, .int (l3 + 1), .int l4, .int l5, .int k0], [], (sh, M, J))) f_175_99 rfl ?_
  refine ev_nx (s1 := (175, 18, [.ref l0, .int l1, .null, .int (l3 + 1), .int l4, .int l5, .int k0], [], (sh, M, J))) f_175_102 rfl ?_
  exact (ev_kill hd_175_18).symm
theorem f_176_0 : xfind (xnth xTs 176) 0 = some (0, .aload_n 0, 1, (0, 0, 0, 0), .null, [], 0, 0, []) := rfl
theorem f_176_1 : xfind (xnth xTs 176) 1 = some (1, .getfield 80, 3, (9, 5, 0, 0), .null, [], 914, 0, []) := rfl
theorem f_176_4 : xfind (xnth xTs 176) 4 = some (4, .ifCond .ne 6, 3, (0, 0, 0, 0), .null, [], 0, 0, []) := rfl
theorem f_176_7 : xfind (xnth xTs 176) 7 = some (7, .ldc 203, 2, (0, 0, 0, 0), (.int (-1000000003)), [], 1119, 0, []) := rfl
theorem f_176_9 : xfind (xnth xTs 176) 9 = some (9, .ireturn, 1, (0, 0, 0, 0), .null, [], 0, 0, []) := rfl
theorem f_176_10 : xfind (xnth xTs 176) 10 = some (10, .aload_n 0, 1, (0, 0, 0, 0), .null, [], 0, 0, []) := rfl
theorem f_176_11 : xfind (xnth xTs 176) 11 = some (11, .dup, 1, (0, 0, 0, 0), .null, [], 0, 0, []) := rfl
theorem f_176_12 : xfind (xnth xTs 176) 12 = some (12, .getfield 80, 3, (9, 5, 0, 0), .null, [], 914, 0, []) := rfl
theorem f_176_15 : xfind (xnth xTs 176) 15 = some (15, .iconst 1, 1, (0, 0, 0, 0), (.int 1), [], 0, 0, []) := rfl
theorem f_176_16 : xfind (xnth xTs 176) 16 = some (16, .isub, 1, (0, 0, 0, 0), .null, [], 0, 0, []) := rfl
theorem f_176_17 : xfind (xnth xTs 176) 17 = some (17, .putfield 80, 3, (9, 5, 0, 0), .null, [], 914, 0, []) := rfl
theorem f_176_20 : xfind (xnth xTs 176) 20 = some (20, .aload_n 0, 1, (0, 0, 0, 0), .null, [], 0, 0, []) := rfl
theorem f_176_21 : xfind (xnth xTs 176) 21 = some (21, .getfield 22, 3, (9, 4, 1, 0), .null, [], 913, 0, []) := rfl
theorem f_176_24 : xfind (xnth xTs 176) 24 = some (24, .bipush 62, 2, (0, 0, 0, 0), (.int 62), [], 0, 0, []) := rfl
theorem f_176_26 : xfind (xnth xTs 176) 26 = some (26, .aload_n 0, 1, (0, 0, 0, 0), .null, [], 0, 0, []) := rfl
theorem f_176_27 : xfind (xnth xTs 176) 27 = some (27, .getfield 80, 3, (9, 5, 0, 0), .null, [], 914, 0, []) := rfl
theorem f_176_30 : xfind (xnth xTs 176) 30 = some (30, .imul, 1, (0, 0, 0, 0), .null, [], 0, 0, []) := rfl
theorem f_176_31 : xfind (xnth xTs 176) 31 = some (31, .aload_n 0, 1, (0, 0, 0, 0), .null, [], 0, 0, []) := rfl
theorem f_176_32 : xfind (xnth xTs 176) 32 = some (32, .getfield 16, 3, (9, 2, 1, 0), .null, [], 911, 0, []) := rfl
theorem f_176_35 : xfind (xnth xTs 176) 35 = some (35, .iconst 0, 1, (0, 0, 0, 0), (.int 0), [], 0, 0, []) := rfl
theorem f_176_36 : xfind (xnth xTs 176) 36 = some (36, .bipush 62, 2, (0, 0, 0, 0), (.int 62), [], 0, 0, []) := rfl
theorem f_176_38 : xfind (xnth xTs 176) 38 = some (38, .invokestatic 76, 3, (136, 5, 9, 6), .null, [], 906, 0, []) := rfl
theorem f_176_41 : xfind (xnth xTs 176) 41 = some (41, .aload_n 0, 1, (0, 0, 0, 0), .null, [], 0, 0, []) := rfl
theorem f_176_42 : xfind (xnth xTs 176) 42 = some (42, .getfield 80, 3, (9, 5, 0, 0), .null, [], 914, 0, []) := rfl
theorem f_176_45 : xfind (xnth xTs 176) 45 = some (45, .ireturn, 1, (0, 0, 0, 0), .null, [], 0, 0, []) := rfl
theorem b_R_undo_0 (sh : xSh) (M : Nat → Nat → Int32) (J : Nat → Nat → Int64) (l0 : Nat) : ev (176, 0, [.ref l0], [], (sh, M, J)) = (bif decide ((sh.2.2.1 l0).1 = 9) then bif !decide ((M l0 5) = 0) then bif decide ((sh.2.2.1 l0).1 = 9) then bif decide ((sh.2.2.1 l0).1 = 9) then bif decide ((sh.2.2.1 l0).1 = 9) then bif decide ((sh.2.2.1 l0).1 = 9) then bif decide ((sh.2.2.1 l0).1 = 9) then (ev (136, 0, [.ref (sh.2.2.2 l0 4), .int ((62 : Int32) * ((xu M l0 5 ((M l0 5) - 1)) l0 5)), .ref (sh.2.2.2 l0 2), .int 0, .int 62, .null], [], (sh, (xu M l0 5 ((M l0 5) - 1)), J))).bind (fun r => ev (176, 41, [.ref l0], r.1.toList ++ [], r.2)) else none else none else none else none else none else some (some (.int (-1000000003)), (sh, M, J)) else none) := by
  refine ev_nx (s1 := (176, 1, [.ref l0], [.ref l0], (sh, M, J))) f_176_0 rfl ?_
  refine ev_gd (s1 := (176, 4, [.ref l0], [.int (M l0 5)], (sh, M, J))) f_176_1 rfl ?_
  refine ev_br (s1 := (176, 10, [.ref l0], [], (sh, M, J))) (s2 := (176, 7, [.ref l0], [], (sh, M, J))) f_176_4 rfl ?_ ?_
  · refine ev_nx (s1 := (176, 11, [.ref l0], [.ref l0], (sh, M, J))) f_176_10 rfl ?_
    refine ev_nx (s1 := (176, 12, [.ref l0], [.ref l0, .ref l0], (sh, M, J))) f_176_11 rfl ?_
    refine ev_gd (s1 := (176, 15, [.ref l0], [.int (M l0 5), .ref l0], (sh, M, J))) f_176_12 rfl ?_
    refine ev_nx (s1 := (176, 16, [.ref l0], [.int 1, .int (M l0 5), .ref l0], (sh, M, J))) f_176_15 rfl ?_
    refine ev_nx (s1 := (176, 17, [.ref l0], [.int ((M l0 5) - 1), .ref l0], (sh, M, J))) f_176_16 rfl ?_
    refine ev_gd (s1 := (176, 20, [.ref l0], [], (sh, (xu M l0 5 ((M l0 5) - 1)), J))) f_176_17 rfl ?_
    refine ev_nx (s1 := (176, 21, [.ref l0], [.ref l0], (sh, (xu M l0 5 ((M l0 5) - 1)), J))) f_176_20 rfl ?_
    refine ev_gd (s1 := (176, 24, [.ref l0], [.ref (sh.2.2.2 l0 4)], (sh, (xu M l0 5 ((M l0 5) - 1)), J))) f_176_21 rfl ?_
    refine ev_nx (s1 := (176, 26, [.ref l0], [.int 62, .ref (sh.2.2.2 l0 4)], (sh, (xu M l0 5 ((M l0 5) - 1)), J))) f_176_24 rfl ?_
    refine ev_nx (s1 := (176, 27, [.ref l0], [.ref l0, .int 62, .ref (sh.2.2.2 l0 4)], (sh, (xu M l0 5 ((M l0 5) - 1)), J))) f_176_26 rfl ?_
    refine ev_gd (s1 := (176, 30, [.ref l0], [.int ((xu M l0 5 ((M l0 5) - 1)) l0 5), .int 62, .ref (sh.2.2.2 l0 4)], (sh, (xu M l0 5 ((M l0 5) - 1)), J))) f_176_27 rfl ?_
    refine ev_nx (s1 := (176, 31, [.ref l0], [.int ((62 : Int32) * ((xu M l0 5 ((M l0 5) - 1)) l0 5)), .ref (sh.2.2.2 l0 4)], (sh, (xu M l0 5 ((M l0 5) - 1)), J))) f_176_30 rfl ?_
    refine ev_nx (s1 := (176, 32, [.ref l0], [.ref l0, .int ((62 : Int32) * ((xu M l0 5 ((M l0 5) - 1)) l0 5)), .ref (sh.2.2.2 l0 4)], (sh, (xu M l0 5 ((M l0 5) - 1)), J))) f_176_31 rfl ?_
    refine ev_gd (s1 := (176, 35, [.ref l0], [.ref (sh.2.2.2 l0 2), .int ((62 : Int32) * ((xu M l0 5 ((M l0 5) - 1)) l0 5)), .ref (sh.2.2.2 l0 4)], (sh, (xu M l0 5 ((M l0 5) - 1)), J))) f_176_32 rfl ?_
    refine ev_nx (s1 := (176, 36, [.ref l0], [.int 0, .ref (sh.2.2.2 l0 2), .int ((62 : Int32) * ((xu M l0 5 ((M l0 5) - 1)) l0 5)), .ref (sh.2.2.2 l0 4)], (sh, (xu M l0 5 ((M l0 5) - 1)), J))) f_176_35 rfl ?_
    refine ev_nx (s1 := (176, 38, [.ref l0], [.int 62, .int 0, .ref (sh.2.2.2 l0 2), .int ((62 : Int32) * ((xu M l0 5 ((M l0 5) - 1)) l0 5)), .ref (sh.2.2.2 l0 4)], (sh, (xu M l0 5 ((M l0 5) - 1)), J))) f_176_36 rfl ?_
    exact ev_c1 (s1 := (136, 0, [.ref (sh.2.2.2 l0 4), .int ((62 : Int32) * ((xu M l0 5 ((M l0 5) - 1)) l0 5)), .ref (sh.2.2.2 l0 2), .int 0, .int 62, .null], [], (sh, (xu M l0 5 ((M l0 5) - 1)), J))) (k := (176, 41, [.ref l0], [])) f_176_38 rfl
  · refine ev_nx (s1 := (176, 9, [.ref l0], [.int (-1000000003)], (sh, M, J))) f_176_7 rfl ?_
    exact ev_r1 f_176_9 rfl
theorem b_R_undo_41 (sh : xSh) (M : Nat → Nat → Int32) (J : Nat → Nat → Int64) (l0 : Nat) : ev (176, 41, [.ref l0], [], (sh, M, J)) = (bif decide ((sh.2.2.1 l0).1 = 9) then some (some (.int (M l0 5)), (sh, M, J)) else none) := by
  refine ev_nx (s1 := (176, 42, [.ref l0], [.ref l0], (sh, M, J))) f_176_41 rfl ?_
  refine ev_gd (s1 := (176, 45, [.ref l0], [.int (M l0 5)], (sh, M, J))) f_176_42 rfl ?_
  exact ev_r1 f_176_45 rfl
theorem f_177_0 : xfind (xnth xTs 177) 0 = some (0, .aload_n 0, 1, (0, 0, 0, 0), .null, [], 0, 0, []) := rfl
theorem f_177_1 : xfind (xnth xTs 177) 1 = some (1, .getfield 16, 3, (9, 2, 1, 0), .null, [], 911, 0, []) := rfl
theorem f_177_4 : xfind (xnth xTs 177) 4 = some (4, .iconst 0, 1, (0, 0, 0, 0), (.int 0), [], 0, 0, []) := rfl
theorem f_177_5 : xfind (xnth xTs 177) 5 = some (5, .aload_n 0, 1, (0, 0, 0, 0), .null, [], 0, 0, []) := rfl
theorem f_177_6 : xfind (xnth xTs 177) 6 = some (6, .getfield 19, 3, (9, 3, 1, 0), .null, [], 912, 0, []) := rfl
theorem f_177_9 : xfind (xnth xTs 177) 9 = some (9, .iconst 0, 1, (0, 0, 0, 0), (.int 0), [], 0, 0, []) := rfl
theorem f_177_10 : xfind (xnth xTs 177) 10 = some (10, .bipush 62, 2, (0, 0, 0, 0), (.int 62), [], 0, 0, []) := rfl
theorem f_177_12 : xfind (xnth xTs 177) 12 = some (12, .invokestatic 76, 3, (136, 5, 9, 6), .null, [], 906, 0, []) := rfl
theorem f_177_15 : xfind (xnth xTs 177) 15 = some (15, .return_, 1, (0, 0, 0, 0), .null, [], 0, 0, []) := rfl
theorem b_R_layAside_0 (sh : xSh) (M : Nat → Nat → Int32) (J : Nat → Nat → Int64) (l0 : Nat) : ev (177, 0, [.ref l0], [], (sh, M, J)) = (bif decide ((sh.2.2.1 l0).1 = 9) then bif decide ((sh.2.2.1 l0).1 = 9) then (ev (136, 0, [.ref (sh.2.2.2 l0 2), .int 0, .ref (sh.2.2.2 l0 3), .int 0, .int 62, .null], [], (sh, M, J))).bind (fun r => ev (177, 15, [.ref l0], r.1.toList ++ [], r.2)) else none else none) := by
  refine ev_nx (s1 := (177, 1, [.ref l0], [.ref l0], (sh, M, J))) f_177_0 rfl ?_
  refine ev_gd (s1 := (177, 4, [.ref l0], [.ref (sh.2.2.2 l0 2)], (sh, M, J))) f_177_1 rfl ?_
  refine ev_nx (s1 := (177, 5, [.ref l0], [.int 0, .ref (sh.2.2.2 l0 2)], (sh, M, J))) f_177_4 rfl ?_
  refine ev_nx (s1 := (177, 6, [.ref l0], [.ref l0, .int 0, .ref (sh.2.2.2 l0 2)], (sh, M, J))) f_177_5 rfl ?_
  refine ev_gd (s1 := (177, 9, [.ref l0], [.ref (sh.2.2.2 l0 3), .int 0, .ref (sh.2.2.2 l0 2)], (sh, M, J))) f_177_6 rfl ?_
  refine ev_nx (s1 := (177, 10, [.ref l0], [.int 0, .ref (sh.2.2.2 l0 3), .int 0, .ref (sh.2.2.2 l0 2)], (sh, M, J))) f_177_9 rfl ?_
  refine ev_nx (s1 := (177, 12, [.ref l0], [.int 62, .int 0, .ref (sh.2.2.2 l0 3), .int 0, .ref (sh.2.2.2 l0 2)], (sh, M, J))) f_177_10 rfl ?_
  exact ev_c1 (s1 := (136, 0, [.ref (sh.2.2.2 l0 2), .int 0, .ref (sh.2.2.2 l0 3), .int 0, .int 62, .null], [], (sh, M, J))) (k := (177, 15, [.ref l0], [])) f_177_12 rfl
theorem b_R_layAside_15 (sh : xSh) (M : Nat → Nat → Int32) (J : Nat → Nat → Int64) (l0 : Nat) : ev (177, 15, [.ref l0], [], (sh, M, J)) = (some (none, (sh, M, J))) := by
  exact ev_r1 f_177_15 rfl
theorem f_178_0 : xfind (xnth xTs 178) 0 = some (0, .iload_n 1, 1, (0, 0, 0, 0), .null, [], 0, 0, []) := rfl
theorem f_178_1 : xfind (xnth xTs 178) 1 = some (1, .i2l, 1, (0, 0, 0, 0), .null, [], 0, 0, []) := rfl
theorem f_178_2 : xfind (xnth xTs 178) 2 = some (2, .lconst 0, 1, (0, 0, 0, 0), (.long 0), [], 0, 0, []) := rfl
theorem f_178_3 : xfind (xnth xTs 178) 3 = some (3, .ldc2_w 201, 3, (0, 0, 0, 0), (.long 20), [], 1118, 0, []) := rfl
theorem f_178_6 : xfind (xnth xTs 178) 6 = some (6, .invokestatic 68, 3, (132, 3, 9, 6), .null, [], 897, 0, []) := rfl
theorem f_178_9 : xfind (xnth xTs 178) 9 = some (9, .ifCond .ne 6, 3, (0, 0, 0, 0), .null, [], 0, 0, []) := rfl
theorem f_178_12 : xfind (xnth xTs 178) 12 = some (12, .ldc 91, 2, (0, 0, 0, 0), (.int (-1000000002)), [], 994, 0, []) := rfl
theorem f_178_14 : xfind (xnth xTs 178) 14 = some (14, .ireturn, 1, (0, 0, 0, 0), .null, [], 0, 0, []) := rfl
theorem f_178_15 : xfind (xnth xTs 178) 15 = some (15, .aload_n 0, 1, (0, 0, 0, 0), .null, [], 0, 0, []) := rfl
theorem f_178_16 : xfind (xnth xTs 178) 16 = some (16, .invokevirtual 231, 3, (177, 0, 9, 1), .null, [], 1167, 0, []) := rfl
theorem f_178_19 : xfind (xnth xTs 178) 19 = some (19, .iconst 0, 1, (0, 0, 0, 0), (.int 0), [], 0, 0, []) := rfl
theorem f_178_20 : xfind (xnth xTs 178) 20 = some (20, .istore_n 2, 1, (0, 0, 0, 0), .null, [], 0, 0, []) := rfl
theorem f_178_21 : xfind (xnth xTs 178) 21 = some (21, .iload_n 2, 1, (0, 0, 0, 0), .null, [], 0, 1, [3]) := rfl
theorem f_178_22 : xfind (xnth xTs 178) 22 = some (22, .iload_n 1, 1, (0, 0, 0, 0), .null, [], 0, 0, []) := rfl
theorem f_178_23 : xfind (xnth xTs 178) 23 = some (23, .if_icmp .ge 18, 3, (0, 0, 0, 0), .null, [], 0, 0, []) := rfl
theorem f_178_26 : xfind (xnth xTs 178) 26 = some (26, .aload_n 0, 1, (0, 0, 0, 0), .null, [], 0, 0, []) := rfl
theorem f_178_27 : xfind (xnth xTs 178) 27 = some (27, .aload_n 0, 1, (0, 0, 0, 0), .null, [], 0, 0, []) := rfl
theorem f_178_28 : xfind (xnth xTs 178) 28 = some (28, .getfield 19, 3, (9, 3, 1, 0), .null, [], 912, 0, []) := rfl
theorem f_178_31 : xfind (xnth xTs 178) 31 = some (31, .invokevirtual 210, 3, (162, 1, 9, 5), .null, [], 1124, 0, []) := rfl
theorem f_178_34 : xfind (xnth xTs 178) 34 = some (34, .istore_n 3, 1, (0, 0, 0, 0), .null, [], 0, 0, []) := rfl
theorem f_178_35 : xfind (xnth xTs 178) 35 = some (35, .iinc 2 1, 3, (0, 0, 0, 0), .null, [], 0, 0, []) := rfl
theorem f_178_38 : xfind (xnth xTs 178) 38 = some (38, .goto (-17), 3, (0, 0, 0, 0), .null, [], 0, 0, []) := rfl
theorem f_178_41 : xfind (xnth xTs 178) 41 = some (41, .aload_n 0, 1, (0, 0, 0, 0), .null, [], 0, 0, []) := rfl
theorem f_178_42 : xfind (xnth xTs 178) 42 = some (42, .aload_n 0, 1, (0, 0, 0, 0), .null, [], 0, 0, []) := rfl
theorem f_178_43 : xfind (xnth xTs 178) 43 = some (43, .getfield 19, 3, (9, 3, 1, 0), .null, [], 912, 0, []) := rfl
theorem f_178_46 : xfind (xnth xTs 178) 46 = some (46, .invokevirtual 177, 3, (160, 1, 9, 7), .null, [], 1053, 0, []) := rfl
theorem f_178_49 : xfind (xnth xTs 178) 49 = some (49, .ireturn, 1, (0, 0, 0, 0), .null, [], 0, 0, []) := rfl
theorem hd_178_21 : xhead 178 21 = some [3] := rfl
theorem b_R_who_0 (sh : xSh) (M : Nat → Nat → Int32) (J : Nat → Nat → Int64) (l0 : Nat) (l1 : Int32) : ev (178, 0, [.ref l0, .int l1, .null, .null], [], (sh, M, J)) = ((ev (132, 0, [.long (l1 : Int32).toInt64, .null, .long 0, .null, .long 20, .null], [], (sh, M, J))).bind (fun r => ev (178, 9, [.ref l0, .int l1, .null, .null], r.1.toList ++ [], r.2))) := by
  refine ev_nx (s1 := (178, 1, [.ref l0, .int l1, .null, .null], [.int l1], (sh, M, J))) f_178_0 rfl ?_
  refine ev_nx (s1 := (178, 2, [.ref l0, .int l1, .null, .null], [.long (l1 : Int32).toInt64], (sh, M, J))) f_178_1 rfl ?_
  refine ev_nx (s1 := (178, 3, [.ref l0, .int l1, .null, .null], [.long 0, .long (l1 : Int32).toInt64], (sh, M, J))) f_178_2 rfl ?_
  refine ev_nx (s1 := (178, 6, [.ref l0, .int l1, .null, .null], [.long 20, .long 0, .long (l1 : Int32).toInt64], (sh, M, J))) f_178_3 rfl ?_
  exact ev_c1 (s1 := (132, 0, [.long (l1 : Int32).toInt64, .null, .long 0, .null, .long 20, .null], [], (sh, M, J))) (k := (178, 9, [.ref l0, .int l1, .null, .null], [])) f_178_6 rfl
theorem b_R_who_9 (sh : xSh) (M : Nat → Nat → Int32) (J : Nat → Nat → Int64) (l0 : Nat) (l1 : Int32) (k0 : Int32) : ev (178, 9, [.ref l0, .int l1, .null, .null], [.int k0], (sh, M, J)) = (bif !decide (k0 = 0) then bif (decide ((sh.2.2.1 l0).1 = 9) && true) then (ev (177, 0, [.ref l0], [], (sh, M, J))).bind (fun r => ev (178, 19, [.ref l0, .int l1, .null, .null], r.1.toList ++ [], r.2)) else none else some (some (.int (-1000000002)), (sh, M, J))) := by
  refine ev_br (s1 := (178, 15, [.ref l0, .int l1, .null, .null], [], (sh, M, J))) (s2 := (178, 12, [.ref l0, .int l1, .null, .null], [], (sh, M, J))) f_178_9 rfl ?_ ?_
  · refine ev_nx (s1 := (178, 16, [.ref l0, .int l1, .null, .null], [.ref l0], (sh, M, J))) f_178_15 rfl ?_
    exact ev_ca (cc := (decide ((sh.2.2.1 l0).1 = 9) && true)) (s1 := (177, 0, [.ref l0], [], (sh, M, J))) (k := (178, 19, [.ref l0, .int l1, .null, .null], [])) f_178_16 rfl
  · refine ev_nx (s1 := (178, 14, [.ref l0, .int l1, .null, .null], [.int (-1000000002)], (sh, M, J))) f_178_12 rfl ?_
    exact ev_r1 f_178_14 rfl
theorem b_R_who_19 (sh : xSh) (M : Nat → Nat → Int32) (J : Nat → Nat → Int64) (l0 : Nat) (l1 : Int32) : ev (178, 19, [.ref l0, .int l1, .null, .null], [], (sh, M, J)) = (ev (178, 21, [.ref l0, .int l1, .int 0, .null], [], (sh, M, J))) := by
  refine ev_nx (s1 := (178, 20, [.ref l0, .int l1, .null, .null], [.int 0], (sh, M, J))) f_178_19 rfl ?_
  refine ev_nx (s1 := (178, 21, [.ref l0, .int l1, .int 0, .null], [], (sh, M, J))) f_178_20 rfl ?_
  exact rfl
theorem b_R_who_21 (sh : xSh) (M : Nat → Nat → Int32) (J : Nat → Nat → Int64) (l0 : Nat) (l1 : Int32) (l2 : Int32) : ev (178, 21, [.ref l0, .int l1, .int l2, .null], [], (sh, M, J)) = (bif decide (l1 ≤ l2) then bif decide ((sh.2.2.1 l0).1 = 9) then bif (decide ((sh.2.2.1 l0).1 = 9) && true) then (ev (160, 0, [.ref l0, .ref (sh.2.2.2 l0 3), .null, .null, .null, .null, .null], [], (sh, M, J))).bind (fun r => ev (178, 49, [.ref l0, .int l1, .int l2, .null], r.1.toList ++ [], r.2)) else none else none else bif decide ((sh.2.2.1 l0).1 = 9) then bif (decide ((sh.2.2.1 l0).1 = 9) && true) then (ev (162, 0, [.ref l0, .ref (sh.2.2.2 l0 3), .null, .null, .null], [], (sh, M, J))).bind (fun r => ev (178, 34, [.ref l0, .int l1, .int l2, .null], r.1.toList ++ [], r.2)) else none else none) := by
  refine ev_nx (s1 := (178, 22, [.ref l0, .int l1, .int l2, .null], [.int l2], (sh, M, J))) f_178_21 rfl ?_
  refine ev_nx (s1 := (178, 23, [.ref l0, .int l1, .int l2, .null], [.int l1, .int l2], (sh, M, J))) f_178_22 rfl ?_
  refine ev_br (s1 := (178, 41, [.ref l0, .int l1, .int l2, .null], [], (sh, M, J))) (s2 := (178, 26, [.ref l0, .int l1, .int l2, .null], [], (sh, M, J))) f_178_23 rfl ?_ ?_
  · refine ev_nx (s1 := (178, 42, [.ref l0, .int l1, .int l2, .null], [.ref l0], (sh, M, J))) f_178_41 rfl ?_
    refine ev_nx (s1 := (178, 43, [.ref l0, .int l1, .int l2, .null], [.ref l0, .ref l0], (sh, M, J))) f_178_42 rfl ?_
    refine ev_gd (s1 := (178, 46, [.ref l0, .int l1, .int l2, .null], [.ref (sh.2.2.2 l0 3), .ref l0], (sh, M, J))) f_178_43 rfl ?_
    exact ev_ca (cc := (decide ((sh.2.2.1 l0).1 = 9) && true)) (s1 := (160, 0, [.ref l0, .ref (sh.2.2.2 l0 3), .null, .null, .null, .null, .null], [], (sh, M, J))) (k := (178, 49, [.ref l0, .int l1, .int l2, .null], [])) f_178_46 rfl
  · refine ev_nx (s1 := (178, 27, [.ref l0, .int l1, .int l2, .null], [.ref l0], (sh, M, J))) f_178_26 rfl ?_
    refine ev_nx (s1 := (178, 28, [.ref l0, .int l1, .int l2, .null], [.ref l0, .ref l0], (sh, M, J))) f_178_27 rfl ?_
    refine ev_gd (s1 := (178, 31, [.ref l0, .int l1, .int l2, .null], [.ref (sh.2.2.2 l0 3), .ref l0], (sh, M, J))) f_178_28 rfl ?_
    exact ev_ca (cc := (decide ((sh.2.2.1 l0).1 = 9) && true)) (s1 := (162, 0, [.ref l0, .ref (sh.2.2.2 l0 3), .null, .null, .null], [], (sh, M, J))) (k := (178, 34, [.ref l0, .int l1, .int l2, .null], [])) f_178_31 rfl
theorem b_R_who_34 (sh : xSh) (M : Nat → Nat → Int32) (J : Nat → Nat → Int64) (l0 : Nat) (l1 : Int32) (l2 : Int32) (k0 : Int32) : ev (178, 34, [.ref l0, .int l1, .int l2, .null], [.int k0], (sh, M, J)) = (ev (178, 21, [.ref l0, .int l1, .int (l2 + 1), .null], [], (sh, M, J))) := by
  refine ev_nx (s1 := (178, 35, [.ref l0, .int l1, .int l2, .int k0], [], (sh, M, J))) f_178_34 rfl ?_
  refine ev_nx (s1 := (178, 38, [.ref l0, .int l1, .int (l2 + 1), .int k0], [], (sh, M, J))) f_178_35 rfl ?_
  refine ev_nx (s1 := (178, 21, [.ref l0, .int l1, .int (l2 + 1), .int k0], [], (sh, M, J))) f_178_38 rfl ?_
  exact (ev_kill hd_178_21).symm
theorem b_R_who_49 (sh : xSh) (M : Nat → Nat → Int32) (J : Nat → Nat → Int64) (l0 : Nat) (l1 : Int32) (l2 : Int32) (k0 : Int32) : ev (178, 49, [.ref l0, .int l1, .int l2, .null], [.int k0], (sh, M, J)) = (some (some (.int k0), (sh, M, J))) := by
  exact ev_r1 f_178_49 rfl
theorem f_179_0 : xfind (xnth xTs 179) 0 = some (0, .aload_n 0, 1, (0, 0, 0, 0), .null, [], 0, 0, []) := rfl
theorem f_179_1 : xfind (xnth xTs 179) 1 = some (1, .invokevirtual 231, 3, (177, 0, 9, 1), .null, [], 1167, 0, []) := rfl
theorem f_179_4 : xfind (xnth xTs 179) 4 = some (4, .iconst 0, 1, (0, 0, 0, 0), (.int 0), [], 0, 0, []) := rfl
theorem f_179_5 : xfind (xnth xTs 179) 5 = some (5, .istore_n 1, 1, (0, 0, 0, 0), .null, [], 0, 0, []) := rfl
theorem f_179_6 : xfind (xnth xTs 179) 6 = some (6, .iload_n 1, 1, (0, 0, 0, 0), .null, [], 0, 1, [2]) := rfl
theorem f_179_7 : xfind (xnth xTs 179) 7 = some (7, .bipush 41, 2, (0, 0, 0, 0), (.int 41), [], 0, 0, []) := rfl
theorem f_179_9 : xfind (xnth xTs 179) 9 = some (9, .if_icmp .ge 30, 3, (0, 0, 0, 0), .null, [], 0, 0, []) := rfl
theorem f_179_12 : xfind (xnth xTs 179) 12 = some (12, .aload_n 0, 1, (0, 0, 0, 0), .null, [], 0, 0, []) := rfl
theorem f_179_13 : xfind (xnth xTs 179) 13 = some (13, .getfield 19, 3, (9, 3, 1, 0), .null, [], 912, 0, []) := rfl
theorem f_179_16 : xfind (xnth xTs 179) 16 = some (16, .bipush 20, 2, (0, 0, 0, 0), (.int 20), [], 0, 0, []) := rfl
theorem f_179_18 : xfind (xnth xTs 179) 18 = some (18, .iaload, 1, (0, 0, 0, 0), .null, [], 0, 0, []) := rfl
theorem f_179_19 : xfind (xnth xTs 179) 19 = some (19, .ifCond .ne 5, 3, (0, 0, 0, 0), .null, [], 0, 0, []) := rfl
theorem f_179_22 : xfind (xnth xTs 179) 22 = some (22, .iload_n 1, 1, (0, 0, 0, 0), .null, [], 0, 0, []) := rfl
theorem f_179_23 : xfind (xnth xTs 179) 23 = some (23, .ireturn, 1, (0, 0, 0, 0), .null, [], 0, 0, []) := rfl
theorem f_179_24 : xfind (xnth xTs 179) 24 = some (24, .aload_n 0, 1, (0, 0, 0, 0), .null, [], 0, 0, []) := rfl
theorem f_179_25 : xfind (xnth xTs 179) 25 = some (25, .aload_n 0, 1, (0, 0, 0, 0), .null, [], 0, 0, []) := rfl
theorem f_179_26 : xfind (xnth xTs 179) 26 = some (26, .getfield 19, 3, (9, 3, 1, 0), .null, [], 912, 0, []) := rfl
theorem f_179_29 : xfind (xnth xTs 179) 29 = some (29, .invokevirtual 210, 3, (162, 1, 9, 5), .null, [], 1124, 0, []) := rfl
theorem f_179_32 : xfind (xnth xTs 179) 32 = some (32, .istore_n 2, 1, (0, 0, 0, 0), .null, [], 0, 0, []) := rfl
theorem f_179_33 : xfind (xnth xTs 179) 33 = some (33, .iinc 1 1, 3, (0, 0, 0, 0), .null, [], 0, 0, []) := rfl
theorem f_179_36 : xfind (xnth xTs 179) 36 = some (36, .goto (-30), 3, (0, 0, 0, 0), .null, [], 0, 0, []) := rfl
theorem f_179_39 : xfind (xnth xTs 179) 39 = some (39, .iconst (-1), 1, (0, 0, 0, 0), (.int (-1)), [], 0, 0, []) := rfl
theorem f_179_40 : xfind (xnth xTs 179) 40 = some (40, .ireturn, 1, (0, 0, 0, 0), .null, [], 0, 0, []) := rfl
theorem hd_179_6 : xhead 179 6 = some [2] := rfl
theorem b_R_wholeBy_0 (sh : xSh) (M : Nat → Nat → Int32) (J : Nat → Nat → Int64) (l0 : Nat) : ev (179, 0, [.ref l0, .null, .null], [], (sh, M, J)) = (bif (decide ((sh.2.2.1 l0).1 = 9) && true) then (ev (177, 0, [.ref l0], [], (sh, M, J))).bind (fun r => ev (179, 4, [.ref l0, .null, .null], r.1.toList ++ [], r.2)) else none) := by
  refine ev_nx (s1 := (179, 1, [.ref l0, .null, .null], [.ref l0], (sh, M, J))) f_179_0 rfl ?_
  exact ev_ca (cc := (decide ((sh.2.2.1 l0).1 = 9) && true)) (s1 := (177, 0, [.ref l0], [], (sh, M, J))) (k := (179, 4, [.ref l0, .null, .null], [])) f_179_1 rfl
theorem b_R_wholeBy_4 (sh : xSh) (M : Nat → Nat → Int32) (J : Nat → Nat → Int64) (l0 : Nat) : ev (179, 4, [.ref l0, .null, .null], [], (sh, M, J)) = (ev (179, 6, [.ref l0, .int 0, .null], [], (sh, M, J))) := by
  refine ev_nx (s1 := (179, 5, [.ref l0, .null, .null], [.int 0], (sh, M, J))) f_179_4 rfl ?_
  refine ev_nx (s1 := (179, 6, [.ref l0, .int 0, .null], [], (sh, M, J))) f_179_5 rfl ?_
  exact rfl
theorem b_R_wholeBy_6 (sh : xSh) (M : Nat → Nat → Int32) (J : Nat → Nat → Int64) (l0 : Nat) (l1 : Int32) : ev (179, 6, [.ref l0, .int l1, .null], [], (sh, M, J)) = (bif decide (41 ≤ l1) then some (some (.int (-1)), (sh, M, J)) else bif decide ((sh.2.2.1 l0).1 = 9) then bif (decide ((sh.2.2.1 (sh.2.2.2 l0 3)).1 = 11) && xin 20 (sh.2.2.1 (sh.2.2.2 l0 3)).2) then bif !decide ((M (sh.2.2.2 l0 3) (20 : Int32).toNatClampNeg) = 0) then bif decide ((sh.2.2.1 l0).1 = 9) then bif (decide ((sh.2.2.1 l0).1 = 9) && true) then (ev (162, 0, [.ref l0, .ref (sh.2.2.2 l0 3), .null, .null, .null], [], (sh, M, J))).bind (fun r => ev (179, 32, [.ref l0, .int l1, .null], r.1.toList ++ [], r.2)) else none else none else some (some (.int l1), (sh, M, J)) else none else none) := by
  refine ev_nx (s1 := (179, 7, [.ref l0, .int l1, .null], [.int l1], (sh, M, J))) f_179_6 rfl ?_
  refine ev_nx (s1 := (179, 9, [.ref l0, .int l1, .null], [.int 41, .int l1], (sh, M, J))) f_179_7 rfl ?_
  refine ev_br (s1 := (179, 39, [.ref l0, .int l1, .null], [], (sh, M, J))) (s2 := (179, 12, [.ref l0, .int l1, .null], [], (sh, M, J))) f_179_9 rfl ?_ ?_
  · refine ev_nx (s1 := (179, 40, [.ref l0, .int l1, .null], [.int (-1)], (sh, M, J))) f_179_39 rfl ?_
    exact ev_r1 f_179_40 rfl
  · refine ev_nx (s1 := (179, 13, [.ref l0, .int l1, .null], [.ref l0], (sh, M, J))) f_179_12 rfl ?_
    refine ev_gd (s1 := (179, 16, [.ref l0, .int l1, .null], [.ref (sh.2.2.2 l0 3)], (sh, M, J))) f_179_13 rfl ?_
    refine ev_nx (s1 := (179, 18, [.ref l0, .int l1, .null], [.int 20, .ref (sh.2.2.2 l0 3)], (sh, M, J))) f_179_16 rfl ?_
    refine ev_gd (s1 := (179, 19, [.ref l0, .int l1, .null], [.int (M (sh.2.2.2 l0 3) (20 : Int32).toNatClampNeg)], (sh, M, J))) f_179_18 rfl ?_
    refine ev_br (s1 := (179, 24, [.ref l0, .int l1, .null], [], (sh, M, J))) (s2 := (179, 22, [.ref l0, .int l1, .null], [], (sh, M, J))) f_179_19 rfl ?_ ?_
    · refine ev_nx (s1 := (179, 25, [.ref l0, .int l1, .null], [.ref l0], (sh, M, J))) f_179_24 rfl ?_
      refine ev_nx (s1 := (179, 26, [.ref l0, .int l1, .null], [.ref l0, .ref l0], (sh, M, J))) f_179_25 rfl ?_
      refine ev_gd (s1 := (179, 29, [.ref l0, .int l1, .null], [.ref (sh.2.2.2 l0 3), .ref l0], (sh, M, J))) f_179_26 rfl ?_
      exact ev_ca (cc := (decide ((sh.2.2.1 l0).1 = 9) && true)) (s1 := (162, 0, [.ref l0, .ref (sh.2.2.2 l0 3), .null, .null, .null], [], (sh, M, J))) (k := (179, 32, [.ref l0, .int l1, .null], [])) f_179_29 rfl
    · refine ev_nx (s1 := (179, 23, [.ref l0, .int l1, .null], [.int l1], (sh, M, J))) f_179_22 rfl ?_
      exact ev_r1 f_179_23 rfl
theorem b_R_wholeBy_32 (sh : xSh) (M : Nat → Nat → Int32) (J : Nat → Nat → Int64) (l0 : Nat) (l1 : Int32) (k0 : Int32) : ev (179, 32, [.ref l0, .int l1, .null], [.int k0], (sh, M, J)) = (ev (179, 6, [.ref l0, .int (l1 + 1), .null], [], (sh, M, J))) := by
  refine ev_nx (s1 := (179, 33, [.ref l0, .int l1, .int k0], [], (sh, M, J))) f_179_32 rfl ?_
  refine ev_nx (s1 := (179, 36, [.ref l0, .int (l1 + 1), .int k0], [], (sh, M, J))) f_179_33 rfl ?_
  refine ev_nx (s1 := (179, 6, [.ref l0, .int (l1 + 1), .int k0], [], (sh, M, J))) f_179_36 rfl ?_
  exact (ev_kill hd_179_6).symm
theorem f_180_0 : xfind (xnth xTs 180) 0 = some (0, .iconst 1, 1, (0, 0, 0, 0), (.int 1), [], 0, 0, []) := rfl
theorem f_180_1 : xfind (xnth xTs 180) 1 = some (1, .istore_n 1, 1, (0, 0, 0, 0), .null, [], 0, 0, []) := rfl
theorem f_180_2 : xfind (xnth xTs 180) 2 = some (2, .iconst 0, 1, (0, 0, 0, 0), (.int 0), [], 0, 0, []) := rfl
theorem f_180_3 : xfind (xnth xTs 180) 3 = some (3, .istore_n 2, 1, (0, 0, 0, 0), .null, [], 0, 0, []) := rfl
theorem f_180_4 : xfind (xnth xTs 180) 4 = some (4, .iload_n 2, 1, (0, 0, 0, 0), .null, [], 0, 1, []) := rfl
theorem f_180_5 : xfind (xnth xTs 180) 5 = some (5, .aload_n 0, 1, (0, 0, 0, 0), .null, [], 0, 0, []) := rfl
theorem f_180_6 : xfind (xnth xTs 180) 6 = some (6, .getfield 7, 3, (9, 0, 1, 0), .null, [], 909, 0, []) := rfl
theorem f_180_9 : xfind (xnth xTs 180) 9 = some (9, .iconst 2, 1, (0, 0, 0, 0), (.int 2), [], 0, 0, []) := rfl
theorem f_180_10 : xfind (xnth xTs 180) 10 = some (10, .iaload, 1, (0, 0, 0, 0), .null, [], 0, 0, []) := rfl
theorem f_180_11 : xfind (xnth xTs 180) 11 = some (11, .if_icmp .ge 18, 3, (0, 0, 0, 0), .null, [], 0, 0, []) := rfl
theorem f_180_14 : xfind (xnth xTs 180) 14 = some (14, .iload_n 1, 1, (0, 0, 0, 0), .null, [], 0, 0, []) := rfl
theorem f_180_15 : xfind (xnth xTs 180) 15 = some (15, .aload_n 0, 1, (0, 0, 0, 0), .null, [], 0, 0, []) := rfl
theorem f_180_16 : xfind (xnth xTs 180) 16 = some (16, .getfield 7, 3, (9, 0, 1, 0), .null, [], 909, 0, []) := rfl
theorem f_180_19 : xfind (xnth xTs 180) 19 = some (19, .iconst 0, 1, (0, 0, 0, 0), (.int 0), [], 0, 0, []) := rfl
theorem f_180_20 : xfind (xnth xTs 180) 20 = some (20, .iaload, 1, (0, 0, 0, 0), .null, [], 0, 0, []) := rfl
theorem f_180_21 : xfind (xnth xTs 180) 21 = some (21, .imul, 1, (0, 0, 0, 0), .null, [], 0, 0, []) := rfl
theorem f_180_22 : xfind (xnth xTs 180) 22 = some (22, .istore_n 1, 1, (0, 0, 0, 0), .null, [], 0, 0, []) := rfl
theorem f_180_23 : xfind (xnth xTs 180) 23 = some (23, .iinc 2 1, 3, (0, 0, 0, 0), .null, [], 0, 0, []) := rfl
theorem f_180_26 : xfind (xnth xTs 180) 26 = some (26, .goto (-22), 3, (0, 0, 0, 0), .null, [], 0, 0, []) := rfl
theorem f_180_29 : xfind (xnth xTs 180) 29 = some (29, .iload_n 1, 1, (0, 0, 0, 0), .null, [], 0, 0, []) := rfl
theorem f_180_30 : xfind (xnth xTs 180) 30 = some (30, .ireturn, 1, (0, 0, 0, 0), .null, [], 0, 0, []) := rfl
theorem hd_180_4 : xhead 180 4 = some [] := rfl
theorem b_R_codes_0 (sh : xSh) (M : Nat → Nat → Int32) (J : Nat → Nat → Int64) (l0 : Nat) : ev (180, 0, [.ref l0, .null, .null], [], (sh, M, J)) = (ev (180, 4, [.ref l0, .int 1, .int 0], [], (sh, M, J))) := by
  refine ev_nx (s1 := (180, 1, [.ref l0, .null, .null], [.int 1], (sh, M, J))) f_180_0 rfl ?_
  refine ev_nx (s1 := (180, 2, [.ref l0, .int 1, .null], [], (sh, M, J))) f_180_1 rfl ?_
  refine ev_nx (s1 := (180, 3, [.ref l0, .int 1, .null], [.int 0], (sh, M, J))) f_180_2 rfl ?_
  refine ev_nx (s1 := (180, 4, [.ref l0, .int 1, .int 0], [], (sh, M, J))) f_180_3 rfl ?_
  exact rfl
theorem b_R_codes_4 (sh : xSh) (M : Nat → Nat → Int32) (J : Nat → Nat → Int64) (l0 : Nat) (l1 : Int32) (l2 : Int32) : ev (180, 4, [.ref l0, .int l1, .int l2], [], (sh, M, J)) = (bif decide ((sh.2.2.1 l0).1 = 9) then bif (decide ((sh.2.2.1 (sh.2.2.2 l0 0)).1 = 11) && xin 2 (sh.2.2.1 (sh.2.2.2 l0 0)).2) then bif decide ((M (sh.2.2.2 l0 0) (2 : Int32).toNatClampNeg) ≤ l2) then some (some (.int l1), (sh, M, J)) else bif decide ((sh.2.2.1 l0).1 = 9) then bif (decide ((sh.2.2.1 (sh.2.2.2 l0 0)).1 = 11) && xin 0 (sh.2.2.1 (sh.2.2.2 l0 0)).2) then ev (180, 4, [.ref l0, .int (l1 * (M (sh.2.2.2 l0 0) (0 : Int32).toNatClampNeg)), .int (l2 + 1)], [], (sh, M, J)) else none else none else none else none) := by
  refine ev_nx (s1 := (180, 5, [.ref l0, .int l1, .int l2], [.int l2], (sh, M, J))) f_180_4 rfl ?_
  refine ev_nx (s1 := (180, 6, [.ref l0, .int l1, .int l2], [.ref l0, .int l2], (sh, M, J))) f_180_5 rfl ?_
  refine ev_gd (s1 := (180, 9, [.ref l0, .int l1, .int l2], [.ref (sh.2.2.2 l0 0), .int l2], (sh, M, J))) f_180_6 rfl ?_
  refine ev_nx (s1 := (180, 10, [.ref l0, .int l1, .int l2], [.int 2, .ref (sh.2.2.2 l0 0), .int l2], (sh, M, J))) f_180_9 rfl ?_
  refine ev_gd (s1 := (180, 11, [.ref l0, .int l1, .int l2], [.int (M (sh.2.2.2 l0 0) (2 : Int32).toNatClampNeg), .int l2], (sh, M, J))) f_180_10 rfl ?_
  refine ev_br (s1 := (180, 29, [.ref l0, .int l1, .int l2], [], (sh, M, J))) (s2 := (180, 14, [.ref l0, .int l1, .int l2], [], (sh, M, J))) f_180_11 rfl ?_ ?_
  · refine ev_nx (s1 := (180, 30, [.ref l0, .int l1, .int l2], [.int l1], (sh, M, J))) f_180_29 rfl ?_
    exact ev_r1 f_180_30 rfl
  · refine ev_nx (s1 := (180, 15, [.ref l0, .int l1, .int l2], [.int l1], (sh, M, J))) f_180_14 rfl ?_
    refine ev_nx (s1 := (180, 16, [.ref l0, .int l1, .int l2], [.ref l0, .int l1], (sh, M, J))) f_180_15 rfl ?_
    refine ev_gd (s1 := (180, 19, [.ref l0, .int l1, .int l2], [.ref (sh.2.2.2 l0 0), .int l1], (sh, M, J))) f_180_16 rfl ?_
    refine ev_nx (s1 := (180, 20, [.ref l0, .int l1, .int l2], [.int 0, .ref (sh.2.2.2 l0 0), .int l1], (sh, M, J))) f_180_19 rfl ?_
    refine ev_gd (s1 := (180, 21, [.ref l0, .int l1, .int l2], [.int (M (sh.2.2.2 l0 0) (0 : Int32).toNatClampNeg), .int l1], (sh, M, J))) f_180_20 rfl ?_
    refine ev_nx (s1 := (180, 22, [.ref l0, .int l1, .int l2], [.int (l1 * (M (sh.2.2.2 l0 0) (0 : Int32).toNatClampNeg))], (sh, M, J))) f_180_21 rfl ?_
    refine ev_nx (s1 := (180, 23, [.ref l0, .int (l1 * (M (sh.2.2.2 l0 0) (0 : Int32).toNatClampNeg)), .int l2], [], (sh, M, J))) f_180_22 rfl ?_
    refine ev_nx (s1 := (180, 26, [.ref l0, .int (l1 * (M (sh.2.2.2 l0 0) (0 : Int32).toNatClampNeg)), .int (l2 + 1)], [], (sh, M, J))) f_180_23 rfl ?_
    refine ev_nx (s1 := (180, 4, [.ref l0, .int (l1 * (M (sh.2.2.2 l0 0) (0 : Int32).toNatClampNeg)), .int (l2 + 1)], [], (sh, M, J))) f_180_26 rfl ?_
    exact rfl
theorem f_181_0 : xfind (xnth xTs 181) 0 = some (0, .iload_n 1, 1, (0, 0, 0, 0), .null, [], 0, 0, []) := rfl
theorem f_181_1 : xfind (xnth xTs 181) 1 = some (1, .istore 4, 2, (0, 0, 0, 0), .null, [], 0, 0, []) := rfl
theorem f_181_3 : xfind (xnth xTs 181) 3 = some (3, .aload_n 0, 1, (0, 0, 0, 0), .null, [], 0, 0, []) := rfl
theorem f_181_4 : xfind (xnth xTs 181) 4 = some (4, .invokevirtual 231, 3, (177, 0, 9, 1), .null, [], 1167, 0, []) := rfl
theorem f_181_7 : xfind (xnth xTs 181) 7 = some (7, .aload_n 0, 1, (0, 0, 0, 0), .null, [], 0, 0, []) := rfl
theorem f_181_8 : xfind (xnth xTs 181) 8 = some (8, .getfield 7, 3, (9, 0, 1, 0), .null, [], 909, 0, []) := rfl
theorem f_181_11 : xfind (xnth xTs 181) 11 = some (11, .iconst 2, 1, (0, 0, 0, 0), (.int 2), [], 0, 0, []) := rfl
theorem f_181_12 : xfind (xnth xTs 181) 12 = some (12, .iaload, 1, (0, 0, 0, 0), .null, [], 0, 0, []) := rfl
theorem f_181_13 : xfind (xnth xTs 181) 13 = some (13, .iconst 1, 1, (0, 0, 0, 0), (.int 1), [], 0, 0, []) := rfl
theorem f_181_14 : xfind (xnth xTs 181) 14 = some (14, .isub, 1, (0, 0, 0, 0), .null, [], 0, 0, []) := rfl
theorem f_181_15 : xfind (xnth xTs 181) 15 = some (15, .istore 5, 2, (0, 0, 0, 0), .null, [], 0, 0, []) := rfl
theorem f_181_17 : xfind (xnth xTs 181) 17 = some (17, .iload 5, 2, (0, 0, 0, 0), .null, [], 0, 1, [1, 6]) := rfl
theorem f_181_19 : xfind (xnth xTs 181) 19 = some (19, .ifCond .lt 53, 3, (0, 0, 0, 0), .null, [], 0, 0, []) := rfl
theorem f_181_22 : xfind (xnth xTs 181) 22 = some (22, .aload_n 0, 1, (0, 0, 0, 0), .null, [], 0, 0, []) := rfl
theorem f_181_23 : xfind (xnth xTs 181) 23 = some (23, .getfield 45, 3, (9, 22, 1, 0), .null, [], 931, 0, []) := rfl
theorem f_181_26 : xfind (xnth xTs 181) 26 = some (26, .iload 5, 2, (0, 0, 0, 0), .null, [], 0, 0, []) := rfl
theorem f_181_28 : xfind (xnth xTs 181) 28 = some (28, .iload 4, 2, (0, 0, 0, 0), .null, [], 0, 0, []) := rfl
theorem f_181_30 : xfind (xnth xTs 181) 30 = some (30, .aload_n 0, 1, (0, 0, 0, 0), .null, [], 0, 0, []) := rfl
theorem f_181_31 : xfind (xnth xTs 181) 31 = some (31, .getfield 7, 3, (9, 0, 1, 0), .null, [], 909, 0, []) := rfl
theorem f_181_34 : xfind (xnth xTs 181) 34 = some (34, .iconst 0, 1, (0, 0, 0, 0), (.int 0), [], 0, 0, []) := rfl
theorem f_181_35 : xfind (xnth xTs 181) 35 = some (35, .iaload, 1, (0, 0, 0, 0), .null, [], 0, 0, []) := rfl
theorem f_181_36 : xfind (xnth xTs 181) 36 = some (36, .irem, 1, (0, 0, 0, 0), .null, [], 0, 0, []) := rfl
theorem f_181_37 : xfind (xnth xTs 181) 37 = some (37, .iastore, 1, (0, 0, 0, 0), .null, [], 0, 0, []) := rfl
theorem f_181_38 : xfind (xnth xTs 181) 38 = some (38, .iload 4, 2, (0, 0, 0, 0), .null, [], 0, 0, []) := rfl
theorem f_181_40 : xfind (xnth xTs 181) 40 = some (40, .aload_n 0, 1, (0, 0, 0, 0), .null, [], 0, 0, []) := rfl
theorem f_181_41 : xfind (xnth xTs 181) 41 = some (41, .getfield 7, 3, (9, 0, 1, 0), .null, [], 909, 0, []) := rfl
theorem f_181_44 : xfind (xnth xTs 181) 44 = some (44, .iconst 0, 1, (0, 0, 0, 0), (.int 0), [], 0, 0, []) := rfl
theorem f_181_45 : xfind (xnth xTs 181) 45 = some (45, .iaload, 1, (0, 0, 0, 0), .null, [], 0, 0, []) := rfl
theorem f_181_46 : xfind (xnth xTs 181) 46 = some (46, .idiv, 1, (0, 0, 0, 0), .null, [], 0, 0, []) := rfl
theorem f_181_47 : xfind (xnth xTs 181) 47 = some (47, .istore 4, 2, (0, 0, 0, 0), .null, [], 0, 0, []) := rfl
theorem f_181_49 : xfind (xnth xTs 181) 49 = some (49, .aload_n 0, 1, (0, 0, 0, 0), .null, [], 0, 0, []) := rfl
theorem f_181_50 : xfind (xnth xTs 181) 50 = some (50, .getfield 19, 3, (9, 3, 1, 0), .null, [], 912, 0, []) := rfl
theorem f_181_53 : xfind (xnth xTs 181) 53 = some (53, .bipush 41, 2, (0, 0, 0, 0), (.int 41), [], 0, 0, []) := rfl
theorem f_181_55 : xfind (xnth xTs 181) 55 = some (55, .iload 5, 2, (0, 0, 0, 0), .null, [], 0, 0, []) := rfl
theorem f_181_57 : xfind (xnth xTs 181) 57 = some (57, .iadd, 1, (0, 0, 0, 0), .null, [], 0, 0, []) := rfl
theorem f_181_58 : xfind (xnth xTs 181) 58 = some (58, .aload_n 0, 1, (0, 0, 0, 0), .null, [], 0, 0, []) := rfl
theorem f_181_59 : xfind (xnth xTs 181) 59 = some (59, .getfield 45, 3, (9, 22, 1, 0), .null, [], 931, 0, []) := rfl
theorem f_181_62 : xfind (xnth xTs 181) 62 = some (62, .iload 5, 2, (0, 0, 0, 0), .null, [], 0, 0, []) := rfl
theorem f_181_64 : xfind (xnth xTs 181) 64 = some (64, .iaload, 1, (0, 0, 0, 0), .null, [], 0, 0, []) := rfl
theorem f_181_65 : xfind (xnth xTs 181) 65 = some (65, .iastore, 1, (0, 0, 0, 0), .null, [], 0, 0, []) := rfl
theorem f_181_66 : xfind (xnth xTs 181) 66 = some (66, .iinc 5 (-1), 3, (0, 0, 0, 0), .null, [], 0, 0, []) := rfl
theorem f_181_69 : xfind (xnth xTs 181) 69 = some (69, .goto (-52), 3, (0, 0, 0, 0), .null, [], 0, 0, []) := rfl
theorem f_181_72 : xfind (xnth xTs 181) 72 = some (72, .iconst 0, 1, (0, 0, 0, 0), (.int 0), [], 0, 0, []) := rfl
theorem f_181_73 : xfind (xnth xTs 181) 73 = some (73, .istore 5, 2, (0, 0, 0, 0), .null, [], 0, 0, []) := rfl
theorem f_181_75 : xfind (xnth xTs 181) 75 = some (75, .iload 5, 2, (0, 0, 0, 0), .null, [], 0, 1, [1, 4, 6]) := rfl
theorem f_181_77 : xfind (xnth xTs 181) 77 = some (77, .iload_n 3, 1, (0, 0, 0, 0), .null, [], 0, 0, []) := rfl
theorem f_181_78 : xfind (xnth xTs 181) 78 = some (78, .if_icmp .ge 19, 3, (0, 0, 0, 0), .null, [], 0, 0, []) := rfl
theorem f_181_81 : xfind (xnth xTs 181) 81 = some (81, .aload_n 0, 1, (0, 0, 0, 0), .null, [], 0, 0, []) := rfl
theorem f_181_82 : xfind (xnth xTs 181) 82 = some (82, .aload_n 0, 1, (0, 0, 0, 0), .null, [], 0, 0, []) := rfl
theorem f_181_83 : xfind (xnth xTs 181) 83 = some (83, .getfield 19, 3, (9, 3, 1, 0), .null, [], 912, 0, []) := rfl
theorem f_181_86 : xfind (xnth xTs 181) 86 = some (86, .invokevirtual 210, 3, (162, 1, 9, 5), .null, [], 1124, 0, []) := rfl
theorem f_181_89 : xfind (xnth xTs 181) 89 = some (89, .istore 6, 2, (0, 0, 0, 0), .null, [], 0, 0, []) := rfl
theorem f_181_91 : xfind (xnth xTs 181) 91 = some (91, .iinc 5 1, 3, (0, 0, 0, 0), .null, [], 0, 0, []) := rfl
theorem f_181_94 : xfind (xnth xTs 181) 94 = some (94, .goto (-19), 3, (0, 0, 0, 0), .null, [], 0, 0, []) := rfl
theorem f_181_97 : xfind (xnth xTs 181) 97 = some (97, .aload_n 0, 1, (0, 0, 0, 0), .null, [], 0, 0, []) := rfl
theorem f_181_98 : xfind (xnth xTs 181) 98 = some (98, .getfield 19, 3, (9, 3, 1, 0), .null, [], 912, 0, []) := rfl
theorem f_181_101 : xfind (xnth xTs 181) 101 = some (101, .bipush 20, 2, (0, 0, 0, 0), (.int 20), [], 0, 0, []) := rfl
theorem f_181_103 : xfind (xnth xTs 181) 103 = some (103, .iaload, 1, (0, 0, 0, 0), .null, [], 0, 0, []) := rfl
theorem f_181_104 : xfind (xnth xTs 181) 104 = some (104, .ifCond .ne 28, 3, (0, 0, 0, 0), .null, [], 0, 0, []) := rfl
theorem f_181_107 : xfind (xnth xTs 181) 107 = some (107, .aload_n 0, 1, (0, 0, 0, 0), .null, [], 0, 0, []) := rfl
theorem f_181_108 : xfind (xnth xTs 181) 108 = some (108, .getfield 19, 3, (9, 3, 1, 0), .null, [], 912, 0, []) := rfl
theorem f_181_111 : xfind (xnth xTs 181) 111 = some (111, .bipush 56, 2, (0, 0, 0, 0), (.int 56), [], 0, 0, []) := rfl
theorem f_181_113 : xfind (xnth xTs 181) 113 = some (113, .iload_n 2, 1, (0, 0, 0, 0), .null, [], 0, 0, []) := rfl
theorem f_181_114 : xfind (xnth xTs 181) 114 = some (114, .iadd, 1, (0, 0, 0, 0), .null, [], 0, 0, []) := rfl
theorem f_181_115 : xfind (xnth xTs 181) 115 = some (115, .iaload, 1, (0, 0, 0, 0), .null, [], 0, 0, []) := rfl
theorem f_181_116 : xfind (xnth xTs 181) 116 = some (116, .aload_n 0, 1, (0, 0, 0, 0), .null, [], 0, 0, []) := rfl
theorem f_181_117 : xfind (xnth xTs 181) 117 = some (117, .getfield 16, 3, (9, 2, 1, 0), .null, [], 911, 0, []) := rfl
theorem f_181_120 : xfind (xnth xTs 181) 120 = some (120, .bipush 56, 2, (0, 0, 0, 0), (.int 56), [], 0, 0, []) := rfl
theorem f_181_122 : xfind (xnth xTs 181) 122 = some (122, .iload_n 2, 1, (0, 0, 0, 0), .null, [], 0, 0, []) := rfl
theorem f_181_123 : xfind (xnth xTs 181) 123 = some (123, .iadd, 1, (0, 0, 0, 0), .null, [], 0, 0, []) := rfl
theorem f_181_124 : xfind (xnth xTs 181) 124 = some (124, .iaload, 1, (0, 0, 0, 0), .null, [], 0, 0, []) := rfl
theorem f_181_125 : xfind (xnth xTs 181) 125 = some (125, .if_icmp .ne 7, 3, (0, 0, 0, 0), .null, [], 0, 0, []) := rfl
theorem f_181_128 : xfind (xnth xTs 181) 128 = some (128, .iconst 1, 1, (0, 0, 0, 0), (.int 1), [], 0, 0, []) := rfl
theorem f_181_129 : xfind (xnth xTs 181) 129 = some (129, .goto 4, 3, (0, 0, 0, 0), .null, [], 0, 0, []) := rfl
theorem f_181_132 : xfind (xnth xTs 181) 132 = some (132, .iconst 0, 1, (0, 0, 0, 0), (.int 0), [], 0, 0, []) := rfl
theorem f_181_133 : xfind (xnth xTs 181) 133 = some (133, .istore 5, 2, (0, 0, 0, 0), .null, [], 0, 0, []) := rfl
theorem f_181_135 : xfind (xnth xTs 181) 135 = some (135, .iload 5, 2, (0, 0, 0, 0), .null, [], 0, 0, []) := rfl
theorem f_181_137 : xfind (xnth xTs 181) 137 = some (137, .ifCond .eq 21, 3, (0, 0, 0, 0), .null, [], 0, 0, []) := rfl
theorem f_181_140 : xfind (xnth xTs 181) 140 = some (140, .aload_n 0, 1, (0, 0, 0, 0), .null, [], 0, 0, []) := rfl
theorem f_181_141 : xfind (xnth xTs 181) 141 = some (141, .getfield 19, 3, (9, 3, 1, 0), .null, [], 912, 0, []) := rfl
theorem f_181_144 : xfind (xnth xTs 181) 144 = some (144, .invokestatic 183, 3, (163, 1, 9, 3), .null, [], 1077, 0, []) := rfl
theorem f_181_147 : xfind (xnth xTs 181) 147 = some (147, .aload_n 0, 1, (0, 0, 0, 0), .null, [], 0, 0, []) := rfl
theorem f_181_148 : xfind (xnth xTs 181) 148 = some (148, .getfield 16, 3, (9, 2, 1, 0), .null, [], 911, 0, []) := rfl
theorem f_181_151 : xfind (xnth xTs 181) 151 = some (151, .invokestatic 183, 3, (163, 1, 9, 3), .null, [], 1077, 0, []) := rfl
theorem f_181_154 : xfind (xnth xTs 181) 154 = some (154, .isub, 1, (0, 0, 0, 0), .null, [], 0, 0, []) := rfl
theorem f_181_155 : xfind (xnth xTs 181) 155 = some (155, .goto 5, 3, (0, 0, 0, 0), .null, [], 0, 0, []) := rfl
theorem f_181_158 : xfind (xnth xTs 181) 158 = some (158, .ldc 234, 2, (0, 0, 0, 0), (.int 1000000), [], 1179, 0, []) := rfl
theorem f_181_160 : xfind (xnth xTs 181) 160 = some (160, .ireturn, 1, (0, 0, 0, 0), .null, [], 0, 0, []) := rfl
theorem hd_181_17 : xhead 181 17 = some [1, 6] := rfl
theorem hd_181_75 : xhead 181 75 = some [1, 4, 6] := rfl
theorem b_R_costs_0 (sh : xSh) (M : Nat → Nat → Int32) (J : Nat → Nat → Int64) (l0 : Nat) (l1 : Int32) (l2 : Int32) (l3 : Int32) : ev (181, 0, [.ref l0, .int l1, .int l2, .int l3, .null, .null, .null], [], (sh, M, J)) = (bif (decide ((sh.2.2.1 l0).1 = 9) && true) then (ev (177, 0, [.ref l0], [], (sh, M, J))).bind (fun r => ev (181, 7, [.ref l0, .int l1, .int l2, .int l3, .int l1, .null, .null], r.1.toList ++ [], r.2)) else none) := by
  refine ev_nx (s1 := (181, 1, [.ref l0, .int l1, .int l2, .int l3, .null, .null, .null], [.int l1], (sh, M, J))) f_181_0 rfl ?_
  refine ev_nx (s1 := (181, 3, [.ref l0, .int l1, .int l2, .int l3, .int l1, .null, .null], [], (sh, M, J))) f_181_1 rfl ?_
  refine ev_nx (s1 := (181, 4, [.ref l0, .int l1, .int l2, .int l3, .int l1, .null, .null], [.ref l0], (sh, M, J))) f_181_3 rfl ?_
  exact ev_ca (cc := (decide ((sh.2.2.1 l0).1 = 9) && true)) (s1 := (177, 0, [.ref l0], [], (sh, M, J))) (k := (181, 7, [.ref l0, .int l1, .int l2, .int l3, .int l1, .null, .null], [])) f_181_4 rfl
theorem b_R_costs_7 (sh : xSh) (M : Nat → Nat → Int32) (J : Nat → Nat → Int64) (l0 : Nat) (l1 : Int32) (l2 : Int32) (l3 : Int32) (l4 : Int32) : ev (181, 7, [.ref l0, .int l1, .int l2, .int l3, .int l4, .null, .null], [], (sh, M, J)) = (bif decide ((sh.2.2.1 l0).1 = 9) then bif (decide ((sh.2.2.1 (sh.2.2.2 l0 0)).1 = 11) && xin 2 (sh.2.2.1 (sh.2.2.2 l0 0)).2) then ev (181, 17, [.ref l0, .null, .int l2, .int l3, .int l4, .int ((M (sh.2.2.2 l0 0) (2 : Int32).toNatClampNeg) - 1), .null], [], (sh, M, J)) else none else none) := by
  refine ev_nx (s1 := (181, 8, [.ref l0, .int l1, .int l2, .int l3, .int l4, .null, .null], [.ref l0], (sh, M, J))) f_181_7 rfl ?_
  refine ev_gd (s1 := (181, 11, [.ref l0, .int l1, .int l2, .int l3, .int l4, .null, .null], [.ref (sh.2.2.2 l0 0)], (sh, M, J))) f_181_8 rfl ?_
  refine ev_nx (s1 := (181, 12, [.ref l0, .int l1, .int l2, .int l3, .int l4, .null, .null], [.int 2, .ref (sh.2.2.2 l0 0)], (sh, M, J))) f_181_11 rfl ?_
  refine ev_gd (s1 := (181, 13, [.ref l0, .int l1, .int l2, .int l3, .int l4, .null, .null], [.int (M (sh.2.2.2 l0 0) (2 : Int32).toNatClampNeg)], (sh, M, J))) f_181_12 rfl ?_
  refine ev_nx (s1 := (181, 14, [.ref l0, .int l1, .int l2, .int l3, .int l4, .null, .null], [.int 1, .int (M (sh.2.2.2 l0 0) (2 : Int32).toNatClampNeg)], (sh, M, J))) f_181_13 rfl ?_
  refine ev_nx (s1 := (181, 15, [.ref l0, .int l1, .int l2, .int l3, .int l4, .null, .null], [.int ((M (sh.2.2.2 l0 0) (2 : Int32).toNatClampNeg) - 1)], (sh, M, J))) f_181_14 rfl ?_
  refine ev_nx (s1 := (181, 17, [.ref l0, .int l1, .int l2, .int l3, .int l4, .int ((M (sh.2.2.2 l0 0) (2 : Int32).toNatClampNeg) - 1), .null], [], (sh, M, J))) f_181_15 rfl ?_
  exact (ev_kill hd_181_17).symm
theorem b_R_costs_17 (sh : xSh) (M : Nat → Nat → Int32) (J : Nat → Nat → Int64) (l0 : Nat) (l2 : Int32) (l3 : Int32) (l4 : Int32) (l5 : Int32) : ev (181, 17, [.ref l0, .null, .int l2, .int l3, .int l4, .int l5, .null], [], (sh, M, J)) = (bif decide (l5 < 0) then ev (181, 75, [.ref l0, .null, .int l2, .int l3, .null, .int 0, .null], [], (sh, M, J)) else bif decide ((sh.2.2.1 l0).1 = 9) then bif decide ((sh.2.2.1 l0).1 = 9) then bif (decide ((sh.2.2.1 (sh.2.2.2 l0 0)).1 = 11) && xin 0 (sh.2.2.1 (sh.2.2.2 l0 0)).2) then bif !decide ((M (sh.2.2.2 l0 0) (0 : Int32).toNatClampNeg) = 0) then bif (decide ((sh.2.2.1 (sh.2.2.2 l0 22)).1 = 11) && xin l5 (sh.2.2.1 (sh.2.2.2 l0 22)).2) then bif decide ((sh.2.2.1 l0).1 = 9) then bif (decide ((sh.2.2.1 (sh.2.2.2 l0 0)).1 = 11) && xin 0 (sh.2.2.1 (sh.2.2.2 l0 0)).2) then bif !decide (((xu M (sh.2.2.2 l0 22) (l5 : Int32).toNatClampNeg (xrem l4 (M (sh.2.2.2 l0 0) (0 : Int32).toNatClampNeg))) (sh.2.2.2 l0 0) (0 : Int32).toNatClampNeg) = 0) then bif decide ((sh.2.2.1 l0).1 = 9) then bif decide ((sh.2.2.1 l0).1 = 9) then bif (decide ((sh.2.2.1 (sh.2.2.2 l0 22)).1 = 11) && xin l5 (sh.2.2.1 (sh.2.2.2 l0 22)).2) then bif (decide ((sh.2.2.1 (sh.2.2.2 l0 3)).1 = 11) && xin ((41 : Int32) + l5) (sh.2.2.1 (sh.2.2.2 l0 3)).2) then ev (181, 17, [.ref l0, .null, .int l2, .int l3, .int (l4 / ((xu M (sh.2.2.2 l0 22) (l5 : Int32).toNatClampNeg (xrem l4 (M (sh.2.2.2 l0 0) (0 : Int32).toNatClampNeg))) (sh.2.2.2 l0 0) (0 : Int32).toNatClampNeg)), .int (l5 + (-1)), .null], [], (sh, (xu (xu M (sh.2.2.2 l0 22) (l5 : Int32).toNatClampNeg (xrem l4 (M (sh.2.2.2 l0 0) (0 : Int32).toNatClampNeg))) (sh.2.2.2 l0 3) (((41 : Int32) + l5) : Int32).toNatClampNeg ((xu M (sh.2.2.2 l0 22) (l5 : Int32).toNatClampNeg (xrem l4 (M (sh.2.2.2 l0 0) (0 : Int32).toNatClampNeg))) (sh.2.2.2 l0 22) (l5 : Int32).toNatClampNeg)), J)) else none else none else none else none else none else none else none else none else none else none else none else none) := by
  refine ev_nx (s1 := (181, 19, [.ref l0, .null, .int l2, .int l3, .int l4, .int l5, .null], [.int l5], (sh, M, J))) f_181_17 rfl ?_
  refine ev_br (s1 := (181, 72, [.ref l0, .null, .int l2, .int l3, .int l4, .int l5, .null], [], (sh, M, J))) (s2 := (181, 22, [.ref l0, .null, .int l2, .int l3, .int l4, .int l5, .null], [], (sh, M, J))) f_181_19 rfl ?_ ?_
  · refine ev_nx (s1 := (181, 73, [.ref l0, .null, .int l2, .int l3, .int l4, .int l5, .null], [.int 0], (sh, M, J))) f_181_72 rfl ?_
    refine ev_nx (s1 := (181, 75, [.ref l0, .null, .int l2, .int l3, .int l4, .int 0, .null], [], (sh, M, J))) f_181_73 rfl ?_
    exact (ev_kill hd_181_75).symm
  · refine ev_nx (s1 := (181, 23, [.ref l0, .null, .int l2, .int l3, .int l4, .int l5, .null], [.ref l0], (sh, M, J))) f_181_22 rfl ?_
    refine ev_gd (s1 := (181, 26, [.ref l0, .null, .int l2, .int l3, .int l4, .int l5, .null], [.ref (sh.2.2.2 l0 22)], (sh, M, J))) f_181_23 rfl ?_
    refine ev_nx (s1 := (181, 28, [.ref l0, .null, .int l2, .int l3, .int l4, .int l5, .null], [.int l5, .ref (sh.2.2.2 l0 22)], (sh, M, J))) f_181_26 rfl ?_
    refine ev_nx (s1 := (181, 30, [.ref l0, .null, .int l2, .int l3, .int l4, .int l5, .null], [.int l4, .int l5, .ref (sh.2.2.2 l0 22)], (sh, M, J))) f_181_28 rfl ?_
    refine ev_nx (s1 := (181, 31, [.ref l0, .null, .int l2, .int l3, .int l4, .int l5, .null], [.ref l0, .int l4, .int l5, .ref (sh.2.2.2 l0 22)], (sh, M, J))) f_181_30 rfl ?_
    refine ev_gd (s1 := (181, 34, [.ref l0, .null, .int l2, .int l3, .int l4, .int l5, .null], [.ref (sh.2.2.2 l0 0), .int l4, .int l5, .ref (sh.2.2.2 l0 22)], (sh, M, J))) f_181_31 rfl ?_
    refine ev_nx (s1 := (181, 35, [.ref l0, .null, .int l2, .int l3, .int l4, .int l5, .null], [.int 0, .ref (sh.2.2.2 l0 0), .int l4, .int l5, .ref (sh.2.2.2 l0 22)], (sh, M, J))) f_181_34 rfl ?_
    refine ev_gd (s1 := (181, 36, [.ref l0, .null, .int l2, .int l3, .int l4, .int l5, .null], [.int (M (sh.2.2.2 l0 0) (0 : Int32).toNatClampNeg), .int l4, .int l5, .ref (sh.2.2.2 l0 22)], (sh, M, J))) f_181_35 rfl ?_
    refine ev_gd (s1 := (181, 37, [.ref l0, .null, .int l2, .int l3, .int l4, .int l5, .null], [.int (xrem l4 (M (sh.2.2.2 l0 0) (0 : Int32).toNatClampNeg)), .int l5, .ref (sh.2.2.2 l0 22)], (sh, M, J))) f_181_36 rfl ?_
    refine ev_gd (s1 := (181, 38, [.ref l0, .null, .int l2, .int l3, .int l4, .int l5, .null], [], (sh, (xu M (sh.2.2.2 l0 22) (l5 : Int32).toNatClampNeg (xrem l4 (M (sh.2.2.2 l0 0) (0 : Int32).toNatClampNeg))), J))) f_181_37 rfl ?_
    refine ev_nx (s1 := (181, 40, [.ref l0, .null, .int l2, .int l3, .int l4, .int l5, .null], [.int l4], (sh, (xu M (sh.2.2.2 l0 22) (l5 : Int32).toNatClampNeg (xrem l4 (M (sh.2.2.2 l0 0) (0 : Int32).toNatClampNeg))), J))) f_181_38 rfl ?_
    refine ev_nx (s1 := (181, 41, [.ref l0, .null, .int l2, .int l3, .int l4, .int l5, .null], [.ref l0, .int l4], (sh, (xu M (sh.2.2.2 l0 22) (l5 : Int32).toNatClampNeg (xrem l4 (M (sh.2.2.2 l0 0) (0 : Int32).toNatClampNeg))), J))) f_181_40 rfl ?_
    refine ev_gd (s1 := (181, 44, [.ref l0, .null, .int l2, .int l3, .int l4, .int l5, .null], [.ref (sh.2.2.2 l0 0), .int l4], (sh, (xu M (sh.2.2.2 l0 22) (l5 : Int32).toNatClampNeg (xrem l4 (M (sh.2.2.2 l0 0) (0 : Int32).toNatClampNeg))), J))) f_181_41 rfl ?_
    refine ev_nx (s1 := (181, 45, [.ref l0, .null, .int l2, .int l3, .int l4, .int l5, .null], [.int 0, .ref (sh.2.2.2 l0 0), .int l4], (sh, (xu M (sh.2.2.2 l0 22) (l5 : Int32).toNatClampNeg (xrem l4 (M (sh.2.2.2 l0 0) (0 : Int32).toNatClampNeg))), J))) f_181_44 rfl ?_
    refine ev_gd (s1 := (181, 46, [.ref l0, .null, .int l2, .int l3, .int l4, .int l5, .null], [.int ((xu M (sh.2.2.2 l0 22) (l5 : Int32).toNatClampNeg (xrem l4 (M (sh.2.2.2 l0 0) (0 : Int32).toNatClampNeg))) (sh.2.2.2 l0 0) (0 : Int32).toNatClampNeg), .int l4], (sh, (xu M (sh.2.2.2 l0 22) (l5 : Int32).toNatClampNeg (xrem l4 (M (sh.2.2.2 l0 0) (0 : Int32).toNatClampNeg))), J))) f_181_45 rfl ?_
    refine ev_gd (s1 := (181, 47, [.ref l0, .null, .int l2, .int l3, .int l4, .int l5, .null], [.int (l4 / ((xu M (sh.2.2.2 l0 22) (l5 : Int32).toNatClampNeg (xrem l4 (M (sh.2.2.2 l0 0) (0 : Int32).toNatClampNeg))) (sh.2.2.2 l0 0) (0 : Int32).toNatClampNeg))], (sh, (xu M (sh.2.2.2 l0 22) (l5 : Int32).toNatClampNeg (xrem l4 (M (sh.2.2.2 l0 0) (0 : Int32).toNatClampNeg))), J))) f_181_46 rfl ?_
    refine ev_nx (s1 := (181, 49, [.ref l0, .null, .int l2, .int l3, .int (l4 / ((xu M (sh.2.2.2 l0 22) (l5 : Int32).toNatClampNeg (xrem l4 (M (sh.2.2.2 l0 0) (0 : Int32).toNatClampNeg))) (sh.2.2.2 l0 0) (0 : Int32).toNatClampNeg)), .int l5, .null], [], (sh, (xu M (sh.2.2.2 l0 22) (l5 : Int32).toNatClampNeg (xrem l4 (M (sh.2.2.2 l0 0) (0 : Int32).toNatClampNeg))), J))) f_181_47 rfl ?_
    refine ev_nx (s1 := (181, 50, [.ref l0, .null, .int l2, .int l3, .int (l4 / ((xu M (sh.2.2.2 l0 22) (l5 : Int32).toNatClampNeg (xrem l4 (M (sh.2.2.2 l0 0) (0 : Int32).toNatClampNeg))) (sh.2.2.2 l0 0) (0 : Int32).toNatClampNeg)), .int l5, .null], [.ref l0], (sh, (xu M (sh.2.2.2 l0 22) (l5 : Int32).toNatClampNeg (xrem l4 (M (sh.2.2.2 l0 0) (0 : Int32).toNatClampNeg))), J))) f_181_49 rfl ?_
    refine ev_gd (s1 := (181, 53, [.ref l0, .null, .int l2, .int l3, .int (l4 / ((xu M (sh.2.2.2 l0 22) (l5 : Int32).toNatClampNeg (xrem l4 (M (sh.2.2.2 l0 0) (0 : Int32).toNatClampNeg))) (sh.2.2.2 l0 0) (0 : Int32).toNatClampNeg)), .int l5, .null], [.ref (sh.2.2.2 l0 3)], (sh, (xu M (sh.2.2.2 l0 22) (l5 : Int32).toNatClampNeg (xrem l4 (M (sh.2.2.2 l0 0) (0 : Int32).toNatClampNeg))), J))) f_181_50 rfl ?_
    refine ev_nx (s1 := (181, 55, [.ref l0, .null, .int l2, .int l3, .int (l4 / ((xu M (sh.2.2.2 l0 22) (l5 : Int32).toNatClampNeg (xrem l4 (M (sh.2.2.2 l0 0) (0 : Int32).toNatClampNeg))) (sh.2.2.2 l0 0) (0 : Int32).toNatClampNeg)), .int l5, .null], [.int 41, .ref (sh.2.2.2 l0 3)], (sh, (xu M (sh.2.2.2 l0 22) (l5 : Int32).toNatClampNeg (xrem l4 (M (sh.2.2.2 l0 0) (0 : Int32).toNatClampNeg))), J))) f_181_53 rfl ?_
    refine ev_nx (s1 := (181, 57, [.ref l0, .null, .int l2, .int l3, .int (l4 / ((xu M (sh.2.2.2 l0 22) (l5 : Int32).toNatClampNeg (xrem l4 (M (sh.2.2.2 l0 0) (0 : Int32).toNatClampNeg))) (sh.2.2.2 l0 0) (0 : Int32).toNatClampNeg)), .int l5, .null], [.int l5, .int 41, .ref (sh.2.2.2 l0 3)], (sh, (xu M (sh.2.2.2 l0 22) (l5 : Int32).toNatClampNeg (xrem l4 (M (sh.2.2.2 l0 0) (0 : Int32).toNatClampNeg))), J))) f_181_55 rfl ?_
    refine ev_nx (s1 := (181, 58, [.ref l0, .null, .int l2, .int l3, .int (l4 / ((xu M (sh.2.2.2 l0 22) (l5 : Int32).toNatClampNeg (xrem l4 (M (sh.2.2.2 l0 0) (0 : Int32).toNatClampNeg))) (sh.2.2.2 l0 0) (0 : Int32).toNatClampNeg)), .int l5, .null], [.int ((41 : Int32) + l5), .ref (sh.2.2.2 l0 3)], (sh, (xu M (sh.2.2.2 l0 22) (l5 : Int32).toNatClampNeg (xrem l4 (M (sh.2.2.2 l0 0) (0 : Int32).toNatClampNeg))), J))) f_181_57 rfl ?_
    refine ev_nx (s1 := (181, 59, [.ref l0, .null, .int l2, .int l3, .int (l4 / ((xu M (sh.2.2.2 l0 22) (l5 : Int32).toNatClampNeg (xrem l4 (M (sh.2.2.2 l0 0) (0 : Int32).toNatClampNeg))) (sh.2.2.2 l0 0) (0 : Int32).toNatClampNeg)), .int l5, .null], [.ref l0, .int ((41 : Int32) + l5), .ref (sh.2.2.2 l0 3)], (sh, (xu M (sh.2.2.2 l0 22) (l5 : Int32).toNatClampNeg (xrem l4 (M (sh.2.2.2 l0 0) (0 : Int32).toNatClampNeg))), J))) f_181_58 rfl ?_
    refine ev_gd (s1 := (181, 62, [.ref l0, .null, .int l2, .int l3, .int (l4 / ((xu M (sh.2.2.2 l0 22) (l5 : Int32).toNatClampNeg (xrem l4 (M (sh.2.2.2 l0 0) (0 : Int32).toNatClampNeg))) (sh.2.2.2 l0 0) (0 : Int32).toNatClampNeg)), .int l5, .null], [.ref (sh.2.2.2 l0 22), .int ((41 : Int32) + l5), .ref (sh.2.2.2 l0 3)], (sh, (xu M (sh.2.2.2 l0 22) (l5 : Int32).toNatClampNeg (xrem l4 (M (sh.2.2.2 l0 0) (0 : Int32).toNatClampNeg))), J))) f_181_59 rfl ?_
    refine ev_nx (s1 := (181, 64, [.ref l0, .null, .int l2, .int l3, .int (l4 / ((xu M (sh.2.2.2 l0 22) (l5 : Int32).toNatClampNeg (xrem l4 (M (sh.2.2.2 l0 0) (0 : Int32).toNatClampNeg))) (sh.2.2.2 l0 0) (0 : Int32).toNatClampNeg)), .int l5, .null], [.int l5, .ref (sh.2.2.2 l0 22), .int ((41 : Int32) + l5), .ref (sh.2.2.2 l0 3)], (sh, (xu M (sh.2.2.2 l0 22) (l5 : Int32).toNatClampNeg (xrem l4 (M (sh.2.2.2 l0 0) (0 : Int32).toNatClampNeg))), J))) f_181_62 rfl ?_
    refine ev_gd (s1 := (181, 65, [.ref l0, .null, .int l2, .int l3, .int (l4 / ((xu M (sh.2.2.2 l0 22) (l5 : Int32).toNatClampNeg (xrem l4 (M (sh.2.2.2 l0 0) (0 : Int32).toNatClampNeg))) (sh.2.2.2 l0 0) (0 : Int32).toNatClampNeg)), .int l5, .null], [.int ((xu M (sh.2.2.2 l0 22) (l5 : Int32).toNatClampNeg (xrem l4 (M (sh.2.2.2 l0 0) (0 : Int32).toNatClampNeg))) (sh.2.2.2 l0 22) (l5 : Int32).toNatClampNeg), .int ((41 : Int32) + l5), .ref (sh.2.2.2 l0 3)], (sh, (xu M (sh.2.2.2 l0 22) (l5 : Int32).toNatClampNeg (xrem l4 (M (sh.2.2.2 l0 0) (0 : Int32).toNatClampNeg))), J))) f_181_64 rfl ?_
    refine ev_gd (s1 := (181, 66, [.ref l0, .null, .int l2, .int l3, .int (l4 / ((xu M (sh.2.2.2 l0 22) (l5 : Int32).toNatClampNeg (xrem l4 (M (sh.2.2.2 l0 0) (0 : Int32).toNatClampNeg))) (sh.2.2.2 l0 0) (0 : Int32).toNatClampNeg)), .int l5, .null], [], (sh, (xu (xu M (sh.2.2.2 l0 22) (l5 : Int32).toNatClampNeg (xrem l4 (M (sh.2.2.2 l0 0) (0 : Int32).toNatClampNeg))) (sh.2.2.2 l0 3) (((41 : Int32) + l5) : Int32).toNatClampNeg ((xu M (sh.2.2.2 l0 22) (l5 : Int32).toNatClampNeg (xrem l4 (M (sh.2.2.2 l0 0) (0 : Int32).toNatClampNeg))) (sh.2.2.2 l0 22) (l5 : Int32).toNatClampNeg)), J))) f_181_65 rfl ?_
    refine ev_nx (s1 := (181, 69, [.ref l0, .null, .int l2, .int l3, .int (l4 / ((xu M (sh.2.2.2 l0 22) (l5 : Int32).toNatClampNeg (xrem l4 (M (sh.2.2.2 l0 0) (0 : Int32).toNatClampNeg))) (sh.2.2.2 l0 0) (0 : Int32).toNatClampNeg)), .int (l5 + (-1)), .null], [], (sh, (xu (xu M (sh.2.2.2 l0 22) (l5 : Int32).toNatClampNeg (xrem l4 (M (sh.2.2.2 l0 0) (0 : Int32).toNatClampNeg))) (sh.2.2.2 l0 3) (((41 : Int32) + l5) : Int32).toNatClampNeg ((xu M (sh.2.2.2 l0 22) (l5 : Int32).toNatClampNeg (xrem l4 (M (sh.2.2.2 l0 0) (0 : Int32).toNatClampNeg))) (sh.2.2.2 l0 22) (l5 : Int32).toNatClampNeg)), J))) f_181_66 rfl ?_
    refine ev_nx (s1 := (181, 17, [.ref l0, .null, .int l2, .int l3, .int (l4 / ((xu M (sh.2.2.2 l0 22) (l5 : Int32).toNatClampNeg (xrem l4 (M (sh.2.2.2 l0 0) (0 : Int32).toNatClampNeg))) (sh.2.2.2 l0 0) (0 : Int32).toNatClampNeg)), .int (l5 + (-1)), .null], [], (sh, (xu (xu M (sh.2.2.2 l0 22) (l5 : Int32).toNatClampNeg (xrem l4 (M (sh.2.2.2 l0 0) (0 : Int32).toNatClampNeg))) (sh.2.2.2 l0 3) (((41 : Int32) + l5) : Int32).toNatClampNeg ((xu M (sh.2.2.2 l0 22) (l5 : Int32).toNatClampNeg (xrem l4 (M (sh.2.2.2 l0 0) (0 : Int32).toNatClampNeg))) (sh.2.2.2 l0 22) (l5 : Int32).toNatClampNeg)), J))) f_181_69 rfl ?_
    exact rfl
theorem b_R_costs_75 (sh : xSh) (M : Nat → Nat → Int32) (J : Nat → Nat → Int64) (l0 : Nat) (l2 : Int32) (l3 : Int32) (l5 : Int32) : ev (181, 75, [.ref l0, .null, .int l2, .int l3, .null, .int l5, .null], [], (sh, M, J)) = (bif decide (l3 ≤ l5) then bif decide ((sh.2.2.1 l0).1 = 9) then bif (decide ((sh.2.2.1 (sh.2.2.2 l0 3)).1 = 11) && xin 20 (sh.2.2.1 (sh.2.2.2 l0 3)).2) then bif !decide ((M (sh.2.2.2 l0 3) (20 : Int32).toNatClampNeg) = 0) then some (some (.int 1000000), (sh, M, J)) else bif decide ((sh.2.2.1 l0).1 = 9) then bif (decide ((sh.2.2.1 (sh.2.2.2 l0 3)).1 = 11) && xin ((56 : Int32) + l2) (sh.2.2.1 (sh.2.2.2 l0 3)).2) then bif decide ((sh.2.2.1 l0).1 = 9) then bif (decide ((sh.2.2.1 (sh.2.2.2 l0 2)).1 = 11) && xin ((56 : Int32) + l2) (sh.2.2.1 (sh.2.2.2 l0 2)).2) then bif !decide ((M (sh.2.2.2 l0 3) (((56 : Int32) + l2) : Int32).toNatClampNeg) = (M (sh.2.2.2 l0 2) (((56 : Int32) + l2) : Int32).toNatClampNeg)) then some (some (.int 1000000), (sh, M, J)) else bif decide ((sh.2.2.1 l0).1 = 9) then (ev (163, 0, [.ref (sh.2.2.2 l0 3), .null, .null], [], (sh, M, J))).bind (fun r => ev (181, 147, [.ref l0, .null, .int l2, .int l3, .null, .int 1, .null], r.1.toList ++ [], r.2)) else none else none else none else none else none else none else none else bif decide ((sh.2.2.1 l0).1 = 9) then bif (decide ((sh.2.2.1 l0).1 = 9) && true) then (ev (162, 0, [.ref l0, .ref (sh.2.2.2 l0 3), .null, .null, .null], [], (sh, M, J))).bind (fun r => ev (181, 89, [.ref l0, .null, .int l2, .int l3, .null, .int l5, .null], r.1.toList ++ [], r.2)) else none else none) := by
  refine ev_nx (s1 := (181, 77, [.ref l0, .null, .int l2, .int l3, .null, .int l5, .null], [.int l5], (sh, M, J))) f_181_75 rfl ?_
  refine ev_nx (s1 := (181, 78, [.ref l0, .null, .int l2, .int l3, .null, .int l5, .null], [.int l3, .int l5], (sh, M, J))) f_181_77 rfl ?_
  refine ev_br (s1 := (181, 97, [.ref l0, .null, .int l2, .int l3, .null, .int l5, .null], [], (sh, M, J))) (s2 := (181, 81, [.ref l0, .null, .int l2, .int l3, .null, .int l5, .null], [], (sh, M, J))) f_181_78 rfl ?_ ?_
  · refine ev_nx (s1 := (181, 98, [.ref l0, .null, .int l2, .int l3, .null, .int l5, .null], [.ref l0], (sh, M, J))) f_181_97 rfl ?_
    refine ev_gd (s1 := (181, 101, [.ref l0, .null, .int l2, .int l3, .null, .int l5, .null], [.ref (sh.2.2.2 l0 3)], (sh, M, J))) f_181_98 rfl ?_
    refine ev_nx (s1 := (181, 103, [.ref l0, .null, .int l2, .int l3, .null, .int l5, .null], [.int 20, .ref (sh.2.2.2 l0 3)], (sh, M, J))) f_181_101 rfl ?_
    refine ev_gd (s1 := (181, 104, [.ref l0, .null, .int l2, .int l3, .null, .int l5, .null], [.int (M (sh.2.2.2 l0 3) (20 : Int32).toNatClampNeg)], (sh, M, J))) f_181_103 rfl ?_
    refine ev_br (s1 := (181, 132, [.ref l0, .null, .int l2, .int l3, .null, .int l5, .null], [], (sh, M, J))) (s2 := (181, 107, [.ref l0, .null, .int l2, .int l3, .null, .int l5, .null], [], (sh, M, J))) f_181_104 rfl ?_ ?_
    · refine ev_nx (s1 := (181, 133, [.ref l0, .null, .int l2, .int l3, .null, .int l5, .null], [.int 0], (sh, M, J))) f_181_132 rfl ?_
      refine ev_nx (s1 := (181, 135, [.ref l0, .null, .int l2, .int l3, .null, .int 0, .null], [], (sh, M, J))) f_181_133 rfl ?_
      refine ev_nx (s1 := (181, 137, [.ref l0, .null, .int l2, .int l3, .null, .int 0, .null], [.int 0], (sh, M, J))) f_181_135 rfl ?_
      refine ev_bt (s1 := (181, 158, [.ref l0, .null, .int l2, .int l3, .null, .int 0, .null], [], (sh, M, J))) (s2 := (181, 140, [.ref l0, .null, .int l2, .int l3, .null, .int 0, .null], [], (sh, M, J))) f_181_137 rfl rfl ?_
      refine ev_nx (s1 := (181, 160, [.ref l0, .null, .int l2, .int l3, .null, .int 0, .null], [.int 1000000], (sh, M, J))) f_181_158 rfl ?_
      exact ev_r1 f_181_160 rfl
    · refine ev_nx (s1 := (181, 108, [.ref l0, .null, .int l2, .int l3, .null, .int l5, .null], [.ref l0], (sh, M, J))) f_181_107 rfl ?_
      refine ev_gd (s1 := (181, 111, [.ref l0, .null, .int l2, .int l3, .null, .int l5, .null], [.ref (sh.2.2.2 l0 3)], (sh, M, J))) f_181_108 rfl ?_
      refine ev_nx (s1 := (181, 113, [.ref l0, .null, .int l2, .int l3, .null, .int l5, .null], [.int 56, .ref (sh.2.2.2 l0 3)], (sh, M, J))) f_181_111 rfl ?_
      refine ev_nx (s1 := (181, 114, [.ref l0, .null, .int l2, .int l3, .null, .int l5, .null], [.int l2, .int 56, .ref (sh.2.2.2 l0 3)], (sh, M, J))) f_181_113 rfl ?_
      refine ev_nx (s1 := (181, 115, [.ref l0, .null, .int l2, .int l3, .null, .int l5, .null], [.int ((56 : Int32) + l2), .ref (sh.2.2.2 l0 3)], (sh, M, J))) f_181_114 rfl ?_
      refine ev_gd (s1 := (181, 116, [.ref l0, .null, .int l2, .int l3, .null, .int l5, .null], [.int (M (sh.2.2.2 l0 3) (((56 : Int32) + l2) : Int32).toNatClampNeg)], (sh, M, J))) f_181_115 rfl ?_
      refine ev_nx (s1 := (181, 117, [.ref l0, .null, .int l2, .int l3, .null, .int l5, .null], [.ref l0, .int (M (sh.2.2.2 l0 3) (((56 : Int32) + l2) : Int32).toNatClampNeg)], (sh, M, J))) f_181_116 rfl ?_
      refine ev_gd (s1 := (181, 120, [.ref l0, .null, .int l2, .int l3, .null, .int l5, .null], [.ref (sh.2.2.2 l0 2), .int (M (sh.2.2.2 l0 3) (((56 : Int32) + l2) : Int32).toNatClampNeg)], (sh, M, J))) f_181_117 rfl ?_
      refine ev_nx (s1 := (181, 122, [.ref l0, .null, .int l2, .int l3, .null, .int l5, .null], [.int 56, .ref (sh.2.2.2 l0 2), .int (M (sh.2.2.2 l0 3) (((56 : Int32) + l2) : Int32).toNatClampNeg)], (sh, M, J))) f_181_120 rfl ?_
      refine ev_nx (s1 := (181, 123, [.ref l0, .null, .int l2, .int l3, .null, .int l5, .null], [.int l2, .int 56, .ref (sh.2.2.2 l0 2), .int (M (sh.2.2.2 l0 3) (((56 : Int32) + l2) : Int32).toNatClampNeg)], (sh, M, J))) f_181_122 rfl ?_
      refine ev_nx (s1 := (181, 124, [.ref l0, .null, .int l2, .int l3, .null, .int l5, .null], [.int ((56 : Int32) + l2), .ref (sh.2.2.2 l0 2), .int (M (sh.2.2.2 l0 3) (((56 : Int32) + l2) : Int32).toNatClampNeg)], (sh, M, J))) f_181_123 rfl ?_
      refine ev_gd (s1 := (181, 125, [.ref l0, .null, .int l2, .int l3, .null, .int l5, .null], [.int (M (sh.2.2.2 l0 2) (((56 : Int32) + l2) : Int32).toNatClampNeg), .int (M (sh.2.2.2 l0 3) (((56 : Int32) + l2) : Int32).toNatClampNeg)], (sh, M, J))) f_181_124 rfl ?_
      refine ev_br (s1 := (181, 132, [.ref l0, .null, .int l2, .int l3, .null, .int l5, .null], [], (sh, M, J))) (s2 := (181, 128, [.ref l0, .null, .int l2, .int l3, .null, .int l5, .null], [], (sh, M, J))) f_181_125 rfl ?_ ?_
      · refine ev_nx (s1 := (181, 133, [.ref l0, .null, .int l2, .int l3, .null, .int l5, .null], [.int 0], (sh, M, J))) f_181_132 rfl ?_
        refine ev_nx (s1 := (181, 135, [.ref l0, .null, .int l2, .int l3, .null, .int 0, .null], [], (sh, M, J))) f_181_133 rfl ?_
        refine ev_nx (s1 := (181, 137, [.ref l0, .null, .int l2, .int l3, .null, .int 0, .null], [.int 0], (sh, M, J))) f_181_135 rfl ?_
        refine ev_bt (s1 := (181, 158, [.ref l0, .null, .int l2, .int l3, .null, .int 0, .null], [], (sh, M, J))) (s2 := (181, 140, [.ref l0, .null, .int l2, .int l3, .null, .int 0, .null], [], (sh, M, J))) f_181_137 rfl rfl ?_
        refine ev_nx (s1 := (181, 160, [.ref l0, .null, .int l2, .int l3, .null, .int 0, .null], [.int 1000000], (sh, M, J))) f_181_158 rfl ?_
        exact ev_r1 f_181_160 rfl
      · refine ev_nx (s1 := (181, 129, [.ref l0, .null, .int l2, .int l3, .null, .int l5, .null], [.int 1], (sh, M, J))) f_181_128 rfl ?_
        refine ev_nx (s1 := (181, 133, [.ref l0, .null, .int l2, .int l3, .null, .int l5, .null], [.int 1], (sh, M, J))) f_181_129 rfl ?_
        refine ev_nx (s1 := (181, 135, [.ref l0, .null, .int l2, .int l3, .null, .int 1, .null], [], (sh, M, J))) f_181_133 rfl ?_
        refine ev_nx (s1 := (181, 137, [.ref l0, .null, .int l2, .int l3, .null, .int 1, .null], [.int 1], (sh, M, J))) f_181_135 rfl ?_
        refine ev_bf (s1 := (181, 158, [.ref l0, .null, .int l2, .int l3, .null, .int 1, .null], [], (sh, M, J))) (s2 := (181, 140, [.ref l0, .null, .int l2, .int l3, .null, .int 1, .null], [], (sh, M, J))) f_181_137 rfl rfl ?_
        refine ev_nx (s1 := (181, 141, [.ref l0, .null, .int l2, .int l3, .null, .int 1, .null], [.ref l0], (sh, M, J))) f_181_140 rfl ?_
        refine ev_gd (s1 := (181, 144, [.ref l0, .null, .int l2, .int l3, .null, .int 1, .null], [.ref (sh.2.2.2 l0 3)], (sh, M, J))) f_181_141 rfl ?_
        exact ev_c1 (s1 := (163, 0, [.ref (sh.2.2.2 l0 3), .null, .null], [], (sh, M, J))) (k := (181, 147, [.ref l0, .null, .int l2, .int l3, .null, .int 1, .null], [])) f_181_144 rfl
  · refine ev_nx (s1 := (181, 82, [.ref l0, .null, .int l2, .int l3, .null, .int l5, .null], [.ref l0], (sh, M, J))) f_181_81 rfl ?_
    refine ev_nx (s1 := (181, 83, [.ref l0, .null, .int l2, .int l3, .null, .int l5, .null], [.ref l0, .ref l0], (sh, M, J))) f_181_82 rfl ?_
    refine ev_gd (s1 := (181, 86, [.ref l0, .null, .int l2, .int l3, .null, .int l5, .null], [.ref (sh.2.2.2 l0 3), .ref l0], (sh, M, J))) f_181_83 rfl ?_
    exact ev_ca (cc := (decide ((sh.2.2.1 l0).1 = 9) && true)) (s1 := (162, 0, [.ref l0, .ref (sh.2.2.2 l0 3), .null, .null, .null], [], (sh, M, J))) (k := (181, 89, [.ref l0, .null, .int l2, .int l3, .null, .int l5, .null], [])) f_181_86 rfl
theorem b_R_costs_89 (sh : xSh) (M : Nat → Nat → Int32) (J : Nat → Nat → Int64) (l0 : Nat) (l2 : Int32) (l3 : Int32) (l5 : Int32) (k0 : Int32) : ev (181, 89, [.ref l0, .null, .int l2, .int l3, .null, .int l5, .null], [.int k0], (sh, M, J)) = (ev (181, 75, [.ref l0, .null, .int l2, .int l3, .null, .int (l5 + 1), .null], [], (sh, M, J))) := by
  refine ev_nx (s1 := (181, 91, [.ref l0, .null, .int l2, .int l3, .null, .int l5, .int k0], [], (sh, M, J))) f_181_89 rfl ?_
  refine ev_nx (s1 := (181, 94, [.ref l0, .null, .int l2, .int l3, .null, .int (l5 + 1), .int k0], [], (sh, M, J))) f_181_91 rfl ?_
  refine ev_nx (s1 := (181, 75, [.ref l0, .null, .int l2, .int l3, .null, .int (l5 + 1), .int k0], [], (sh, M, J))) f_181_94 rfl ?_
  exact (ev_kill hd_181_75).symm
theorem b_R_costs_147 (sh : xSh) (M : Nat → Nat → Int32) (J : Nat → Nat → Int64) (l0 : Nat) (l2 : Int32) (l3 : Int32) (l5 : Int32) (k0 : Int32) : ev (181, 147, [.ref l0, .null, .int l2, .int l3, .null, .int l5, .null], [.int k0], (sh, M, J)) = (bif decide ((sh.2.2.1 l0).1 = 9) then (ev (163, 0, [.ref (sh.2.2.2 l0 2), .null, .null], [], (sh, M, J))).bind (fun r => ev (181, 154, [.ref l0, .null, .int l2, .int l3, .null, .int l5, .null], r.1.toList ++ [.int k0], r.2)) else none) := by
  refine ev_nx (s1 := (181, 148, [.ref l0, .null, .int l2, .int l3, .null, .int l5, .null], [.ref l0, .int k0], (sh, M, J))) f_181_147 rfl ?_
  refine ev_gd (s1 := (181, 151, [.ref l0, .null, .int l2, .int l3, .null, .int l5, .null], [.ref (sh.2.2.2 l0 2), .int k0], (sh, M, J))) f_181_148 rfl ?_
  exact ev_c1 (s1 := (163, 0, [.ref (sh.2.2.2 l0 2), .null, .null], [], (sh, M, J))) (k := (181, 154, [.ref l0, .null, .int l2, .int l3, .null, .int l5, .null], [.int k0])) f_181_151 rfl
theorem b_R_costs_154 (sh : xSh) (M : Nat → Nat → Int32) (J : Nat → Nat → Int64) (l0 : Nat) (l2 : Int32) (l3 : Int32) (l5 : Int32) (k0 : Int32) (k1 : Int32) : ev (181, 154, [.ref l0, .null, .int l2, .int l3, .null, .int l5, .null], [.int k0, .int k1], (sh, M, J)) = (some (some (.int (k1 - k0)), (sh, M, J))) := by
  refine ev_nx (s1 := (181, 155, [.ref l0, .null, .int l2, .int l3, .null, .int l5, .null], [.int (k1 - k0)], (sh, M, J))) f_181_154 rfl ?_
  refine ev_nx (s1 := (181, 160, [.ref l0, .null, .int l2, .int l3, .null, .int l5, .null], [.int (k1 - k0)], (sh, M, J))) f_181_155 rfl ?_
  exact ev_r1 f_181_160 rfl
theorem f_182_0 : xfind (xnth xTs 182) 0 = some (0, .aload_n 0, 1, (0, 0, 0, 0), .null, [], 0, 0, []) := rfl
theorem f_182_1 : xfind (xnth xTs 182) 1 = some (1, .iload_n 1, 1, (0, 0, 0, 0), .null, [], 0, 0, []) := rfl
theorem f_182_2 : xfind (xnth xTs 182) 2 = some (2, .invokevirtual 198, 3, (153, 1, 9, 2), .null, [], 1106, 0, []) := rfl
theorem f_182_5 : xfind (xnth xTs 182) 5 = some (5, .ifCond .eq 16, 3, (0, 0, 0, 0), .null, [], 0, 0, []) := rfl
theorem f_182_8 : xfind (xnth xTs 182) 8 = some (8, .iload_n 3, 1, (0, 0, 0, 0), .null, [], 0, 0, []) := rfl
theorem f_182_9 : xfind (xnth xTs 182) 9 = some (9, .iconst (-1), 1, (0, 0, 0, 0), (.int (-1)), [], 0, 0, []) := rfl
theorem f_182_10 : xfind (xnth xTs 182) 10 = some (10, .if_icmp .eq 14, 3, (0, 0, 0, 0), .null, [], 0, 0, []) := rfl
theorem f_182_13 : xfind (xnth xTs 182) 13 = some (13, .aload_n 0, 1, (0, 0, 0, 0), .null, [], 0, 0, []) := rfl
theorem f_182_14 : xfind (xnth xTs 182) 14 = some (14, .iload_n 3, 1, (0, 0, 0, 0), .null, [], 0, 0, []) := rfl
theorem f_182_15 : xfind (xnth xTs 182) 15 = some (15, .invokevirtual 198, 3, (153, 1, 9, 2), .null, [], 1106, 0, []) := rfl
theorem f_182_18 : xfind (xnth xTs 182) 18 = some (18, .ifCond .ne 6, 3, (0, 0, 0, 0), .null, [], 0, 0, []) := rfl
theorem f_182_21 : xfind (xnth xTs 182) 21 = some (21, .ldc 192, 2, (0, 0, 0, 0), (.int (-1000000001)), [], 1092, 0, []) := rfl
theorem f_182_23 : xfind (xnth xTs 182) 23 = some (23, .ireturn, 1, (0, 0, 0, 0), .null, [], 0, 0, []) := rfl
theorem f_182_24 : xfind (xnth xTs 182) 24 = some (24, .iload_n 2, 1, (0, 0, 0, 0), .null, [], 0, 0, []) := rfl
theorem f_182_25 : xfind (xnth xTs 182) 25 = some (25, .i2l, 1, (0, 0, 0, 0), .null, [], 0, 0, []) := rfl
theorem f_182_26 : xfind (xnth xTs 182) 26 = some (26, .lconst 1, 1, (0, 0, 0, 0), (.long 1), [], 0, 0, []) := rfl
theorem f_182_27 : xfind (xnth xTs 182) 27 = some (27, .ldc2_w 201, 3, (0, 0, 0, 0), (.long 20), [], 1118, 0, []) := rfl
theorem f_182_30 : xfind (xnth xTs 182) 30 = some (30, .invokestatic 68, 3, (132, 3, 9, 6), .null, [], 897, 0, []) := rfl
theorem f_182_33 : xfind (xnth xTs 182) 33 = some (33, .ifCond .ne 6, 3, (0, 0, 0, 0), .null, [], 0, 0, []) := rfl
theorem f_182_36 : xfind (xnth xTs 182) 36 = some (36, .ldc 91, 2, (0, 0, 0, 0), (.int (-1000000002)), [], 994, 0, []) := rfl
theorem f_182_38 : xfind (xnth xTs 182) 38 = some (38, .ireturn, 1, (0, 0, 0, 0), .null, [], 0, 0, []) := rfl
theorem f_182_39 : xfind (xnth xTs 182) 39 = some (39, .ldc 234, 2, (0, 0, 0, 0), (.int 1000000), [], 1179, 0, []) := rfl
theorem f_182_41 : xfind (xnth xTs 182) 41 = some (41, .istore 4, 2, (0, 0, 0, 0), .null, [], 0, 0, []) := rfl
theorem f_182_43 : xfind (xnth xTs 182) 43 = some (43, .aload_n 0, 1, (0, 0, 0, 0), .null, [], 0, 0, []) := rfl
theorem f_182_44 : xfind (xnth xTs 182) 44 = some (44, .invokevirtual 235, 3, (180, 0, 9, 3), .null, [], 1180, 0, []) := rfl
theorem f_182_47 : xfind (xnth xTs 182) 47 = some (47, .istore 5, 2, (0, 0, 0, 0), .null, [], 0, 0, []) := rfl
theorem f_182_49 : xfind (xnth xTs 182) 49 = some (49, .iconst 0, 1, (0, 0, 0, 0), (.int 0), [], 0, 0, []) := rfl
theorem f_182_50 : xfind (xnth xTs 182) 50 = some (50, .istore 6, 2, (0, 0, 0, 0), .null, [], 0, 0, []) := rfl
theorem f_182_52 : xfind (xnth xTs 182) 52 = some (52, .iload 6, 2, (0, 0, 0, 0), .null, [], 0, 1, [7]) := rfl
theorem f_182_54 : xfind (xnth xTs 182) 54 = some (54, .iload 5, 2, (0, 0, 0, 0), .null, [], 0, 0, []) := rfl
theorem f_182_56 : xfind (xnth xTs 182) 56 = some (56, .if_icmp .ge 44, 3, (0, 0, 0, 0), .null, [], 0, 0, []) := rfl
theorem f_182_59 : xfind (xnth xTs 182) 59 = some (59, .aload_n 0, 1, (0, 0, 0, 0), .null, [], 0, 0, []) := rfl
theorem f_182_60 : xfind (xnth xTs 182) 60 = some (60, .iload 6, 2, (0, 0, 0, 0), .null, [], 0, 0, []) := rfl
theorem f_182_62 : xfind (xnth xTs 182) 62 = some (62, .iload_n 1, 1, (0, 0, 0, 0), .null, [], 0, 0, []) := rfl
theorem f_182_63 : xfind (xnth xTs 182) 63 = some (63, .iload_n 2, 1, (0, 0, 0, 0), .null, [], 0, 0, []) := rfl
theorem f_182_64 : xfind (xnth xTs 182) 64 = some (64, .invokevirtual 238, 3, (181, 3, 9, 7), .null, [], 1184, 0, []) := rfl
theorem f_182_67 : xfind (xnth xTs 182) 67 = some (67, .istore 7, 2, (0, 0, 0, 0), .null, [], 0, 0, []) := rfl
theorem f_182_69 : xfind (xnth xTs 182) 69 = some (69, .iload 7, 2, (0, 0, 0, 0), .null, [], 0, 0, []) := rfl
theorem f_182_71 : xfind (xnth xTs 182) 71 = some (71, .iload 4, 2, (0, 0, 0, 0), .null, [], 0, 0, []) := rfl
theorem f_182_73 : xfind (xnth xTs 182) 73 = some (73, .if_icmp .ge 21, 3, (0, 0, 0, 0), .null, [], 0, 0, []) := rfl
theorem f_182_76 : xfind (xnth xTs 182) 76 = some (76, .iload 7, 2, (0, 0, 0, 0), .null, [], 0, 0, []) := rfl
theorem f_182_78 : xfind (xnth xTs 182) 78 = some (78, .istore 4, 2, (0, 0, 0, 0), .null, [], 0, 0, []) := rfl
theorem f_182_80 : xfind (xnth xTs 182) 80 = some (80, .aload_n 0, 1, (0, 0, 0, 0), .null, [], 0, 0, []) := rfl
theorem f_182_81 : xfind (xnth xTs 182) 81 = some (81, .getfield 45, 3, (9, 22, 1, 0), .null, [], 931, 0, []) := rfl
theorem f_182_84 : xfind (xnth xTs 182) 84 = some (84, .iconst 0, 1, (0, 0, 0, 0), (.int 0), [], 0, 0, []) := rfl
theorem f_182_85 : xfind (xnth xTs 182) 85 = some (85, .aload_n 0, 1, (0, 0, 0, 0), .null, [], 0, 0, []) := rfl
theorem f_182_86 : xfind (xnth xTs 182) 86 = some (86, .getfield 48, 3, (9, 23, 1, 0), .null, [], 932, 0, []) := rfl
theorem f_182_89 : xfind (xnth xTs 182) 89 = some (89, .iconst 0, 1, (0, 0, 0, 0), (.int 0), [], 0, 0, []) := rfl
theorem f_182_90 : xfind (xnth xTs 182) 90 = some (90, .iconst 5, 1, (0, 0, 0, 0), (.int 5), [], 0, 0, []) := rfl
theorem f_182_91 : xfind (xnth xTs 182) 91 = some (91, .invokestatic 76, 3, (136, 5, 9, 6), .null, [], 906, 0, []) := rfl
theorem f_182_94 : xfind (xnth xTs 182) 94 = some (94, .iinc 6 1, 3, (0, 0, 0, 0), .null, [], 0, 0, []) := rfl
theorem f_182_97 : xfind (xnth xTs 182) 97 = some (97, .goto (-45), 3, (0, 0, 0, 0), .null, [], 0, 0, []) := rfl
theorem f_182_100 : xfind (xnth xTs 182) 100 = some (100, .iload 4, 2, (0, 0, 0, 0), .null, [], 0, 0, []) := rfl
theorem f_182_102 : xfind (xnth xTs 182) 102 = some (102, .ldc 234, 2, (0, 0, 0, 0), (.int 1000000), [], 1179, 0, []) := rfl
theorem f_182_104 : xfind (xnth xTs 182) 104 = some (104, .if_icmp .ne 7, 3, (0, 0, 0, 0), .null, [], 0, 0, []) := rfl
theorem f_182_107 : xfind (xnth xTs 182) 107 = some (107, .iconst (-1), 1, (0, 0, 0, 0), (.int (-1)), [], 0, 0, []) := rfl
theorem f_182_108 : xfind (xnth xTs 182) 108 = some (108, .goto 19, 3, (0, 0, 0, 0), .null, [], 0, 0, []) := rfl
theorem f_182_111 : xfind (xnth xTs 182) 111 = some (111, .iload_n 3, 1, (0, 0, 0, 0), .null, [], 0, 0, []) := rfl
theorem f_182_112 : xfind (xnth xTs 182) 112 = some (112, .iconst (-1), 1, (0, 0, 0, 0), (.int (-1)), [], 0, 0, []) := rfl
theorem f_182_113 : xfind (xnth xTs 182) 113 = some (113, .if_icmp .ne 8, 3, (0, 0, 0, 0), .null, [], 0, 0, []) := rfl
theorem f_182_116 : xfind (xnth xTs 182) 116 = some (116, .iload 4, 2, (0, 0, 0, 0), .null, [], 0, 0, []) := rfl
theorem f_182_118 : xfind (xnth xTs 182) 118 = some (118, .goto 9, 3, (0, 0, 0, 0), .null, [], 0, 0, []) := rfl
theorem f_182_121 : xfind (xnth xTs 182) 121 = some (121, .aload_n 0, 1, (0, 0, 0, 0), .null, [], 0, 0, []) := rfl
theorem f_182_122 : xfind (xnth xTs 182) 122 = some (122, .getfield 48, 3, (9, 23, 1, 0), .null, [], 932, 0, []) := rfl
theorem f_182_125 : xfind (xnth xTs 182) 125 = some (125, .iload_n 3, 1, (0, 0, 0, 0), .null, [], 0, 0, []) := rfl
theorem f_182_126 : xfind (xnth xTs 182) 126 = some (126, .iaload, 1, (0, 0, 0, 0), .null, [], 0, 0, []) := rfl
theorem f_182_127 : xfind (xnth xTs 182) 127 = some (127, .ireturn, 1, (0, 0, 0, 0), .null, [], 0, 0, []) := rfl
theorem hd_182_52 : xhead 182 52 = some [7] := rfl
theorem b_R_stands_0 (sh : xSh) (M : Nat → Nat → Int32) (J : Nat → Nat → Int64) (l0 : Nat) (l1 : Int32) (l2 : Int32) (l3 : Int32) : ev (182, 0, [.ref l0, .int l1, .int l2, .int l3, .null, .null, .null, .null], [], (sh, M, J)) = (bif (decide ((sh.2.2.1 l0).1 = 9) && true) then (ev (153, 0, [.ref l0, .int l1], [], (sh, M, J))).bind (fun r => ev (182, 5, [.ref l0, .int l1, .int l2, .int l3, .null, .null, .null, .null], r.1.toList ++ [], r.2)) else none) := by
  refine ev_nx (s1 := (182, 1, [.ref l0, .int l1, .int l2, .int l3, .null, .null, .null, .null], [.ref l0], (sh, M, J))) f_182_0 rfl ?_
  refine ev_nx (s1 := (182, 2, [.ref l0, .int l1, .int l2, .int l3, .null, .null, .null, .null], [.int l1, .ref l0], (sh, M, J))) f_182_1 rfl ?_
  exact ev_ca (cc := (decide ((sh.2.2.1 l0).1 = 9) && true)) (s1 := (153, 0, [.ref l0, .int l1], [], (sh, M, J))) (k := (182, 5, [.ref l0, .int l1, .int l2, .int l3, .null, .null, .null, .null], [])) f_182_2 rfl
theorem b_R_stands_5 (sh : xSh) (M : Nat → Nat → Int32) (J : Nat → Nat → Int64) (l0 : Nat) (l1 : Int32) (l2 : Int32) (l3 : Int32) (k0 : Int32) : ev (182, 5, [.ref l0, .int l1, .int l2, .int l3, .null, .null, .null, .null], [.int k0], (sh, M, J)) = (bif decide (k0 = 0) then some (some (.int (-1000000001)), (sh, M, J)) else bif decide (l3 = (-1)) then (ev (132, 0, [.long (l2 : Int32).toInt64, .null, .long 1, .null, .long 20, .null], [], (sh, M, J))).bind (fun r => ev (182, 33, [.ref l0, .int l1, .int l2, .int l3, .null, .null, .null, .null], r.1.toList ++ [], r.2)) else bif (decide ((sh.2.2.1 l0).1 = 9) && true) then (ev (153, 0, [.ref l0, .int l3], [], (sh, M, J))).bind (fun r => ev (182, 18, [.ref l0, .int l1, .int l2, .int l3, .null, .null, .null, .null], r.1.toList ++ [], r.2)) else none) := by
  refine ev_br (s1 := (182, 21, [.ref l0, .int l1, .int l2, .int l3, .null, .null, .null, .null], [], (sh, M, J))) (s2 := (182, 8, [.ref l0, .int l1, .int l2, .int l3, .null, .null, .null, .null], [], (sh, M, J))) f_182_5 rfl ?_ ?_
  · refine ev_nx (s1 := (182, 23, [.ref l0, .int l1, .int l2, .int l3, .null, .null, .null, .null], [.int (-1000000001)], (sh, M, J))) f_182_21 rfl ?_
    exact ev_r1 f_182_23 rfl
  · refine ev_nx (s1 := (182, 9, [.ref l0, .int l1, .int l2, .int l3, .null, .null, .null, .null], [.int l3], (sh, M, J))) f_182_8 rfl ?_
    refine ev_nx (s1 := (182, 10, [.ref l0, .int l1, .int l2, .int l3, .null, .null, .null, .null], [.int (-1), .int l3], (sh, M, J))) f_182_9 rfl ?_
    refine ev_br (s1 := (182, 24, [.ref l0, .int l1, .int l2, .int l3, .null, .null, .null, .null], [], (sh, M, J))) (s2 := (182, 13, [.ref l0, .int l1, .int l2, .int l3, .null, .null, .null, .null], [], (sh, M, J))) f_182_10 rfl ?_ ?_
    · refine ev_nx (s1 := (182, 25, [.ref l0, .int l1, .int l2, .int l3, .null, .null, .null, .null], [.int l2], (sh, M, J))) f_182_24 rfl ?_
      refine ev_nx (s1 := (182, 26, [.ref l0, .int l1, .int l2, .int l3, .null, .null, .null, .null], [.long (l2 : Int32).toInt64], (sh, M, J))) f_182_25 rfl ?_
      refine ev_nx (s1 := (182, 27, [.ref l0, .int l1, .int l2, .int l3, .null, .null, .null, .null], [.long 1, .long (l2 : Int32).toInt64], (sh, M, J))) f_182_26 rfl ?_
      refine ev_nx (s1 := (182, 30, [.ref l0, .int l1, .int l2, .int l3, .null, .null, .null, .null], [.long 20, .long 1, .long (l2 : Int32).toInt64], (sh, M, J))) f_182_27 rfl ?_
      exact ev_c1 (s1 := (132, 0, [.long (l2 : Int32).toInt64, .null, .long 1, .null, .long 20, .null], [], (sh, M, J))) (k := (182, 33, [.ref l0, .int l1, .int l2, .int l3, .null, .null, .null, .null], [])) f_182_30 rfl
    · refine ev_nx (s1 := (182, 14, [.ref l0, .int l1, .int l2, .int l3, .null, .null, .null, .null], [.ref l0], (sh, M, J))) f_182_13 rfl ?_
      refine ev_nx (s1 := (182, 15, [.ref l0, .int l1, .int l2, .int l3, .null, .null, .null, .null], [.int l3, .ref l0], (sh, M, J))) f_182_14 rfl ?_
      exact ev_ca (cc := (decide ((sh.2.2.1 l0).1 = 9) && true)) (s1 := (153, 0, [.ref l0, .int l3], [], (sh, M, J))) (k := (182, 18, [.ref l0, .int l1, .int l2, .int l3, .null, .null, .null, .null], [])) f_182_15 rfl
theorem b_R_stands_18 (sh : xSh) (M : Nat → Nat → Int32) (J : Nat → Nat → Int64) (l0 : Nat) (l1 : Int32) (l2 : Int32) (l3 : Int32) (k0 : Int32) : ev (182, 18, [.ref l0, .int l1, .int l2, .int l3, .null, .null, .null, .null], [.int k0], (sh, M, J)) = (bif !decide (k0 = 0) then (ev (132, 0, [.long (l2 : Int32).toInt64, .null, .long 1, .null, .long 20, .null], [], (sh, M, J))).bind (fun r => ev (182, 33, [.ref l0, .int l1, .int l2, .int l3, .null, .null, .null, .null], r.1.toList ++ [], r.2)) else some (some (.int (-1000000001)), (sh, M, J))) := by
  refine ev_br (s1 := (182, 24, [.ref l0, .int l1, .int l2, .int l3, .null, .null, .null, .null], [], (sh, M, J))) (s2 := (182, 21, [.ref l0, .int l1, .int l2, .int l3, .null, .null, .null, .null], [], (sh, M, J))) f_182_18 rfl ?_ ?_
  · refine ev_nx (s1 := (182, 25, [.ref l0, .int l1, .int l2, .int l3, .null, .null, .null, .null], [.int l2], (sh, M, J))) f_182_24 rfl ?_
    refine ev_nx (s1 := (182, 26, [.ref l0, .int l1, .int l2, .int l3, .null, .null, .null, .null], [.long (l2 : Int32).toInt64], (sh, M, J))) f_182_25 rfl ?_
    refine ev_nx (s1 := (182, 27, [.ref l0, .int l1, .int l2, .int l3, .null, .null, .null, .null], [.long 1, .long (l2 : Int32).toInt64], (sh, M, J))) f_182_26 rfl ?_
    refine ev_nx (s1 := (182, 30, [.ref l0, .int l1, .int l2, .int l3, .null, .null, .null, .null], [.long 20, .long 1, .long (l2 : Int32).toInt64], (sh, M, J))) f_182_27 rfl ?_
    exact ev_c1 (s1 := (132, 0, [.long (l2 : Int32).toInt64, .null, .long 1, .null, .long 20, .null], [], (sh, M, J))) (k := (182, 33, [.ref l0, .int l1, .int l2, .int l3, .null, .null, .null, .null], [])) f_182_30 rfl
  · refine ev_nx (s1 := (182, 23, [.ref l0, .int l1, .int l2, .int l3, .null, .null, .null, .null], [.int (-1000000001)], (sh, M, J))) f_182_21 rfl ?_
    exact ev_r1 f_182_23 rfl
theorem b_R_stands_33 (sh : xSh) (M : Nat → Nat → Int32) (J : Nat → Nat → Int64) (l0 : Nat) (l1 : Int32) (l2 : Int32) (l3 : Int32) (k0 : Int32) : ev (182, 33, [.ref l0, .int l1, .int l2, .int l3, .null, .null, .null, .null], [.int k0], (sh, M, J)) = (bif !decide (k0 = 0) then bif (decide ((sh.2.2.1 l0).1 = 9) && true) then (ev (180, 0, [.ref l0, .null, .null], [], (sh, M, J))).bind (fun r => ev (182, 47, [.ref l0, .int l1, .int l2, .int l3, .int 1000000, .null, .null, .null], r.1.toList ++ [], r.2)) else none else some (some (.int (-1000000002)), (sh, M, J))) := by
  refine ev_br (s1 := (182, 39, [.ref l0, .int l1, .int l2, .int l3, .null, .null, .null, .null], [], (sh, M, J))) (s2 := (182, 36, [.ref l0, .int l1, .int l2, .int l3, .null, .null, .null, .null], [], (sh, M, J))) f_182_33 rfl ?_ ?_
  · refine ev_nx (s1 := (182, 41, [.ref l0, .int l1, .int l2, .int l3, .null, .null, .null, .null], [.int 1000000], (sh, M, J))) f_182_39 rfl ?_
    refine ev_nx (s1 := (182, 43, [.ref l0, .int l1, .int l2, .int l3, .int 1000000, .null, .null, .null], [], (sh, M, J))) f_182_41 rfl ?_
    refine ev_nx (s1 := (182, 44, [.ref l0, .int l1, .int l2, .int l3, .int 1000000, .null, .null, .null], [.ref l0], (sh, M, J))) f_182_43 rfl ?_
    exact ev_ca (cc := (decide ((sh.2.2.1 l0).1 = 9) && true)) (s1 := (180, 0, [.ref l0, .null, .null], [], (sh, M, J))) (k := (182, 47, [.ref l0, .int l1, .int l2, .int l3, .int 1000000, .null, .null, .null], [])) f_182_44 rfl
  · refine ev_nx (s1 := (182, 38, [.ref l0, .int l1, .int l2, .int l3, .null, .null, .null, .null], [.int (-1000000002)], (sh, M, J))) f_182_36 rfl ?_
    exact ev_r1 f_182_38 rfl
theorem b_R_stands_47 (sh : xSh) (M : Nat → Nat → Int32) (J : Nat → Nat → Int64) (l0 : Nat) (l1 : Int32) (l2 : Int32) (l3 : Int32) (l4 : Int32) (k0 : Int32) : ev (182, 47, [.ref l0, .int l1, .int l2, .int l3, .int l4, .null, .null, .null], [.int k0], (sh, M, J)) = (ev (182, 52, [.ref l0, .int l1, .int l2, .int l3, .int l4, .int k0, .int 0, .null], [], (sh, M, J))) := by
  refine ev_nx (s1 := (182, 49, [.ref l0, .int l1, .int l2, .int l3, .int l4, .int k0, .null, .null], [], (sh, M, J))) f_182_47 rfl ?_
  refine ev_nx (s1 := (182, 50, [.ref l0, .int l1, .int l2, .int l3, .int l4, .int k0, .null, .null], [.int 0], (sh, M, J))) f_182_49 rfl ?_
  refine ev_nx (s1 := (182, 52, [.ref l0, .int l1, .int l2, .int l3, .int l4, .int k0, .int 0, .null], [], (sh, M, J))) f_182_50 rfl ?_
  exact rfl
theorem b_R_stands_52 (sh : xSh) (M : Nat → Nat → Int32) (J : Nat → Nat → Int64) (l0 : Nat) (l1 : Int32) (l2 : Int32) (l3 : Int32) (l4 : Int32) (l5 : Int32) (l6 : Int32) : ev (182, 52, [.ref l0, .int l1, .int l2, .int l3, .int l4, .int l5, .int l6, .null], [], (sh, M, J)) = (bif decide (l5 ≤ l6) then bif !decide (l4 = 1000000) then bif !decide (l3 = (-1)) then bif decide ((sh.2.2.1 l0).1 = 9) then bif (decide ((sh.2.2.1 (sh.2.2.2 l0 23)).1 = 11) && xin l3 (sh.2.2.1 (sh.2.2.2 l0 23)).2) then some (some (.int (M (sh.2.2.2 l0 23) (l3 : Int32).toNatClampNeg)), (sh, M, J)) else none else none else some (some (.int l4), (sh, M, J)) else some (some (.int (-1)), (sh, M, J)) else bif (decide ((sh.2.2.1 l0).1 = 9) && true) then (ev (181, 0, [.ref l0, .int l6, .int l1, .int l2, .null, .null, .null], [], (sh, M, J))).bind (fun r => ev (182, 67, [.ref l0, .int l1, .int l2, .int l3, .int l4, .int l5, .int l6, .null], r.1.toList ++ [], r.2)) else none) := by
  refine ev_nx (s1 := (182, 54, [.ref l0, .int l1, .int l2, .int l3, .int l4, .int l5, .int l6, .null], [.int l6], (sh, M, J))) f_182_52 rfl ?_
  refine ev_nx (s1 := (182, 56, [.ref l0, .int l1, .int l2, .int l3, .int l4, .int l5, .int l6, .null], [.int l5, .int l6], (sh, M, J))) f_182_54 rfl ?_
  refine ev_br (s1 := (182, 100, [.ref l0, .int l1, .int l2, .int l3, .int l4, .int l5, .int l6, .null], [], (sh, M, J))) (s2 := (182, 59, [.ref l0, .int l1, .int l2, .int l3, .int l4, .int l5, .int l6, .null], [], (sh, M, J))) f_182_56 rfl ?_ ?_
  · refine ev_nx (s1 := (182, 102, [.ref l0, .int l1, .int l2, .int l3, .int l4, .int l5, .int l6, .null], [.int l4], (sh, M, J))) f_182_100 rfl ?_
    refine ev_nx (s1 := (182, 104, [.ref l0, .int l1, .int l2, .int l3, .int l4, .int l5, .int l6, .null], [.int 1000000, .int l4], (sh, M, J))) f_182_102 rfl ?_
    refine ev_br (s1 := (182, 111, [.ref l0, .int l1, .int l2, .int l3, .int l4, .int l5, .int l6, .null], [], (sh, M, J))) (s2 := (182, 107, [.ref l0, .int l1, .int l2, .int l3, .int l4, .int l5, .int l6, .null], [], (sh, M, J))) f_182_104 rfl ?_ ?_
    · refine ev_nx (s1 := (182, 112, [.ref l0, .int l1, .int l2, .int l3, .int l4, .int l5, .int l6, .null], [.int l3], (sh, M, J))) f_182_111 rfl ?_
      refine ev_nx (s1 := (182, 113, [.ref l0, .int l1, .int l2, .int l3, .int l4, .int l5, .int l6, .null], [.int (-1), .int l3], (sh, M, J))) f_182_112 rfl ?_
      refine ev_br (s1 := (182, 121, [.ref l0, .int l1, .int l2, .int l3, .int l4, .int l5, .int l6, .null], [], (sh, M, J))) (s2 := (182, 116, [.ref l0, .int l1, .int l2, .int l3, .int l4, .int l5, .int l6, .null], [], (sh, M, J))) f_182_113 rfl ?_ ?_
      · refine ev_nx (s1 := (182, 122, [.ref l0, .int l1, .int l2, .int l3, .int l4, .int l5, .int l6, .null], [.ref l0], (sh, M, J))) f_182_121 rfl ?_
        refine ev_gd (s1 := (182, 125, [.ref l0, .int l1, .int l2, .int l3, .int l4, .int l5, .int l6, .null], [.ref (sh.2.2.2 l0 23)], (sh, M, J))) f_182_122 rfl ?_
        refine ev_nx (s1 := (182, 126, [.ref l0, .int l1, .int l2, .int l3, .int l4, .int l5, .int l6, .null], [.int l3, .ref (sh.2.2.2 l0 23)], (sh, M, J))) f_182_125 rfl ?_
        refine ev_gd (s1 := (182, 127, [.ref l0, .int l1, .int l2, .int l3, .int l4, .int l5, .int l6, .null], [.int (M (sh.2.2.2 l0 23) (l3 : Int32).toNatClampNeg)], (sh, M, J))) f_182_126 rfl ?_
        exact ev_r1 f_182_127 rfl
      · refine ev_nx (s1 := (182, 118, [.ref l0, .int l1, .int l2, .int l3, .int l4, .int l5, .int l6, .null], [.int l4], (sh, M, J))) f_182_116 rfl ?_
        refine ev_nx (s1 := (182, 127, [.ref l0, .int l1, .int l2, .int l3, .int l4, .int l5, .int l6, .null], [.int l4], (sh, M, J))) f_182_118 rfl ?_
        exact ev_r1 f_182_127 rfl
    · refine ev_nx (s1 := (182, 108, [.ref l0, .int l1, .int l2, .int l3, .int l4, .int l5, .int l6, .null], [.int (-1)], (sh, M, J))) f_182_107 rfl ?_
      refine ev_nx (s1 := (182, 127, [.ref l0, .int l1, .int l2, .int l3, .int l4, .int l5, .int l6, .null], [.int (-1)], (sh, M, J))) f_182_108 rfl ?_
      exact ev_r1 f_182_127 rfl
  · refine ev_nx (s1 := (182, 60, [.ref l0, .int l1, .int l2, .int l3, .int l4, .int l5, .int l6, .null], [.ref l0], (sh, M, J))) f_182_59 rfl ?_
    refine ev_nx (s1 := (182, 62, [.ref l0, .int l1, .int l2, .int l3, .int l4, .int l5, .int l6, .null], [.int l6, .ref l0], (sh, M, J))) f_182_60 rfl ?_
    refine ev_nx (s1 := (182, 63, [.ref l0, .int l1, .int l2, .int l3, .int l4, .int l5, .int l6, .null], [.int l1, .int l6, .ref l0], (sh, M, J))) f_182_62 rfl ?_
    refine ev_nx (s1 := (182, 64, [.ref l0, .int l1, .int l2, .int l3, .int l4, .int l5, .int l6, .null], [.int l2, .int l1, .int l6, .ref l0], (sh, M, J))) f_182_63 rfl ?_
    exact ev_ca (cc := (decide ((sh.2.2.1 l0).1 = 9) && true)) (s1 := (181, 0, [.ref l0, .int l6, .int l1, .int l2, .null, .null, .null], [], (sh, M, J))) (k := (182, 67, [.ref l0, .int l1, .int l2, .int l3, .int l4, .int l5, .int l6, .null], [])) f_182_64 rfl
theorem b_R_stands_67 (sh : xSh) (M : Nat → Nat → Int32) (J : Nat → Nat → Int64) (l0 : Nat) (l1 : Int32) (l2 : Int32) (l3 : Int32) (l4 : Int32) (l5 : Int32) (l6 : Int32) (k0 : Int32) : ev (182, 67, [.ref l0, .int l1, .int l2, .int l3, .int l4, .int l5, .int l6, .null], [.int k0], (sh, M, J)) = (bif decide (l4 ≤ k0) then ev (182, 52, [.ref l0, .int l1, .int l2, .int l3, .int l4, .int l5, .int (l6 + 1), .null], [], (sh, M, J)) else bif decide ((sh.2.2.1 l0).1 = 9) then bif decide ((sh.2.2.1 l0).1 = 9) then (ev (136, 0, [.ref (sh.2.2.2 l0 22), .int 0, .ref (sh.2.2.2 l0 23), .int 0, .int 5, .null], [], (sh, M, J))).bind (fun r => ev (182, 94, [.ref l0, .int l1, .int l2, .int l3, .int k0, .int l5, .int l6, .int k0], r.1.toList ++ [], r.2)) else none else none) := by
  refine ev_nx (s1 := (182, 69, [.ref l0, .int l1, .int l2, .int l3, .int l4, .int l5, .int l6, .int k0], [], (sh, M, J))) f_182_67 rfl ?_
  refine ev_nx (s1 := (182, 71, [.ref l0, .int l1, .int l2, .int l3, .int l4, .int l5, .int l6, .int k0], [.int k0], (sh, M, J))) f_182_69 rfl ?_
  refine ev_nx (s1 := (182, 73, [.ref l0, .int l1, .int l2, .int l3, .int l4, .int l5, .int l6, .int k0], [.int l4, .int k0], (sh, M, J))) f_182_71 rfl ?_
  refine ev_br (s1 := (182, 94, [.ref l0, .int l1, .int l2, .int l3, .int l4, .int l5, .int l6, .int k0], [], (sh, M, J))) (s2 := (182, 76, [.ref l0, .int l1, .int l2, .int l3, .int l4, .int l5, .int l6, .int k0], [], (sh, M, J))) f_182_73 rfl ?_ ?_
  · refine ev_nx (s1 := (182, 97, [.ref l0, .int l1, .int l2, .int l3, .int l4, .int l5, .int (l6 + 1), .int k0], [], (sh, M, J))) f_182_94 rfl ?_
    refine ev_nx (s1 := (182, 52, [.ref l0, .int l1, .int l2, .int l3, .int l4, .int l5, .int (l6 + 1), .int k0], [], (sh, M, J))) f_182_97 rfl ?_
    exact (ev_kill hd_182_52).symm
  · refine ev_nx (s1 := (182, 78, [.ref l0, .int l1, .int l2, .int l3, .int l4, .int l5, .int l6, .int k0], [.int k0], (sh, M, J))) f_182_76 rfl ?_
    refine ev_nx (s1 := (182, 80, [.ref l0, .int l1, .int l2, .int l3, .int k0, .int l5, .int l6, .int k0], [], (sh, M, J))) f_182_78 rfl ?_
    refine ev_nx (s1 := (182, 81, [.ref l0, .int l1, .int l2, .int l3, .int k0, .int l5, .int l6, .int k0], [.ref l0], (sh, M, J))) f_182_80 rfl ?_
    refine ev_gd (s1 := (182, 84, [.ref l0, .int l1, .int l2, .int l3, .int k0, .int l5, .int l6, .int k0], [.ref (sh.2.2.2 l0 22)], (sh, M, J))) f_182_81 rfl ?_
    refine ev_nx (s1 := (182, 85, [.ref l0, .int l1, .int l2, .int l3, .int k0, .int l5, .int l6, .int k0], [.int 0, .ref (sh.2.2.2 l0 22)], (sh, M, J))) f_182_84 rfl ?_
    refine ev_nx (s1 := (182, 86, [.ref l0, .int l1, .int l2, .int l3, .int k0, .int l5, .int l6, .int k0], [.ref l0, .int 0, .ref (sh.2.2.2 l0 22)], (sh, M, J))) f_182_85 rfl ?_
    refine ev_gd (s1 := (182, 89, [.ref l0, .int l1, .int l2, .int l3, .int k0, .int l5, .int l6, .int k0], [.ref (sh.2.2.2 l0 23), .int 0, .ref (sh.2.2.2 l0 22)], (sh, M, J))) f_182_86 rfl ?_
    refine ev_nx (s1 := (182, 90, [.ref l0, .int l1, .int l2, .int l3, .int k0, .int l5, .int l6, .int k0], [.int 0, .ref (sh.2.2.2 l0 23), .int 0, .ref (sh.2.2.2 l0 22)], (sh, M, J))) f_182_89 rfl ?_
    refine ev_nx (s1 := (182, 91, [.ref l0, .int l1, .int l2, .int l3, .int k0, .int l5, .int l6, .int k0], [.int 5, .int 0, .ref (sh.2.2.2 l0 23), .int 0, .ref (sh.2.2.2 l0 22)], (sh, M, J))) f_182_90 rfl ?_
    exact ev_c1 (s1 := (136, 0, [.ref (sh.2.2.2 l0 22), .int 0, .ref (sh.2.2.2 l0 23), .int 0, .int 5, .null], [], (sh, M, J))) (k := (182, 94, [.ref l0, .int l1, .int l2, .int l3, .int k0, .int l5, .int l6, .int k0], [])) f_182_91 rfl
theorem b_R_stands_94 (sh : xSh) (M : Nat → Nat → Int32) (J : Nat → Nat → Int64) (l0 : Nat) (l1 : Int32) (l2 : Int32) (l3 : Int32) (l4 : Int32) (l5 : Int32) (l6 : Int32) (l7 : Int32) : ev (182, 94, [.ref l0, .int l1, .int l2, .int l3, .int l4, .int l5, .int l6, .int l7], [], (sh, M, J)) = (ev (182, 52, [.ref l0, .int l1, .int l2, .int l3, .int l4, .int l5, .int (l6 + 1), .null], [], (sh, M, J))) := by
  refine ev_nx (s1 := (182, 97, [.ref l0, .int l1, .int l2, .int l3, .int l4, .int l5, .int (l6 + 1), .int l7], [], (sh, M, J))) f_182_94 rfl ?_
  refine ev_nx (s1 := (182, 52, [.ref l0, .int l1, .int l2, .int l3, .int l4, .int l5, .int (l6 + 1), .int l7], [], (sh, M, J))) f_182_97 rfl ?_
  exact (ev_kill hd_182_52).symm
theorem f_183_0 : xfind (xnth xTs 183) 0 = some (0, .aload_n 0, 1, (0, 0, 0, 0), .null, [], 0, 0, []) := rfl
theorem f_183_1 : xfind (xnth xTs 183) 1 = some (1, .aload_n 0, 1, (0, 0, 0, 0), .null, [], 0, 0, []) := rfl
theorem f_183_2 : xfind (xnth xTs 183) 2 = some (2, .getfield 16, 3, (9, 2, 1, 0), .null, [], 911, 0, []) := rfl
theorem f_183_5 : xfind (xnth xTs 183) 5 = some (5, .invokevirtual 169, 3, (158, 1, 9, 5), .null, [], 1057, 0, []) := rfl
theorem f_183_8 : xfind (xnth xTs 183) 8 = some (8, .istore_n 1, 1, (0, 0, 0, 0), .null, [], 0, 0, []) := rfl
theorem f_183_9 : xfind (xnth xTs 183) 9 = some (9, .iconst 0, 1, (0, 0, 0, 0), (.int 0), [], 0, 0, []) := rfl
theorem f_183_10 : xfind (xnth xTs 183) 10 = some (10, .istore_n 2, 1, (0, 0, 0, 0), .null, [], 0, 0, []) := rfl
theorem f_183_11 : xfind (xnth xTs 183) 11 = some (11, .iconst 0, 1, (0, 0, 0, 0), (.int 0), [], 0, 0, []) := rfl
theorem f_183_12 : xfind (xnth xTs 183) 12 = some (12, .istore_n 3, 1, (0, 0, 0, 0), .null, [], 0, 0, []) := rfl
theorem f_183_13 : xfind (xnth xTs 183) 13 = some (13, .iload_n 3, 1, (0, 0, 0, 0), .null, [], 0, 1, []) := rfl
theorem f_183_14 : xfind (xnth xTs 183) 14 = some (14, .aload_n 0, 1, (0, 0, 0, 0), .null, [], 0, 0, []) := rfl
theorem f_183_15 : xfind (xnth xTs 183) 15 = some (15, .invokevirtual 156, 3, (151, 0, 9, 1), .null, [], 1061, 0, []) := rfl
theorem f_183_18 : xfind (xnth xTs 183) 18 = some (18, .if_icmp .ge 50, 3, (0, 0, 0, 0), .null, [], 0, 0, []) := rfl
theorem f_183_21 : xfind (xnth xTs 183) 21 = some (21, .iload_n 2, 1, (0, 0, 0, 0), .null, [], 0, 0, []) := rfl
theorem f_183_22 : xfind (xnth xTs 183) 22 = some (22, .aload_n 0, 1, (0, 0, 0, 0), .null, [], 0, 0, []) := rfl
theorem f_183_23 : xfind (xnth xTs 183) 23 = some (23, .getfield 16, 3, (9, 2, 1, 0), .null, [], 911, 0, []) := rfl
theorem f_183_26 : xfind (xnth xTs 183) 26 = some (26, .bipush 20, 2, (0, 0, 0, 0), (.int 20), [], 0, 0, []) := rfl
theorem f_183_28 : xfind (xnth xTs 183) 28 = some (28, .iaload, 1, (0, 0, 0, 0), .null, [], 0, 0, []) := rfl
theorem f_183_29 : xfind (xnth xTs 183) 29 = some (29, .iload_n 3, 1, (0, 0, 0, 0), .null, [], 0, 0, []) := rfl
theorem f_183_30 : xfind (xnth xTs 183) 30 = some (30, .invokestatic 137, 3, (133, 2, 9, 2), .null, [], 1034, 0, []) := rfl
theorem f_183_33 : xfind (xnth xTs 183) 33 = some (33, .ifCond .eq 26, 3, (0, 0, 0, 0), .null, [], 0, 0, []) := rfl
theorem f_183_36 : xfind (xnth xTs 183) 36 = some (36, .aload_n 0, 1, (0, 0, 0, 0), .null, [], 0, 0, []) := rfl
theorem f_183_37 : xfind (xnth xTs 183) 37 = some (37, .iload_n 3, 1, (0, 0, 0, 0), .null, [], 0, 0, []) := rfl
theorem f_183_38 : xfind (xnth xTs 183) 38 = some (38, .iload_n 1, 1, (0, 0, 0, 0), .null, [], 0, 0, []) := rfl
theorem f_183_39 : xfind (xnth xTs 183) 39 = some (39, .invokevirtual 173, 3, (159, 2, 9, 5), .null, [], 1073, 0, []) := rfl
theorem f_183_42 : xfind (xnth xTs 183) 42 = some (42, .i2l, 1, (0, 0, 0, 0), .null, [], 0, 0, []) := rfl
theorem f_183_43 : xfind (xnth xTs 183) 43 = some (43, .lconst 0, 1, (0, 0, 0, 0), (.long 0), [], 0, 0, []) := rfl
theorem f_183_44 : xfind (xnth xTs 183) 44 = some (44, .ldc2_w 242, 3, (0, 0, 0, 0), (.long 3), [], 1192, 0, []) := rfl
theorem f_183_47 : xfind (xnth xTs 183) 47 = some (47, .invokestatic 68, 3, (132, 3, 9, 6), .null, [], 897, 0, []) := rfl
theorem f_183_50 : xfind (xnth xTs 183) 50 = some (50, .ifCond .ne 9, 3, (0, 0, 0, 0), .null, [], 0, 0, []) := rfl
theorem f_183_53 : xfind (xnth xTs 183) 53 = some (53, .iconst 1, 1, (0, 0, 0, 0), (.int 1), [], 0, 0, []) := rfl
theorem f_183_54 : xfind (xnth xTs 183) 54 = some (54, .iload_n 3, 1, (0, 0, 0, 0), .null, [], 0, 0, []) := rfl
theorem f_183_55 : xfind (xnth xTs 183) 55 = some (55, .ishl, 1, (0, 0, 0, 0), .null, [], 0, 0, []) := rfl
theorem f_183_56 : xfind (xnth xTs 183) 56 = some (56, .goto 4, 3, (0, 0, 0, 0), .null, [], 0, 0, []) := rfl
theorem f_183_59 : xfind (xnth xTs 183) 59 = some (59, .iconst 0, 1, (0, 0, 0, 0), (.int 0), [], 0, 0, []) := rfl
theorem f_183_60 : xfind (xnth xTs 183) 60 = some (60, .ior, 1, (0, 0, 0, 0), .null, [], 0, 0, []) := rfl
theorem f_183_61 : xfind (xnth xTs 183) 61 = some (61, .istore_n 2, 1, (0, 0, 0, 0), .null, [], 0, 0, []) := rfl
theorem f_183_62 : xfind (xnth xTs 183) 62 = some (62, .iinc 3 1, 3, (0, 0, 0, 0), .null, [], 0, 0, []) := rfl
theorem f_183_65 : xfind (xnth xTs 183) 65 = some (65, .goto (-52), 3, (0, 0, 0, 0), .null, [], 0, 0, []) := rfl
theorem f_183_68 : xfind (xnth xTs 183) 68 = some (68, .iload_n 2, 1, (0, 0, 0, 0), .null, [], 0, 0, []) := rfl
theorem f_183_69 : xfind (xnth xTs 183) 69 = some (69, .ireturn, 1, (0, 0, 0, 0), .null, [], 0, 0, []) := rfl
theorem hd_183_13 : xhead 183 13 = some [] := rfl
theorem b_R_hidden_0 (sh : xSh) (M : Nat → Nat → Int32) (J : Nat → Nat → Int64) (l0 : Nat) : ev (183, 0, [.ref l0, .null, .null, .null], [], (sh, M, J)) = (bif decide ((sh.2.2.1 l0).1 = 9) then bif (decide ((sh.2.2.1 l0).1 = 9) && true) then (ev (158, 0, [.ref l0, .ref (sh.2.2.2 l0 2), .null, .null, .null], [], (sh, M, J))).bind (fun r => ev (183, 8, [.ref l0, .null, .null, .null], r.1.toList ++ [], r.2)) else none else none) := by
  refine ev_nx (s1 := (183, 1, [.ref l0, .null, .null, .null], [.ref l0], (sh, M, J))) f_183_0 rfl ?_
  refine ev_nx (s1 := (183, 2, [.ref l0, .null, .null, .null], [.ref l0, .ref l0], (sh, M, J))) f_183_1 rfl ?_
  refine ev_gd (s1 := (183, 5, [.ref l0, .null, .null, .null], [.ref (sh.2.2.2 l0 2), .ref l0], (sh, M, J))) f_183_2 rfl ?_
  exact ev_ca (cc := (decide ((sh.2.2.1 l0).1 = 9) && true)) (s1 := (158, 0, [.ref l0, .ref (sh.2.2.2 l0 2), .null, .null, .null], [], (sh, M, J))) (k := (183, 8, [.ref l0, .null, .null, .null], [])) f_183_5 rfl
theorem b_R_hidden_8 (sh : xSh) (M : Nat → Nat → Int32) (J : Nat → Nat → Int64) (l0 : Nat) (k0 : Int32) : ev (183, 8, [.ref l0, .null, .null, .null], [.int k0], (sh, M, J)) = (ev (183, 13, [.ref l0, .int k0, .int 0, .int 0], [], (sh, M, J))) := by
  refine ev_nx (s1 := (183, 9, [.ref l0, .int k0, .null, .null], [], (sh, M, J))) f_183_8 rfl ?_
  refine ev_nx (s1 := (183, 10, [.ref l0, .int k0, .null, .null], [.int 0], (sh, M, J))) f_183_9 rfl ?_
  refine ev_nx (s1 := (183, 11, [.ref l0, .int k0, .int 0, .null], [], (sh, M, J))) f_183_10 rfl ?_
  refine ev_nx (s1 := (183, 12, [.ref l0, .int k0, .int 0, .null], [.int 0], (sh, M, J))) f_183_11 rfl ?_
  refine ev_nx (s1 := (183, 13, [.ref l0, .int k0, .int 0, .int 0], [], (sh, M, J))) f_183_12 rfl ?_
  exact rfl
theorem b_R_hidden_13 (sh : xSh) (M : Nat → Nat → Int32) (J : Nat → Nat → Int64) (l0 : Nat) (l1 : Int32) (l2 : Int32) (l3 : Int32) : ev (183, 13, [.ref l0, .int l1, .int l2, .int l3], [], (sh, M, J)) = (bif (decide ((sh.2.2.1 l0).1 = 9) && true) then (ev (151, 0, [.ref l0], [], (sh, M, J))).bind (fun r => ev (183, 18, [.ref l0, .int l1, .int l2, .int l3], r.1.toList ++ [.int l3], r.2)) else none) := by
  refine ev_nx (s1 := (183, 14, [.ref l0, .int l1, .int l2, .int l3], [.int l3], (sh, M, J))) f_183_13 rfl ?_
  refine ev_nx (s1 := (183, 15, [.ref l0, .int l1, .int l2, .int l3], [.ref l0, .int l3], (sh, M, J))) f_183_14 rfl ?_
  exact ev_ca (cc := (decide ((sh.2.2.1 l0).1 = 9) && true)) (s1 := (151, 0, [.ref l0], [], (sh, M, J))) (k := (183, 18, [.ref l0, .int l1, .int l2, .int l3], [.int l3])) f_183_15 rfl
theorem b_R_hidden_18 (sh : xSh) (M : Nat → Nat → Int32) (J : Nat → Nat → Int64) (l0 : Nat) (l1 : Int32) (l2 : Int32) (l3 : Int32) (k0 : Int32) (k1 : Int32) : ev (183, 18, [.ref l0, .int l1, .int l2, .int l3], [.int k0, .int k1], (sh, M, J)) = (bif decide (k0 ≤ k1) then some (some (.int l2), (sh, M, J)) else bif decide ((sh.2.2.1 l0).1 = 9) then bif (decide ((sh.2.2.1 (sh.2.2.2 l0 2)).1 = 11) && xin 20 (sh.2.2.1 (sh.2.2.2 l0 2)).2) then (ev (133, 0, [.int (M (sh.2.2.2 l0 2) (20 : Int32).toNatClampNeg), .int l3], [], (sh, M, J))).bind (fun r => ev (183, 33, [.ref l0, .int l1, .int l2, .int l3], r.1.toList ++ [.int l2], r.2)) else none else none) := by
  refine ev_br (s1 := (183, 68, [.ref l0, .int l1, .int l2, .int l3], [], (sh, M, J))) (s2 := (183, 21, [.ref l0, .int l1, .int l2, .int l3], [], (sh, M, J))) f_183_18 rfl ?_ ?_
  · refine ev_nx (s1 := (183, 69, [.ref l0, .int l1, .int l2, .int l3], [.int l2], (sh, M, J))) f_183_68 rfl ?_
    exact ev_r1 f_183_69 rfl
  · refine ev_nx (s1 := (183, 22, [.ref l0, .int l1, .int l2, .int l3], [.int l2], (sh, M, J))) f_183_21 rfl ?_
    refine ev_nx (s1 := (183, 23, [.ref l0, .int l1, .int l2, .int l3], [.ref l0, .int l2], (sh, M, J))) f_183_22 rfl ?_
    refine ev_gd (s1 := (183, 26, [.ref l0, .int l1, .int l2, .int l3], [.ref (sh.2.2.2 l0 2), .int l2], (sh, M, J))) f_183_23 rfl ?_
    refine ev_nx (s1 := (183, 28, [.ref l0, .int l1, .int l2, .int l3], [.int 20, .ref (sh.2.2.2 l0 2), .int l2], (sh, M, J))) f_183_26 rfl ?_
    refine ev_gd (s1 := (183, 29, [.ref l0, .int l1, .int l2, .int l3], [.int (M (sh.2.2.2 l0 2) (20 : Int32).toNatClampNeg), .int l2], (sh, M, J))) f_183_28 rfl ?_
    refine ev_nx (s1 := (183, 30, [.ref l0, .int l1, .int l2, .int l3], [.int l3, .int (M (sh.2.2.2 l0 2) (20 : Int32).toNatClampNeg), .int l2], (sh, M, J))) f_183_29 rfl ?_
    exact ev_c1 (s1 := (133, 0, [.int (M (sh.2.2.2 l0 2) (20 : Int32).toNatClampNeg), .int l3], [], (sh, M, J))) (k := (183, 33, [.ref l0, .int l1, .int l2, .int l3], [.int l2])) f_183_30 rfl
theorem b_R_hidden_33 (sh : xSh) (M : Nat → Nat → Int32) (J : Nat → Nat → Int64) (l0 : Nat) (l1 : Int32) (l2 : Int32) (l3 : Int32) (k0 : Int32) (k1 : Int32) : ev (183, 33, [.ref l0, .int l1, .int l2, .int l3], [.int k0, .int k1], (sh, M, J)) = (bif decide (k0 = 0) then ev (183, 13, [.ref l0, .int l1, .int (k1 ||| 0), .int (l3 + 1)], [], (sh, M, J)) else bif (decide ((sh.2.2.1 l0).1 = 9) && true) then (ev (159, 0, [.ref l0, .int l3, .int l1, .null, .null], [], (sh, M, J))).bind (fun r => ev (183, 42, [.ref l0, .int l1, .int l2, .int l3], r.1.toList ++ [.int k1], r.2)) else none) := by
  refine ev_br (s1 := (183, 59, [.ref l0, .int l1, .int l2, .int l3], [.int k1], (sh, M, J))) (s2 := (183, 36, [.ref l0, .int l1, .int l2, .int l3], [.int k1], (sh, M, J))) f_183_33 rfl ?_ ?_
  · refine ev_nx (s1 := (183, 60, [.ref l0, .int l1, .int l2, .int l3], [.int 0, .int k1], (sh, M, J))) f_183_59 rfl ?_
    refine ev_nx (s1 := (183, 61, [.ref l0, .int l1, .int l2, .int l3], [.int (k1 ||| 0)], (sh, M, J))) f_183_60 rfl ?_
    refine ev_nx (s1 := (183, 62, [.ref l0, .int l1, .int (k1 ||| 0), .int l3], [], (sh, M, J))) f_183_61 rfl ?_
    refine ev_nx (s1 := (183, 65, [.ref l0, .int l1, .int (k1 ||| 0), .int (l3 + 1)], [], (sh, M, J))) f_183_62 rfl ?_
    refine ev_nx (s1 := (183, 13, [.ref l0, .int l1, .int (k1 ||| 0), .int (l3 + 1)], [], (sh, M, J))) f_183_65 rfl ?_
    exact rfl
  · refine ev_nx (s1 := (183, 37, [.ref l0, .int l1, .int l2, .int l3], [.ref l0, .int k1], (sh, M, J))) f_183_36 rfl ?_
    refine ev_nx (s1 := (183, 38, [.ref l0, .int l1, .int l2, .int l3], [.int l3, .ref l0, .int k1], (sh, M, J))) f_183_37 rfl ?_
    refine ev_nx (s1 := (183, 39, [.ref l0, .int l1, .int l2, .int l3], [.int l1, .int l3, .ref l0, .int k1], (sh, M, J))) f_183_38 rfl ?_
    exact ev_ca (cc := (decide ((sh.2.2.1 l0).1 = 9) && true)) (s1 := (159, 0, [.ref l0, .int l3, .int l1, .null, .null], [], (sh, M, J))) (k := (183, 42, [.ref l0, .int l1, .int l2, .int l3], [.int k1])) f_183_39 rfl
theorem b_R_hidden_42 (sh : xSh) (M : Nat → Nat → Int32) (J : Nat → Nat → Int64) (l0 : Nat) (l1 : Int32) (l2 : Int32) (l3 : Int32) (k0 : Int32) (k1 : Int32) : ev (183, 42, [.ref l0, .int l1, .int l2, .int l3], [.int k0, .int k1], (sh, M, J)) = ((ev (132, 0, [.long (k0 : Int32).toInt64, .null, .long 0, .null, .long 3, .null], [], (sh, M, J))).bind (fun r => ev (183, 50, [.ref l0, .int l1, .int l2, .int l3], r.1.toList ++ [.int k1], r.2))) := by
  refine ev_nx (s1 := (183, 43, [.ref l0, .int l1, .int l2, .int l3], [.long (k0 : Int32).toInt64, .int k1], (sh, M, J))) f_183_42 rfl ?_
  refine ev_nx (s1 := (183, 44, [.ref l0, .int l1, .int l2, .int l3], [.long 0, .long (k0 : Int32).toInt64, .int k1], (sh, M, J))) f_183_43 rfl ?_
  refine ev_nx (s1 := (183, 47, [.ref l0, .int l1, .int l2, .int l3], [.long 3, .long 0, .long (k0 : Int32).toInt64, .int k1], (sh, M, J))) f_183_44 rfl ?_
  exact ev_c1 (s1 := (132, 0, [.long (k0 : Int32).toInt64, .null, .long 0, .null, .long 3, .null], [], (sh, M, J))) (k := (183, 50, [.ref l0, .int l1, .int l2, .int l3], [.int k1])) f_183_47 rfl
theorem b_R_hidden_50 (sh : xSh) (M : Nat → Nat → Int32) (J : Nat → Nat → Int64) (l0 : Nat) (l1 : Int32) (l2 : Int32) (l3 : Int32) (k0 : Int32) (k1 : Int32) : ev (183, 50, [.ref l0, .int l1, .int l2, .int l3], [.int k0, .int k1], (sh, M, J)) = (bif !decide (k0 = 0) then ev (183, 13, [.ref l0, .int l1, .int (k1 ||| 0), .int (l3 + 1)], [], (sh, M, J)) else ev (183, 13, [.ref l0, .int l1, .int (k1 ||| ((1 : Int32) <<< (l3 &&& 31))), .int (l3 + 1)], [], (sh, M, J))) := by
  refine ev_br (s1 := (183, 59, [.ref l0, .int l1, .int l2, .int l3], [.int k1], (sh, M, J))) (s2 := (183, 53, [.ref l0, .int l1, .int l2, .int l3], [.int k1], (sh, M, J))) f_183_50 rfl ?_ ?_
  · refine ev_nx (s1 := (183, 60, [.ref l0, .int l1, .int l2, .int l3], [.int 0, .int k1], (sh, M, J))) f_183_59 rfl ?_
    refine ev_nx (s1 := (183, 61, [.ref l0, .int l1, .int l2, .int l3], [.int (k1 ||| 0)], (sh, M, J))) f_183_60 rfl ?_
    refine ev_nx (s1 := (183, 62, [.ref l0, .int l1, .int (k1 ||| 0), .int l3], [], (sh, M, J))) f_183_61 rfl ?_
    refine ev_nx (s1 := (183, 65, [.ref l0, .int l1, .int (k1 ||| 0), .int (l3 + 1)], [], (sh, M, J))) f_183_62 rfl ?_
    refine ev_nx (s1 := (183, 13, [.ref l0, .int l1, .int (k1 ||| 0), .int (l3 + 1)], [], (sh, M, J))) f_183_65 rfl ?_
    exact rfl
  · refine ev_nx (s1 := (183, 54, [.ref l0, .int l1, .int l2, .int l3], [.int 1, .int k1], (sh, M, J))) f_183_53 rfl ?_
    refine ev_nx (s1 := (183, 55, [.ref l0, .int l1, .int l2, .int l3], [.int l3, .int 1, .int k1], (sh, M, J))) f_183_54 rfl ?_
    refine ev_nx (s1 := (183, 56, [.ref l0, .int l1, .int l2, .int l3], [.int ((1 : Int32) <<< (l3 &&& 31)), .int k1], (sh, M, J))) f_183_55 rfl ?_
    refine ev_nx (s1 := (183, 60, [.ref l0, .int l1, .int l2, .int l3], [.int ((1 : Int32) <<< (l3 &&& 31)), .int k1], (sh, M, J))) f_183_56 rfl ?_
    refine ev_nx (s1 := (183, 61, [.ref l0, .int l1, .int l2, .int l3], [.int (k1 ||| ((1 : Int32) <<< (l3 &&& 31)))], (sh, M, J))) f_183_60 rfl ?_
    refine ev_nx (s1 := (183, 62, [.ref l0, .int l1, .int (k1 ||| ((1 : Int32) <<< (l3 &&& 31))), .int l3], [], (sh, M, J))) f_183_61 rfl ?_
    refine ev_nx (s1 := (183, 65, [.ref l0, .int l1, .int (k1 ||| ((1 : Int32) <<< (l3 &&& 31))), .int (l3 + 1)], [], (sh, M, J))) f_183_62 rfl ?_
    refine ev_nx (s1 := (183, 13, [.ref l0, .int l1, .int (k1 ||| ((1 : Int32) <<< (l3 &&& 31))), .int (l3 + 1)], [], (sh, M, J))) f_183_65 rfl ?_
    exact rfl
theorem f_184_0 : xfind (xnth xTs 184) 0 = some (0, .iconst 0, 1, (0, 0, 0, 0), (.int 0), [], 0, 0, []) := rfl
theorem f_184_1 : xfind (xnth xTs 184) 1 = some (1, .istore_n 1, 1, (0, 0, 0, 0), .null, [], 0, 0, []) := rfl
theorem f_184_2 : xfind (xnth xTs 184) 2 = some (2, .iconst 0, 1, (0, 0, 0, 0), (.int 0), [], 0, 0, []) := rfl
theorem f_184_3 : xfind (xnth xTs 184) 3 = some (3, .istore_n 2, 1, (0, 0, 0, 0), .null, [], 0, 0, []) := rfl
theorem f_184_4 : xfind (xnth xTs 184) 4 = some (4, .iload_n 2, 1, (0, 0, 0, 0), .null, [], 0, 1, [3, 4]) := rfl
theorem f_184_5 : xfind (xnth xTs 184) 5 = some (5, .aload_n 0, 1, (0, 0, 0, 0), .null, [], 0, 0, []) := rfl
theorem f_184_6 : xfind (xnth xTs 184) 6 = some (6, .getfield 7, 3, (9, 0, 1, 0), .null, [], 909, 0, []) := rfl
theorem f_184_9 : xfind (xnth xTs 184) 9 = some (9, .iconst 0, 1, (0, 0, 0, 0), (.int 0), [], 0, 0, []) := rfl
theorem f_184_10 : xfind (xnth xTs 184) 10 = some (10, .iaload, 1, (0, 0, 0, 0), .null, [], 0, 0, []) := rfl
theorem f_184_11 : xfind (xnth xTs 184) 11 = some (11, .if_icmp .ge 99, 3, (0, 0, 0, 0), .null, [], 0, 0, []) := rfl
theorem f_184_14 : xfind (xnth xTs 184) 14 = some (14, .aload_n 0, 1, (0, 0, 0, 0), .null, [], 0, 0, []) := rfl
theorem f_184_15 : xfind (xnth xTs 184) 15 = some (15, .aload_n 0, 1, (0, 0, 0, 0), .null, [], 0, 0, []) := rfl
theorem f_184_16 : xfind (xnth xTs 184) 16 = some (16, .getfield 16, 3, (9, 2, 1, 0), .null, [], 911, 0, []) := rfl
theorem f_184_19 : xfind (xnth xTs 184) 19 = some (19, .iload_n 2, 1, (0, 0, 0, 0), .null, [], 0, 0, []) := rfl
theorem f_184_20 : xfind (xnth xTs 184) 20 = some (20, .invokevirtual 180, 3, (161, 2, 9, 4), .null, [], 1128, 0, []) := rfl
theorem f_184_23 : xfind (xnth xTs 184) 23 = some (23, .iconst (-1), 1, (0, 0, 0, 0), (.int (-1)), [], 0, 0, []) := rfl
theorem f_184_24 : xfind (xnth xTs 184) 24 = some (24, .if_icmp .ne 7, 3, (0, 0, 0, 0), .null, [], 0, 0, []) := rfl
theorem f_184_27 : xfind (xnth xTs 184) 27 = some (27, .iconst 1, 1, (0, 0, 0, 0), (.int 1), [], 0, 0, []) := rfl
theorem f_184_28 : xfind (xnth xTs 184) 28 = some (28, .goto 4, 3, (0, 0, 0, 0), .null, [], 0, 0, []) := rfl
theorem f_184_31 : xfind (xnth xTs 184) 31 = some (31, .iconst 0, 1, (0, 0, 0, 0), (.int 0), [], 0, 0, []) := rfl
theorem f_184_32 : xfind (xnth xTs 184) 32 = some (32, .istore_n 3, 1, (0, 0, 0, 0), .null, [], 0, 0, []) := rfl
theorem f_184_33 : xfind (xnth xTs 184) 33 = some (33, .iconst 0, 1, (0, 0, 0, 0), (.int 0), [], 0, 0, []) := rfl
theorem f_184_34 : xfind (xnth xTs 184) 34 = some (34, .istore 4, 2, (0, 0, 0, 0), .null, [], 0, 0, []) := rfl
theorem f_184_36 : xfind (xnth xTs 184) 36 = some (36, .iload 4, 2, (0, 0, 0, 0), .null, [], 0, 1, []) := rfl
theorem f_184_38 : xfind (xnth xTs 184) 38 = some (38, .aload_n 0, 1, (0, 0, 0, 0), .null, [], 0, 0, []) := rfl
theorem f_184_39 : xfind (xnth xTs 184) 39 = some (39, .getfield 7, 3, (9, 0, 1, 0), .null, [], 909, 0, []) := rfl
theorem f_184_42 : xfind (xnth xTs 184) 42 = some (42, .iconst 2, 1, (0, 0, 0, 0), (.int 2), [], 0, 0, []) := rfl
theorem f_184_43 : xfind (xnth xTs 184) 43 = some (43, .iaload, 1, (0, 0, 0, 0), .null, [], 0, 0, []) := rfl
theorem f_184_44 : xfind (xnth xTs 184) 44 = some (44, .if_icmp .ge 46, 3, (0, 0, 0, 0), .null, [], 0, 0, []) := rfl
theorem f_184_47 : xfind (xnth xTs 184) 47 = some (47, .iload_n 3, 1, (0, 0, 0, 0), .null, [], 0, 0, []) := rfl
theorem f_184_48 : xfind (xnth xTs 184) 48 = some (48, .ifCond .ne 30, 3, (0, 0, 0, 0), .null, [], 0, 0, []) := rfl
theorem f_184_51 : xfind (xnth xTs 184) 51 = some (51, .aload_n 0, 1, (0, 0, 0, 0), .null, [], 0, 0, []) := rfl
theorem f_184_52 : xfind (xnth xTs 184) 52 = some (52, .getfield 16, 3, (9, 2, 1, 0), .null, [], 911, 0, []) := rfl
theorem f_184_55 : xfind (xnth xTs 184) 55 = some (55, .bipush 41, 2, (0, 0, 0, 0), (.int 41), [], 0, 0, []) := rfl
theorem f_184_57 : xfind (xnth xTs 184) 57 = some (57, .iload 4, 2, (0, 0, 0, 0), .null, [], 0, 0, []) := rfl
theorem f_184_59 : xfind (xnth xTs 184) 59 = some (59, .iadd, 1, (0, 0, 0, 0), .null, [], 0, 0, []) := rfl
theorem f_184_60 : xfind (xnth xTs 184) 60 = some (60, .iaload, 1, (0, 0, 0, 0), .null, [], 0, 0, []) := rfl
theorem f_184_61 : xfind (xnth xTs 184) 61 = some (61, .iload_n 2, 1, (0, 0, 0, 0), .null, [], 0, 0, []) := rfl
theorem f_184_62 : xfind (xnth xTs 184) 62 = some (62, .if_icmp .ne 20, 3, (0, 0, 0, 0), .null, [], 0, 0, []) := rfl
theorem f_184_65 : xfind (xnth xTs 184) 65 = some (65, .aload_n 0, 1, (0, 0, 0, 0), .null, [], 0, 0, []) := rfl
theorem f_184_66 : xfind (xnth xTs 184) 66 = some (66, .getfield 16, 3, (9, 2, 1, 0), .null, [], 911, 0, []) := rfl
theorem f_184_69 : xfind (xnth xTs 184) 69 = some (69, .bipush 51, 2, (0, 0, 0, 0), (.int 51), [], 0, 0, []) := rfl
theorem f_184_71 : xfind (xnth xTs 184) 71 = some (71, .iload 4, 2, (0, 0, 0, 0), .null, [], 0, 0, []) := rfl
theorem f_184_73 : xfind (xnth xTs 184) 73 = some (73, .iadd, 1, (0, 0, 0, 0), .null, [], 0, 0, []) := rfl
theorem f_184_74 : xfind (xnth xTs 184) 74 = some (74, .iaload, 1, (0, 0, 0, 0), .null, [], 0, 0, []) := rfl
theorem f_184_75 : xfind (xnth xTs 184) 75 = some (75, .ifCond .le 7, 3, (0, 0, 0, 0), .null, [], 0, 0, []) := rfl
theorem f_184_78 : xfind (xnth xTs 184) 78 = some (78, .iconst 1, 1, (0, 0, 0, 0), (.int 1), [], 0, 0, []) := rfl
theorem f_184_79 : xfind (xnth xTs 184) 79 = some (79, .goto 4, 3, (0, 0, 0, 0), .null, [], 0, 0, []) := rfl
theorem f_184_82 : xfind (xnth xTs 184) 82 = some (82, .iconst 0, 1, (0, 0, 0, 0), (.int 0), [], 0, 0, []) := rfl
theorem f_184_83 : xfind (xnth xTs 184) 83 = some (83, .istore_n 3, 1, (0, 0, 0, 0), .null, [], 0, 0, []) := rfl
theorem f_184_84 : xfind (xnth xTs 184) 84 = some (84, .iinc 4 1, 3, (0, 0, 0, 0), .null, [], 0, 0, []) := rfl
theorem f_184_87 : xfind (xnth xTs 184) 87 = some (87, .goto (-51), 3, (0, 0, 0, 0), .null, [], 0, 0, []) := rfl
theorem f_184_90 : xfind (xnth xTs 184) 90 = some (90, .iload_n 1, 1, (0, 0, 0, 0), .null, [], 0, 0, []) := rfl
theorem f_184_91 : xfind (xnth xTs 184) 91 = some (91, .iload_n 3, 1, (0, 0, 0, 0), .null, [], 0, 0, []) := rfl
theorem f_184_92 : xfind (xnth xTs 184) 92 = some (92, .ifCond .eq 7, 3, (0, 0, 0, 0), .null, [], 0, 0, []) := rfl
theorem f_184_95 : xfind (xnth xTs 184) 95 = some (95, .iconst 0, 1, (0, 0, 0, 0), (.int 0), [], 0, 0, []) := rfl
theorem f_184_96 : xfind (xnth xTs 184) 96 = some (96, .goto 6, 3, (0, 0, 0, 0), .null, [], 0, 0, []) := rfl
theorem f_184_99 : xfind (xnth xTs 184) 99 = some (99, .iconst 1, 1, (0, 0, 0, 0), (.int 1), [], 0, 0, []) := rfl
theorem f_184_100 : xfind (xnth xTs 184) 100 = some (100, .iload_n 2, 1, (0, 0, 0, 0), .null, [], 0, 0, []) := rfl
theorem f_184_101 : xfind (xnth xTs 184) 101 = some (101, .ishl, 1, (0, 0, 0, 0), .null, [], 0, 0, []) := rfl
theorem f_184_102 : xfind (xnth xTs 184) 102 = some (102, .ior, 1, (0, 0, 0, 0), .null, [], 0, 0, []) := rfl
theorem f_184_103 : xfind (xnth xTs 184) 103 = some (103, .istore_n 1, 1, (0, 0, 0, 0), .null, [], 0, 0, []) := rfl
theorem f_184_104 : xfind (xnth xTs 184) 104 = some (104, .iinc 2 1, 3, (0, 0, 0, 0), .null, [], 0, 0, []) := rfl
theorem f_184_107 : xfind (xnth xTs 184) 107 = some (107, .goto (-103), 3, (0, 0, 0, 0), .null, [], 0, 0, []) := rfl
theorem f_184_110 : xfind (xnth xTs 184) 110 = some (110, .iload_n 1, 1, (0, 0, 0, 0), .null, [], 0, 0, []) := rfl
theorem f_184_111 : xfind (xnth xTs 184) 111 = some (111, .ireturn, 1, (0, 0, 0, 0), .null, [], 0, 0, []) := rfl
theorem hd_184_4 : xhead 184 4 = some [3, 4] := rfl
theorem hd_184_36 : xhead 184 36 = some [] := rfl
theorem b_R_cannot_0 (sh : xSh) (M : Nat → Nat → Int32) (J : Nat → Nat → Int64) (l0 : Nat) : ev (184, 0, [.ref l0, .null, .null, .null, .null], [], (sh, M, J)) = (ev (184, 4, [.ref l0, .int 0, .int 0, .null, .null], [], (sh, M, J))) := by
  refine ev_nx (s1 := (184, 1, [.ref l0, .null, .null, .null, .null], [.int 0], (sh, M, J))) f_184_0 rfl ?_
  refine ev_nx (s1 := (184, 2, [.ref l0, .int 0, .null, .null, .null], [], (sh, M, J))) f_184_1 rfl ?_
  refine ev_nx (s1 := (184, 3, [.ref l0, .int 0, .null, .null, .null], [.int 0], (sh, M, J))) f_184_2 rfl ?_
  refine ev_nx (s1 := (184, 4, [.ref l0, .int 0, .int 0, .null, .null], [], (sh, M, J))) f_184_3 rfl ?_
  exact rfl
theorem b_R_cannot_4 (sh : xSh) (M : Nat → Nat → Int32) (J : Nat → Nat → Int64) (l0 : Nat) (l1 : Int32) (l2 : Int32) : ev (184, 4, [.ref l0, .int l1, .int l2, .null, .null], [], (sh, M, J)) = (bif decide ((sh.2.2.1 l0).1 = 9) then bif (decide ((sh.2.2.1 (sh.2.2.2 l0 0)).1 = 11) && xin 0 (sh.2.2.1 (sh.2.2.2 l0 0)).2) then bif decide ((M (sh.2.2.2 l0 0) (0 : Int32).toNatClampNeg) ≤ l2) then some (some (.int l1), (sh, M, J)) else bif decide ((sh.2.2.1 l0).1 = 9) then bif (decide ((sh.2.2.1 l0).1 = 9) && true) then (ev (161, 0, [.ref l0, .ref (sh.2.2.2 l0 2), .int l2, .null], [], (sh, M, J))).bind (fun r => ev (184, 23, [.ref l0, .int l1, .int l2, .null, .null], r.1.toList ++ [], r.2)) else none else none else none else none) := by
  refine ev_nx (s1 := (184, 5, [.ref l0, .int l1, .int l2, .null, .null], [.int l2], (sh, M, J))) f_184_4 rfl ?_
  refine ev_nx (s1 := (184, 6, [.ref l0, .int l1, .int l2, .null, .null], [.ref l0, .int l2], (sh, M, J))) f_184_5 rfl ?_
  refine ev_gd (s1 := (184, 9, [.ref l0, .int l1, .int l2, .null, .null], [.ref (sh.2.2.2 l0 0), .int l2], (sh, M, J))) f_184_6 rfl ?_
  refine ev_nx (s1 := (184, 10, [.ref l0, .int l1, .int l2, .null, .null], [.int 0, .ref (sh.2.2.2 l0 0), .int l2], (sh, M, J))) f_184_9 rfl ?_
  refine ev_gd (s1 := (184, 11, [.ref l0, .int l1, .int l2, .null, .null], [.int (M (sh.2.2.2 l0 0) (0 : Int32).toNatClampNeg), .int l2], (sh, M, J))) f_184_10 rfl ?_
  refine ev_br (s1 := (184, 110, [.ref l0, .int l1, .int l2, .null, .null], [], (sh, M, J))) (s2 := (184, 14, [.ref l0, .int l1, .int l2, .null, .null], [], (sh, M, J))) f_184_11 rfl ?_ ?_
  · refine ev_nx (s1 := (184, 111, [.ref l0, .int l1, .int l2, .null, .null], [.int l1], (sh, M, J))) f_184_110 rfl ?_
    exact ev_r1 f_184_111 rfl
  · refine ev_nx (s1 := (184, 15, [.ref l0, .int l1, .int l2, .null, .null], [.ref l0], (sh, M, J))) f_184_14 rfl ?_
    refine ev_nx (s1 := (184, 16, [.ref l0, .int l1, .int l2, .null, .null], [.ref l0, .ref l0], (sh, M, J))) f_184_15 rfl ?_
    refine ev_gd (s1 := (184, 19, [.ref l0, .int l1, .int l2, .null, .null], [.ref (sh.2.2.2 l0 2), .ref l0], (sh, M, J))) f_184_16 rfl ?_
    refine ev_nx (s1 := (184, 20, [.ref l0, .int l1, .int l2, .null, .null], [.int l2, .ref (sh.2.2.2 l0 2), .ref l0], (sh, M, J))) f_184_19 rfl ?_
    exact ev_ca (cc := (decide ((sh.2.2.1 l0).1 = 9) && true)) (s1 := (161, 0, [.ref l0, .ref (sh.2.2.2 l0 2), .int l2, .null], [], (sh, M, J))) (k := (184, 23, [.ref l0, .int l1, .int l2, .null, .null], [])) f_184_20 rfl
theorem b_R_cannot_23 (sh : xSh) (M : Nat → Nat → Int32) (J : Nat → Nat → Int64) (l0 : Nat) (l1 : Int32) (l2 : Int32) (k0 : Int32) : ev (184, 23, [.ref l0, .int l1, .int l2, .null, .null], [.int k0], (sh, M, J)) = (bif !decide (k0 = (-1)) then ev (184, 36, [.ref l0, .int l1, .int l2, .int 0, .int 0], [], (sh, M, J)) else ev (184, 36, [.ref l0, .int l1, .int l2, .int 1, .int 0], [], (sh, M, J))) := by
  refine ev_nx (s1 := (184, 24, [.ref l0, .int l1, .int l2, .null, .null], [.int (-1), .int k0], (sh, M, J))) f_184_23 rfl ?_
  refine ev_br (s1 := (184, 31, [.ref l0, .int l1, .int l2, .null, .null], [], (sh, M, J))) (s2 := (184, 27, [.ref l0, .int l1, .int l2, .null, .null], [], (sh, M, J))) f_184_24 rfl ?_ ?_
  · refine ev_nx (s1 := (184, 32, [.ref l0, .int l1, .int l2, .null, .null], [.int 0], (sh, M, J))) f_184_31 rfl ?_
    refine ev_nx (s1 := (184, 33, [.ref l0, .int l1, .int l2, .int 0, .null], [], (sh, M, J))) f_184_32 rfl ?_
    refine ev_nx (s1 := (184, 34, [.ref l0, .int l1, .int l2, .int 0, .null], [.int 0], (sh, M, J))) f_184_33 rfl ?_
    refine ev_nx (s1 := (184, 36, [.ref l0, .int l1, .int l2, .int 0, .int 0], [], (sh, M, J))) f_184_34 rfl ?_
    exact rfl
  · refine ev_nx (s1 := (184, 28, [.ref l0, .int l1, .int l2, .null, .null], [.int 1], (sh, M, J))) f_184_27 rfl ?_
    refine ev_nx (s1 := (184, 32, [.ref l0, .int l1, .int l2, .null, .null], [.int 1], (sh, M, J))) f_184_28 rfl ?_
    refine ev_nx (s1 := (184, 33, [.ref l0, .int l1, .int l2, .int 1, .null], [], (sh, M, J))) f_184_32 rfl ?_
    refine ev_nx (s1 := (184, 34, [.ref l0, .int l1, .int l2, .int 1, .null], [.int 0], (sh, M, J))) f_184_33 rfl ?_
    refine ev_nx (s1 := (184, 36, [.ref l0, .int l1, .int l2, .int 1, .int 0], [], (sh, M, J))) f_184_34 rfl ?_
    exact rfl
theorem b_R_cannot_36 (sh : xSh) (M : Nat → Nat → Int32) (J : Nat → Nat → Int64) (l0 : Nat) (l1 : Int32) (l2 : Int32) (l3 : Int32) (l4 : Int32) : ev (184, 36, [.ref l0, .int l1, .int l2, .int l3, .int l4], [], (sh, M, J)) = (bif decide ((sh.2.2.1 l0).1 = 9) then bif (decide ((sh.2.2.1 (sh.2.2.2 l0 0)).1 = 11) && xin 2 (sh.2.2.1 (sh.2.2.2 l0 0)).2) then bif decide ((M (sh.2.2.2 l0 0) (2 : Int32).toNatClampNeg) ≤ l4) then bif decide (l3 = 0) then ev (184, 4, [.ref l0, .int (l1 ||| ((1 : Int32) <<< (l2 &&& 31))), .int (l2 + 1), .null, .null], [], (sh, M, J)) else ev (184, 4, [.ref l0, .int (l1 ||| 0), .int (l2 + 1), .null, .null], [], (sh, M, J)) else bif !decide (l3 = 0) then ev (184, 36, [.ref l0, .int l1, .int l2, .int 1, .int (l4 + 1)], [], (sh, M, J)) else bif decide ((sh.2.2.1 l0).1 = 9) then bif (decide ((sh.2.2.1 (sh.2.2.2 l0 2)).1 = 11) && xin ((41 : Int32) + l4) (sh.2.2.1 (sh.2.2.2 l0 2)).2) then bif !decide ((M (sh.2.2.2 l0 2) (((41 : Int32) + l4) : Int32).toNatClampNeg) = l2) then ev (184, 36, [.ref l0, .int l1, .int l2, .int 0, .int (l4 + 1)], [], (sh, M, J)) else bif decide ((sh.2.2.1 l0).1 = 9) then bif (decide ((sh.2.2.1 (sh.2.2.2 l0 2)).1 = 11) && xin ((51 : Int32) + l4) (sh.2.2.1 (sh.2.2.2 l0 2)).2) then bif decide ((M (sh.2.2.2 l0 2) (((51 : Int32) + l4) : Int32).toNatClampNeg) ≤ 0) then ev (184, 36, [.ref l0, .int l1, .int l2, .int 0, .int (l4 + 1)], [], (sh, M, J)) else ev (184, 36, [.ref l0, .int l1, .int l2, .int 1, .int (l4 + 1)], [], (sh, M, J)) else none else none else none else none else none else none) := by
  refine ev_nx (s1 := (184, 38, [.ref l0, .int l1, .int l2, .int l3, .int l4], [.int l4], (sh, M, J))) f_184_36 rfl ?_
  refine ev_nx (s1 := (184, 39, [.ref l0, .int l1, .int l2, .int l3, .int l4], [.ref l0, .int l4], (sh, M, J))) f_184_38 rfl ?_
  refine ev_gd (s1 := (184, 42, [.ref l0, .int l1, .int l2, .int l3, .int l4], [.ref (sh.2.2.2 l0 0), .int l4], (sh, M, J))) f_184_39 rfl ?_
  refine ev_nx (s1 := (184, 43, [.ref l0, .int l1, .int l2, .int l3, .int l4], [.int 2, .ref (sh.2.2.2 l0 0), .int l4], (sh, M, J))) f_184_42 rfl ?_
  refine ev_gd (s1 := (184, 44, [.ref l0, .int l1, .int l2, .int l3, .int l4], [.int (M (sh.2.2.2 l0 0) (2 : Int32).toNatClampNeg), .int l4], (sh, M, J))) f_184_43 rfl ?_
  refine ev_br (s1 := (184, 90, [.ref l0, .int l1, .int l2, .int l3, .int l4], [], (sh, M, J))) (s2 := (184, 47, [.ref l0, .int l1, .int l2, .int l3, .int l4], [], (sh, M, J))) f_184_44 rfl ?_ ?_
  · refine ev_nx (s1 := (184, 91, [.ref l0, .int l1, .int l2, .int l3, .int l4], [.int l1], (sh, M, J))) f_184_90 rfl ?_
    refine ev_nx (s1 := (184, 92, [.ref l0, .int l1, .int l2, .int l3, .int l4], [.int l3, .int l1], (sh, M, J))) f_184_91 rfl ?_
    refine ev_br (s1 := (184, 99, [.ref l0, .int l1, .int l2, .int l3, .int l4], [.int l1], (sh, M, J))) (s2 := (184, 95, [.ref l0, .int l1, .int l2, .int l3, .int l4], [.int l1], (sh, M, J))) f_184_92 rfl ?_ ?_
    · refine ev_nx (s1 := (184, 100, [.ref l0, .int l1, .int l2, .int l3, .int l4], [.int 1, .int l1], (sh, M, J))) f_184_99 rfl ?_
      refine ev_nx (s1 := (184, 101, [.ref l0, .int l1, .int l2, .int l3, .int l4], [.int l2, .int 1, .int l1], (sh, M, J))) f_184_100 rfl ?_
      refine ev_nx (s1 := (184, 102, [.ref l0, .int l1, .int l2, .int l3, .int l4], [.int ((1 : Int32) <<< (l2 &&& 31)), .int l1], (sh, M, J))) f_184_101 rfl ?_
      refine ev_nx (s1 := (184, 103, [.ref l0, .int l1, .int l2, .int l3, .int l4], [.int (l1 ||| ((1 : Int32) <<< (l2 &&& 31)))], (sh, M, J))) f_184_102 rfl ?_
      refine ev_nx (s1 := (184, 104, [.ref l0, .int (l1 ||| ((1 : Int32) <<< (l2 &&& 31))), .int l2, .int l3, .int l4], [], (sh, M, J))) f_184_103 rfl ?_
      refine ev_nx (s1 := (184, 107, [.ref l0, .int (l1 ||| ((1 : Int32) <<< (l2 &&& 31))), .int (l2 + 1), .int l3, .int l4], [], (sh, M, J))) f_184_104 rfl ?_
      refine ev_nx (s1 := (184, 4, [.ref l0, .int (l1 ||| ((1 : Int32) <<< (l2 &&& 31))), .int (l2 + 1), .int l3, .int l4], [], (sh, M, J))) f_184_107 rfl ?_
      exact (ev_kill hd_184_4).symm
    · refine ev_nx (s1 := (184, 96, [.ref l0, .int l1, .int l2, .int l3, .int l4], [.int 0, .int l1], (sh, M, J))) f_184_95 rfl ?_
      refine ev_nx (s1 := (184, 102, [.ref l0, .int l1, .int l2, .int l3, .int l4], [.int 0, .int l1], (sh, M, J))) f_184_96 rfl ?_
      refine ev_nx (s1 := (184, 103, [.ref l0, .int l1, .int l2, .int l3, .int l4], [.int (l1 ||| 0)], (sh, M, J))) f_184_102 rfl ?_
      refine ev_nx (s1 := (184, 104, [.ref l0, .int (l1 ||| 0), .int l2, .int l3, .int l4], [], (sh, M, J))) f_184_103 rfl ?_
      refine ev_nx (s1 := (184, 107, [.ref l0, .int (l1 ||| 0), .int (l2 + 1), .int l3, .int l4], [], (sh, M, J))) f_184_104 rfl ?_
      refine ev_nx (s1 := (184, 4, [.ref l0, .int (l1 ||| 0), .int (l2 + 1), .int l3, .int l4], [], (sh, M, J))) f_184_107 rfl ?_
      exact (ev_kill hd_184_4).symm
  · refine ev_nx (s1 := (184, 48, [.ref l0, .int l1, .int l2, .int l3, .int l4], [.int l3], (sh, M, J))) f_184_47 rfl ?_
    refine ev_br (s1 := (184, 78, [.ref l0, .int l1, .int l2, .int l3, .int l4], [], (sh, M, J))) (s2 := (184, 51, [.ref l0, .int l1, .int l2, .int l3, .int l4], [], (sh, M, J))) f_184_48 rfl ?_ ?_
    · refine ev_nx (s1 := (184, 79, [.ref l0, .int l1, .int l2, .int l3, .int l4], [.int 1], (sh, M, J))) f_184_78 rfl ?_
      refine ev_nx (s1 := (184, 83, [.ref l0, .int l1, .int l2, .int l3, .int l4], [.int 1], (sh, M, J))) f_184_79 rfl ?_
      refine ev_nx (s1 := (184, 84, [.ref l0, .int l1, .int l2, .int 1, .int l4], [], (sh, M, J))) f_184_83 rfl ?_
      refine ev_nx (s1 := (184, 87, [.ref l0, .int l1, .int l2, .int 1, .int (l4 + 1)], [], (sh, M, J))) f_184_84 rfl ?_
      refine ev_nx (s1 := (184, 36, [.ref l0, .int l1, .int l2, .int 1, .int (l4 + 1)], [], (sh, M, J))) f_184_87 rfl ?_
      exact rfl
    · refine ev_nx (s1 := (184, 52, [.ref l0, .int l1, .int l2, .int l3, .int l4], [.ref l0], (sh, M, J))) f_184_51 rfl ?_
      refine ev_gd (s1 := (184, 55, [.ref l0, .int l1, .int l2, .int l3, .int l4], [.ref (sh.2.2.2 l0 2)], (sh, M, J))) f_184_52 rfl ?_
      refine ev_nx (s1 := (184, 57, [.ref l0, .int l1, .int l2, .int l3, .int l4], [.int 41, .ref (sh.2.2.2 l0 2)], (sh, M, J))) f_184_55 rfl ?_
      refine ev_nx (s1 := (184, 59, [.ref l0, .int l1, .int l2, .int l3, .int l4], [.int l4, .int 41, .ref (sh.2.2.2 l0 2)], (sh, M, J))) f_184_57 rfl ?_
      refine ev_nx (s1 := (184, 60, [.ref l0, .int l1, .int l2, .int l3, .int l4], [.int ((41 : Int32) + l4), .ref (sh.2.2.2 l0 2)], (sh, M, J))) f_184_59 rfl ?_
      refine ev_gd (s1 := (184, 61, [.ref l0, .int l1, .int l2, .int l3, .int l4], [.int (M (sh.2.2.2 l0 2) (((41 : Int32) + l4) : Int32).toNatClampNeg)], (sh, M, J))) f_184_60 rfl ?_
      refine ev_nx (s1 := (184, 62, [.ref l0, .int l1, .int l2, .int l3, .int l4], [.int l2, .int (M (sh.2.2.2 l0 2) (((41 : Int32) + l4) : Int32).toNatClampNeg)], (sh, M, J))) f_184_61 rfl ?_
      refine ev_br (s1 := (184, 82, [.ref l0, .int l1, .int l2, .int l3, .int l4], [], (sh, M, J))) (s2 := (184, 65, [.ref l0, .int l1, .int l2, .int l3, .int l4], [], (sh, M, J))) f_184_62 rfl ?_ ?_
      · refine ev_nx (s1 := (184, 83, [.ref l0, .int l1, .int l2, .int l3, .int l4], [.int 0], (sh, M, J))) f_184_82 rfl ?_
        refine ev_nx (s1 := (184, 84, [.ref l0, .int l1, .int l2, .int 0, .int l4], [], (sh, M, J))) f_184_83 rfl ?_
        refine ev_nx (s1 := (184, 87, [.ref l0, .int l1, .int l2, .int 0, .int (l4 + 1)], [], (sh, M, J))) f_184_84 rfl ?_
        refine ev_nx (s1 := (184, 36, [.ref l0, .int l1, .int l2, .int 0, .int (l4 + 1)], [], (sh, M, J))) f_184_87 rfl ?_
        exact rfl
      · refine ev_nx (s1 := (184, 66, [.ref l0, .int l1, .int l2, .int l3, .int l4], [.ref l0], (sh, M, J))) f_184_65 rfl ?_
        refine ev_gd (s1 := (184, 69, [.ref l0, .int l1, .int l2, .int l3, .int l4], [.ref (sh.2.2.2 l0 2)], (sh, M, J))) f_184_66 rfl ?_
        refine ev_nx (s1 := (184, 71, [.ref l0, .int l1, .int l2, .int l3, .int l4], [.int 51, .ref (sh.2.2.2 l0 2)], (sh, M, J))) f_184_69 rfl ?_
        refine ev_nx (s1 := (184, 73, [.ref l0, .int l1, .int l2, .int l3, .int l4], [.int l4, .int 51, .ref (sh.2.2.2 l0 2)], (sh, M, J))) f_184_71 rfl ?_
        refine ev_nx (s1 := (184, 74, [.ref l0, .int l1, .int l2, .int l3, .int l4], [.int ((51 : Int32) + l4), .ref (sh.2.2.2 l0 2)], (sh, M, J))) f_184_73 rfl ?_
        refine ev_gd (s1 := (184, 75, [.ref l0, .int l1, .int l2, .int l3, .int l4], [.int (M (sh.2.2.2 l0 2) (((51 : Int32) + l4) : Int32).toNatClampNeg)], (sh, M, J))) f_184_74 rfl ?_
        refine ev_br (s1 := (184, 82, [.ref l0, .int l1, .int l2, .int l3, .int l4], [], (sh, M, J))) (s2 := (184, 78, [.ref l0, .int l1, .int l2, .int l3, .int l4], [], (sh, M, J))) f_184_75 rfl ?_ ?_
        · refine ev_nx (s1 := (184, 83, [.ref l0, .int l1, .int l2, .int l3, .int l4], [.int 0], (sh, M, J))) f_184_82 rfl ?_
          refine ev_nx (s1 := (184, 84, [.ref l0, .int l1, .int l2, .int 0, .int l4], [], (sh, M, J))) f_184_83 rfl ?_
          refine ev_nx (s1 := (184, 87, [.ref l0, .int l1, .int l2, .int 0, .int (l4 + 1)], [], (sh, M, J))) f_184_84 rfl ?_
          refine ev_nx (s1 := (184, 36, [.ref l0, .int l1, .int l2, .int 0, .int (l4 + 1)], [], (sh, M, J))) f_184_87 rfl ?_
          exact rfl
        · refine ev_nx (s1 := (184, 79, [.ref l0, .int l1, .int l2, .int l3, .int l4], [.int 1], (sh, M, J))) f_184_78 rfl ?_
          refine ev_nx (s1 := (184, 83, [.ref l0, .int l1, .int l2, .int l3, .int l4], [.int 1], (sh, M, J))) f_184_79 rfl ?_
          refine ev_nx (s1 := (184, 84, [.ref l0, .int l1, .int l2, .int 1, .int l4], [], (sh, M, J))) f_184_83 rfl ?_
          refine ev_nx (s1 := (184, 87, [.ref l0, .int l1, .int l2, .int 1, .int (l4 + 1)], [], (sh, M, J))) f_184_84 rfl ?_
          refine ev_nx (s1 := (184, 36, [.ref l0, .int l1, .int l2, .int 1, .int (l4 + 1)], [], (sh, M, J))) f_184_87 rfl ?_
          exact rfl
theorem f_185_0 : xfind (xnth xTs 185) 0 = some (0, .iload_n 1, 1, (0, 0, 0, 0), .null, [], 0, 0, []) := rfl
theorem f_185_1 : xfind (xnth xTs 185) 1 = some (1, .istore 4, 2, (0, 0, 0, 0), .null, [], 0, 0, []) := rfl
theorem f_185_3 : xfind (xnth xTs 185) 3 = some (3, .iconst 0, 1, (0, 0, 0, 0), (.int 0), [], 0, 0, []) := rfl
theorem f_185_4 : xfind (xnth xTs 185) 4 = some (4, .istore 5, 2, (0, 0, 0, 0), .null, [], 0, 0, []) := rfl
theorem f_185_6 : xfind (xnth xTs 185) 6 = some (6, .iload 5, 2, (0, 0, 0, 0), .null, [], 0, 1, [1, 6]) := rfl
theorem f_185_8 : xfind (xnth xTs 185) 8 = some (8, .iconst 3, 1, (0, 0, 0, 0), (.int 3), [], 0, 0, []) := rfl
theorem f_185_9 : xfind (xnth xTs 185) 9 = some (9, .if_icmp .ge 17, 3, (0, 0, 0, 0), .null, [], 0, 0, []) := rfl
theorem f_185_12 : xfind (xnth xTs 185) 12 = some (12, .aload_n 0, 1, (0, 0, 0, 0), .null, [], 0, 0, []) := rfl
theorem f_185_13 : xfind (xnth xTs 185) 13 = some (13, .getfield 54, 3, (9, 25, 1, 0), .null, [], 934, 0, []) := rfl
theorem f_185_16 : xfind (xnth xTs 185) 16 = some (16, .iload 5, 2, (0, 0, 0, 0), .null, [], 0, 0, []) := rfl
theorem f_185_18 : xfind (xnth xTs 185) 18 = some (18, .iconst 0, 1, (0, 0, 0, 0), (.int 0), [], 0, 0, []) := rfl
theorem f_185_19 : xfind (xnth xTs 185) 19 = some (19, .iastore, 1, (0, 0, 0, 0), .null, [], 0, 0, []) := rfl
theorem f_185_20 : xfind (xnth xTs 185) 20 = some (20, .iinc 5 1, 3, (0, 0, 0, 0), .null, [], 0, 0, []) := rfl
theorem f_185_23 : xfind (xnth xTs 185) 23 = some (23, .goto (-17), 3, (0, 0, 0, 0), .null, [], 0, 0, []) := rfl
theorem f_185_26 : xfind (xnth xTs 185) 26 = some (26, .iconst 0, 1, (0, 0, 0, 0), (.int 0), [], 0, 0, []) := rfl
theorem f_185_27 : xfind (xnth xTs 185) 27 = some (27, .istore 5, 2, (0, 0, 0, 0), .null, [], 0, 0, []) := rfl
theorem f_185_29 : xfind (xnth xTs 185) 29 = some (29, .iload 5, 2, (0, 0, 0, 0), .null, [], 0, 1, [1, 6]) := rfl
theorem f_185_31 : xfind (xnth xTs 185) 31 = some (31, .iload_n 2, 1, (0, 0, 0, 0), .null, [], 0, 0, []) := rfl
theorem f_185_32 : xfind (xnth xTs 185) 32 = some (32, .if_icmp .ge 34, 3, (0, 0, 0, 0), .null, [], 0, 0, []) := rfl
theorem f_185_35 : xfind (xnth xTs 185) 35 = some (35, .aload_n 0, 1, (0, 0, 0, 0), .null, [], 0, 0, []) := rfl
theorem f_185_36 : xfind (xnth xTs 185) 36 = some (36, .getfield 54, 3, (9, 25, 1, 0), .null, [], 934, 0, []) := rfl
theorem f_185_39 : xfind (xnth xTs 185) 39 = some (39, .iload 4, 2, (0, 0, 0, 0), .null, [], 0, 0, []) := rfl
theorem f_185_41 : xfind (xnth xTs 185) 41 = some (41, .iload_n 3, 1, (0, 0, 0, 0), .null, [], 0, 0, []) := rfl
theorem f_185_42 : xfind (xnth xTs 185) 42 = some (42, .irem, 1, (0, 0, 0, 0), .null, [], 0, 0, []) := rfl
theorem f_185_43 : xfind (xnth xTs 185) 43 = some (43, .dup2, 1, (0, 0, 0, 0), .null, [], 0, 0, []) := rfl
theorem f_185_44 : xfind (xnth xTs 185) 44 = some (44, .iaload, 1, (0, 0, 0, 0), .null, [], 0, 0, []) := rfl
theorem f_185_45 : xfind (xnth xTs 185) 45 = some (45, .aload_n 0, 1, (0, 0, 0, 0), .null, [], 0, 0, []) := rfl
theorem f_185_46 : xfind (xnth xTs 185) 46 = some (46, .getfield 51, 3, (9, 24, 1, 0), .null, [], 933, 0, []) := rfl
theorem f_185_49 : xfind (xnth xTs 185) 49 = some (49, .iload 5, 2, (0, 0, 0, 0), .null, [], 0, 0, []) := rfl
theorem f_185_51 : xfind (xnth xTs 185) 51 = some (51, .iaload, 1, (0, 0, 0, 0), .null, [], 0, 0, []) := rfl
theorem f_185_52 : xfind (xnth xTs 185) 52 = some (52, .iadd, 1, (0, 0, 0, 0), .null, [], 0, 0, []) := rfl
theorem f_185_53 : xfind (xnth xTs 185) 53 = some (53, .iastore, 1, (0, 0, 0, 0), .null, [], 0, 0, []) := rfl
theorem f_185_54 : xfind (xnth xTs 185) 54 = some (54, .iload 4, 2, (0, 0, 0, 0), .null, [], 0, 0, []) := rfl
theorem f_185_56 : xfind (xnth xTs 185) 56 = some (56, .iload_n 3, 1, (0, 0, 0, 0), .null, [], 0, 0, []) := rfl
theorem f_185_57 : xfind (xnth xTs 185) 57 = some (57, .idiv, 1, (0, 0, 0, 0), .null, [], 0, 0, []) := rfl
theorem f_185_58 : xfind (xnth xTs 185) 58 = some (58, .istore 4, 2, (0, 0, 0, 0), .null, [], 0, 0, []) := rfl
theorem f_185_60 : xfind (xnth xTs 185) 60 = some (60, .iinc 5 1, 3, (0, 0, 0, 0), .null, [], 0, 0, []) := rfl
theorem f_185_63 : xfind (xnth xTs 185) 63 = some (63, .goto (-34), 3, (0, 0, 0, 0), .null, [], 0, 0, []) := rfl
theorem f_185_66 : xfind (xnth xTs 185) 66 = some (66, .iconst 0, 1, (0, 0, 0, 0), (.int 0), [], 0, 0, []) := rfl
theorem f_185_67 : xfind (xnth xTs 185) 67 = some (67, .istore 5, 2, (0, 0, 0, 0), .null, [], 0, 0, []) := rfl
theorem f_185_69 : xfind (xnth xTs 185) 69 = some (69, .iconst 0, 1, (0, 0, 0, 0), (.int 0), [], 0, 0, []) := rfl
theorem f_185_70 : xfind (xnth xTs 185) 70 = some (70, .istore 6, 2, (0, 0, 0, 0), .null, [], 0, 0, []) := rfl
theorem f_185_72 : xfind (xnth xTs 185) 72 = some (72, .iload 6, 2, (0, 0, 0, 0), .null, [], 0, 1, [1, 2, 3, 4]) := rfl
theorem f_185_74 : xfind (xnth xTs 185) 74 = some (74, .iconst 3, 1, (0, 0, 0, 0), (.int 3), [], 0, 0, []) := rfl
theorem f_185_75 : xfind (xnth xTs 185) 75 = some (75, .if_icmp .ge 35, 3, (0, 0, 0, 0), .null, [], 0, 0, []) := rfl
theorem f_185_78 : xfind (xnth xTs 185) 78 = some (78, .aload_n 0, 1, (0, 0, 0, 0), .null, [], 0, 0, []) := rfl
theorem f_185_79 : xfind (xnth xTs 185) 79 = some (79, .getfield 54, 3, (9, 25, 1, 0), .null, [], 934, 0, []) := rfl
theorem f_185_82 : xfind (xnth xTs 185) 82 = some (82, .iload 6, 2, (0, 0, 0, 0), .null, [], 0, 0, []) := rfl
theorem f_185_84 : xfind (xnth xTs 185) 84 = some (84, .iaload, 1, (0, 0, 0, 0), .null, [], 0, 0, []) := rfl
theorem f_185_85 : xfind (xnth xTs 185) 85 = some (85, .iload 5, 2, (0, 0, 0, 0), .null, [], 0, 0, []) := rfl
theorem f_185_87 : xfind (xnth xTs 185) 87 = some (87, .if_icmp .le 13, 3, (0, 0, 0, 0), .null, [], 0, 0, []) := rfl
theorem f_185_90 : xfind (xnth xTs 185) 90 = some (90, .aload_n 0, 1, (0, 0, 0, 0), .null, [], 0, 0, []) := rfl
theorem f_185_91 : xfind (xnth xTs 185) 91 = some (91, .getfield 54, 3, (9, 25, 1, 0), .null, [], 934, 0, []) := rfl
theorem f_185_94 : xfind (xnth xTs 185) 94 = some (94, .iload 6, 2, (0, 0, 0, 0), .null, [], 0, 0, []) := rfl
theorem f_185_96 : xfind (xnth xTs 185) 96 = some (96, .iaload, 1, (0, 0, 0, 0), .null, [], 0, 0, []) := rfl
theorem f_185_97 : xfind (xnth xTs 185) 97 = some (97, .goto 5, 3, (0, 0, 0, 0), .null, [], 0, 0, []) := rfl
theorem f_185_100 : xfind (xnth xTs 185) 100 = some (100, .iload 5, 2, (0, 0, 0, 0), .null, [], 0, 0, []) := rfl
theorem f_185_102 : xfind (xnth xTs 185) 102 = some (102, .istore 5, 2, (0, 0, 0, 0), .null, [], 0, 0, []) := rfl
theorem f_185_104 : xfind (xnth xTs 185) 104 = some (104, .iinc 6 1, 3, (0, 0, 0, 0), .null, [], 0, 0, []) := rfl
theorem f_185_107 : xfind (xnth xTs 185) 107 = some (107, .goto (-35), 3, (0, 0, 0, 0), .null, [], 0, 0, []) := rfl
theorem f_185_110 : xfind (xnth xTs 185) 110 = some (110, .iload 5, 2, (0, 0, 0, 0), .null, [], 0, 0, []) := rfl
theorem f_185_112 : xfind (xnth xTs 185) 112 = some (112, .ireturn, 1, (0, 0, 0, 0), .null, [], 0, 0, []) := rfl
theorem hd_185_6 : xhead 185 6 = some [1, 6] := rfl
theorem hd_185_29 : xhead 185 29 = some [1, 6] := rfl
theorem hd_185_72 : xhead 185 72 = some [1, 2, 3, 4] := rfl
theorem b_R_takes_0 (sh : xSh) (M : Nat → Nat → Int32) (J : Nat → Nat → Int64) (l0 : Nat) (l1 : Int32) (l2 : Int32) (l3 : Int32) : ev (185, 0, [.ref l0, .int l1, .int l2, .int l3, .null, .null, .null], [], (sh, M, J)) = (ev (185, 6, [.ref l0, .null, .int l2, .int l3, .int l1, .int 0, .null], [], (sh, M, J))) := by
  refine ev_nx (s1 := (185, 1, [.ref l0, .int l1, .int l2, .int l3, .null, .null, .null], [.int l1], (sh, M, J))) f_185_0 rfl ?_
  refine ev_nx (s1 := (185, 3, [.ref l0, .int l1, .int l2, .int l3, .int l1, .null, .null], [], (sh, M, J))) f_185_1 rfl ?_
  refine ev_nx (s1 := (185, 4, [.ref l0, .int l1, .int l2, .int l3, .int l1, .null, .null], [.int 0], (sh, M, J))) f_185_3 rfl ?_
  refine ev_nx (s1 := (185, 6, [.ref l0, .int l1, .int l2, .int l3, .int l1, .int 0, .null], [], (sh, M, J))) f_185_4 rfl ?_
  exact (ev_kill hd_185_6).symm
theorem b_R_takes_6 (sh : xSh) (M : Nat → Nat → Int32) (J : Nat → Nat → Int64) (l0 : Nat) (l2 : Int32) (l3 : Int32) (l4 : Int32) (l5 : Int32) : ev (185, 6, [.ref l0, .null, .int l2, .int l3, .int l4, .int l5, .null], [], (sh, M, J)) = (bif decide (3 ≤ l5) then ev (185, 29, [.ref l0, .null, .int l2, .int l3, .int l4, .int 0, .null], [], (sh, M, J)) else bif decide ((sh.2.2.1 l0).1 = 9) then bif (decide ((sh.2.2.1 (sh.2.2.2 l0 25)).1 = 11) && xin l5 (sh.2.2.1 (sh.2.2.2 l0 25)).2) then ev (185, 6, [.ref l0, .null, .int l2, .int l3, .int l4, .int (l5 + 1), .null], [], (sh, (xu M (sh.2.2.2 l0 25) (l5 : Int32).toNatClampNeg 0), J)) else none else none) := by
  refine ev_nx (s1 := (185, 8, [.ref l0, .null, .int l2, .int l3, .int l4, .int l5, .null], [.int l5], (sh, M, J))) f_185_6 rfl ?_
  refine ev_nx (s1 := (185, 9, [.ref l0, .null, .int l2, .int l3, .int l4, .int l5, .null], [.int 3, .int l5], (sh, M, J))) f_185_8 rfl ?_
  refine ev_br (s1 := (185, 26, [.ref l0, .null, .int l2, .int l3, .int l4, .int l5, .null], [], (sh, M, J))) (s2 := (185, 12, [.ref l0, .null, .int l2, .int l3, .int l4, .int l5, .null], [], (sh, M, J))) f_185_9 rfl ?_ ?_
  · refine ev_nx (s1 := (185, 27, [.ref l0, .null, .int l2, .int l3, .int l4, .int l5, .null], [.int 0], (sh, M, J))) f_185_26 rfl ?_
    refine ev_nx (s1 := (185, 29, [.ref l0, .null, .int l2, .int l3, .int l4, .int 0, .null], [], (sh, M, J))) f_185_27 rfl ?_
    exact rfl
  · refine ev_nx (s1 := (185, 13, [.ref l0, .null, .int l2, .int l3, .int l4, .int l5, .null], [.ref l0], (sh, M, J))) f_185_12 rfl ?_
    refine ev_gd (s1 := (185, 16, [.ref l0, .null, .int l2, .int l3, .int l4, .int l5, .null], [.ref (sh.2.2.2 l0 25)], (sh, M, J))) f_185_13 rfl ?_
    refine ev_nx (s1 := (185, 18, [.ref l0, .null, .int l2, .int l3, .int l4, .int l5, .null], [.int l5, .ref (sh.2.2.2 l0 25)], (sh, M, J))) f_185_16 rfl ?_
    refine ev_nx (s1 := (185, 19, [.ref l0, .null, .int l2, .int l3, .int l4, .int l5, .null], [.int 0, .int l5, .ref (sh.2.2.2 l0 25)], (sh, M, J))) f_185_18 rfl ?_
    refine ev_gd (s1 := (185, 20, [.ref l0, .null, .int l2, .int l3, .int l4, .int l5, .null], [], (sh, (xu M (sh.2.2.2 l0 25) (l5 : Int32).toNatClampNeg 0), J))) f_185_19 rfl ?_
    refine ev_nx (s1 := (185, 23, [.ref l0, .null, .int l2, .int l3, .int l4, .int (l5 + 1), .null], [], (sh, (xu M (sh.2.2.2 l0 25) (l5 : Int32).toNatClampNeg 0), J))) f_185_20 rfl ?_
    refine ev_nx (s1 := (185, 6, [.ref l0, .null, .int l2, .int l3, .int l4, .int (l5 + 1), .null], [], (sh, (xu M (sh.2.2.2 l0 25) (l5 : Int32).toNatClampNeg 0), J))) f_185_23 rfl ?_
    exact rfl
theorem b_R_takes_29 (sh : xSh) (M : Nat → Nat → Int32) (J : Nat → Nat → Int64) (l0 : Nat) (l2 : Int32) (l3 : Int32) (l4 : Int32) (l5 : Int32) : ev (185, 29, [.ref l0, .null, .int l2, .int l3, .int l4, .int l5, .null], [], (sh, M, J)) = (bif decide (l2 ≤ l5) then ev (185, 72, [.ref l0, .null, .null, .null, .null, .int 0, .int 0], [], (sh, M, J)) else bif decide ((sh.2.2.1 l0).1 = 9) then bif !decide (l3 = 0) then bif (decide ((sh.2.2.1 (sh.2.2.2 l0 25)).1 = 11) && xin (xrem l4 l3) (sh.2.2.1 (sh.2.2.2 l0 25)).2) then bif decide ((sh.2.2.1 l0).1 = 9) then bif (decide ((sh.2.2.1 (sh.2.2.2 l0 24)).1 = 11) && xin l5 (sh.2.2.1 (sh.2.2.2 l0 24)).2) then bif (decide ((sh.2.2.1 (sh.2.2.2 l0 25)).1 = 11) && xin (xrem l4 l3) (sh.2.2.1 (sh.2.2.2 l0 25)).2) then bif !decide (l3 = 0) then ev (185, 29, [.ref l0, .null, .int l2, .int l3, .int (l4 / l3), .int (l5 + 1), .null], [], (sh, (xu M (sh.2.2.2 l0 25) ((xrem l4 l3) : Int32).toNatClampNeg ((M (sh.2.2.2 l0 25) ((xrem l4 l3) : Int32).toNatClampNeg) + (M (sh.2.2.2 l0 24) (l5 : Int32).toNatClampNeg))), J)) else none else none else none else none else none else none else none) := by
  refine ev_nx (s1 := (185, 31, [.ref l0, .null, .int l2, .int l3, .int l4, .int l5, .null], [.int l5], (sh, M, J))) f_185_29 rfl ?_
  refine ev_nx (s1 := (185, 32, [.ref l0, .null, .int l2, .int l3, .int l4, .int l5, .null], [.int l2, .int l5], (sh, M, J))) f_185_31 rfl ?_
  refine ev_br (s1 := (185, 66, [.ref l0, .null, .int l2, .int l3, .int l4, .int l5, .null], [], (sh, M, J))) (s2 := (185, 35, [.ref l0, .null, .int l2, .int l3, .int l4, .int l5, .null], [], (sh, M, J))) f_185_32 rfl ?_ ?_
  · refine ev_nx (s1 := (185, 67, [.ref l0, .null, .int l2, .int l3, .int l4, .int l5, .null], [.int 0], (sh, M, J))) f_185_66 rfl ?_
    refine ev_nx (s1 := (185, 69, [.ref l0, .null, .int l2, .int l3, .int l4, .int 0, .null], [], (sh, M, J))) f_185_67 rfl ?_
    refine ev_nx (s1 := (185, 70, [.ref l0, .null, .int l2, .int l3, .int l4, .int 0, .null], [.int 0], (sh, M, J))) f_185_69 rfl ?_
    refine ev_nx (s1 := (185, 72, [.ref l0, .null, .int l2, .int l3, .int l4, .int 0, .int 0], [], (sh, M, J))) f_185_70 rfl ?_
    exact (ev_kill hd_185_72).symm
  · refine ev_nx (s1 := (185, 36, [.ref l0, .null, .int l2, .int l3, .int l4, .int l5, .null], [.ref l0], (sh, M, J))) f_185_35 rfl ?_
    refine ev_gd (s1 := (185, 39, [.ref l0, .null, .int l2, .int l3, .int l4, .int l5, .null], [.ref (sh.2.2.2 l0 25)], (sh, M, J))) f_185_36 rfl ?_
    refine ev_nx (s1 := (185, 41, [.ref l0, .null, .int l2, .int l3, .int l4, .int l5, .null], [.int l4, .ref (sh.2.2.2 l0 25)], (sh, M, J))) f_185_39 rfl ?_
    refine ev_nx (s1 := (185, 42, [.ref l0, .null, .int l2, .int l3, .int l4, .int l5, .null], [.int l3, .int l4, .ref (sh.2.2.2 l0 25)], (sh, M, J))) f_185_41 rfl ?_
    refine ev_gd (s1 := (185, 43, [.ref l0, .null, .int l2, .int l3, .int l4, .int l5, .null], [.int (xrem l4 l3), .ref (sh.2.2.2 l0 25)], (sh, M, J))) f_185_42 rfl ?_
    refine ev_nx (s1 := (185, 44, [.ref l0, .null, .int l2, .int l3, .int l4, .int l5, .null], [.int (xrem l4 l3), .ref (sh.2.2.2 l0 25), .int (xrem l4 l3), .ref (sh.2.2.2 l0 25)], (sh, M, J))) f_185_43 rfl ?_
    refine ev_gd (s1 := (185, 45, [.ref l0, .null, .int l2, .int l3, .int l4, .int l5, .null], [.int (M (sh.2.2.2 l0 25) ((xrem l4 l3) : Int32).toNatClampNeg), .int (xrem l4 l3), .ref (sh.2.2.2 l0 25)], (sh, M, J))) f_185_44 rfl ?_
    refine ev_nx (s1 := (185, 46, [.ref l0, .null, .int l2, .int l3, .int l4, .int l5, .null], [.ref l0, .int (M (sh.2.2.2 l0 25) ((xrem l4 l3) : Int32).toNatClampNeg), .int (xrem l4 l3), .ref (sh.2.2.2 l0 25)], (sh, M, J))) f_185_45 rfl ?_
    refine ev_gd (s1 := (185, 49, [.ref l0, .null, .int l2, .int l3, .int l4, .int l5, .null], [.ref (sh.2.2.2 l0 24), .int (M (sh.2.2.2 l0 25) ((xrem l4 l3) : Int32).toNatClampNeg), .int (xrem l4 l3), .ref (sh.2.2.2 l0 25)], (sh, M, J))) f_185_46 rfl ?_
    refine ev_nx (s1 := (185, 51, [.ref l0, .null, .int l2, .int l3, .int l4, .int l5, .null], [.int l5, .ref (sh.2.2.2 l0 24), .int (M (sh.2.2.2 l0 25) ((xrem l4 l3) : Int32).toNatClampNeg), .int (xrem l4 l3), .ref (sh.2.2.2 l0 25)], (sh, M, J))) f_185_49 rfl ?_
    refine ev_gd (s1 := (185, 52, [.ref l0, .null, .int l2, .int l3, .int l4, .int l5, .null], [.int (M (sh.2.2.2 l0 24) (l5 : Int32).toNatClampNeg), .int (M (sh.2.2.2 l0 25) ((xrem l4 l3) : Int32).toNatClampNeg), .int (xrem l4 l3), .ref (sh.2.2.2 l0 25)], (sh, M, J))) f_185_51 rfl ?_
    refine ev_nx (s1 := (185, 53, [.ref l0, .null, .int l2, .int l3, .int l4, .int l5, .null], [.int ((M (sh.2.2.2 l0 25) ((xrem l4 l3) : Int32).toNatClampNeg) + (M (sh.2.2.2 l0 24) (l5 : Int32).toNatClampNeg)), .int (xrem l4 l3), .ref (sh.2.2.2 l0 25)], (sh, M, J))) f_185_52 rfl ?_
    refine ev_gd (s1 := (185, 54, [.ref l0, .null, .int l2, .int l3, .int l4, .int l5, .null], [], (sh, (xu M (sh.2.2.2 l0 25) ((xrem l4 l3) : Int32).toNatClampNeg ((M (sh.2.2.2 l0 25) ((xrem l4 l3) : Int32).toNatClampNeg) + (M (sh.2.2.2 l0 24) (l5 : Int32).toNatClampNeg))), J))) f_185_53 rfl ?_
    refine ev_nx (s1 := (185, 56, [.ref l0, .null, .int l2, .int l3, .int l4, .int l5, .null], [.int l4], (sh, (xu M (sh.2.2.2 l0 25) ((xrem l4 l3) : Int32).toNatClampNeg ((M (sh.2.2.2 l0 25) ((xrem l4 l3) : Int32).toNatClampNeg) + (M (sh.2.2.2 l0 24) (l5 : Int32).toNatClampNeg))), J))) f_185_54 rfl ?_
    refine ev_nx (s1 := (185, 57, [.ref l0, .null, .int l2, .int l3, .int l4, .int l5, .null], [.int l3, .int l4], (sh, (xu M (sh.2.2.2 l0 25) ((xrem l4 l3) : Int32).toNatClampNeg ((M (sh.2.2.2 l0 25) ((xrem l4 l3) : Int32).toNatClampNeg) + (M (sh.2.2.2 l0 24) (l5 : Int32).toNatClampNeg))), J))) f_185_56 rfl ?_
    refine ev_gd (s1 := (185, 58, [.ref l0, .null, .int l2, .int l3, .int l4, .int l5, .null], [.int (l4 / l3)], (sh, (xu M (sh.2.2.2 l0 25) ((xrem l4 l3) : Int32).toNatClampNeg ((M (sh.2.2.2 l0 25) ((xrem l4 l3) : Int32).toNatClampNeg) + (M (sh.2.2.2 l0 24) (l5 : Int32).toNatClampNeg))), J))) f_185_57 rfl ?_
    refine ev_nx (s1 := (185, 60, [.ref l0, .null, .int l2, .int l3, .int (l4 / l3), .int l5, .null], [], (sh, (xu M (sh.2.2.2 l0 25) ((xrem l4 l3) : Int32).toNatClampNeg ((M (sh.2.2.2 l0 25) ((xrem l4 l3) : Int32).toNatClampNeg) + (M (sh.2.2.2 l0 24) (l5 : Int32).toNatClampNeg))), J))) f_185_58 rfl ?_
    refine ev_nx (s1 := (185, 63, [.ref l0, .null, .int l2, .int l3, .int (l4 / l3), .int (l5 + 1), .null], [], (sh, (xu M (sh.2.2.2 l0 25) ((xrem l4 l3) : Int32).toNatClampNeg ((M (sh.2.2.2 l0 25) ((xrem l4 l3) : Int32).toNatClampNeg) + (M (sh.2.2.2 l0 24) (l5 : Int32).toNatClampNeg))), J))) f_185_60 rfl ?_
    refine ev_nx (s1 := (185, 29, [.ref l0, .null, .int l2, .int l3, .int (l4 / l3), .int (l5 + 1), .null], [], (sh, (xu M (sh.2.2.2 l0 25) ((xrem l4 l3) : Int32).toNatClampNeg ((M (sh.2.2.2 l0 25) ((xrem l4 l3) : Int32).toNatClampNeg) + (M (sh.2.2.2 l0 24) (l5 : Int32).toNatClampNeg))), J))) f_185_63 rfl ?_
    exact rfl
theorem b_R_takes_72 (sh : xSh) (M : Nat → Nat → Int32) (J : Nat → Nat → Int64) (l0 : Nat) (l5 : Int32) (l6 : Int32) : ev (185, 72, [.ref l0, .null, .null, .null, .null, .int l5, .int l6], [], (sh, M, J)) = (bif decide (3 ≤ l6) then some (some (.int l5), (sh, M, J)) else bif decide ((sh.2.2.1 l0).1 = 9) then bif (decide ((sh.2.2.1 (sh.2.2.2 l0 25)).1 = 11) && xin l6 (sh.2.2.1 (sh.2.2.2 l0 25)).2) then bif decide ((M (sh.2.2.2 l0 25) (l6 : Int32).toNatClampNeg) ≤ l5) then ev (185, 72, [.ref l0, .null, .null, .null, .null, .int l5, .int (l6 + 1)], [], (sh, M, J)) else bif decide ((sh.2.2.1 l0).1 = 9) then bif (decide ((sh.2.2.1 (sh.2.2.2 l0 25)).1 = 11) && xin l6 (sh.2.2.1 (sh.2.2.2 l0 25)).2) then ev (185, 72, [.ref l0, .null, .null, .null, .null, .int (M (sh.2.2.2 l0 25) (l6 : Int32).toNatClampNeg), .int (l6 + 1)], [], (sh, M, J)) else none else none else none else none) := by
  refine ev_nx (s1 := (185, 74, [.ref l0, .null, .null, .null, .null, .int l5, .int l6], [.int l6], (sh, M, J))) f_185_72 rfl ?_
  refine ev_nx (s1 := (185, 75, [.ref l0, .null, .null, .null, .null, .int l5, .int l6], [.int 3, .int l6], (sh, M, J))) f_185_74 rfl ?_
  refine ev_br (s1 := (185, 110, [.ref l0, .null, .null, .null, .null, .int l5, .int l6], [], (sh, M, J))) (s2 := (185, 78, [.ref l0, .null, .null, .null, .null, .int l5, .int l6], [], (sh, M, J))) f_185_75 rfl ?_ ?_
  · refine ev_nx (s1 := (185, 112, [.ref l0, .null, .null, .null, .null, .int l5, .int l6], [.int l5], (sh, M, J))) f_185_110 rfl ?_
    exact ev_r1 f_185_112 rfl
  · refine ev_nx (s1 := (185, 79, [.ref l0, .null, .null, .null, .null, .int l5, .int l6], [.ref l0], (sh, M, J))) f_185_78 rfl ?_
    refine ev_gd (s1 := (185, 82, [.ref l0, .null, .null, .null, .null, .int l5, .int l6], [.ref (sh.2.2.2 l0 25)], (sh, M, J))) f_185_79 rfl ?_
    refine ev_nx (s1 := (185, 84, [.ref l0, .null, .null, .null, .null, .int l5, .int l6], [.int l6, .ref (sh.2.2.2 l0 25)], (sh, M, J))) f_185_82 rfl ?_
    refine ev_gd (s1 := (185, 85, [.ref l0, .null, .null, .null, .null, .int l5, .int l6], [.int (M (sh.2.2.2 l0 25) (l6 : Int32).toNatClampNeg)], (sh, M, J))) f_185_84 rfl ?_
    refine ev_nx (s1 := (185, 87, [.ref l0, .null, .null, .null, .null, .int l5, .int l6], [.int l5, .int (M (sh.2.2.2 l0 25) (l6 : Int32).toNatClampNeg)], (sh, M, J))) f_185_85 rfl ?_
    refine ev_br (s1 := (185, 100, [.ref l0, .null, .null, .null, .null, .int l5, .int l6], [], (sh, M, J))) (s2 := (185, 90, [.ref l0, .null, .null, .null, .null, .int l5, .int l6], [], (sh, M, J))) f_185_87 rfl ?_ ?_
    · refine ev_nx (s1 := (185, 102, [.ref l0, .null, .null, .null, .null, .int l5, .int l6], [.int l5], (sh, M, J))) f_185_100 rfl ?_
      refine ev_nx (s1 := (185, 104, [.ref l0, .null, .null, .null, .null, .int l5, .int l6], [], (sh, M, J))) f_185_102 rfl ?_
      refine ev_nx (s1 := (185, 107, [.ref l0, .null, .null, .null, .null, .int l5, .int (l6 + 1)], [], (sh, M, J))) f_185_104 rfl ?_
      refine ev_nx (s1 := (185, 72, [.ref l0, .null, .null, .null, .null, .int l5, .int (l6 + 1)], [], (sh, M, J))) f_185_107 rfl ?_
      exact rfl
    · refine ev_nx (s1 := (185, 91, [.ref l0, .null, .null, .null, .null, .int l5, .int l6], [.ref l0], (sh, M, J))) f_185_90 rfl ?_
      refine ev_gd (s1 := (185, 94, [.ref l0, .null, .null, .null, .null, .int l5, .int l6], [.ref (sh.2.2.2 l0 25)], (sh, M, J))) f_185_91 rfl ?_
      refine ev_nx (s1 := (185, 96, [.ref l0, .null, .null, .null, .null, .int l5, .int l6], [.int l6, .ref (sh.2.2.2 l0 25)], (sh, M, J))) f_185_94 rfl ?_
      refine ev_gd (s1 := (185, 97, [.ref l0, .null, .null, .null, .null, .int l5, .int l6], [.int (M (sh.2.2.2 l0 25) (l6 : Int32).toNatClampNeg)], (sh, M, J))) f_185_96 rfl ?_
      refine ev_nx (s1 := (185, 102, [.ref l0, .null, .null, .null, .null, .int l5, .int l6], [.int (M (sh.2.2.2 l0 25) (l6 : Int32).toNatClampNeg)], (sh, M, J))) f_185_97 rfl ?_
      refine ev_nx (s1 := (185, 104, [.ref l0, .null, .null, .null, .null, .int (M (sh.2.2.2 l0 25) (l6 : Int32).toNatClampNeg), .int l6], [], (sh, M, J))) f_185_102 rfl ?_
      refine ev_nx (s1 := (185, 107, [.ref l0, .null, .null, .null, .null, .int (M (sh.2.2.2 l0 25) (l6 : Int32).toNatClampNeg), .int (l6 + 1)], [], (sh, M, J))) f_185_104 rfl ?_
      refine ev_nx (s1 := (185, 72, [.ref l0, .null, .null, .null, .null, .int (M (sh.2.2.2 l0 25) (l6 : Int32).toNatClampNeg), .int (l6 + 1)], [], (sh, M, J))) f_185_107 rfl ?_
      exact rfl
theorem f_186_0 : xfind (xnth xTs 186) 0 = some (0, .iload_n 1, 1, (0, 0, 0, 0), .null, [], 0, 0, []) := rfl
theorem f_186_1 : xfind (xnth xTs 186) 1 = some (1, .i2l, 1, (0, 0, 0, 0), .null, [], 0, 0, []) := rfl
theorem f_186_2 : xfind (xnth xTs 186) 2 = some (2, .lconst 1, 1, (0, 0, 0, 0), (.long 1), [], 0, 0, []) := rfl
theorem f_186_3 : xfind (xnth xTs 186) 3 = some (3, .ldc2_w 242, 3, (0, 0, 0, 0), (.long 3), [], 1192, 0, []) := rfl
theorem f_186_6 : xfind (xnth xTs 186) 6 = some (6, .invokestatic 68, 3, (132, 3, 9, 6), .null, [], 897, 0, []) := rfl
theorem f_186_9 : xfind (xnth xTs 186) 9 = some (9, .ifCond .ne 6, 3, (0, 0, 0, 0), .null, [], 0, 0, []) := rfl
theorem f_186_12 : xfind (xnth xTs 186) 12 = some (12, .ldc 91, 2, (0, 0, 0, 0), (.int (-1000000002)), [], 994, 0, []) := rfl
theorem f_186_14 : xfind (xnth xTs 186) 14 = some (14, .ireturn, 1, (0, 0, 0, 0), .null, [], 0, 0, []) := rfl
theorem f_186_15 : xfind (xnth xTs 186) 15 = some (15, .aload_n 0, 1, (0, 0, 0, 0), .null, [], 0, 0, []) := rfl
theorem f_186_16 : xfind (xnth xTs 186) 16 = some (16, .getfield 16, 3, (9, 2, 1, 0), .null, [], 911, 0, []) := rfl
theorem f_186_19 : xfind (xnth xTs 186) 19 = some (19, .bipush 20, 2, (0, 0, 0, 0), (.int 20), [], 0, 0, []) := rfl
theorem f_186_21 : xfind (xnth xTs 186) 21 = some (21, .iaload, 1, (0, 0, 0, 0), .null, [], 0, 0, []) := rfl
theorem f_186_22 : xfind (xnth xTs 186) 22 = some (22, .invokestatic 213, 3, (134, 1, 9, 3), .null, [], 1136, 0, []) := rfl
theorem f_186_25 : xfind (xnth xTs 186) 25 = some (25, .bipush 8, 2, (0, 0, 0, 0), (.int 8), [], 0, 0, []) := rfl
theorem f_186_27 : xfind (xnth xTs 186) 27 = some (27, .if_icmp .le 6, 3, (0, 0, 0, 0), .null, [], 0, 0, []) := rfl
theorem f_186_30 : xfind (xnth xTs 186) 30 = some (30, .ldc 203, 2, (0, 0, 0, 0), (.int (-1000000003)), [], 1119, 0, []) := rfl
theorem f_186_32 : xfind (xnth xTs 186) 32 = some (32, .ireturn, 1, (0, 0, 0, 0), .null, [], 0, 0, []) := rfl
theorem f_186_33 : xfind (xnth xTs 186) 33 = some (33, .iconst 0, 1, (0, 0, 0, 0), (.int 0), [], 0, 0, []) := rfl
theorem f_186_34 : xfind (xnth xTs 186) 34 = some (34, .istore_n 2, 1, (0, 0, 0, 0), .null, [], 0, 0, []) := rfl
theorem f_186_35 : xfind (xnth xTs 186) 35 = some (35, .iconst 1, 1, (0, 0, 0, 0), (.int 1), [], 0, 0, []) := rfl
theorem f_186_36 : xfind (xnth xTs 186) 36 = some (36, .istore_n 3, 1, (0, 0, 0, 0), .null, [], 0, 0, []) := rfl
theorem f_186_37 : xfind (xnth xTs 186) 37 = some (37, .iconst 0, 1, (0, 0, 0, 0), (.int 0), [], 0, 0, []) := rfl
theorem f_186_38 : xfind (xnth xTs 186) 38 = some (38, .istore 4, 2, (0, 0, 0, 0), .null, [], 0, 0, []) := rfl
theorem f_186_40 : xfind (xnth xTs 186) 40 = some (40, .iload 4, 2, (0, 0, 0, 0), .null, [], 0, 1, [5, 6]) := rfl
theorem f_186_42 : xfind (xnth xTs 186) 42 = some (42, .aload_n 0, 1, (0, 0, 0, 0), .null, [], 0, 0, []) := rfl
theorem f_186_43 : xfind (xnth xTs 186) 43 = some (43, .invokevirtual 156, 3, (151, 0, 9, 1), .null, [], 1061, 0, []) := rfl
theorem f_186_46 : xfind (xnth xTs 186) 46 = some (46, .if_icmp .ge 54, 3, (0, 0, 0, 0), .null, [], 0, 0, []) := rfl
theorem f_186_49 : xfind (xnth xTs 186) 49 = some (49, .aload_n 0, 1, (0, 0, 0, 0), .null, [], 0, 0, []) := rfl
theorem f_186_50 : xfind (xnth xTs 186) 50 = some (50, .getfield 16, 3, (9, 2, 1, 0), .null, [], 911, 0, []) := rfl
theorem f_186_53 : xfind (xnth xTs 186) 53 = some (53, .bipush 20, 2, (0, 0, 0, 0), (.int 20), [], 0, 0, []) := rfl
theorem f_186_55 : xfind (xnth xTs 186) 55 = some (55, .iaload, 1, (0, 0, 0, 0), .null, [], 0, 0, []) := rfl
theorem f_186_56 : xfind (xnth xTs 186) 56 = some (56, .iload 4, 2, (0, 0, 0, 0), .null, [], 0, 0, []) := rfl
theorem f_186_58 : xfind (xnth xTs 186) 58 = some (58, .invokestatic 137, 3, (133, 2, 9, 2), .null, [], 1034, 0, []) := rfl
theorem f_186_61 : xfind (xnth xTs 186) 61 = some (61, .ifCond .eq 33, 3, (0, 0, 0, 0), .null, [], 0, 0, []) := rfl
theorem f_186_64 : xfind (xnth xTs 186) 64 = some (64, .aload_n 0, 1, (0, 0, 0, 0), .null, [], 0, 0, []) := rfl
theorem f_186_65 : xfind (xnth xTs 186) 65 = some (65, .getfield 51, 3, (9, 24, 1, 0), .null, [], 933, 0, []) := rfl
theorem f_186_68 : xfind (xnth xTs 186) 68 = some (68, .iload_n 2, 1, (0, 0, 0, 0), .null, [], 0, 0, []) := rfl
theorem f_186_69 : xfind (xnth xTs 186) 69 = some (69, .aload_n 0, 1, (0, 0, 0, 0), .null, [], 0, 0, []) := rfl
theorem f_186_70 : xfind (xnth xTs 186) 70 = some (70, .getfield 7, 3, (9, 0, 1, 0), .null, [], 909, 0, []) := rfl
theorem f_186_73 : xfind (xnth xTs 186) 73 = some (73, .bipush 15, 2, (0, 0, 0, 0), (.int 15), [], 0, 0, []) := rfl
theorem f_186_75 : xfind (xnth xTs 186) 75 = some (75, .aload_n 0, 1, (0, 0, 0, 0), .null, [], 0, 0, []) := rfl
theorem f_186_76 : xfind (xnth xTs 186) 76 = some (76, .getfield 16, 3, (9, 2, 1, 0), .null, [], 911, 0, []) := rfl
theorem f_186_79 : xfind (xnth xTs 186) 79 = some (79, .iconst 0, 1, (0, 0, 0, 0), (.int 0), [], 0, 0, []) := rfl
theorem f_186_80 : xfind (xnth xTs 186) 80 = some (80, .iload 4, 2, (0, 0, 0, 0), .null, [], 0, 0, []) := rfl
theorem f_186_82 : xfind (xnth xTs 186) 82 = some (82, .iadd, 1, (0, 0, 0, 0), .null, [], 0, 0, []) := rfl
theorem f_186_83 : xfind (xnth xTs 186) 83 = some (83, .iaload, 1, (0, 0, 0, 0), .null, [], 0, 0, []) := rfl
theorem f_186_84 : xfind (xnth xTs 186) 84 = some (84, .iadd, 1, (0, 0, 0, 0), .null, [], 0, 0, []) := rfl
theorem f_186_85 : xfind (xnth xTs 186) 85 = some (85, .iaload, 1, (0, 0, 0, 0), .null, [], 0, 0, []) := rfl
theorem f_186_86 : xfind (xnth xTs 186) 86 = some (86, .iastore, 1, (0, 0, 0, 0), .null, [], 0, 0, []) := rfl
theorem f_186_87 : xfind (xnth xTs 186) 87 = some (87, .iinc 2 1, 3, (0, 0, 0, 0), .null, [], 0, 0, []) := rfl
theorem f_186_90 : xfind (xnth xTs 186) 90 = some (90, .iload_n 3, 1, (0, 0, 0, 0), .null, [], 0, 0, []) := rfl
theorem f_186_91 : xfind (xnth xTs 186) 91 = some (91, .iload_n 1, 1, (0, 0, 0, 0), .null, [], 0, 0, []) := rfl
theorem f_186_92 : xfind (xnth xTs 186) 92 = some (92, .imul, 1, (0, 0, 0, 0), .null, [], 0, 0, []) := rfl
theorem f_186_93 : xfind (xnth xTs 186) 93 = some (93, .istore_n 3, 1, (0, 0, 0, 0), .null, [], 0, 0, []) := rfl
theorem f_186_94 : xfind (xnth xTs 186) 94 = some (94, .iinc 4 1, 3, (0, 0, 0, 0), .null, [], 0, 0, []) := rfl
theorem f_186_97 : xfind (xnth xTs 186) 97 = some (97, .goto (-57), 3, (0, 0, 0, 0), .null, [], 0, 0, []) := rfl
theorem f_186_100 : xfind (xnth xTs 186) 100 = some (100, .ldc 234, 2, (0, 0, 0, 0), (.int 1000000), [], 1179, 0, []) := rfl
theorem f_186_102 : xfind (xnth xTs 186) 102 = some (102, .istore 4, 2, (0, 0, 0, 0), .null, [], 0, 0, []) := rfl
theorem f_186_104 : xfind (xnth xTs 186) 104 = some (104, .iconst 0, 1, (0, 0, 0, 0), (.int 0), [], 0, 0, []) := rfl
theorem f_186_105 : xfind (xnth xTs 186) 105 = some (105, .istore 5, 2, (0, 0, 0, 0), .null, [], 0, 0, []) := rfl
theorem f_186_107 : xfind (xnth xTs 186) 107 = some (107, .iload 5, 2, (0, 0, 0, 0), .null, [], 0, 1, [6]) := rfl
theorem f_186_109 : xfind (xnth xTs 186) 109 = some (109, .iload_n 3, 1, (0, 0, 0, 0), .null, [], 0, 0, []) := rfl
theorem f_186_110 : xfind (xnth xTs 186) 110 = some (110, .if_icmp .ge 35, 3, (0, 0, 0, 0), .null, [], 0, 0, []) := rfl
theorem f_186_113 : xfind (xnth xTs 186) 113 = some (113, .aload_n 0, 1, (0, 0, 0, 0), .null, [], 0, 0, []) := rfl
theorem f_186_114 : xfind (xnth xTs 186) 114 = some (114, .iload 5, 2, (0, 0, 0, 0), .null, [], 0, 0, []) := rfl
theorem f_186_116 : xfind (xnth xTs 186) 116 = some (116, .iload_n 2, 1, (0, 0, 0, 0), .null, [], 0, 0, []) := rfl
theorem f_186_117 : xfind (xnth xTs 186) 117 = some (117, .iload_n 1, 1, (0, 0, 0, 0), .null, [], 0, 0, []) := rfl
theorem f_186_118 : xfind (xnth xTs 186) 118 = some (118, .invokevirtual 244, 3, (185, 3, 9, 7), .null, [], 1201, 0, []) := rfl
theorem f_186_121 : xfind (xnth xTs 186) 121 = some (121, .istore 6, 2, (0, 0, 0, 0), .null, [], 0, 0, []) := rfl
theorem f_186_123 : xfind (xnth xTs 186) 123 = some (123, .iload 6, 2, (0, 0, 0, 0), .null, [], 0, 0, []) := rfl
theorem f_186_125 : xfind (xnth xTs 186) 125 = some (125, .iload 4, 2, (0, 0, 0, 0), .null, [], 0, 0, []) := rfl
theorem f_186_127 : xfind (xnth xTs 186) 127 = some (127, .if_icmp .ge 8, 3, (0, 0, 0, 0), .null, [], 0, 0, []) := rfl
theorem f_186_130 : xfind (xnth xTs 186) 130 = some (130, .iload 6, 2, (0, 0, 0, 0), .null, [], 0, 0, []) := rfl
theorem f_186_132 : xfind (xnth xTs 186) 132 = some (132, .goto 5, 3, (0, 0, 0, 0), .null, [], 0, 0, []) := rfl
theorem f_186_135 : xfind (xnth xTs 186) 135 = some (135, .iload 4, 2, (0, 0, 0, 0), .null, [], 0, 0, []) := rfl
theorem f_186_137 : xfind (xnth xTs 186) 137 = some (137, .istore 4, 2, (0, 0, 0, 0), .null, [], 0, 0, []) := rfl
theorem f_186_139 : xfind (xnth xTs 186) 139 = some (139, .iinc 5 1, 3, (0, 0, 0, 0), .null, [], 0, 0, []) := rfl
theorem f_186_142 : xfind (xnth xTs 186) 142 = some (142, .goto (-35), 3, (0, 0, 0, 0), .null, [], 0, 0, []) := rfl
theorem f_186_145 : xfind (xnth xTs 186) 145 = some (145, .iload 4, 2, (0, 0, 0, 0), .null, [], 0, 0, []) := rfl
theorem f_186_147 : xfind (xnth xTs 186) 147 = some (147, .ireturn, 1, (0, 0, 0, 0), .null, [], 0, 0, []) := rfl
theorem hd_186_40 : xhead 186 40 = some [5, 6] := rfl
theorem hd_186_107 : xhead 186 107 = some [6] := rfl
theorem b_R_sewing_0 (sh : xSh) (M : Nat → Nat → Int32) (J : Nat → Nat → Int64) (l0 : Nat) (l1 : Int32) : ev (186, 0, [.ref l0, .int l1, .null, .null, .null, .null, .null], [], (sh, M, J)) = ((ev (132, 0, [.long (l1 : Int32).toInt64, .null, .long 1, .null, .long 3, .null], [], (sh, M, J))).bind (fun r => ev (186, 9, [.ref l0, .int l1, .null, .null, .null, .null, .null], r.1.toList ++ [], r.2))) := by
  refine ev_nx (s1 := (186, 1, [.ref l0, .int l1, .null, .null, .null, .null, .null], [.int l1], (sh, M, J))) f_186_0 rfl ?_
  refine ev_nx (s1 := (186, 2, [.ref l0, .int l1, .null, .null, .null, .null, .null], [.long (l1 : Int32).toInt64], (sh, M, J))) f_186_1 rfl ?_
  refine ev_nx (s1 := (186, 3, [.ref l0, .int l1, .null, .null, .null, .null, .null], [.long 1, .long (l1 : Int32).toInt64], (sh, M, J))) f_186_2 rfl ?_
  refine ev_nx (s1 := (186, 6, [.ref l0, .int l1, .null, .null, .null, .null, .null], [.long 3, .long 1, .long (l1 : Int32).toInt64], (sh, M, J))) f_186_3 rfl ?_
  exact ev_c1 (s1 := (132, 0, [.long (l1 : Int32).toInt64, .null, .long 1, .null, .long 3, .null], [], (sh, M, J))) (k := (186, 9, [.ref l0, .int l1, .null, .null, .null, .null, .null], [])) f_186_6 rfl
theorem b_R_sewing_9 (sh : xSh) (M : Nat → Nat → Int32) (J : Nat → Nat → Int64) (l0 : Nat) (l1 : Int32) (k0 : Int32) : ev (186, 9, [.ref l0, .int l1, .null, .null, .null, .null, .null], [.int k0], (sh, M, J)) = (bif !decide (k0 = 0) then bif decide ((sh.2.2.1 l0).1 = 9) then bif (decide ((sh.2.2.1 (sh.2.2.2 l0 2)).1 = 11) && xin 20 (sh.2.2.1 (sh.2.2.2 l0 2)).2) then (ev (134, 0, [.int (M (sh.2.2.2 l0 2) (20 : Int32).toNatClampNeg), .null, .null], [], (sh, M, J))).bind (fun r => ev (186, 25, [.ref l0, .int l1, .null, .null, .null, .null, .null], r.1.toList ++ [], r.2)) else none else none else some (some (.int (-1000000002)), (sh, M, J))) := by
  refine ev_br (s1 := (186, 15, [.ref l0, .int l1, .null, .null, .null, .null, .null], [], (sh, M, J))) (s2 := (186, 12, [.ref l0, .int l1, .null, .null, .null, .null, .null], [], (sh, M, J))) f_186_9 rfl ?_ ?_
  · refine ev_nx (s1 := (186, 16, [.ref l0, .int l1, .null, .null, .null, .null, .null], [.ref l0], (sh, M, J))) f_186_15 rfl ?_
    refine ev_gd (s1 := (186, 19, [.ref l0, .int l1, .null, .null, .null, .null, .null], [.ref (sh.2.2.2 l0 2)], (sh, M, J))) f_186_16 rfl ?_
    refine ev_nx (s1 := (186, 21, [.ref l0, .int l1, .null, .null, .null, .null, .null], [.int 20, .ref (sh.2.2.2 l0 2)], (sh, M, J))) f_186_19 rfl ?_
    refine ev_gd (s1 := (186, 22, [.ref l0, .int l1, .null, .null, .null, .null, .null], [.int (M (sh.2.2.2 l0 2) (20 : Int32).toNatClampNeg)], (sh, M, J))) f_186_21 rfl ?_
    exact ev_c1 (s1 := (134, 0, [.int (M (sh.2.2.2 l0 2) (20 : Int32).toNatClampNeg), .null, .null], [], (sh, M, J))) (k := (186, 25, [.ref l0, .int l1, .null, .null, .null, .null, .null], [])) f_186_22 rfl
  · refine ev_nx (s1 := (186, 14, [.ref l0, .int l1, .null, .null, .null, .null, .null], [.int (-1000000002)], (sh, M, J))) f_186_12 rfl ?_
    exact ev_r1 f_186_14 rfl
theorem b_R_sewing_25 (sh : xSh) (M : Nat → Nat → Int32) (J : Nat → Nat → Int64) (l0 : Nat) (l1 : Int32) (k0 : Int32) : ev (186, 25, [.ref l0, .int l1, .null, .null, .null, .null, .null], [.int k0], (sh, M, J)) = (bif decide (k0 ≤ 8) then ev (186, 40, [.ref l0, .int l1, .int 0, .int 1, .int 0, .null, .null], [], (sh, M, J)) else some (some (.int (-1000000003)), (sh, M, J))) := by
  refine ev_nx (s1 := (186, 27, [.ref l0, .int l1, .null, .null, .null, .null, .null], [.int 8, .int k0], (sh, M, J))) f_186_25 rfl ?_
  refine ev_br (s1 := (186, 33, [.ref l0, .int l1, .null, .null, .null, .null, .null], [], (sh, M, J))) (s2 := (186, 30, [.ref l0, .int l1, .null, .null, .null, .null, .null], [], (sh, M, J))) f_186_27 rfl ?_ ?_
  · refine ev_nx (s1 := (186, 34, [.ref l0, .int l1, .null, .null, .null, .null, .null], [.int 0], (sh, M, J))) f_186_33 rfl ?_
    refine ev_nx (s1 := (186, 35, [.ref l0, .int l1, .int 0, .null, .null, .null, .null], [], (sh, M, J))) f_186_34 rfl ?_
    refine ev_nx (s1 := (186, 36, [.ref l0, .int l1, .int 0, .null, .null, .null, .null], [.int 1], (sh, M, J))) f_186_35 rfl ?_
    refine ev_nx (s1 := (186, 37, [.ref l0, .int l1, .int 0, .int 1, .null, .null, .null], [], (sh, M, J))) f_186_36 rfl ?_
    refine ev_nx (s1 := (186, 38, [.ref l0, .int l1, .int 0, .int 1, .null, .null, .null], [.int 0], (sh, M, J))) f_186_37 rfl ?_
    refine ev_nx (s1 := (186, 40, [.ref l0, .int l1, .int 0, .int 1, .int 0, .null, .null], [], (sh, M, J))) f_186_38 rfl ?_
    exact rfl
  · refine ev_nx (s1 := (186, 32, [.ref l0, .int l1, .null, .null, .null, .null, .null], [.int (-1000000003)], (sh, M, J))) f_186_30 rfl ?_
    exact ev_r1 f_186_32 rfl
theorem b_R_sewing_40 (sh : xSh) (M : Nat → Nat → Int32) (J : Nat → Nat → Int64) (l0 : Nat) (l1 : Int32) (l2 : Int32) (l3 : Int32) (l4 : Int32) : ev (186, 40, [.ref l0, .int l1, .int l2, .int l3, .int l4, .null, .null], [], (sh, M, J)) = (bif (decide ((sh.2.2.1 l0).1 = 9) && true) then (ev (151, 0, [.ref l0], [], (sh, M, J))).bind (fun r => ev (186, 46, [.ref l0, .int l1, .int l2, .int l3, .int l4, .null, .null], r.1.toList ++ [.int l4], r.2)) else none) := by
  refine ev_nx (s1 := (186, 42, [.ref l0, .int l1, .int l2, .int l3, .int l4, .null, .null], [.int l4], (sh, M, J))) f_186_40 rfl ?_
  refine ev_nx (s1 := (186, 43, [.ref l0, .int l1, .int l2, .int l3, .int l4, .null, .null], [.ref l0, .int l4], (sh, M, J))) f_186_42 rfl ?_
  exact ev_ca (cc := (decide ((sh.2.2.1 l0).1 = 9) && true)) (s1 := (151, 0, [.ref l0], [], (sh, M, J))) (k := (186, 46, [.ref l0, .int l1, .int l2, .int l3, .int l4, .null, .null], [.int l4])) f_186_43 rfl
theorem b_R_sewing_46 (sh : xSh) (M : Nat → Nat → Int32) (J : Nat → Nat → Int64) (l0 : Nat) (l1 : Int32) (l2 : Int32) (l3 : Int32) (l4 : Int32) (k0 : Int32) (k1 : Int32) : ev (186, 46, [.ref l0, .int l1, .int l2, .int l3, .int l4, .null, .null], [.int k0, .int k1], (sh, M, J)) = (bif decide (k0 ≤ k1) then ev (186, 107, [.ref l0, .int l1, .int l2, .int l3, .int 1000000, .int 0, .null], [], (sh, M, J)) else bif decide ((sh.2.2.1 l0).1 = 9) then bif (decide ((sh.2.2.1 (sh.2.2.2 l0 2)).1 = 11) && xin 20 (sh.2.2.1 (sh.2.2.2 l0 2)).2) then (ev (133, 0, [.int (M (sh.2.2.2 l0 2) (20 : Int32).toNatClampNeg), .int l4], [], (sh, M, J))).bind (fun r => ev (186, 61, [.ref l0, .int l1, .int l2, .int l3, .int l4, .null, .null], r.1.toList ++ [], r.2)) else none else none) := by
  refine ev_br (s1 := (186, 100, [.ref l0, .int l1, .int l2, .int l3, .int l4, .null, .null], [], (sh, M, J))) (s2 := (186, 49, [.ref l0, .int l1, .int l2, .int l3, .int l4, .null, .null], [], (sh, M, J))) f_186_46 rfl ?_ ?_
  · refine ev_nx (s1 := (186, 102, [.ref l0, .int l1, .int l2, .int l3, .int l4, .null, .null], [.int 1000000], (sh, M, J))) f_186_100 rfl ?_
    refine ev_nx (s1 := (186, 104, [.ref l0, .int l1, .int l2, .int l3, .int 1000000, .null, .null], [], (sh, M, J))) f_186_102 rfl ?_
    refine ev_nx (s1 := (186, 105, [.ref l0, .int l1, .int l2, .int l3, .int 1000000, .null, .null], [.int 0], (sh, M, J))) f_186_104 rfl ?_
    refine ev_nx (s1 := (186, 107, [.ref l0, .int l1, .int l2, .int l3, .int 1000000, .int 0, .null], [], (sh, M, J))) f_186_105 rfl ?_
    exact rfl
  · refine ev_nx (s1 := (186, 50, [.ref l0, .int l1, .int l2, .int l3, .int l4, .null, .null], [.ref l0], (sh, M, J))) f_186_49 rfl ?_
    refine ev_gd (s1 := (186, 53, [.ref l0, .int l1, .int l2, .int l3, .int l4, .null, .null], [.ref (sh.2.2.2 l0 2)], (sh, M, J))) f_186_50 rfl ?_
    refine ev_nx (s1 := (186, 55, [.ref l0, .int l1, .int l2, .int l3, .int l4, .null, .null], [.int 20, .ref (sh.2.2.2 l0 2)], (sh, M, J))) f_186_53 rfl ?_
    refine ev_gd (s1 := (186, 56, [.ref l0, .int l1, .int l2, .int l3, .int l4, .null, .null], [.int (M (sh.2.2.2 l0 2) (20 : Int32).toNatClampNeg)], (sh, M, J))) f_186_55 rfl ?_
    refine ev_nx (s1 := (186, 58, [.ref l0, .int l1, .int l2, .int l3, .int l4, .null, .null], [.int l4, .int (M (sh.2.2.2 l0 2) (20 : Int32).toNatClampNeg)], (sh, M, J))) f_186_56 rfl ?_
    exact ev_c1 (s1 := (133, 0, [.int (M (sh.2.2.2 l0 2) (20 : Int32).toNatClampNeg), .int l4], [], (sh, M, J))) (k := (186, 61, [.ref l0, .int l1, .int l2, .int l3, .int l4, .null, .null], [])) f_186_58 rfl
theorem b_R_sewing_61 (sh : xSh) (M : Nat → Nat → Int32) (J : Nat → Nat → Int64) (l0 : Nat) (l1 : Int32) (l2 : Int32) (l3 : Int32) (l4 : Int32) (k0 : Int32) : ev (186, 61, [.ref l0, .int l1, .int l2, .int l3, .int l4, .null, .null], [.int k0], (sh, M, J)) = (bif decide (k0 = 0) then ev (186, 40, [.ref l0, .int l1, .int l2, .int l3, .int (l4 + 1), .null, .null], [], (sh, M, J)) else bif decide ((sh.2.2.1 l0).1 = 9) then bif decide ((sh.2.2.1 l0).1 = 9) then bif decide ((sh.2.2.1 l0).1 = 9) then bif (decide ((sh.2.2.1 (sh.2.2.2 l0 2)).1 = 11) && xin ((0 : Int32) + l4) (sh.2.2.1 (sh.2.2.2 l0 2)).2) then bif (decide ((sh.2.2.1 (sh.2.2.2 l0 0)).1 = 11) && xin ((15 : Int32) + (M (sh.2.2.2 l0 2) (((0 : Int32) + l4) : Int32).toNatClampNeg)) (sh.2.2.1 (sh.2.2.2 l0 0)).2) then bif (decide ((sh.2.2.1 (sh.2.2.2 l0 24)).1 = 11) && xin l2 (sh.2.2.1 (sh.2.2.2 l0 24)).2) then ev (186, 40, [.ref l0, .int l1, .int (l2 + 1), .int (l3 * l1), .int (l4 + 1), .null, .null], [], (sh, (xu M (sh.2.2.2 l0 24) (l2 : Int32).toNatClampNeg (M (sh.2.2.2 l0 0) (((15 : Int32) + (M (sh.2.2.2 l0 2) (((0 : Int32) + l4) : Int32).toNatClampNeg)) : Int32).toNatClampNeg)), J)) else none else none else none else none else none else none) := by
  refine ev_br (s1 := (186, 94, [.ref l0, .int l1, .int l2, .int l3, .int l4, .null, .null], [], (sh, M, J))) (s2 := (186, 64, [.ref l0, .int l1, .int l2, .int l3, .int l4, .null, .null], [], (sh, M, J))) f_186_61 rfl ?_ ?_
  · refine ev_nx (s1 := (186, 97, [.ref l0, .int l1, .int l2, .int l3, .int (l4 + 1), .null, .null], [], (sh, M, J))) f_186_94 rfl ?_
    refine ev_nx (s1 := (186, 40, [.ref l0, .int l1, .int l2, .int l3, .int (l4 + 1), .null, .null], [], (sh, M, J))) f_186_97 rfl ?_
    exact rfl
  · refine ev_nx (s1 := (186, 65, [.ref l0, .int l1, .int l2, .int l3, .int l4, .null, .null], [.ref l0], (sh, M, J))) f_186_64 rfl ?_
    refine ev_gd (s1 := (186, 68, [.ref l0, .int l1, .int l2, .int l3, .int l4, .null, .null], [.ref (sh.2.2.2 l0 24)], (sh, M, J))) f_186_65 rfl ?_
    refine ev_nx (s1 := (186, 69, [.ref l0, .int l1, .int l2, .int l3, .int l4, .null, .null], [.int l2, .ref (sh.2.2.2 l0 24)], (sh, M, J))) f_186_68 rfl ?_
    refine ev_nx (s1 := (186, 70, [.ref l0, .int l1, .int l2, .int l3, .int l4, .null, .null], [.ref l0, .int l2, .ref (sh.2.2.2 l0 24)], (sh, M, J))) f_186_69 rfl ?_
    refine ev_gd (s1 := (186, 73, [.ref l0, .int l1, .int l2, .int l3, .int l4, .null, .null], [.ref (sh.2.2.2 l0 0), .int l2, .ref (sh.2.2.2 l0 24)], (sh, M, J))) f_186_70 rfl ?_
    refine ev_nx (s1 := (186, 75, [.ref l0, .int l1, .int l2, .int l3, .int l4, .null, .null], [.int 15, .ref (sh.2.2.2 l0 0), .int l2, .ref (sh.2.2.2 l0 24)], (sh, M, J))) f_186_73 rfl ?_
    refine ev_nx (s1 := (186, 76, [.ref l0, .int l1, .int l2, .int l3, .int l4, .null, .null], [.ref l0, .int 15, .ref (sh.2.2.2 l0 0), .int l2, .ref (sh.2.2.2 l0 24)], (sh, M, J))) f_186_75 rfl ?_
    refine ev_gd (s1 := (186, 79, [.ref l0, .int l1, .int l2, .int l3, .int l4, .null, .null], [.ref (sh.2.2.2 l0 2), .int 15, .ref (sh.2.2.2 l0 0), .int l2, .ref (sh.2.2.2 l0 24)], (sh, M, J))) f_186_76 rfl ?_
    refine ev_nx (s1 := (186, 80, [.ref l0, .int l1, .int l2, .int l3, .int l4, .null, .null], [.int 0, .ref (sh.2.2.2 l0 2), .int 15, .ref (sh.2.2.2 l0 0), .int l2, .ref (sh.2.2.2 l0 24)], (sh, M, J))) f_186_79 rfl ?_
    refine ev_nx (s1 := (186, 82, [.ref l0, .int l1, .int l2, .int l3, .int l4, .null, .null], [.int l4, .int 0, .ref (sh.2.2.2 l0 2), .int 15, .ref (sh.2.2.2 l0 0), .int l2, .ref (sh.2.2.2 l0 24)], (sh, M, J))) f_186_80 rfl ?_
    refine ev_nx (s1 := (186, 83, [.ref l0, .int l1, .int l2, .int l3, .int l4, .null, .null], [.int ((0 : Int32) + l4), .ref (sh.2.2.2 l0 2), .int 15, .ref (sh.2.2.2 l0 0), .int l2, .ref (sh.2.2.2 l0 24)], (sh, M, J))) f_186_82 rfl ?_
    refine ev_gd (s1 := (186, 84, [.ref l0, .int l1, .int l2, .int l3, .int l4, .null, .null], [.int (M (sh.2.2.2 l0 2) (((0 : Int32) + l4) : Int32).toNatClampNeg), .int 15, .ref (sh.2.2.2 l0 0), .int l2, .ref (sh.2.2.2 l0 24)], (sh, M, J))) f_186_83 rfl ?_
    refine ev_nx (s1 := (186, 85, [.ref l0, .int l1, .int l2, .int l3, .int l4, .null, .null], [.int ((15 : Int32) + (M (sh.2.2.2 l0 2) (((0 : Int32) + l4) : Int32).toNatClampNeg)), .ref (sh.2.2.2 l0 0), .int l2, .ref (sh.2.2.2 l0 24)], (sh, M, J))) f_186_84 rfl ?_
    refine ev_gd (s1 := (186, 86, [.ref l0, .int l1, .int l2, .int l3, .int l4, .null, .null], [.int (M (sh.2.2.2 l0 0) (((15 : Int32) + (M (sh.2.2.2 l0 2) (((0 : Int32) + l4) : Int32).toNatClampNeg)) : Int32).toNatClampNeg), .int l2, .ref (sh.2.2.2 l0 24)], (sh, M, J))) f_186_85 rfl ?_
    refine ev_gd (s1 := (186, 87, [.ref l0, .int l1, .int l2, .int l3, .int l4, .null, .null], [], (sh, (xu M (sh.2.2.2 l0 24) (l2 : Int32).toNatClampNeg (M (sh.2.2.2 l0 0) (((15 : Int32) + (M (sh.2.2.2 l0 2) (((0 : Int32) + l4) : Int32).toNatClampNeg)) : Int32).toNatClampNeg)), J))) f_186_86 rfl ?_
    refine ev_nx (s1 := (186, 90, [.ref l0, .int l1, .int (l2 + 1), .int l3, .int l4, .null, .null], [], (sh, (xu M (sh.2.2.2 l0 24) (l2 : Int32).toNatClampNeg (M (sh.2.2.2 l0 0) (((15 : Int32) + (M (sh.2.2.2 l0 2) (((0 : Int32) + l4) : Int32).toNatClampNeg)) : Int32).toNatClampNeg)), J))) f_186_87 rfl ?_
    refine ev_nx (s1 := (186, 91, [.ref l0, .int l1, .int (l2 + 1), .int l3, .int l4, .null, .null], [.int l3], (sh, (xu M (sh.2.2.2 l0 24) (l2 : Int32).toNatClampNeg (M (sh.2.2.2 l0 0) (((15 : Int32) + (M (sh.2.2.2 l0 2) (((0 : Int32) + l4) : Int32).toNatClampNeg)) : Int32).toNatClampNeg)), J))) f_186_90 rfl ?_
    refine ev_nx (s1 := (186, 92, [.ref l0, .int l1, .int (l2 + 1), .int l3, .int l4, .null, .null], [.int l1, .int l3], (sh, (xu M (sh.2.2.2 l0 24) (l2 : Int32).toNatClampNeg (M (sh.2.2.2 l0 0) (((15 : Int32) + (M (sh.2.2.2 l0 2) (((0 : Int32) + l4) : Int32).toNatClampNeg)) : Int32).toNatClampNeg)), J))) f_186_91 rfl ?_
    refine ev_nx (s1 := (186, 93, [.ref l0, .int l1, .int (l2 + 1), .int l3, .int l4, .null, .null], [.int (l3 * l1)], (sh, (xu M (sh.2.2.2 l0 24) (l2 : Int32).toNatClampNeg (M (sh.2.2.2 l0 0) (((15 : Int32) + (M (sh.2.2.2 l0 2) (((0 : Int32) + l4) : Int32).toNatClampNeg)) : Int32).toNatClampNeg)), J))) f_186_92 rfl ?_
    refine ev_nx (s1 := (186, 94, [.ref l0, .int l1, .int (l2 + 1), .int (l3 * l1), .int l4, .null, .null], [], (sh, (xu M (sh.2.2.2 l0 24) (l2 : Int32).toNatClampNeg (M (sh.2.2.2 l0 0) (((15 : Int32) + (M (sh.2.2.2 l0 2) (((0 : Int32) + l4) : Int32).toNatClampNeg)) : Int32).toNatClampNeg)), J))) f_186_93 rfl ?_
    refine ev_nx (s1 := (186, 97, [.ref l0, .int l1, .int (l2 + 1), .int (l3 * l1), .int (l4 + 1), .null, .null], [], (sh, (xu M (sh.2.2.2 l0 24) (l2 : Int32).toNatClampNeg (M (sh.2.2.2 l0 0) (((15 : Int32) + (M (sh.2.2.2 l0 2) (((0 : Int32) + l4) : Int32).toNatClampNeg)) : Int32).toNatClampNeg)), J))) f_186_94 rfl ?_
    refine ev_nx (s1 := (186, 40, [.ref l0, .int l1, .int (l2 + 1), .int (l3 * l1), .int (l4 + 1), .null, .null], [], (sh, (xu M (sh.2.2.2 l0 24) (l2 : Int32).toNatClampNeg (M (sh.2.2.2 l0 0) (((15 : Int32) + (M (sh.2.2.2 l0 2) (((0 : Int32) + l4) : Int32).toNatClampNeg)) : Int32).toNatClampNeg)), J))) f_186_97 rfl ?_
    exact rfl
theorem b_R_sewing_107 (sh : xSh) (M : Nat → Nat → Int32) (J : Nat → Nat → Int64) (l0 : Nat) (l1 : Int32) (l2 : Int32) (l3 : Int32) (l4 : Int32) (l5 : Int32) : ev (186, 107, [.ref l0, .int l1, .int l2, .int l3, .int l4, .int l5, .null], [], (sh, M, J)) = (bif decide (l3 ≤ l5) then some (some (.int l4), (sh, M, J)) else bif (decide ((sh.2.2.1 l0).1 = 9) && true) then (ev (185, 0, [.ref l0, .int l5, .int l2, .int l1, .null, .null, .null], [], (sh, M, J))).bind (fun r => ev (186, 121, [.ref l0, .int l1, .int l2, .int l3, .int l4, .int l5, .null], r.1.toList ++ [], r.2)) else none) := by
  refine ev_nx (s1 := (186, 109, [.ref l0, .int l1, .int l2, .int l3, .int l4, .int l5, .null], [.int l5], (sh, M, J))) f_186_107 rfl ?_
  refine ev_nx (s1 := (186, 110, [.ref l0, .int l1, .int l2, .int l3, .int l4, .int l5, .null], [.int l3, .int l5], (sh, M, J))) f_186_109 rfl ?_
  refine ev_br (s1 := (186, 145, [.ref l0, .int l1, .int l2, .int l3, .int l4, .int l5, .null], [], (sh, M, J))) (s2 := (186, 113, [.ref l0, .int l1, .int l2, .int l3, .int l4, .int l5, .null], [], (sh, M, J))) f_186_110 rfl ?_ ?_
  · refine ev_nx (s1 := (186, 147, [.ref l0, .int l1, .int l2, .int l3, .int l4, .int l5, .null], [.int l4], (sh, M, J))) f_186_145 rfl ?_
    exact ev_r1 f_186_147 rfl
  · refine ev_nx (s1 := (186, 114, [.ref l0, .int l1, .int l2, .int l3, .int l4, .int l5, .null], [.ref l0], (sh, M, J))) f_186_113 rfl ?_
    refine ev_nx (s1 := (186, 116, [.ref l0, .int l1, .int l2, .int l3, .int l4, .int l5, .null], [.int l5, .ref l0], (sh, M, J))) f_186_114 rfl ?_
    refine ev_nx (s1 := (186, 117, [.ref l0, .int l1, .int l2, .int l3, .int l4, .int l5, .null], [.int l2, .int l5, .ref l0], (sh, M, J))) f_186_116 rfl ?_
    refine ev_nx (s1 := (186, 118, [.ref l0, .int l1, .int l2, .int l3, .int l4, .int l5, .null], [.int l1, .int l2, .int l5, .ref l0], (sh, M, J))) f_186_117 rfl ?_
    exact ev_ca (cc := (decide ((sh.2.2.1 l0).1 = 9) && true)) (s1 := (185, 0, [.ref l0, .int l5, .int l2, .int l1, .null, .null, .null], [], (sh, M, J))) (k := (186, 121, [.ref l0, .int l1, .int l2, .int l3, .int l4, .int l5, .null], [])) f_186_118 rfl
theorem b_R_sewing_121 (sh : xSh) (M : Nat → Nat → Int32) (J : Nat → Nat → Int64) (l0 : Nat) (l1 : Int32) (l2 : Int32) (l3 : Int32) (l4 : Int32) (l5 : Int32) (k0 : Int32) : ev (186, 121, [.ref l0, .int l1, .int l2, .int l3, .int l4, .int l5, .null], [.int k0], (sh, M, J)) = (bif decide (l4 ≤ k0) then ev (186, 107, [.ref l0, .int l1, .int l2, .int l3, .int l4, .int (l5 + 1), .null], [], (sh, M, J)) else ev (186, 107, [.ref l0, .int l1, .int l2, .int l3, .int k0, .int (l5 + 1), .null], [], (sh, M, J))) := by
  refine ev_nx (s1 := (186, 123, [.ref l0, .int l1, .int l2, .int l3, .int l4, .int l5, .int k0], [], (sh, M, J))) f_186_121 rfl ?_
  refine ev_nx (s1 := (186, 125, [.ref l0, .int l1, .int l2, .int l3, .int l4, .int l5, .int k0], [.int k0], (sh, M, J))) f_186_123 rfl ?_
  refine ev_nx (s1 := (186, 127, [.ref l0, .int l1, .int l2, .int l3, .int l4, .int l5, .int k0], [.int l4, .int k0], (sh, M, J))) f_186_125 rfl ?_
  refine ev_br (s1 := (186, 135, [.ref l0, .int l1, .int l2, .int l3, .int l4, .int l5, .int k0], [], (sh, M, J))) (s2 := (186, 130, [.ref l0, .int l1, .int l2, .int l3, .int l4, .int l5, .int k0], [], (sh, M, J))) f_186_127 rfl ?_ ?_
  · refine ev_nx (s1 := (186, 137, [.ref l0, .int l1, .int l2, .int l3, .int l4, .int l5, .int k0], [.int l4], (sh, M, J))) f_186_135 rfl ?_
    refine ev_nx (s1 := (186, 139, [.ref l0, .int l1, .int l2, .int l3, .int l4, .int l5, .int k0], [], (sh, M, J))) f_186_137 rfl ?_
    refine ev_nx (s1 := (186, 142, [.ref l0, .int l1, .int l2, .int l3, .int l4, .int (l5 + 1), .int k0], [], (sh, M, J))) f_186_139 rfl ?_
    refine ev_nx (s1 := (186, 107, [.ref l0, .int l1, .int l2, .int l3, .int l4, .int (l5 + 1), .int k0], [], (sh, M, J))) f_186_142 rfl ?_
    exact (ev_kill hd_186_107).symm
  · refine ev_nx (s1 := (186, 132, [.ref l0, .int l1, .int l2, .int l3, .int l4, .int l5, .int k0], [.int k0], (sh, M, J))) f_186_130 rfl ?_
    refine ev_nx (s1 := (186, 137, [.ref l0, .int l1, .int l2, .int l3, .int l4, .int l5, .int k0], [.int k0], (sh, M, J))) f_186_132 rfl ?_
    refine ev_nx (s1 := (186, 139, [.ref l0, .int l1, .int l2, .int l3, .int k0, .int l5, .int k0], [], (sh, M, J))) f_186_137 rfl ?_
    refine ev_nx (s1 := (186, 142, [.ref l0, .int l1, .int l2, .int l3, .int k0, .int (l5 + 1), .int k0], [], (sh, M, J))) f_186_139 rfl ?_
    refine ev_nx (s1 := (186, 107, [.ref l0, .int l1, .int l2, .int l3, .int k0, .int (l5 + 1), .int k0], [], (sh, M, J))) f_186_142 rfl ?_
    exact (ev_kill hd_186_107).symm
theorem f_187_0 : xfind (xnth xTs 187) 0 = some (0, .iload_n 1, 1, (0, 0, 0, 0), .null, [], 0, 0, []) := rfl
theorem f_187_1 : xfind (xnth xTs 187) 1 = some (1, .invokestatic 193, 3, (154, 1, 9, 1), .null, [], 1097, 0, []) := rfl
theorem f_187_4 : xfind (xnth xTs 187) 4 = some (4, .ifCond .ne 6, 3, (0, 0, 0, 0), .null, [], 0, 0, []) := rfl
theorem f_187_7 : xfind (xnth xTs 187) 7 = some (7, .ldc 192, 2, (0, 0, 0, 0), (.int (-1000000001)), [], 1092, 0, []) := rfl
theorem f_187_9 : xfind (xnth xTs 187) 9 = some (9, .ireturn, 1, (0, 0, 0, 0), .null, [], 0, 0, []) := rfl
theorem f_187_10 : xfind (xnth xTs 187) 10 = some (10, .iload_n 2, 1, (0, 0, 0, 0), .null, [], 0, 0, []) := rfl
theorem f_187_11 : xfind (xnth xTs 187) 11 = some (11, .i2l, 1, (0, 0, 0, 0), .null, [], 0, 0, []) := rfl
theorem f_187_12 : xfind (xnth xTs 187) 12 = some (12, .lconst 0, 1, (0, 0, 0, 0), (.long 0), [], 0, 0, []) := rfl
theorem f_187_13 : xfind (xnth xTs 187) 13 = some (13, .ldc2_w 247, 3, (0, 0, 0, 0), (.long 99), [], 1209, 0, []) := rfl
theorem f_187_16 : xfind (xnth xTs 187) 16 = some (16, .invokestatic 68, 3, (132, 3, 9, 6), .null, [], 897, 0, []) := rfl
theorem f_187_19 : xfind (xnth xTs 187) 19 = some (19, .ifCond .ne 6, 3, (0, 0, 0, 0), .null, [], 0, 0, []) := rfl
theorem f_187_22 : xfind (xnth xTs 187) 22 = some (22, .ldc 91, 2, (0, 0, 0, 0), (.int (-1000000002)), [], 994, 0, []) := rfl
theorem f_187_24 : xfind (xnth xTs 187) 24 = some (24, .ireturn, 1, (0, 0, 0, 0), .null, [], 0, 0, []) := rfl
theorem f_187_25 : xfind (xnth xTs 187) 25 = some (25, .aload_n 0, 1, (0, 0, 0, 0), .null, [], 0, 0, []) := rfl
theorem f_187_26 : xfind (xnth xTs 187) 26 = some (26, .aload_n 0, 1, (0, 0, 0, 0), .null, [], 0, 0, []) := rfl
theorem f_187_27 : xfind (xnth xTs 187) 27 = some (27, .getfield 16, 3, (9, 2, 1, 0), .null, [], 911, 0, []) := rfl
theorem f_187_30 : xfind (xnth xTs 187) 30 = some (30, .invokevirtual 186, 3, (156, 1, 9, 4), .null, [], 1080, 0, []) := rfl
theorem f_187_33 : xfind (xnth xTs 187) 33 = some (33, .istore_n 3, 1, (0, 0, 0, 0), .null, [], 0, 0, []) := rfl
theorem f_187_34 : xfind (xnth xTs 187) 34 = some (34, .iconst 0, 1, (0, 0, 0, 0), (.int 0), [], 0, 0, []) := rfl
theorem f_187_35 : xfind (xnth xTs 187) 35 = some (35, .istore 4, 2, (0, 0, 0, 0), .null, [], 0, 0, []) := rfl
theorem f_187_37 : xfind (xnth xTs 187) 37 = some (37, .iload 4, 2, (0, 0, 0, 0), .null, [], 0, 1, []) := rfl
theorem f_187_39 : xfind (xnth xTs 187) 39 = some (39, .aload_n 0, 1, (0, 0, 0, 0), .null, [], 0, 0, []) := rfl
theorem f_187_40 : xfind (xnth xTs 187) 40 = some (40, .getfield 16, 3, (9, 2, 1, 0), .null, [], 911, 0, []) := rfl
theorem f_187_43 : xfind (xnth xTs 187) 43 = some (43, .bipush 20, 2, (0, 0, 0, 0), (.int 20), [], 0, 0, []) := rfl
theorem f_187_45 : xfind (xnth xTs 187) 45 = some (45, .iaload, 1, (0, 0, 0, 0), .null, [], 0, 0, []) := rfl
theorem f_187_46 : xfind (xnth xTs 187) 46 = some (46, .invokestatic 213, 3, (134, 1, 9, 3), .null, [], 1136, 0, []) := rfl
theorem f_187_49 : xfind (xnth xTs 187) 49 = some (49, .if_icmp .gt 32, 3, (0, 0, 0, 0), .null, [], 0, 0, []) := rfl
theorem f_187_52 : xfind (xnth xTs 187) 52 = some (52, .iload_n 3, 1, (0, 0, 0, 0), .null, [], 0, 0, []) := rfl
theorem f_187_53 : xfind (xnth xTs 187) 53 = some (53, .iload 4, 2, (0, 0, 0, 0), .null, [], 0, 0, []) := rfl
theorem f_187_55 : xfind (xnth xTs 187) 55 = some (55, .aload_n 0, 1, (0, 0, 0, 0), .null, [], 0, 0, []) := rfl
theorem f_187_56 : xfind (xnth xTs 187) 56 = some (56, .getfield 7, 3, (9, 0, 1, 0), .null, [], 909, 0, []) := rfl
theorem f_187_59 : xfind (xnth xTs 187) 59 = some (59, .iconst 5, 1, (0, 0, 0, 0), (.int 5), [], 0, 0, []) := rfl
theorem f_187_60 : xfind (xnth xTs 187) 60 = some (60, .iload_n 1, 1, (0, 0, 0, 0), .null, [], 0, 0, []) := rfl
theorem f_187_61 : xfind (xnth xTs 187) 61 = some (61, .iadd, 1, (0, 0, 0, 0), .null, [], 0, 0, []) := rfl
theorem f_187_62 : xfind (xnth xTs 187) 62 = some (62, .iaload, 1, (0, 0, 0, 0), .null, [], 0, 0, []) := rfl
theorem f_187_63 : xfind (xnth xTs 187) 63 = some (63, .imul, 1, (0, 0, 0, 0), .null, [], 0, 0, []) := rfl
theorem f_187_64 : xfind (xnth xTs 187) 64 = some (64, .iadd, 1, (0, 0, 0, 0), .null, [], 0, 0, []) := rfl
theorem f_187_65 : xfind (xnth xTs 187) 65 = some (65, .bipush 50, 2, (0, 0, 0, 0), (.int 50), [], 0, 0, []) := rfl
theorem f_187_67 : xfind (xnth xTs 187) 67 = some (67, .idiv, 1, (0, 0, 0, 0), .null, [], 0, 0, []) := rfl
theorem f_187_68 : xfind (xnth xTs 187) 68 = some (68, .iload_n 2, 1, (0, 0, 0, 0), .null, [], 0, 0, []) := rfl
theorem f_187_69 : xfind (xnth xTs 187) 69 = some (69, .if_icmp .lt 6, 3, (0, 0, 0, 0), .null, [], 0, 0, []) := rfl
theorem f_187_72 : xfind (xnth xTs 187) 72 = some (72, .iload 4, 2, (0, 0, 0, 0), .null, [], 0, 0, []) := rfl
theorem f_187_74 : xfind (xnth xTs 187) 74 = some (74, .ireturn, 1, (0, 0, 0, 0), .null, [], 0, 0, []) := rfl
theorem f_187_75 : xfind (xnth xTs 187) 75 = some (75, .iinc 4 1, 3, (0, 0, 0, 0), .null, [], 0, 0, []) := rfl
theorem f_187_78 : xfind (xnth xTs 187) 78 = some (78, .goto (-41), 3, (0, 0, 0, 0), .null, [], 0, 0, []) := rfl
theorem f_187_81 : xfind (xnth xTs 187) 81 = some (81, .iconst (-1), 1, (0, 0, 0, 0), (.int (-1)), [], 0, 0, []) := rfl
theorem f_187_82 : xfind (xnth xTs 187) 82 = some (82, .ireturn, 1, (0, 0, 0, 0), .null, [], 0, 0, []) := rfl
theorem hd_187_37 : xhead 187 37 = some [] := rfl
theorem b_R_least_0 (sh : xSh) (M : Nat → Nat → Int32) (J : Nat → Nat → Int64) (l0 : Nat) (l1 : Int32) (l2 : Int32) : ev (187, 0, [.ref l0, .int l1, .int l2, .null, .null], [], (sh, M, J)) = ((ev (154, 0, [.int l1], [], (sh, M, J))).bind (fun r => ev (187, 4, [.ref l0, .int l1, .int l2, .null, .null], r.1.toList ++ [], r.2))) := by
  refine ev_nx (s1 := (187, 1, [.ref l0, .int l1, .int l2, .null, .null], [.int l1], (sh, M, J))) f_187_0 rfl ?_
  exact ev_c1 (s1 := (154, 0, [.int l1], [], (sh, M, J))) (k := (187, 4, [.ref l0, .int l1, .int l2, .null, .null], [])) f_187_1 rfl
theorem b_R_least_4 (sh : xSh) (M : Nat → Nat → Int32) (J : Nat → Nat → Int64) (l0 : Nat) (l1 : Int32) (l2 : Int32) (k0 : Int32) : ev (187, 4, [.ref l0, .int l1, .int l2, .null, .null], [.int k0], (sh, M, J)) = (bif !decide (k0 = 0) then (ev (132, 0, [.long (l2 : Int32).toInt64, .null, .long 0, .null, .long 99, .null], [], (sh, M, J))).bind (fun r => ev (187, 19, [.ref l0, .int l1, .int l2, .null, .null], r.1.toList ++ [], r.2)) else some (some (.int (-1000000001)), (sh, M, J))) := by
  refine ev_br (s1 := (187, 10, [.ref l0, .int l1, .int l2, .null, .null], [], (sh, M, J))) (s2 := (187, 7, [.ref l0, .int l1, .int l2, .null, .null], [], (sh, M, J))) f_187_4 rfl ?_ ?_
  · refine ev_nx (s1 := (187, 11, [.ref l0, .int l1, .int l2, .null, .null], [.int l2], (sh, M, J))) f_187_10 rfl ?_
    refine ev_nx (s1 := (187, 12, [.ref l0, .int l1, .int l2, .null, .null], [.long (l2 : Int32).toInt64], (sh, M, J))) f_187_11 rfl ?_
    refine ev_nx (s1 := (187, 13, [.ref l0, .int l1, .int l2, .null, .null], [.long 0, .long (l2 : Int32).toInt64], (sh, M, J))) f_187_12 rfl ?_
    refine ev_nx (s1 := (187, 16, [.ref l0, .int l1, .int l2, .null, .null], [.long 99, .long 0, .long (l2 : Int32).toInt64], (sh, M, J))) f_187_13 rfl ?_
    exact ev_c1 (s1 := (132, 0, [.long (l2 : Int32).toInt64, .null, .long 0, .null, .long 99, .null], [], (sh, M, J))) (k := (187, 19, [.ref l0, .int l1, .int l2, .null, .null], [])) f_187_16 rfl
  · refine ev_nx (s1 := (187, 9, [.ref l0, .int l1, .int l2, .null, .null], [.int (-1000000001)], (sh, M, J))) f_187_7 rfl ?_
    exact ev_r1 f_187_9 rfl
theorem b_R_least_19 (sh : xSh) (M : Nat → Nat → Int32) (J : Nat → Nat → Int64) (l0 : Nat) (l1 : Int32) (l2 : Int32) (k0 : Int32) : ev (187, 19, [.ref l0, .int l1, .int l2, .null, .null], [.int k0], (sh, M, J)) = (bif !decide (k0 = 0) then bif decide ((sh.2.2.1 l0).1 = 9) then bif (decide ((sh.2.2.1 l0).1 = 9) && true) then (ev (156, 0, [.ref l0, .ref (sh.2.2.2 l0 2), .null, .null], [], (sh, M, J))).bind (fun r => ev (187, 33, [.ref l0, .int l1, .int l2, .null, .null], r.1.toList ++ [], r.2)) else none else none else some (some (.int (-1000000002)), (sh, M, J))) := by
  refine ev_br (s1 := (187, 25, [.ref l0, .int l1, .int l2, .null, .null], [], (sh, M, J))) (s2 := (187, 22, [.ref l0, .int l1, .int l2, .null, .null], [], (sh, M, J))) f_187_19 rfl ?_ ?_
  · refine ev_nx (s1 := (187, 26, [.ref l0, .int l1, .int l2, .null, .null], [.ref l0], (sh, M, J))) f_187_25 rfl ?_
    refine ev_nx (s1 := (187, 27, [.ref l0, .int l1, .int l2, .null, .null], [.ref l0, .ref l0], (sh, M, J))) f_187_26 rfl ?_
    refine ev_gd (s1 := (187, 30, [.ref l0, .int l1, .int l2, .null, .null], [.ref (sh.2.2.2 l0 2), .ref l0], (sh, M, J))) f_187_27 rfl ?_
    exact ev_ca (cc := (decide ((sh.2.2.1 l0).1 = 9) && true)) (s1 := (156, 0, [.ref l0, .ref (sh.2.2.2 l0 2), .null, .null], [], (sh, M, J))) (k := (187, 33, [.ref l0, .int l1, .int l2, .null, .null], [])) f_187_30 rfl
  · refine ev_nx (s1 := (187, 24, [.ref l0, .int l1, .int l2, .null, .null], [.int (-1000000002)], (sh, M, J))) f_187_22 rfl ?_
    exact ev_r1 f_187_24 rfl
theorem b_R_least_33 (sh : xSh) (M : Nat → Nat → Int32) (J : Nat → Nat → Int64) (l0 : Nat) (l1 : Int32) (l2 : Int32) (k0 : Int32) : ev (187, 33, [.ref l0, .int l1, .int l2, .null, .null], [.int k0], (sh, M, J)) = (ev (187, 37, [.ref l0, .int l1, .int l2, .int k0, .int 0], [], (sh, M, J))) := by
  refine ev_nx (s1 := (187, 34, [.ref l0, .int l1, .int l2, .int k0, .null], [], (sh, M, J))) f_187_33 rfl ?_
  refine ev_nx (s1 := (187, 35, [.ref l0, .int l1, .int l2, .int k0, .null], [.int 0], (sh, M, J))) f_187_34 rfl ?_
  refine ev_nx (s1 := (187, 37, [.ref l0, .int l1, .int l2, .int k0, .int 0], [], (sh, M, J))) f_187_35 rfl ?_
  exact rfl
theorem b_R_least_37 (sh : xSh) (M : Nat → Nat → Int32) (J : Nat → Nat → Int64) (l0 : Nat) (l1 : Int32) (l2 : Int32) (l3 : Int32) (l4 : Int32) : ev (187, 37, [.ref l0, .int l1, .int l2, .int l3, .int l4], [], (sh, M, J)) = (bif decide ((sh.2.2.1 l0).1 = 9) then bif (decide ((sh.2.2.1 (sh.2.2.2 l0 2)).1 = 11) && xin 20 (sh.2.2.1 (sh.2.2.2 l0 2)).2) then (ev (134, 0, [.int (M (sh.2.2.2 l0 2) (20 : Int32).toNatClampNeg), .null, .null], [], (sh, M, J))).bind (fun r => ev (187, 49, [.ref l0, .int l1, .int l2, .int l3, .int l4], r.1.toList ++ [.int l4], r.2)) else none else none) := by
  refine ev_nx (s1 := (187, 39, [.ref l0, .int l1, .int l2, .int l3, .int l4], [.int l4], (sh, M, J))) f_187_37 rfl ?_
  refine ev_nx (s1 := (187, 40, [.ref l0, .int l1, .int l2, .int l3, .int l4], [.ref l0, .int l4], (sh, M, J))) f_187_39 rfl ?_
  refine ev_gd (s1 := (187, 43, [.ref l0, .int l1, .int l2, .int l3, .int l4], [.ref (sh.2.2.2 l0 2), .int l4], (sh, M, J))) f_187_40 rfl ?_
  refine ev_nx (s1 := (187, 45, [.ref l0, .int l1, .int l2, .int l3, .int l4], [.int 20, .ref (sh.2.2.2 l0 2), .int l4], (sh, M, J))) f_187_43 rfl ?_
  refine ev_gd (s1 := (187, 46, [.ref l0, .int l1, .int l2, .int l3, .int l4], [.int (M (sh.2.2.2 l0 2) (20 : Int32).toNatClampNeg), .int l4], (sh, M, J))) f_187_45 rfl ?_
  exact ev_c1 (s1 := (134, 0, [.int (M (sh.2.2.2 l0 2) (20 : Int32).toNatClampNeg), .null, .null], [], (sh, M, J))) (k := (187, 49, [.ref l0, .int l1, .int l2, .int l3, .int l4], [.int l4])) f_187_46 rfl
theorem b_R_least_49 (sh : xSh) (M : Nat → Nat → Int32) (J : Nat → Nat → Int64) (l0 : Nat) (l1 : Int32) (l2 : Int32) (l3 : Int32) (l4 : Int32) (k0 : Int32) (k1 : Int32) : ev (187, 49, [.ref l0, .int l1, .int l2, .int l3, .int l4], [.int k0, .int k1], (sh, M, J)) = (bif decide (k0 < k1) then some (some (.int (-1)), (sh, M, J)) else bif decide ((sh.2.2.1 l0).1 = 9) then bif (decide ((sh.2.2.1 (sh.2.2.2 l0 0)).1 = 11) && xin ((5 : Int32) + l1) (sh.2.2.1 (sh.2.2.2 l0 0)).2) then bif decide (((l3 + (l4 * (M (sh.2.2.2 l0 0) (((5 : Int32) + l1) : Int32).toNatClampNeg))) / 50) < l2) then ev (187, 37, [.ref l0, .int l1, .int l2, .int l3, .int (l4 + 1)], [], (sh, M, J)) else some (some (.int l4), (sh, M, J)) else none else none) := by
  refine ev_br (s1 := (187, 81, [.ref l0, .int l1, .int l2, .int l3, .int l4], [], (sh, M, J))) (s2 := (187, 52, [.ref l0, .int l1, .int l2, .int l3, .int l4], [], (sh, M, J))) f_187_49 rfl ?_ ?_
  · refine ev_nx (s1 := (187, 82, [.ref l0, .int l1, .int l2, .int l3, .int l4], [.int (-1)], (sh, M, J))) f_187_81 rfl ?_
    exact ev_r1 f_187_82 rfl
  · refine ev_nx (s1 := (187, 53, [.ref l0, .int l1, .int l2, .int l3, .int l4], [.int l3], (sh, M, J))) f_187_52 rfl ?_
    refine ev_nx (s1 := (187, 55, [.ref l0, .int l1, .int l2, .int l3, .int l4], [.int l4, .int l3], (sh, M, J))) f_187_53 rfl ?_
    refine ev_nx (s1 := (187, 56, [.ref l0, .int l1, .int l2, .int l3, .int l4], [.ref l0, .int l4, .int l3], (sh, M, J))) f_187_55 rfl ?_
    refine ev_gd (s1 := (187, 59, [.ref l0, .int l1, .int l2, .int l3, .int l4], [.ref (sh.2.2.2 l0 0), .int l4, .int l3], (sh, M, J))) f_187_56 rfl ?_
    refine ev_nx (s1 := (187, 60, [.ref l0, .int l1, .int l2, .int l3, .int l4], [.int 5, .ref (sh.2.2.2 l0 0), .int l4, .int l3], (sh, M, J))) f_187_59 rfl ?_
    refine ev_nx (s1 := (187, 61, [.ref l0, .int l1, .int l2, .int l3, .int l4], [.int l1, .int 5, .ref (sh.2.2.2 l0 0), .int l4, .int l3], (sh, M, J))) f_187_60 rfl ?_
    refine ev_nx (s1 := (187, 62, [.ref l0, .int l1, .int l2, .int l3, .int l4], [.int ((5 : Int32) + l1), .ref (sh.2.2.2 l0 0), .int l4, .int l3], (sh, M, J))) f_187_61 rfl ?_
    refine ev_gd (s1 := (187, 63, [.ref l0, .int l1, .int l2, .int l3, .int l4], [.int (M (sh.2.2.2 l0 0) (((5 : Int32) + l1) : Int32).toNatClampNeg), .int l4, .int l3], (sh, M, J))) f_187_62 rfl ?_
    refine ev_nx (s1 := (187, 64, [.ref l0, .int l1, .int l2, .int l3, .int l4], [.int (l4 * (M (sh.2.2.2 l0 0) (((5 : Int32) + l1) : Int32).toNatClampNeg)), .int l3], (sh, M, J))) f_187_63 rfl ?_
    refine ev_nx (s1 := (187, 65, [.ref l0, .int l1, .int l2, .int l3, .int l4], [.int (l3 + (l4 * (M (sh.2.2.2 l0 0) (((5 : Int32) + l1) : Int32).toNatClampNeg)))], (sh, M, J))) f_187_64 rfl ?_
    refine ev_nx (s1 := (187, 67, [.ref l0, .int l1, .int l2, .int l3, .int l4], [.int 50, .int (l3 + (l4 * (M (sh.2.2.2 l0 0) (((5 : Int32) + l1) : Int32).toNatClampNeg)))], (sh, M, J))) f_187_65 rfl ?_
    refine ev_nx (s1 := (187, 68, [.ref l0, .int l1, .int l2, .int l3, .int l4], [.int ((l3 + (l4 * (M (sh.2.2.2 l0 0) (((5 : Int32) + l1) : Int32).toNatClampNeg))) / 50)], (sh, M, J))) f_187_67 rfl ?_
    refine ev_nx (s1 := (187, 69, [.ref l0, .int l1, .int l2, .int l3, .int l4], [.int l2, .int ((l3 + (l4 * (M (sh.2.2.2 l0 0) (((5 : Int32) + l1) : Int32).toNatClampNeg))) / 50)], (sh, M, J))) f_187_68 rfl ?_
    refine ev_br (s1 := (187, 75, [.ref l0, .int l1, .int l2, .int l3, .int l4], [], (sh, M, J))) (s2 := (187, 72, [.ref l0, .int l1, .int l2, .int l3, .int l4], [], (sh, M, J))) f_187_69 rfl ?_ ?_
    · refine ev_nx (s1 := (187, 78, [.ref l0, .int l1, .int l2, .int l3, .int (l4 + 1)], [], (sh, M, J))) f_187_75 rfl ?_
      refine ev_nx (s1 := (187, 37, [.ref l0, .int l1, .int l2, .int l3, .int (l4 + 1)], [], (sh, M, J))) f_187_78 rfl ?_
      exact rfl
    · refine ev_nx (s1 := (187, 74, [.ref l0, .int l1, .int l2, .int l3, .int l4], [.int l4], (sh, M, J))) f_187_72 rfl ?_
      exact ev_r1 f_187_74 rfl
theorem f_188_0 : xfind (xnth xTs 188) 0 = some (0, .iconst 1, 1, (0, 0, 0, 0), (.int 1), [], 0, 0, []) := rfl
theorem f_188_1 : xfind (xnth xTs 188) 1 = some (1, .istore_n 1, 1, (0, 0, 0, 0), .null, [], 0, 0, []) := rfl
theorem f_188_2 : xfind (xnth xTs 188) 2 = some (2, .iconst 0, 1, (0, 0, 0, 0), (.int 0), [], 0, 0, []) := rfl
theorem f_188_3 : xfind (xnth xTs 188) 3 = some (3, .istore_n 2, 1, (0, 0, 0, 0), .null, [], 0, 0, []) := rfl
theorem f_188_4 : xfind (xnth xTs 188) 4 = some (4, .iconst 0, 1, (0, 0, 0, 0), (.int 0), [], 0, 0, []) := rfl
theorem f_188_5 : xfind (xnth xTs 188) 5 = some (5, .istore_n 3, 1, (0, 0, 0, 0), .null, [], 0, 0, []) := rfl
theorem f_188_6 : xfind (xnth xTs 188) 6 = some (6, .iload_n 3, 1, (0, 0, 0, 0), .null, [], 0, 1, [4]) := rfl
theorem f_188_7 : xfind (xnth xTs 188) 7 = some (7, .aload_n 0, 1, (0, 0, 0, 0), .null, [], 0, 0, []) := rfl
theorem f_188_8 : xfind (xnth xTs 188) 8 = some (8, .invokevirtual 156, 3, (151, 0, 9, 1), .null, [], 1061, 0, []) := rfl
theorem f_188_11 : xfind (xnth xTs 188) 11 = some (11, .if_icmp .ge 86, 3, (0, 0, 0, 0), .null, [], 0, 0, []) := rfl
theorem f_188_14 : xfind (xnth xTs 188) 14 = some (14, .aload_n 0, 1, (0, 0, 0, 0), .null, [], 0, 0, []) := rfl
theorem f_188_15 : xfind (xnth xTs 188) 15 = some (15, .getfield 16, 3, (9, 2, 1, 0), .null, [], 911, 0, []) := rfl
theorem f_188_18 : xfind (xnth xTs 188) 18 = some (18, .bipush 20, 2, (0, 0, 0, 0), (.int 20), [], 0, 0, []) := rfl
theorem f_188_20 : xfind (xnth xTs 188) 20 = some (20, .iaload, 1, (0, 0, 0, 0), .null, [], 0, 0, []) := rfl
theorem f_188_21 : xfind (xnth xTs 188) 21 = some (21, .iload_n 3, 1, (0, 0, 0, 0), .null, [], 0, 0, []) := rfl
theorem f_188_22 : xfind (xnth xTs 188) 22 = some (22, .invokestatic 137, 3, (133, 2, 9, 2), .null, [], 1034, 0, []) := rfl
theorem f_188_25 : xfind (xnth xTs 188) 25 = some (25, .ifCond .eq 7, 3, (0, 0, 0, 0), .null, [], 0, 0, []) := rfl
theorem f_188_28 : xfind (xnth xTs 188) 28 = some (28, .iconst 0, 1, (0, 0, 0, 0), (.int 0), [], 0, 0, []) := rfl
theorem f_188_29 : xfind (xnth xTs 188) 29 = some (29, .goto 19, 3, (0, 0, 0, 0), .null, [], 0, 0, []) := rfl
theorem f_188_32 : xfind (xnth xTs 188) 32 = some (32, .aload_n 0, 1, (0, 0, 0, 0), .null, [], 0, 0, []) := rfl
theorem f_188_33 : xfind (xnth xTs 188) 33 = some (33, .getfield 7, 3, (9, 0, 1, 0), .null, [], 909, 0, []) := rfl
theorem f_188_36 : xfind (xnth xTs 188) 36 = some (36, .bipush 10, 2, (0, 0, 0, 0), (.int 10), [], 0, 0, []) := rfl
theorem f_188_38 : xfind (xnth xTs 188) 38 = some (38, .aload_n 0, 1, (0, 0, 0, 0), .null, [], 0, 0, []) := rfl
theorem f_188_39 : xfind (xnth xTs 188) 39 = some (39, .getfield 16, 3, (9, 2, 1, 0), .null, [], 911, 0, []) := rfl
theorem f_188_42 : xfind (xnth xTs 188) 42 = some (42, .iconst 0, 1, (0, 0, 0, 0), (.int 0), [], 0, 0, []) := rfl
theorem f_188_43 : xfind (xnth xTs 188) 43 = some (43, .iload_n 3, 1, (0, 0, 0, 0), .null, [], 0, 0, []) := rfl
theorem f_188_44 : xfind (xnth xTs 188) 44 = some (44, .iadd, 1, (0, 0, 0, 0), .null, [], 0, 0, []) := rfl
theorem f_188_45 : xfind (xnth xTs 188) 45 = some (45, .iaload, 1, (0, 0, 0, 0), .null, [], 0, 0, []) := rfl
theorem f_188_46 : xfind (xnth xTs 188) 46 = some (46, .iadd, 1, (0, 0, 0, 0), .null, [], 0, 0, []) := rfl
theorem f_188_47 : xfind (xnth xTs 188) 47 = some (47, .iaload, 1, (0, 0, 0, 0), .null, [], 0, 0, []) := rfl
theorem f_188_48 : xfind (xnth xTs 188) 48 = some (48, .istore 4, 2, (0, 0, 0, 0), .null, [], 0, 0, []) := rfl
theorem f_188_50 : xfind (xnth xTs 188) 50 = some (50, .iload 4, 2, (0, 0, 0, 0), .null, [], 0, 0, []) := rfl
theorem f_188_52 : xfind (xnth xTs 188) 52 = some (52, .iload_n 1, 1, (0, 0, 0, 0), .null, [], 0, 0, []) := rfl
theorem f_188_53 : xfind (xnth xTs 188) 53 = some (53, .if_icmp .le 7, 3, (0, 0, 0, 0), .null, [], 0, 0, []) := rfl
theorem f_188_56 : xfind (xnth xTs 188) 56 = some (56, .iconst 0, 1, (0, 0, 0, 0), (.int 0), [], 0, 0, []) := rfl
theorem f_188_57 : xfind (xnth xTs 188) 57 = some (57, .goto 4, 3, (0, 0, 0, 0), .null, [], 0, 0, []) := rfl
theorem f_188_60 : xfind (xnth xTs 188) 60 = some (60, .iload_n 2, 1, (0, 0, 0, 0), .null, [], 0, 0, []) := rfl
theorem f_188_61 : xfind (xnth xTs 188) 61 = some (61, .istore_n 2, 1, (0, 0, 0, 0), .null, [], 0, 0, []) := rfl
theorem f_188_62 : xfind (xnth xTs 188) 62 = some (62, .iload_n 2, 1, (0, 0, 0, 0), .null, [], 0, 0, []) := rfl
theorem f_188_63 : xfind (xnth xTs 188) 63 = some (63, .iload 4, 2, (0, 0, 0, 0), .null, [], 0, 0, []) := rfl
theorem f_188_65 : xfind (xnth xTs 188) 65 = some (65, .iload_n 1, 1, (0, 0, 0, 0), .null, [], 0, 0, []) := rfl
theorem f_188_66 : xfind (xnth xTs 188) 66 = some (66, .if_icmp .lt 9, 3, (0, 0, 0, 0), .null, [], 0, 0, []) := rfl
theorem f_188_69 : xfind (xnth xTs 188) 69 = some (69, .iconst 1, 1, (0, 0, 0, 0), (.int 1), [], 0, 0, []) := rfl
theorem f_188_70 : xfind (xnth xTs 188) 70 = some (70, .iload_n 3, 1, (0, 0, 0, 0), .null, [], 0, 0, []) := rfl
theorem f_188_71 : xfind (xnth xTs 188) 71 = some (71, .ishl, 1, (0, 0, 0, 0), .null, [], 0, 0, []) := rfl
theorem f_188_72 : xfind (xnth xTs 188) 72 = some (72, .goto 4, 3, (0, 0, 0, 0), .null, [], 0, 0, []) := rfl
theorem f_188_75 : xfind (xnth xTs 188) 75 = some (75, .iconst 0, 1, (0, 0, 0, 0), (.int 0), [], 0, 0, []) := rfl
theorem f_188_76 : xfind (xnth xTs 188) 76 = some (76, .ior, 1, (0, 0, 0, 0), .null, [], 0, 0, []) := rfl
theorem f_188_77 : xfind (xnth xTs 188) 77 = some (77, .istore_n 2, 1, (0, 0, 0, 0), .null, [], 0, 0, []) := rfl
theorem f_188_78 : xfind (xnth xTs 188) 78 = some (78, .iload 4, 2, (0, 0, 0, 0), .null, [], 0, 0, []) := rfl
theorem f_188_80 : xfind (xnth xTs 188) 80 = some (80, .iload_n 1, 1, (0, 0, 0, 0), .null, [], 0, 0, []) := rfl
theorem f_188_81 : xfind (xnth xTs 188) 81 = some (81, .if_icmp .le 8, 3, (0, 0, 0, 0), .null, [], 0, 0, []) := rfl
theorem f_188_84 : xfind (xnth xTs 188) 84 = some (84, .iload 4, 2, (0, 0, 0, 0), .null, [], 0, 0, []) := rfl
theorem f_188_86 : xfind (xnth xTs 188) 86 = some (86, .goto 4, 3, (0, 0, 0, 0), .null, [], 0, 0, []) := rfl
theorem f_188_89 : xfind (xnth xTs 188) 89 = some (89, .iload_n 1, 1, (0, 0, 0, 0), .null, [], 0, 0, []) := rfl
theorem f_188_90 : xfind (xnth xTs 188) 90 = some (90, .istore_n 1, 1, (0, 0, 0, 0), .null, [], 0, 0, []) := rfl
theorem f_188_91 : xfind (xnth xTs 188) 91 = some (91, .iinc 3 1, 3, (0, 0, 0, 0), .null, [], 0, 0, []) := rfl
theorem f_188_94 : xfind (xnth xTs 188) 94 = some (94, .goto (-88), 3, (0, 0, 0, 0), .null, [], 0, 0, []) := rfl
theorem f_188_97 : xfind (xnth xTs 188) 97 = some (97, .iload_n 2, 1, (0, 0, 0, 0), .null, [], 0, 0, []) := rfl
theorem f_188_98 : xfind (xnth xTs 188) 98 = some (98, .ireturn, 1, (0, 0, 0, 0), .null, [], 0, 0, []) := rfl
theorem hd_188_6 : xhead 188 6 = some [4] := rfl
theorem b_R_moths_0 (sh : xSh) (M : Nat → Nat → Int32) (J : Nat → Nat → Int64) (l0 : Nat) : ev (188, 0, [.ref l0, .null, .null, .null, .null], [], (sh, M, J)) = (ev (188, 6, [.ref l0, .int 1, .int 0, .int 0, .null], [], (sh, M, J))) := by
  refine ev_nx (s1 := (188, 1, [.ref l0, .null, .null, .null, .null], [.int 1], (sh, M, J))) f_188_0 rfl ?_
  refine ev_nx (s1 := (188, 2, [.ref l0, .int 1, .null, .null, .null], [], (sh, M, J))) f_188_1 rfl ?_
  refine ev_nx (s1 := (188, 3, [.ref l0, .int 1, .null, .null, .null], [.int 0], (sh, M, J))) f_188_2 rfl ?_
  refine ev_nx (s1 := (188, 4, [.ref l0, .int 1, .int 0, .null, .null], [], (sh, M, J))) f_188_3 rfl ?_
  refine ev_nx (s1 := (188, 5, [.ref l0, .int 1, .int 0, .null, .null], [.int 0], (sh, M, J))) f_188_4 rfl ?_
  refine ev_nx (s1 := (188, 6, [.ref l0, .int 1, .int 0, .int 0, .null], [], (sh, M, J))) f_188_5 rfl ?_
  exact rfl
theorem b_R_moths_6 (sh : xSh) (M : Nat → Nat → Int32) (J : Nat → Nat → Int64) (l0 : Nat) (l1 : Int32) (l2 : Int32) (l3 : Int32) : ev (188, 6, [.ref l0, .int l1, .int l2, .int l3, .null], [], (sh, M, J)) = (bif (decide ((sh.2.2.1 l0).1 = 9) && true) then (ev (151, 0, [.ref l0], [], (sh, M, J))).bind (fun r => ev (188, 11, [.ref l0, .int l1, .int l2, .int l3, .null], r.1.toList ++ [.int l3], r.2)) else none) := by
  refine ev_nx (s1 := (188, 7, [.ref l0, .int l1, .int l2, .int l3, .null], [.int l3], (sh, M, J))) f_188_6 rfl ?_
  refine ev_nx (s1 := (188, 8, [.ref l0, .int l1, .int l2, .int l3, .null], [.ref l0, .int l3], (sh, M, J))) f_188_7 rfl ?_
  exact ev_ca (cc := (decide ((sh.2.2.1 l0).1 = 9) && true)) (s1 := (151, 0, [.ref l0], [], (sh, M, J))) (k := (188, 11, [.ref l0, .int l1, .int l2, .int l3, .null], [.int l3])) f_188_8 rfl
theorem b_R_moths_11 (sh : xSh) (M : Nat → Nat → Int32) (J : Nat → Nat → Int64) (l0 : Nat) (l1 : Int32) (l2 : Int32) (l3 : Int32) (k0 : Int32) (k1 : Int32) : ev (188, 11, [.ref l0, .int l1, .int l2, .int l3, .null], [.int k0, .int k1], (sh, M, J)) = (bif decide (k0 ≤ k1) then some (some (.int l2), (sh, M, J)) else bif decide ((sh.2.2.1 l0).1 = 9) then bif (decide ((sh.2.2.1 (sh.2.2.2 l0 2)).1 = 11) && xin 20 (sh.2.2.1 (sh.2.2.2 l0 2)).2) then (ev (133, 0, [.int (M (sh.2.2.2 l0 2) (20 : Int32).toNatClampNeg), .int l3], [], (sh, M, J))).bind (fun r => ev (188, 25, [.ref l0, .int l1, .int l2, .int l3, .null], r.1.toList ++ [], r.2)) else none else none) := by
  refine ev_br (s1 := (188, 97, [.ref l0, .int l1, .int l2, .int l3, .null], [], (sh, M, J))) (s2 := (188, 14, [.ref l0, .int l1, .int l2, .int l3, .null], [], (sh, M, J))) f_188_11 rfl ?_ ?_
  · refine ev_nx (s1 := (188, 98, [.ref l0, .int l1, .int l2, .int l3, .null], [.int l2], (sh, M, J))) f_188_97 rfl ?_
    exact ev_r1 f_188_98 rfl
  · refine ev_nx (s1 := (188, 15, [.ref l0, .int l1, .int l2, .int l3, .null], [.ref l0], (sh, M, J))) f_188_14 rfl ?_
    refine ev_gd (s1 := (188, 18, [.ref l0, .int l1, .int l2, .int l3, .null], [.ref (sh.2.2.2 l0 2)], (sh, M, J))) f_188_15 rfl ?_
    refine ev_nx (s1 := (188, 20, [.ref l0, .int l1, .int l2, .int l3, .null], [.int 20, .ref (sh.2.2.2 l0 2)], (sh, M, J))) f_188_18 rfl ?_
    refine ev_gd (s1 := (188, 21, [.ref l0, .int l1, .int l2, .int l3, .null], [.int (M (sh.2.2.2 l0 2) (20 : Int32).toNatClampNeg)], (sh, M, J))) f_188_20 rfl ?_
    refine ev_nx (s1 := (188, 22, [.ref l0, .int l1, .int l2, .int l3, .null], [.int l3, .int (M (sh.2.2.2 l0 2) (20 : Int32).toNatClampNeg)], (sh, M, J))) f_188_21 rfl ?_
    exact ev_c1 (s1 := (133, 0, [.int (M (sh.2.2.2 l0 2) (20 : Int32).toNatClampNeg), .int l3], [], (sh, M, J))) (k := (188, 25, [.ref l0, .int l1, .int l2, .int l3, .null], [])) f_188_22 rfl
theorem b_R_moths_25 (sh : xSh) (M : Nat → Nat → Int32) (J : Nat → Nat → Int64) (l0 : Nat) (l1 : Int32) (l2 : Int32) (l3 : Int32) (k0 : Int32) : ev (188, 25, [.ref l0, .int l1, .int l2, .int l3, .null], [.int k0], (sh, M, J)) = (bif decide (k0 = 0) then bif decide ((sh.2.2.1 l0).1 = 9) then bif decide ((sh.2.2.1 l0).1 = 9) then bif (decide ((sh.2.2.1 (sh.2.2.2 l0 2)).1 = 11) && xin ((0 : Int32) + l3) (sh.2.2.1 (sh.2.2.2 l0 2)).2) then bif (decide ((sh.2.2.1 (sh.2.2.2 l0 0)).1 = 11) && xin ((10 : Int32) + (M (sh.2.2.2 l0 2) (((0 : Int32) + l3) : Int32).toNatClampNeg)) (sh.2.2.1 (sh.2.2.2 l0 0)).2) then bif decide ((M (sh.2.2.2 l0 0) (((10 : Int32) + (M (sh.2.2.2 l0 2) (((0 : Int32) + l3) : Int32).toNatClampNeg)) : Int32).toNatClampNeg) ≤ l1) then bif decide ((M (sh.2.2.2 l0 0) (((10 : Int32) + (M (sh.2.2.2 l0 2) (((0 : Int32) + l3) : Int32).toNatClampNeg)) : Int32).toNatClampNeg) < l1) then bif decide ((M (sh.2.2.2 l0 0) (((10 : Int32) + (M (sh.2.2.2 l0 2) (((0 : Int32) + l3) : Int32).toNatClampNeg)) : Int32).toNatClampNeg) ≤ l1) then ev (188, 6, [.ref l0, .int l1, .int (l2 ||| 0), .int (l3 + 1), .null], [], (sh, M, J)) else ev (188, 6, [.ref l0, .int (M (sh.2.2.2 l0 0) (((10 : Int32) + (M (sh.2.2.2 l0 2) (((0 : Int32) + l3) : Int32).toNatClampNeg)) : Int32).toNatClampNeg), .int (l2 ||| 0), .int (l3 + 1), .null], [], (sh, M, J)) else bif decide ((M (sh.2.2.2 l0 0) (((10 : Int32) + (M (sh.2.2.2 l0 2) (((0 : Int32) + l3) : Int32).toNatClampNeg)) : Int32).toNatClampNeg) ≤ l1) then ev (188, 6, [.ref l0, .int l1, .int (l2 ||| ((1 : Int32) <<< (l3 &&& 31))), .int (l3 + 1), .null], [], (sh, M, J)) else ev (188, 6, [.ref l0, .int (M (sh.2.2.2 l0 0) (((10 : Int32) + (M (sh.2.2.2 l0 2) (((0 : Int32) + l3) : Int32).toNatClampNeg)) : Int32).toNatClampNeg), .int (l2 ||| ((1 : Int32) <<< (l3 &&& 31))), .int (l3 + 1), .null], [], (sh, M, J)) else bif decide ((M (sh.2.2.2 l0 0) (((10 : Int32) + (M (sh.2.2.2 l0 2) (((0 : Int32) + l3) : Int32).toNatClampNeg)) : Int32).toNatClampNeg) < l1) then bif decide ((M (sh.2.2.2 l0 0) (((10 : Int32) + (M (sh.2.2.2 l0 2) (((0 : Int32) + l3) : Int32).toNatClampNeg)) : Int32).toNatClampNeg) ≤ l1) then ev (188, 6, [.ref l0, .int l1, .int ((0 : Int32) ||| 0), .int (l3 + 1), .null], [], (sh, M, J)) else ev (188, 6, [.ref l0, .int (M (sh.2.2.2 l0 0) (((10 : Int32) + (M (sh.2.2.2 l0 2) (((0 : Int32) + l3) : Int32).toNatClampNeg)) : Int32).toNatClampNeg), .int ((0 : Int32) ||| 0), .int (l3 + 1), .null], [], (sh, M, J)) else bif decide ((M (sh.2.2.2 l0 0) (((10 : Int32) + (M (sh.2.2.2 l0 2) (((0 : Int32) + l3) : Int32).toNatClampNeg)) : Int32).toNatClampNeg) ≤ l1) then ev (188, 6, [.ref l0, .int l1, .int ((0 : Int32) ||| ((1 : Int32) <<< (l3 &&& 31))), .int (l3 + 1), .null], [], (sh, M, J)) else ev (188, 6, [.ref l0, .int (M (sh.2.2.2 l0 0) (((10 : Int32) + (M (sh.2.2.2 l0 2) (((0 : Int32) + l3) : Int32).toNatClampNeg)) : Int32).toNatClampNeg), .int ((0 : Int32) ||| ((1 : Int32) <<< (l3 &&& 31))), .int (l3 + 1), .null], [], (sh, M, J)) else none else none else none else none else bif decide ((0 : Int32) ≤ l1) then bif decide ((0 : Int32) < l1) then bif decide ((0 : Int32) ≤ l1) then ev (188, 6, [.ref l0, .int l1, .int (l2 ||| 0), .int (l3 + 1), .null], [], (sh, M, J)) else ev (188, 6, [.ref l0, .int 0, .int (l2 ||| 0), .int (l3 + 1), .null], [], (sh, M, J)) else bif decide ((0 : Int32) ≤ l1) then ev (188, 6, [.ref l0, .int l1, .int (l2 ||| ((1 : Int32) <<< (l3 &&& 31))), .int (l3 + 1), .null], [], (sh, M, J)) else ev (188, 6, [.ref l0, .int 0, .int (l2 ||| ((1 : Int32) <<< (l3 &&& 31))), .int (l3 + 1), .null], [], (sh, M, J)) else bif decide ((0 : Int32) < l1) then bif decide ((0 : Int32) ≤ l1) then ev (188, 6, [.ref l0, .int l1, .int ((0 : Int32) ||| 0), .int (l3 + 1), .null], [], (sh, M, J)) else ev (188, 6, [.ref l0, .int 0, .int ((0 : Int32) ||| 0), .int (l3 + 1), .null], [], (sh, M, J)) else bif decide ((0 : Int32) ≤ l1) then ev (188, 6, [.ref l0, .int l1, .int ((0 : Int32) ||| ((1 : Int32) <<< (l3 &&& 31))), .int (l3 + 1), .null], [], (sh, M, J)) else ev (188, 6, [.ref l0, .int 0, .int ((0 : Int32) ||| ((1 : Int32) <<< (l3 &&& 31))), .int (l3 + 1), .null], [], (sh, M, J))) := by
  refine ev_br (s1 := (188, 32, [.ref l0, .int l1, .int l2, .int l3, .null], [], (sh, M, J))) (s2 := (188, 28, [.ref l0, .int l1, .int l2, .int l3, .null], [], (sh, M, J))) f_188_25 rfl ?_ ?_
  · refine ev_nx (s1 := (188, 33, [.ref l0, .int l1, .int l2, .int l3, .null], [.ref l0], (sh, M, J))) f_188_32 rfl ?_
    refine ev_gd (s1 := (188, 36, [.ref l0, .int l1, .int l2, .int l3, .null], [.ref (sh.2.2.2 l0 0)], (sh, M, J))) f_188_33 rfl ?_
    refine ev_nx (s1 := (188, 38, [.ref l0, .int l1, .int l2, .int l3, .null], [.int 10, .ref (sh.2.2.2 l0 0)], (sh, M, J))) f_188_36 rfl ?_
    refine ev_nx (s1 := (188, 39, [.ref l0, .int l1, .int l2, .int l3, .null], [.ref l0, .int 10, .ref (sh.2.2.2 l0 0)], (sh, M, J))) f_188_38 rfl ?_
    refine ev_gd (s1 := (188, 42, [.ref l0, .int l1, .int l2, .int l3, .null], [.ref (sh.2.2.2 l0 2), .int 10, .ref (sh.2.2.2 l0 0)], (sh, M, J))) f_188_39 rfl ?_
    refine ev_nx (s1 := (188, 43, [.ref l0, .int l1, .int l2, .int l3, .null], [.int 0, .ref (sh.2.2.2 l0 2), .int 10, .ref (sh.2.2.2 l0 0)], (sh, M, J))) f_188_42 rfl ?_
    refine ev_nx (s1 := (188, 44, [.ref l0, .int l1, .int l2, .int l3, .null], [.int l3, .int 0, .ref (sh.2.2.2 l0 2), .int 10, .ref (sh.2.2.2 l0 0)], (sh, M, J))) f_188_43 rfl ?_
    refine ev_nx (s1 := (188, 45, [.ref l0, .int l1, .int l2, .int l3, .null], [.int ((0 : Int32) + l3), .ref (sh.2.2.2 l0 2), .int 10, .ref (sh.2.2.2 l0 0)], (sh, M, J))) f_188_44 rfl ?_
    refine ev_gd (s1 := (188, 46, [.ref l0, .int l1, .int l2, .int l3, .null], [.int (M (sh.2.2.2 l0 2) (((0 : Int32) + l3) : Int32).toNatClampNeg), .int 10, .ref (sh.2.2.2 l0 0)], (sh, M, J))) f_188_45 rfl ?_
    refine ev_nx (s1 := (188, 47, [.ref l0, .int l1, .int l2, .int l3, .null], [.int ((10 : Int32) + (M (sh.2.2.2 l0 2) (((0 : Int32) + l3) : Int32).toNatClampNeg)), .ref (sh.2.2.2 l0 0)], (sh, M, J))) f_188_46 rfl ?_
    refine ev_gd (s1 := (188, 48, [.ref l0, .int l1, .int l2, .int l3, .null], [.int (M (sh.2.2.2 l0 0) (((10 : Int32) + (M (sh.2.2.2 l0 2) (((0 : Int32) + l3) : Int32).toNatClampNeg)) : Int32).toNatClampNeg)], (sh, M, J))) f_188_47 rfl ?_
    refine ev_nx (s1 := (188, 50, [.ref l0, .int l1, .int l2, .int l3, .int (M (sh.2.2.2 l0 0) (((10 : Int32) + (M (sh.2.2.2 l0 2) (((0 : Int32) + l3) : Int32).toNatClampNeg)) : Int32).toNatClampNeg)], [], (sh, M, J))) f_188_48 rfl ?_
    refine ev_nx (s1 := (188, 52, [.ref l0, .int l1, .int l2, .int l3, .int (M (sh.2.2.2 l0 0) (((10 : Int32) + (M (sh.2.2.2 l0 2) (((0 : Int32) + l3) : Int32).toNatClampNeg)) : Int32).toNatClampNeg)], [.int (M (sh.2.2.2 l0 0) (((10 : Int32) + (M (sh.2.2.2 l0 2) (((0 : Int32) + l3) : Int32).toNatClampNeg)) : Int32).toNatClampNeg)], (sh, M, J))) f_188_50 rfl ?_
    refine ev_nx (s1 := (188, 53, [.ref l0, .int l1, .int l2, .int l3, .int (M (sh.2.2.2 l0 0) (((10 : Int32) + (M (sh.2.2.2 l0 2) (((0 : Int32) + l3) : Int32).toNatClampNeg)) : Int32).toNatClampNeg)], [.int l1, .int (M (sh.2.2.2 l0 0) (((10 : Int32) + (M (sh.2.2.2 l0 2) (((0 : Int32) + l3) : Int32).toNatClampNeg)) : Int32).toNatClampNeg)], (sh, M, J))) f_188_52 rfl ?_
    refine ev_br (s1 := (188, 60, [.ref l0, .int l1, .int l2, .int l3, .int (M (sh.2.2.2 l0 0) (((10 : Int32) + (M (sh.2.2.2 l0 2) (((0 : Int32) + l3) : Int32).toNatClampNeg)) : Int32).toNatClampNeg)], [], (sh, M, J))) (s2 := (188, 56, [.ref l0, .int l1, .int l2, .int l3, .int (M (sh.2.2.2 l0 0) (((10 : Int32) + (M (sh.2.2.2 l0 2) (((0 : Int32) + l3) : Int32).toNatClampNeg)) : Int32).toNatClampNeg)], [], (sh, M, J))) f_188_53 rfl ?_ ?_
    · refine ev_nx (s1 := (188, 61, [.ref l0, .int l1, .int l2, .int l3, .int (M (sh.2.2.2 l0 0) (((10 : Int32) + (M (sh.2.2.2 l0 2) (((0 : Int32) + l3) : Int32).toNatClampNeg)) : Int32).toNatClampNeg)], [.int l2], (sh, M, J))) f_188_60 rfl ?_
      refine ev_nx (s1 := (188, 62, [.ref l0, .int l1, .int l2, .int l3, .int (M (sh.2.2.2 l0 0) (((10 : Int32) + (M (sh.2.2.2 l0 2) (((0 : Int32) + l3) : Int32).toNatClampNeg)) : Int32).toNatClampNeg)], [], (sh, M, J))) f_188_61 rfl ?_
      refine ev_nx (s1 := (188, 63, [.ref l0, .int l1, .int l2, .int l3, .int (M (sh.2.2.2 l0 0) (((10 : Int32) + (M (sh.2.2.2 l0 2) (((0 : Int32) + l3) : Int32).toNatClampNeg)) : Int32).toNatClampNeg)], [.int l2], (sh, M, J))) f_188_62 rfl ?_
      refine ev_nx (s1 := (188, 65, [.ref l0, .int l1, .int l2, .int l3, .int (M (sh.2.2.2 l0 0) (((10 : Int32) + (M (sh.2.2.2 l0 2) (((0 : Int32) + l3) : Int32).toNatClampNeg)) : Int32).toNatClampNeg)], [.int (M (sh.2.2.2 l0 0) (((10 : Int32) + (M (sh.2.2.2 l0 2) (((0 : Int32) + l3) : Int32).toNatClampNeg)) : Int32).toNatClampNeg), .int l2], (sh, M, J))) f_188_63 rfl ?_
      refine ev_nx (s1 := (188, 66, [.ref l0, .int l1, .int l2, .int l3, .int (M (sh.2.2.2 l0 0) (((10 : Int32) + (M (sh.2.2.2 l0 2) (((0 : Int32) + l3) : Int32).toNatClampNeg)) : Int32).toNatClampNeg)], [.int l1, .int (M (sh.2.2.2 l0 0) (((10 : Int32) + (M (sh.2.2.2 l0 2) (((0 : Int32) + l3) : Int32).toNatClampNeg)) : Int32).toNatClampNeg), .int l2], (sh, M, J))) f_188_65 rfl ?_
      refine ev_br (s1 := (188, 75, [.ref l0, .int l1, .int l2, .int l3, .int (M (sh.2.2.2 l0 0) (((10 : Int32) + (M (sh.2.2.2 l0 2) (((0 : Int32) + l3) : Int32).toNatClampNeg)) : Int32).toNatClampNeg)], [.int l2], (sh, M, J))) (s2 := (188, 69, [.ref l0, .int l1, .int l2, .int l3, .int (M (sh.2.2.2 l0 0) (((10 : Int32) + (M (sh.2.2.2 l0 2) (((0 : Int32) + l3) : Int32).toNatClampNeg)) : Int32).toNatClampNeg)], [.int l2], (sh, M, J))) f_188_66 rfl ?_ ?_
      · refine ev_nx (s1 := (188, 76, [.ref l0, .int l1, .int l2, .int l3, .int (M (sh.2.2.2 l0 0) (((10 : Int32) + (M (sh.2.2.2 l0 2) (((0 : Int32) + l3) : Int32).toNatClampNeg)) : Int32).toNatClampNeg)], [.int 0, .int l2], (sh, M, J))) f_188_75 rfl ?_
        refine ev_nx (s1 := (188, 77, [.ref l0, .int l1, .int l2, .int l3, .int (M (sh.2.2.2 l0 0) (((10 : Int32) + (M (sh.2.2.2 l0 2) (((0 : Int32) + l3) : Int32).toNatClampNeg)) : Int32).toNatClampNeg)], [.int (l2 ||| 0)], (sh, M, J))) f_188_76 rfl ?_
        refine ev_nx (s1 := (188, 78, [.ref l0, .int l1, .int (l2 ||| 0), .int l3, .int (M (sh.2.2.2 l0 0) (((10 : Int32) + (M (sh.2.2.2 l0 2) (((0 : Int32) + l3) : Int32).toNatClampNeg)) : Int32).toNatClampNeg)], [], (sh, M, J))) f_188_77 rfl ?_
        refine ev_nx (s1 := (188, 80, [.ref l0, .int l1, .int (l2 ||| 0), .int l3, .int (M (sh.2.2.2 l0 0) (((10 : Int32) + (M (sh.2.2.2 l0 2) (((0 : Int32) + l3) : Int32).toNatClampNeg)) : Int32).toNatClampNeg)], [.int (M (sh.2.2.2 l0 0) (((10 : Int32) + (M (sh.2.2.2 l0 2) (((0 : Int32) + l3) : Int32).toNatClampNeg)) : Int32).toNatClampNeg)], (sh, M, J))) f_188_78 rfl ?_
        refine ev_nx (s1 := (188, 81, [.ref l0, .int l1, .int (l2 ||| 0), .int l3, .int (M (sh.2.2.2 l0 0) (((10 : Int32) + (M (sh.2.2.2 l0 2) (((0 : Int32) + l3) : Int32).toNatClampNeg)) : Int32).toNatClampNeg)], [.int l1, .int (M (sh.2.2.2 l0 0) (((10 : Int32) + (M (sh.2.2.2 l0 2) (((0 : Int32) + l3) : Int32).toNatClampNeg)) : Int32).toNatClampNeg)], (sh, M, J))) f_188_80 rfl ?_
        refine ev_br (s1 := (188, 89, [.ref l0, .int l1, .int (l2 ||| 0), .int l3, .int (M (sh.2.2.2 l0 0) (((10 : Int32) + (M (sh.2.2.2 l0 2) (((0 : Int32) + l3) : Int32).toNatClampNeg)) : Int32).toNatClampNeg)], [], (sh, M, J))) (s2 := (188, 84, [.ref l0, .int l1, .int (l2 ||| 0), .int l3, .int (M (sh.2.2.2 l0 0) (((10 : Int32) + (M (sh.2.2.2 l0 2) (((0 : Int32) + l3) : Int32).toNatClampNeg)) : Int32).toNatClampNeg)], [], (sh, M, J))) f_188_81 rfl ?_ ?_
        · refine ev_nx (s1 := (188, 90, [.ref l0, .int l1, .int (l2 ||| 0), .int l3, .int (M (sh.2.2.2 l0 0) (((10 : Int32) + (M (sh.2.2.2 l0 2) (((0 : Int32) + l3) : Int32).toNatClampNeg)) : Int32).toNatClampNeg)], [.int l1], (sh, M, J))) f_188_89 rfl ?_
          refine ev_nx (s1 := (188, 91, [.ref l0, .int l1, .int (l2 ||| 0), .int l3, .int (M (sh.2.2.2 l0 0) (((10 : Int32) + (M (sh.2.2.2 l0 2) (((0 : Int32) + l3) : Int32).toNatClampNeg)) : Int32).toNatClampNeg)], [], (sh, M, J))) f_188_90 rfl ?_
          refine ev_nx (s1 := (188, 94, [.ref l0, .int l1, .int (l2 ||| 0), .int (l3 + 1), .int (M (sh.2.2.2 l0 0) (((10 : Int32) + (M (sh.2.2.2 l0 2) (((0 : Int32) + l3) : Int32).toNatClampNeg)) : Int32).toNatClampNeg)], [], (sh, M, J))) f_188_91 rfl ?_
          refine ev_nx (s1 := (188, 6, [.ref l0, .int l1, .int (l2 ||| 0), .int (l3 + 1), .int (M (sh.2.2.2 l0 0) (((10 : Int32) + (M (sh.2.2.2 l0 2) (((0 : Int32) + l3) : Int32).toNatClampNeg)) : Int32).toNatClampNeg)], [], (sh, M, J))) f_188_94 rfl ?_
          exact (ev_kill hd_188_6).symm
        · refine ev_nx (s1 := (188, 86, [.ref l0, .int l1, .int (l2 ||| 0), .int l3, .int (M (sh.2.2.2 l0 0) (((10 : Int32) + (M (sh.2.2.2 l0 2) (((0 : Int32) + l3) : Int32).toNatClampNeg)) : Int32).toNatClampNeg)], [.int (M (sh.2.2.2 l0 0) (((10 : Int32) + (M (sh.2.2.2 l0 2) (((0 : Int32) + l3) : Int32).toNatClampNeg)) : Int32).toNatClampNeg)], (sh, M, J))) f_188_84 rfl ?_
          refine ev_nx (s1 := (188, 90, [.ref l0, .int l1, .int (l2 ||| 0), .int l3, .int (M (sh.2.2.2 l0 0) (((10 : Int32) + (M (sh.2.2.2 l0 2) (((0 : Int32) + l3) : Int32).toNatClampNeg)) : Int32).toNatClampNeg)], [.int (M (sh.2.2.2 l0 0) (((10 : Int32) + (M (sh.2.2.2 l0 2) (((0 : Int32) + l3) : Int32).toNatClampNeg)) : Int32).toNatClampNeg)], (sh, M, J))) f_188_86 rfl ?_
          refine ev_nx (s1 := (188, 91, [.ref l0, .int (M (sh.2.2.2 l0 0) (((10 : Int32) + (M (sh.2.2.2 l0 2) (((0 : Int32) + l3) : Int32).toNatClampNeg)) : Int32).toNatClampNeg), .int (l2 ||| 0), .int l3, .int (M (sh.2.2.2 l0 0) (((10 : Int32) + (M (sh.2.2.2 l0 2) (((0 : Int32) + l3) : Int32).toNatClampNeg)) : Int32).toNatClampNeg)], [], (sh, M, J))) f_188_90 rfl ?_
          refine ev_nx (s1 := (188, 94, [.ref l0, .int (M (sh.2.2.2 l0 0) (((10 : Int32) + (M (sh.2.2.2 l0 2) (((0 : Int32) + l3) : Int32).toNatClampNeg)) : Int32).toNatClampNeg), .int (l2 ||| 0), .int (l3 + 1), .int (M (sh.2.2.2 l0 0) (((10 : Int32) + (M (sh.2.2.2 l0 2) (((0 : Int32) + l3) : Int32).toNatClampNeg)) : Int32).toNatClampNeg)], [], (sh, M, J))) f_188_91 rfl ?_
          refine ev_nx (s1 := (188, 6, [.ref l0, .int (M (sh.2.2.2 l0 0) (((10 : Int32) + (M (sh.2.2.2 l0 2) (((0 : Int32) + l3) : Int32).toNatClampNeg)) : Int32).toNatClampNeg), .int (l2 ||| 0), .int (l3 + 1), .int (M (sh.2.2.2 l0 0) (((10 : Int32) + (M (sh.2.2.2 l0 2) (((0 : Int32) + l3) : Int32).toNatClampNeg)) : Int32).toNatClampNeg)], [], (sh, M, J))) f_188_94 rfl ?_
          exact (ev_kill hd_188_6).symm
      · refine ev_nx (s1 := (188, 70, [.ref l0, .int l1, .int l2, .int l3, .int (M (sh.2.2.2 l0 0) (((10 : Int32) + (M (sh.2.2.2 l0 2) (((0 : Int32) + l3) : Int32).toNatClampNeg)) : Int32).toNatClampNeg)], [.int 1, .int l2], (sh, M, J))) f_188_69 rfl ?_
        refine ev_nx (s1 := (188, 71, [.ref l0, .int l1, .int l2, .int l3, .int (M (sh.2.2.2 l0 0) (((10 : Int32) + (M (sh.2.2.2 l0 2) (((0 : Int32) + l3) : Int32).toNatClampNeg)) : Int32).toNatClampNeg)], [.int l3, .int 1, .int l2], (sh, M, J))) f_188_70 rfl ?_
        refine ev_nx (s1 := (188, 72, [.ref l0, .int l1, .int l2, .int l3, .int (M (sh.2.2.2 l0 0) (((10 : Int32) + (M (sh.2.2.2 l0 2) (((0 : Int32) + l3) : Int32).toNatClampNeg)) : Int32).toNatClampNeg)], [.int ((1 : Int32) <<< (l3 &&& 31)), .int l2], (sh, M, J))) f_188_71 rfl ?_
        refine ev_nx (s1 := (188, 76, [.ref l0, .int l1, .int l2, .int l3, .int (M (sh.2.2.2 l0 0) (((10 : Int32) + (M (sh.2.2.2 l0 2) (((0 : Int32) + l3) : Int32).toNatClampNeg)) : Int32).toNatClampNeg)], [.int ((1 : Int32) <<< (l3 &&& 31)), .int l2], (sh, M, J))) f_188_72 rfl ?_
        refine ev_nx (s1 := (188, 77, [.ref l0, .int l1, .int l2, .int l3, .int (M (sh.2.2.2 l0 0) (((10 : Int32) + (M (sh.2.2.2 l0 2) (((0 : Int32) + l3) : Int32).toNatClampNeg)) : Int32).toNatClampNeg)], [.int (l2 ||| ((1 : Int32) <<< (l3 &&& 31)))], (sh, M, J))) f_188_76 rfl ?_
        refine ev_nx (s1 := (188, 78, [.ref l0, .int l1, .int (l2 ||| ((1 : Int32) <<< (l3 &&& 31))), .int l3, .int (M (sh.2.2.2 l0 0) (((10 : Int32) + (M (sh.2.2.2 l0 2) (((0 : Int32) + l3) : Int32).toNatClampNeg)) : Int32).toNatClampNeg)], [], (sh, M, J))) f_188_77 rfl ?_
        refine ev_nx (s1 := (188, 80, [.ref l0, .int l1, .int (l2 ||| ((1 : Int32) <<< (l3 &&& 31))), .int l3, .int (M (sh.2.2.2 l0 0) (((10 : Int32) + (M (sh.2.2.2 l0 2) (((0 : Int32) + l3) : Int32).toNatClampNeg)) : Int32).toNatClampNeg)], [.int (M (sh.2.2.2 l0 0) (((10 : Int32) + (M (sh.2.2.2 l0 2) (((0 : Int32) + l3) : Int32).toNatClampNeg)) : Int32).toNatClampNeg)], (sh, M, J))) f_188_78 rfl ?_
        refine ev_nx (s1 := (188, 81, [.ref l0, .int l1, .int (l2 ||| ((1 : Int32) <<< (l3 &&& 31))), .int l3, .int (M (sh.2.2.2 l0 0) (((10 : Int32) + (M (sh.2.2.2 l0 2) (((0 : Int32) + l3) : Int32).toNatClampNeg)) : Int32).toNatClampNeg)], [.int l1, .int (M (sh.2.2.2 l0 0) (((10 : Int32) + (M (sh.2.2.2 l0 2) (((0 : Int32) + l3) : Int32).toNatClampNeg)) : Int32).toNatClampNeg)], (sh, M, J))) f_188_80 rfl ?_
        refine ev_br (s1 := (188, 89, [.ref l0, .int l1, .int (l2 ||| ((1 : Int32) <<< (l3 &&& 31))), .int l3, .int (M (sh.2.2.2 l0 0) (((10 : Int32) + (M (sh.2.2.2 l0 2) (((0 : Int32) + l3) : Int32).toNatClampNeg)) : Int32).toNatClampNeg)], [], (sh, M, J))) (s2 := (188, 84, [.ref l0, .int l1, .int (l2 ||| ((1 : Int32) <<< (l3 &&& 31))), .int l3, .int (M (sh.2.2.2 l0 0) (((10 : Int32) + (M (sh.2.2.2 l0 2) (((0 : Int32) + l3) : Int32).toNatClampNeg)) : Int32).toNatClampNeg)], [], (sh, M, J))) f_188_81 rfl ?_ ?_
        · refine ev_nx (s1 := (188, 90, [.ref l0, .int l1, .int (l2 ||| ((1 : Int32) <<< (l3 &&& 31))), .int l3, .int (M (sh.2.2.2 l0 0) (((10 : Int32) + (M (sh.2.2.2 l0 2) (((0 : Int32) + l3) : Int32).toNatClampNeg)) : Int32).toNatClampNeg)], [.int l1], (sh, M, J))) f_188_89 rfl ?_
          refine ev_nx (s1 := (188, 91, [.ref l0, .int l1, .int (l2 ||| ((1 : Int32) <<< (l3 &&& 31))), .int l3, .int (M (sh.2.2.2 l0 0) (((10 : Int32) + (M (sh.2.2.2 l0 2) (((0 : Int32) + l3) : Int32).toNatClampNeg)) : Int32).toNatClampNeg)], [], (sh, M, J))) f_188_90 rfl ?_
          refine ev_nx (s1 := (188, 94, [.ref l0, .int l1, .int (l2 ||| ((1 : Int32) <<< (l3 &&& 31))), .int (l3 + 1), .int (M (sh.2.2.2 l0 0) (((10 : Int32) + (M (sh.2.2.2 l0 2) (((0 : Int32) + l3) : Int32).toNatClampNeg)) : Int32).toNatClampNeg)], [], (sh, M, J))) f_188_91 rfl ?_
          refine ev_nx (s1 := (188, 6, [.ref l0, .int l1, .int (l2 ||| ((1 : Int32) <<< (l3 &&& 31))), .int (l3 + 1), .int (M (sh.2.2.2 l0 0) (((10 : Int32) + (M (sh.2.2.2 l0 2) (((0 : Int32) + l3) : Int32).toNatClampNeg)) : Int32).toNatClampNeg)], [], (sh, M, J))) f_188_94 rfl ?_
          exact (ev_kill hd_188_6).symm
        · refine ev_nx (s1 := (188, 86, [.ref l0, .int l1, .int (l2 ||| ((1 : Int32) <<< (l3 &&& 31))), .int l3, .int (M (sh.2.2.2 l0 0) (((10 : Int32) + (M (sh.2.2.2 l0 2) (((0 : Int32) + l3) : Int32).toNatClampNeg)) : Int32).toNatClampNeg)], [.int (M (sh.2.2.2 l0 0) (((10 : Int32) + (M (sh.2.2.2 l0 2) (((0 : Int32) + l3) : Int32).toNatClampNeg)) : Int32).toNatClampNeg)], (sh, M, J))) f_188_84 rfl ?_
          refine ev_nx (s1 := (188, 90, [.ref l0, .int l1, .int (l2 ||| ((1 : Int32) <<< (l3 &&& 31))), .int l3, .int (M (sh.2.2.2 l0 0) (((10 : Int32) + (M (sh.2.2.2 l0 2) (((0 : Int32) + l3) : Int32).toNatClampNeg)) : Int32).toNatClampNeg)], [.int (M (sh.2.2.2 l0 0) (((10 : Int32) + (M (sh.2.2.2 l0 2) (((0 : Int32) + l3) : Int32).toNatClampNeg)) : Int32).toNatClampNeg)], (sh, M, J))) f_188_86 rfl ?_
          refine ev_nx (s1 := (188, 91, [.ref l0, .int (M (sh.2.2.2 l0 0) (((10 : Int32) + (M (sh.2.2.2 l0 2) (((0 : Int32) + l3) : Int32).toNatClampNeg)) : Int32).toNatClampNeg), .int (l2 ||| ((1 : Int32) <<< (l3 &&& 31))), .int l3, .int (M (sh.2.2.2 l0 0) (((10 : Int32) + (M (sh.2.2.2 l0 2) (((0 : Int32) + l3) : Int32).toNatClampNeg)) : Int32).toNatClampNeg)], [], (sh, M, J))) f_188_90 rfl ?_
          refine ev_nx (s1 := (188, 94, [.ref l0, .int (M (sh.2.2.2 l0 0) (((10 : Int32) + (M (sh.2.2.2 l0 2) (((0 : Int32) + l3) : Int32).toNatClampNeg)) : Int32).toNatClampNeg), .int (l2 ||| ((1 : Int32) <<< (l3 &&& 31))), .int (l3 + 1), .int (M (sh.2.2.2 l0 0) (((10 : Int32) + (M (sh.2.2.2 l0 2) (((0 : Int32) + l3) : Int32).toNatClampNeg)) : Int32).toNatClampNeg)], [], (sh, M, J))) f_188_91 rfl ?_
          refine ev_nx (s1 := (188, 6, [.ref l0, .int (M (sh.2.2.2 l0 0) (((10 : Int32) + (M (sh.2.2.2 l0 2) (((0 : Int32) + l3) : Int32).toNatClampNeg)) : Int32).toNatClampNeg), .int (l2 ||| ((1 : Int32) <<< (l3 &&& 31))), .int (l3 + 1), .int (M (sh.2.2.2 l0 0) (((10 : Int32) + (M (sh.2.2.2 l0 2) (((0 : Int32) + l3) : Int32).toNatClampNeg)) : Int32).toNatClampNeg)], [], (sh, M, J))) f_188_94 rfl ?_
          exact (ev_kill hd_188_6).symm
    · refine ev_nx (s1 := (188, 57, [.ref l0, .int l1, .int l2, .int l3, .int (M (sh.2.2.2 l0 0) (((10 : Int32) + (M (sh.2.2.2 l0 2) (((0 : Int32) + l3) : Int32).toNatClampNeg)) : Int32).toNatClampNeg)], [.int 0], (sh, M, J))) f_188_56 rfl ?_
      refine ev_nx (s1 := (188, 61, [.ref l0, .int l1, .int l2, .int l3, .int (M (sh.2.2.2 l0 0) (((10 : Int32) + (M (sh.2.2.2 l0 2) (((0 : Int32) + l3) : Int32).toNatClampNeg)) : Int32).toNatClampNeg)], [.int 0], (sh, M, J))) f_188_57 rfl ?_
      refine ev_nx (s1 := (188, 62, [.ref l0, .int l1, .int 0, .int l3, .int (M (sh.2.2.2 l0 0) (((10 : Int32) + (M (sh.2.2.2 l0 2) (((0 : Int32) + l3) : Int32).toNatClampNeg)) : Int32).toNatClampNeg)], [], (sh, M, J))) f_188_61 rfl ?_
      refine ev_nx (s1 := (188, 63, [.ref l0, .int l1, .int 0, .int l3, .int (M (sh.2.2.2 l0 0) (((10 : Int32) + (M (sh.2.2.2 l0 2) (((0 : Int32) + l3) : Int32).toNatClampNeg)) : Int32).toNatClampNeg)], [.int 0], (sh, M, J))) f_188_62 rfl ?_
      refine ev_nx (s1 := (188, 65, [.ref l0, .int l1, .int 0, .int l3, .int (M (sh.2.2.2 l0 0) (((10 : Int32) + (M (sh.2.2.2 l0 2) (((0 : Int32) + l3) : Int32).toNatClampNeg)) : Int32).toNatClampNeg)], [.int (M (sh.2.2.2 l0 0) (((10 : Int32) + (M (sh.2.2.2 l0 2) (((0 : Int32) + l3) : Int32).toNatClampNeg)) : Int32).toNatClampNeg), .int 0], (sh, M, J))) f_188_63 rfl ?_
      refine ev_nx (s1 := (188, 66, [.ref l0, .int l1, .int 0, .int l3, .int (M (sh.2.2.2 l0 0) (((10 : Int32) + (M (sh.2.2.2 l0 2) (((0 : Int32) + l3) : Int32).toNatClampNeg)) : Int32).toNatClampNeg)], [.int l1, .int (M (sh.2.2.2 l0 0) (((10 : Int32) + (M (sh.2.2.2 l0 2) (((0 : Int32) + l3) : Int32).toNatClampNeg)) : Int32).toNatClampNeg), .int 0], (sh, M, J))) f_188_65 rfl ?_
      refine ev_br (s1 := (188, 75, [.ref l0, .int l1, .int 0, .int l3, .int (M (sh.2.2.2 l0 0) (((10 : Int32) + (M (sh.2.2.2 l0 2) (((0 : Int32) + l3) : Int32).toNatClampNeg)) : Int32).toNatClampNeg)], [.int 0], (sh, M, J))) (s2 := (188, 69, [.ref l0, .int l1, .int 0, .int l3, .int (M (sh.2.2.2 l0 0) (((10 : Int32) + (M (sh.2.2.2 l0 2) (((0 : Int32) + l3) : Int32).toNatClampNeg)) : Int32).toNatClampNeg)], [.int 0], (sh, M, J))) f_188_66 rfl ?_ ?_
      · refine ev_nx (s1 := (188, 76, [.ref l0, .int l1, .int 0, .int l3, .int (M (sh.2.2.2 l0 0) (((10 : Int32) + (M (sh.2.2.2 l0 2) (((0 : Int32) + l3) : Int32).toNatClampNeg)) : Int32).toNatClampNeg)], [.int 0, .int 0], (sh, M, J))) f_188_75 rfl ?_
        refine ev_nx (s1 := (188, 77, [.ref l0, .int l1, .int 0, .int l3, .int (M (sh.2.2.2 l0 0) (((10 : Int32) + (M (sh.2.2.2 l0 2) (((0 : Int32) + l3) : Int32).toNatClampNeg)) : Int32).toNatClampNeg)], [.int ((0 : Int32) ||| 0)], (sh, M, J))) f_188_76 rfl ?_
        refine ev_nx (s1 := (188, 78, [.ref l0, .int l1, .int ((0 : Int32) ||| 0), .int l3, .int (M (sh.2.2.2 l0 0) (((10 : Int32) + (M (sh.2.2.2 l0 2) (((0 : Int32) + l3) : Int32).toNatClampNeg)) : Int32).toNatClampNeg)], [], (sh, M, J))) f_188_77 rfl ?_
        refine ev_nx (s1 := (188, 80, [.ref l0, .int l1, .int ((0 : Int32) ||| 0), .int l3, .int (M (sh.2.2.2 l0 0) (((10 : Int32) + (M (sh.2.2.2 l0 2) (((0 : Int32) + l3) : Int32).toNatClampNeg)) : Int32).toNatClampNeg)], [.int (M (sh.2.2.2 l0 0) (((10 : Int32) + (M (sh.2.2.2 l0 2) (((0 : Int32) + l3) : Int32).toNatClampNeg)) : Int32).toNatClampNeg)], (sh, M, J))) f_188_78 rfl ?_
        refine ev_nx (s1 := (188, 81, [.ref l0, .int l1, .int ((0 : Int32) ||| 0), .int l3, .int (M (sh.2.2.2 l0 0) (((10 : Int32) + (M (sh.2.2.2 l0 2) (((0 : Int32) + l3) : Int32).toNatClampNeg)) : Int32).toNatClampNeg)], [.int l1, .int (M (sh.2.2.2 l0 0) (((10 : Int32) + (M (sh.2.2.2 l0 2) (((0 : Int32) + l3) : Int32).toNatClampNeg)) : Int32).toNatClampNeg)], (sh, M, J))) f_188_80 rfl ?_
        refine ev_br (s1 := (188, 89, [.ref l0, .int l1, .int ((0 : Int32) ||| 0), .int l3, .int (M (sh.2.2.2 l0 0) (((10 : Int32) + (M (sh.2.2.2 l0 2) (((0 : Int32) + l3) : Int32).toNatClampNeg)) : Int32).toNatClampNeg)], [], (sh, M, J))) (s2 := (188, 84, [.ref l0, .int l1, .int ((0 : Int32) ||| 0), .int l3, .int (M (sh.2.2.2 l0 0) (((10 : Int32) + (M (sh.2.2.2 l0 2) (((0 : Int32) + l3) : Int32).toNatClampNeg)) : Int32).toNatClampNeg)], [], (sh, M, J))) f_188_81 rfl ?_ ?_
        · refine ev_nx (s1 := (188, 90, [.ref l0, .int l1, .int ((0 : Int32) ||| 0), .int l3, .int (M (sh.2.2.2 l0 0) (((10 : Int32) + (M (sh.2.2.2 l0 2) (((0 : Int32) + l3) : Int32).toNatClampNeg)) : Int32).toNatClampNeg)], [.int l1], (sh, M, J))) f_188_89 rfl ?_
          refine ev_nx (s1 := (188, 91, [.ref l0, .int l1, .int ((0 : Int32) ||| 0), .int l3, .int (M (sh.2.2.2 l0 0) (((10 : Int32) + (M (sh.2.2.2 l0 2) (((0 : Int32) + l3) : Int32).toNatClampNeg)) : Int32).toNatClampNeg)], [], (sh, M, J))) f_188_90 rfl ?_
          refine ev_nx (s1 := (188, 94, [.ref l0, .int l1, .int ((0 : Int32) ||| 0), .int (l3 + 1), .int (M (sh.2.2.2 l0 0) (((10 : Int32) + (M (sh.2.2.2 l0 2) (((0 : Int32) + l3) : Int32).toNatClampNeg)) : Int32).toNatClampNeg)], [], (sh, M, J))) f_188_91 rfl ?_
          refine ev_nx (s1 := (188, 6, [.ref l0, .int l1, .int ((0 : Int32) ||| 0), .int (l3 + 1), .int (M (sh.2.2.2 l0 0) (((10 : Int32) + (M (sh.2.2.2 l0 2) (((0 : Int32) + l3) : Int32).toNatClampNeg)) : Int32).toNatClampNeg)], [], (sh, M, J))) f_188_94 rfl ?_
          exact (ev_kill hd_188_6).symm
        · refine ev_nx (s1 := (188, 86, [.ref l0, .int l1, .int ((0 : Int32) ||| 0), .int l3, .int (M (sh.2.2.2 l0 0) (((10 : Int32) + (M (sh.2.2.2 l0 2) (((0 : Int32) + l3) : Int32).toNatClampNeg)) : Int32).toNatClampNeg)], [.int (M (sh.2.2.2 l0 0) (((10 : Int32) + (M (sh.2.2.2 l0 2) (((0 : Int32) + l3) : Int32).toNatClampNeg)) : Int32).toNatClampNeg)], (sh, M, J))) f_188_84 rfl ?_
          refine ev_nx (s1 := (188, 90, [.ref l0, .int l1, .int ((0 : Int32) ||| 0), .int l3, .int (M (sh.2.2.2 l0 0) (((10 : Int32) + (M (sh.2.2.2 l0 2) (((0 : Int32) + l3) : Int32).toNatClampNeg)) : Int32).toNatClampNeg)], [.int (M (sh.2.2.2 l0 0) (((10 : Int32) + (M (sh.2.2.2 l0 2) (((0 : Int32) + l3) : Int32).toNatClampNeg)) : Int32).toNatClampNeg)], (sh, M, J))) f_188_86 rfl ?_
          refine ev_nx (s1 := (188, 91, [.ref l0, .int (M (sh.2.2.2 l0 0) (((10 : Int32) + (M (sh.2.2.2 l0 2) (((0 : Int32) + l3) : Int32).toNatClampNeg)) : Int32).toNatClampNeg), .int ((0 : Int32) ||| 0), .int l3, .int (M (sh.2.2.2 l0 0) (((10 : Int32) + (M (sh.2.2.2 l0 2) (((0 : Int32) + l3) : Int32).toNatClampNeg)) : Int32).toNatClampNeg)], [], (sh, M, J))) f_188_90 rfl ?_
          refine ev_nx (s1 := (188, 94, [.ref l0, .int (M (sh.2.2.2 l0 0) (((10 : Int32) + (M (sh.2.2.2 l0 2) (((0 : Int32) + l3) : Int32).toNatClampNeg)) : Int32).toNatClampNeg), .int ((0 : Int32) ||| 0), .int (l3 + 1), .int (M (sh.2.2.2 l0 0) (((10 : Int32) + (M (sh.2.2.2 l0 2) (((0 : Int32) + l3) : Int32).toNatClampNeg)) : Int32).toNatClampNeg)], [], (sh, M, J))) f_188_91 rfl ?_
          refine ev_nx (s1 := (188, 6, [.ref l0, .int (M (sh.2.2.2 l0 0) (((10 : Int32) + (M (sh.2.2.2 l0 2) (((0 : Int32) + l3) : Int32).toNatClampNeg)) : Int32).toNatClampNeg), .int ((0 : Int32) ||| 0), .int (l3 + 1), .int (M (sh.2.2.2 l0 0) (((10 : Int32) + (M (sh.2.2.2 l0 2) (((0 : Int32) + l3) : Int32).toNatClampNeg)) : Int32).toNatClampNeg)], [], (sh, M, J))) f_188_94 rfl ?_
          exact (ev_kill hd_188_6).symm
      · refine ev_nx (s1 := (188, 70, [.ref l0, .int l1, .int 0, .int l3, .int (M (sh.2.2.2 l0 0) (((10 : Int32) + (M (sh.2.2.2 l0 2) (((0 : Int32) + l3) : Int32).toNatClampNeg)) : Int32).toNatClampNeg)], [.int 1, .int 0], (sh, M, J))) f_188_69 rfl ?_
        refine ev_nx (s1 := (188, 71, [.ref l0, .int l1, .int 0, .int l3, .int (M (sh.2.2.2 l0 0) (((10 : Int32) + (M (sh.2.2.2 l0 2) (((0 : Int32) + l3) : Int32).toNatClampNeg)) : Int32).toNatClampNeg)], [.int l3, .int 1, .int 0], (sh, M, J))) f_188_70 rfl ?_
        refine ev_nx (s1 := (188, 72, [.ref l0, .int l1, .int 0, .int l3, .int (M (sh.2.2.2 l0 0) (((10 : Int32) + (M (sh.2.2.2 l0 2) (((0 : Int32) + l3) : Int32).toNatClampNeg)) : Int32).toNatClampNeg)], [.int ((1 : Int32) <<< (l3 &&& 31)), .int 0], (sh, M, J))) f_188_71 rfl ?_
        refine ev_nx (s1 := (188, 76, [.ref l0, .int l1, .int 0, .int l3, .int (M (sh.2.2.2 l0 0) (((10 : Int32) + (M (sh.2.2.2 l0 2) (((0 : Int32) + l3) : Int32).toNatClampNeg)) : Int32).toNatClampNeg)], [.int ((1 : Int32) <<< (l3 &&& 31)), .int 0], (sh, M, J))) f_188_72 rfl ?_
        refine ev_nx (s1 := (188, 77, [.ref l0, .int l1, .int 0, .int l3, .int (M (sh.2.2.2 l0 0) (((10 : Int32) + (M (sh.2.2.2 l0 2) (((0 : Int32) + l3) : Int32).toNatClampNeg)) : Int32).toNatClampNeg)], [.int ((0 : Int32) ||| ((1 : Int32) <<< (l3 &&& 31)))], (sh, M, J))) f_188_76 rfl ?_
        refine ev_nx (s1 := (188, 78, [.ref l0, .int l1, .int ((0 : Int32) ||| ((1 : Int32) <<< (l3 &&& 31))), .int l3, .int (M (sh.2.2.2 l0 0) (((10 : Int32) + (M (sh.2.2.2 l0 2) (((0 : Int32) + l3) : Int32).toNatClampNeg)) : Int32).toNatClampNeg)], [], (sh, M, J))) f_188_77 rfl ?_
        refine ev_nx (s1 := (188, 80, [.ref l0, .int l1, .int ((0 : Int32) ||| ((1 : Int32) <<< (l3 &&& 31))), .int l3, .int (M (sh.2.2.2 l0 0) (((10 : Int32) + (M (sh.2.2.2 l0 2) (((0 : Int32) + l3) : Int32).toNatClampNeg)) : Int32).toNatClampNeg)], [.int (M (sh.2.2.2 l0 0) (((10 : Int32) + (M (sh.2.2.2 l0 2) (((0 : Int32) + l3) : Int32).toNatClampNeg)) : Int32).toNatClampNeg)], (sh, M, J))) f_188_78 rfl ?_
        refine ev_nx (s1 := (188, 81, [.ref l0, .int l1, .int ((0 : Int32) ||| ((1 : Int32) <<< (l3 &&& 31))), .int l3, .int (M (sh.2.2.2 l0 0) (((10 : Int32) + (M (sh.2.2.2 l0 2) (((0 : Int32) + l3) : Int32).toNatClampNeg)) : Int32).toNatClampNeg)], [.int l1, .int (M (sh.2.2.2 l0 0) (((10 : Int32) + (M (sh.2.2.2 l0 2) (((0 : Int32) + l3) : Int32).toNatClampNeg)) : Int32).toNatClampNeg)], (sh, M, J))) f_188_80 rfl ?_
        refine ev_br (s1 := (188, 89, [.ref l0, .int l1, .int ((0 : Int32) ||| ((1 : Int32) <<< (l3 &&& 31))), .int l3, .int (M (sh.2.2.2 l0 0) (((10 : Int32) + (M (sh.2.2.2 l0 2) (((0 : Int32) + l3) : Int32).toNatClampNeg)) : Int32).toNatClampNeg)], [], (sh, M, J))) (s2 := (188, 84, [.ref l0, .int l1, .int ((0 : Int32) ||| ((1 : Int32) <<< (l3 &&& 31))), .int l3, .int (M (sh.2.2.2 l0 0) (((10 : Int32) + (M (sh.2.2.2 l0 2) (((0 : Int32) + l3) : Int32).toNatClampNeg)) : Int32).toNatClampNeg)], [], (sh, M, J))) f_188_81 rfl ?_ ?_
        · refine ev_nx (s1 := (188, 90, [.ref l0, .int l1, .int ((0 : Int32) ||| ((1 : Int32) <<< (l3 &&& 31))), .int l3, .int (M (sh.2.2.2 l0 0) (((10 : Int32) + (M (sh.2.2.2 l0 2) (((0 : Int32) + l3) : Int32).toNatClampNeg)) : Int32).toNatClampNeg)], [.int l1], (sh, M, J))) f_188_89 rfl ?_
          refine ev_nx (s1 := (188, 91, [.ref l0, .int l1, .int ((0 : Int32) ||| ((1 : Int32) <<< (l3 &&& 31))), .int l3, .int (M (sh.2.2.2 l0 0) (((10 : Int32) + (M (sh.2.2.2 l0 2) (((0 : Int32) + l3) : Int32).toNatClampNeg)) : Int32).toNatClampNeg)], [], (sh, M, J))) f_188_90 rfl ?_
          refine ev_nx (s1 := (188, 94, [.ref l0, .int l1, .int ((0 : Int32) ||| ((1 : Int32) <<< (l3 &&& 31))), .int (l3 + 1), .int (M (sh.2.2.2 l0 0) (((10 : Int32) + (M (sh.2.2.2 l0 2) (((0 : Int32) + l3) : Int32).toNatClampNeg)) : Int32).toNatClampNeg)], [], (sh, M, J))) f_188_91 rfl ?_
          refine ev_nx (s1 := (188, 6, [.ref l0, .int l1, .int ((0 : Int32) ||| ((1 : Int32) <<< (l3 &&& 31))), .int (l3 + 1), .int (M (sh.2.2.2 l0 0) (((10 : Int32) + (M (sh.2.2.2 l0 2) (((0 : Int32) + l3) : Int32).toNatClampNeg)) : Int32).toNatClampNeg)], [], (sh, M, J))) f_188_94 rfl ?_
          exact (ev_kill hd_188_6).symm
        · refine ev_nx (s1 := (188, 86, [.ref l0, .int l1, .int ((0 : Int32) ||| ((1 : Int32) <<< (l3 &&& 31))), .int l3, .int (M (sh.2.2.2 l0 0) (((10 : Int32) + (M (sh.2.2.2 l0 2) (((0 : Int32) + l3) : Int32).toNatClampNeg)) : Int32).toNatClampNeg)], [.int (M (sh.2.2.2 l0 0) (((10 : Int32) + (M (sh.2.2.2 l0 2) (((0 : Int32) + l3) : Int32).toNatClampNeg)) : Int32).toNatClampNeg)], (sh, M, J))) f_188_84 rfl ?_
          refine ev_nx (s1 := (188, 90, [.ref l0, .int l1, .int ((0 : Int32) ||| ((1 : Int32) <<< (l3 &&& 31))), .int l3, .int (M (sh.2.2.2 l0 0) (((10 : Int32) + (M (sh.2.2.2 l0 2) (((0 : Int32) + l3) : Int32).toNatClampNeg)) : Int32).toNatClampNeg)], [.int (M (sh.2.2.2 l0 0) (((10 : Int32) + (M (sh.2.2.2 l0 2) (((0 : Int32) + l3) : Int32).toNatClampNeg)) : Int32).toNatClampNeg)], (sh, M, J))) f_188_86 rfl ?_
          refine ev_nx (s1 := (188, 91, [.ref l0, .int (M (sh.2.2.2 l0 0) (((10 : Int32) + (M (sh.2.2.2 l0 2) (((0 : Int32) + l3) : Int32).toNatClampNeg)) : Int32).toNatClampNeg), .int ((0 : Int32) ||| ((1 : Int32) <<< (l3 &&& 31))), .int l3, .int (M (sh.2.2.2 l0 0) (((10 : Int32) + (M (sh.2.2.2 l0 2) (((0 : Int32) + l3) : Int32).toNatClampNeg)) : Int32).toNatClampNeg)], [], (sh, M, J))) f_188_90 rfl ?_
          refine ev_nx (s1 := (188, 94, [.ref l0, .int (M (sh.2.2.2 l0 0) (((10 : Int32) + (M (sh.2.2.2 l0 2) (((0 : Int32) + l3) : Int32).toNatClampNeg)) : Int32).toNatClampNeg), .int ((0 : Int32) ||| ((1 : Int32) <<< (l3 &&& 31))), .int (l3 + 1), .int (M (sh.2.2.2 l0 0) (((10 : Int32) + (M (sh.2.2.2 l0 2) (((0 : Int32) + l3) : Int32).toNatClampNeg)) : Int32).toNatClampNeg)], [], (sh, M, J))) f_188_91 rfl ?_
          refine ev_nx (s1 := (188, 6, [.ref l0, .int (M (sh.2.2.2 l0 0) (((10 : Int32) + (M (sh.2.2.2 l0 2) (((0 : Int32) + l3) : Int32).toNatClampNeg)) : Int32).toNatClampNeg), .int ((0 : Int32) ||| ((1 : Int32) <<< (l3 &&& 31))), .int (l3 + 1), .int (M (sh.2.2.2 l0 0) (((10 : Int32) + (M (sh.2.2.2 l0 2) (((0 : Int32) + l3) : Int32).toNatClampNeg)) : Int32).toNatClampNeg)], [], (sh, M, J))) f_188_94 rfl ?_
          exact (ev_kill hd_188_6).symm
  · refine ev_nx (s1 := (188, 29, [.ref l0, .int l1, .int l2, .int l3, .null], [.int 0], (sh, M, J))) f_188_28 rfl ?_
    refine ev_nx (s1 := (188, 48, [.ref l0, .int l1, .int l2, .int l3, .null], [.int 0], (sh, M, J))) f_188_29 rfl ?_
    refine ev_nx (s1 := (188, 50, [.ref l0, .int l1, .int l2, .int l3, .int 0], [], (sh, M, J))) f_188_48 rfl ?_
    refine ev_nx (s1 := (188, 52, [.ref l0, .int l1, .int l2, .int l3, .int 0], [.int 0], (sh, M, J))) f_188_50 rfl ?_
    refine ev_nx (s1 := (188, 53, [.ref l0, .int l1, .int l2, .int l3, .int 0], [.int l1, .int 0], (sh, M, J))) f_188_52 rfl ?_
    refine ev_br (s1 := (188, 60, [.ref l0, .int l1, .int l2, .int l3, .int 0], [], (sh, M, J))) (s2 := (188, 56, [.ref l0, .int l1, .int l2, .int l3, .int 0], [], (sh, M, J))) f_188_53 rfl ?_ ?_
    · refine ev_nx (s1 := (188, 61, [.ref l0, .int l1, .int l2, .int l3, .int 0], [.int l2], (sh, M, J))) f_188_60 rfl ?_
      refine ev_nx (s1 := (188, 62, [.ref l0, .int l1, .int l2, .int l3, .int 0], [], (sh, M, J))) f_188_61 rfl ?_
      refine ev_nx (s1 := (188, 63, [.ref l0, .int l1, .int l2, .int l3, .int 0], [.int l2], (sh, M, J))) f_188_62 rfl ?_
      refine ev_nx (s1 := (188, 65, [.ref l0, .int l1, .int l2, .int l3, .int 0], [.int 0, .int l2], (sh, M, J))) f_188_63 rfl ?_
      refine ev_nx (s1 := (188, 66, [.ref l0, .int l1, .int l2, .int l3, .int 0], [.int l1, .int 0, .int l2], (sh, M, J))) f_188_65 rfl ?_
      refine ev_br (s1 := (188, 75, [.ref l0, .int l1, .int l2, .int l3, .int 0], [.int l2], (sh, M, J))) (s2 := (188, 69, [.ref l0, .int l1, .int l2, .int l3, .int 0], [.int l2], (sh, M, J))) f_188_66 rfl ?_ ?_
      · refine ev_nx (s1 := (188, 76, [.ref l0, .int l1, .int l2, .int l3, .int 0], [.int 0, .int l2], (sh, M, J))) f_188_75 rfl ?_
        refine ev_nx (s1 := (188, 77, [.ref l0, .int l1, .int l2, .int l3, .int 0], [.int (l2 ||| 0)], (sh, M, J))) f_188_76 rfl ?_
        refine ev_nx (s1 := (188, 78, [.ref l0, .int l1, .int (l2 ||| 0), .int l3, .int 0], [], (sh, M, J))) f_188_77 rfl ?_
        refine ev_nx (s1 := (188, 80, [.ref l0, .int l1, .int (l2 ||| 0), .int l3, .int 0], [.int 0], (sh, M, J))) f_188_78 rfl ?_
        refine ev_nx (s1 := (188, 81, [.ref l0, .int l1, .int (l2 ||| 0), .int l3, .int 0], [.int l1, .int 0], (sh, M, J))) f_188_80 rfl ?_
        refine ev_br (s1 := (188, 89, [.ref l0, .int l1, .int (l2 ||| 0), .int l3, .int 0], [], (sh, M, J))) (s2 := (188, 84, [.ref l0, .int l1, .int (l2 ||| 0), .int l3, .int 0], [], (sh, M, J))) f_188_81 rfl ?_ ?_
        · refine ev_nx (s1 := (188, 90, [.ref l0, .int l1, .int (l2 ||| 0), .int l3, .int 0], [.int l1], (sh, M, J))) f_188_89 rfl ?_
          refine ev_nx (s1 := (188, 91, [.ref l0, .int l1, .int (l2 ||| 0), .int l3, .int 0], [], (sh, M, J))) f_188_90 rfl ?_
          refine ev_nx (s1 := (188, 94, [.ref l0, .int l1, .int (l2 ||| 0), .int (l3 + 1), .int 0], [], (sh, M, J))) f_188_91 rfl ?_
          refine ev_nx (s1 := (188, 6, [.ref l0, .int l1, .int (l2 ||| 0), .int (l3 + 1), .int 0], [], (sh, M, J))) f_188_94 rfl ?_
          exact (ev_kill hd_188_6).symm
        · refine ev_nx (s1 := (188, 86, [.ref l0, .int l1, .int (l2 ||| 0), .int l3, .int 0], [.int 0], (sh, M, J))) f_188_84 rfl ?_
          refine ev_nx (s1 := (188, 90, [.ref l0, .int l1, .int (l2 ||| 0), .int l3, .int 0], [.int 0], (sh, M, J))) f_188_86 rfl ?_
          refine ev_nx (s1 := (188, 91, [.ref l0, .int 0, .int (l2 ||| 0), .int l3, .int 0], [], (sh, M, J))) f_188_90 rfl ?_
          refine ev_nx (s1 := (188, 94, [.ref l0, .int 0, .int (l2 ||| 0), .int (l3 + 1), .int 0], [], (sh, M, J))) f_188_91 rfl ?_
          refine ev_nx (s1 := (188, 6, [.ref l0, .int 0, .int (l2 ||| 0), .int (l3 + 1), .int 0], [], (sh, M, J))) f_188_94 rfl ?_
          exact (ev_kill hd_188_6).symm
      · refine ev_nx (s1 := (188, 70, [.ref l0, .int l1, .int l2, .int l3, .int 0], [.int 1, .int l2], (sh, M, J))) f_188_69 rfl ?_
        refine ev_nx (s1 := (188, 71, [.ref l0, .int l1, .int l2, .int l3, .int 0], [.int l3, .int 1, .int l2], (sh, M, J))) f_188_70 rfl ?_
        refine ev_nx (s1 := (188, 72, [.ref l0, .int l1, .int l2, .int l3, .int 0], [.int ((1 : Int32) <<< (l3 &&& 31)), .int l2], (sh, M, J))) f_188_71 rfl ?_
        refine ev_nx (s1 := (188, 76, [.ref l0, .int l1, .int l2, .int l3, .int 0], [.int ((1 : Int32) <<< (l3 &&& 31)), .int l2], (sh, M, J))) f_188_72 rfl ?_
        refine ev_nx (s1 := (188, 77, [.ref l0, .int l1, .int l2, .int l3, .int 0], [.int (l2 ||| ((1 : Int32) <<< (l3 &&& 31)))], (sh, M, J))) f_188_76 rfl ?_
        refine ev_nx (s1 := (188, 78, [.ref l0, .int l1, .int (l2 ||| ((1 : Int32) <<< (l3 &&& 31))), .int l3, .int 0], [], (sh, M, J))) f_188_77 rfl ?_
        refine ev_nx (s1 := (188, 80, [.ref l0, .int l1, .int (l2 ||| ((1 : Int32) <<< (l3 &&& 31))), .int l3, .int 0], [.int 0], (sh, M, J))) f_188_78 rfl ?_
        refine ev_nx (s1 := (188, 81, [.ref l0, .int l1, .int (l2 ||| ((1 : Int32) <<< (l3 &&& 31))), .int l3, .int 0], [.int l1, .int 0], (sh, M, J))) f_188_80 rfl ?_
        refine ev_br (s1 := (188, 89, [.ref l0, .int l1, .int (l2 ||| ((1 : Int32) <<< (l3 &&& 31))), .int l3, .int 0], [], (sh, M, J))) (s2 := (188, 84, [.ref l0, .int l1, .int (l2 ||| ((1 : Int32) <<< (l3 &&& 31))), .int l3, .int 0], [], (sh, M, J))) f_188_81 rfl ?_ ?_
        · refine ev_nx (s1 := (188, 90, [.ref l0, .int l1, .int (l2 ||| ((1 : Int32) <<< (l3 &&& 31))), .int l3, .int 0], [.int l1], (sh, M, J))) f_188_89 rfl ?_
          refine ev_nx (s1 := (188, 91, [.ref l0, .int l1, .int (l2 ||| ((1 : Int32) <<< (l3 &&& 31))), .int l3, .int 0], [], (sh, M, J))) f_188_90 rfl ?_
          refine ev_nx (s1 := (188, 94, [.ref l0, .int l1, .int (l2 ||| ((1 : Int32) <<< (l3 &&& 31))), .int (l3 + 1), .int 0], [], (sh, M, J))) f_188_91 rfl ?_
          refine ev_nx (s1 := (188, 6, [.ref l0, .int l1, .int (l2 ||| ((1 : Int32) <<< (l3 &&& 31))), .int (l3 + 1), .int 0], [], (sh, M, J))) f_188_94 rfl ?_
          exact (ev_kill hd_188_6).symm
        · refine ev_nx (s1 := (188, 86, [.ref l0, .int l1, .int (l2 ||| ((1 : Int32) <<< (l3 &&& 31))), .int l3, .int 0], [.int 0], (sh, M, J))) f_188_84 rfl ?_
          refine ev_nx (s1 := (188, 90, [.ref l0, .int l1, .int (l2 ||| ((1 : Int32) <<< (l3 &&& 31))), .int l3, .int 0], [.int 0], (sh, M, J))) f_188_86 rfl ?_
          refine ev_nx (s1 := (188, 91, [.ref l0, .int 0, .int (l2 ||| ((1 : Int32) <<< (l3 &&& 31))), .int l3, .int 0], [], (sh, M, J))) f_188_90 rfl ?_
          refine ev_nx (s1 := (188, 94, [.ref l0, .int 0, .int (l2 ||| ((1 : Int32) <<< (l3 &&& 31))), .int (l3 + 1), .int 0], [], (sh, M, J))) f_188_91 rfl ?_
          refine ev_nx (s1 := (188, 6, [.ref l0, .int 0, .int (l2 ||| ((1 : Int32) <<< (l3 &&& 31))), .int (l3 + 1), .int 0], [], (sh, M, J))) f_188_94 rfl ?_
          exact (ev_kill hd_188_6).symm
    · refine ev_nx (s1 := (188, 57, [.ref l0, .int l1, .int l2, .int l3, .int 0], [.int 0], (sh, M, J))) f_188_56 rfl ?_
      refine ev_nx (s1 := (188, 61, [.ref l0, .int l1, .int l2, .int l3, .int 0], [.int 0], (sh, M, J))) f_188_57 rfl ?_
      refine ev_nx (s1 := (188, 62, [.ref l0, .int l1, .int 0, .int l3, .int 0], [], (sh, M, J))) f_188_61 rfl ?_
      refine ev_nx (s1 := (188, 63, [.ref l0, .int l1, .int 0, .int l3, .int 0], [.int 0], (sh, M, J))) f_188_62 rfl ?_
      refine ev_nx (s1 := (188, 65, [.ref l0, .int l1, .int 0, .int l3, .int 0], [.int 0, .int 0], (sh, M, J))) f_188_63 rfl ?_
      refine ev_nx (s1 := (188, 66, [.ref l0, .int l1, .int 0, .int l3, .int 0], [.int l1, .int 0, .int 0], (sh, M, J))) f_188_65 rfl ?_
      refine ev_br (s1 := (188, 75, [.ref l0, .int l1, .int 0, .int l3, .int 0], [.int 0], (sh, M, J))) (s2 := (188, 69, [.ref l0, .int l1, .int 0, .int l3, .int 0], [.int 0], (sh, M, J))) f_188_66 rfl ?_ ?_
      · refine ev_nx (s1 := (188, 76, [.ref l0, .int l1, .int 0, .int l3, .int 0], [.int 0, .int 0], (sh, M, J))) f_188_75 rfl ?_
        refine ev_nx (s1 := (188, 77, [.ref l0, .int l1, .int 0, .int l3, .int 0], [.int ((0 : Int32) ||| 0)], (sh, M, J))) f_188_76 rfl ?_
        refine ev_nx (s1 := (188, 78, [.ref l0, .int l1, .int ((0 : Int32) ||| 0), .int l3, .int 0], [], (sh, M, J))) f_188_77 rfl ?_
        refine ev_nx (s1 := (188, 80, [.ref l0, .int l1, .int ((0 : Int32) ||| 0), .int l3, .int 0], [.int 0], (sh, M, J))) f_188_78 rfl ?_
        refine ev_nx (s1 := (188, 81, [.ref l0, .int l1, .int ((0 : Int32) ||| 0), .int l3, .int 0], [.int l1, .int 0], (sh, M, J))) f_188_80 rfl ?_
        refine ev_br (s1 := (188, 89, [.ref l0, .int l1, .int ((0 : Int32) ||| 0), .int l3, .int 0], [], (sh, M, J))) (s2 := (188, 84, [.ref l0, .int l1, .int ((0 : Int32) ||| 0), .int l3, .int 0], [], (sh, M, J))) f_188_81 rfl ?_ ?_
        · refine ev_nx (s1 := (188, 90, [.ref l0, .int l1, .int ((0 : Int32) ||| 0), .int l3, .int 0], [.int l1], (sh, M, J))) f_188_89 rfl ?_
          refine ev_nx (s1 := (188, 91, [.ref l0, .int l1, .int ((0 : Int32) ||| 0), .int l3, .int 0], [], (sh, M, J))) f_188_90 rfl ?_
          refine ev_nx (s1 := (188, 94, [.ref l0, .int l1, .int ((0 : Int32) ||| 0), .int (l3 + 1), .int 0], [], (sh, M, J))) f_188_91 rfl ?_
          refine ev_nx (s1 := (188, 6, [.ref l0, .int l1, .int ((0 : Int32) ||| 0), .int (l3 + 1), .int 0], [], (sh, M, J))) f_188_94 rfl ?_
          exact (ev_kill hd_188_6).symm
        · refine ev_nx (s1 := (188, 86, [.ref l0, .int l1, .int ((0 : Int32) ||| 0), .int l3, .int 0], [.int 0], (sh, M, J))) f_188_84 rfl ?_
          refine ev_nx (s1 := (188, 90, [.ref l0, .int l1, .int ((0 : Int32) ||| 0), .int l3, .int 0], [.int 0], (sh, M, J))) f_188_86 rfl ?_
          refine ev_nx (s1 := (188, 91, [.ref l0, .int 0, .int ((0 : Int32) ||| 0), .int l3, .int 0], [], (sh, M, J))) f_188_90 rfl ?_
          refine ev_nx (s1 := (188, 94, [.ref l0, .int 0, .int ((0 : Int32) ||| 0), .int (l3 + 1), .int 0], [], (sh, M, J))) f_188_91 rfl ?_
          refine ev_nx (s1 := (188, 6, [.ref l0, .int 0, .int ((0 : Int32) ||| 0), .int (l3 + 1), .int 0], [], (sh, M, J))) f_188_94 rfl ?_
          exact (ev_kill hd_188_6).symm
      · refine ev_nx (s1 := (188, 70, [.ref l0, .int l1, .int 0, .int l3, .int 0], [.int 1, .int 0], (sh, M, J))) f_188_69 rfl ?_
        refine ev_nx (s1 := (188, 71, [.ref l0, .int l1, .int 0, .int l3, .int 0], [.int l3, .int 1, .int 0], (sh, M, J))) f_188_70 rfl ?_
        refine ev_nx (s1 := (188, 72, [.ref l0, .int l1, .int 0, .int l3, .int 0], [.int ((1 : Int32) <<< (l3 &&& 31)), .int 0], (sh, M, J))) f_188_71 rfl ?_
        refine ev_nx (s1 := (188, 76, [.ref l0, .int l1, .int 0, .int l3, .int 0], [.int ((1 : Int32) <<< (l3 &&& 31)), .int 0], (sh, M, J))) f_188_72 rfl ?_
        refine ev_nx (s1 := (188, 77, [.ref l0, .int l1, .int 0, .int l3, .int 0], [.int ((0 : Int32) ||| ((1 : Int32) <<< (l3 &&& 31)))], (sh, M, J))) f_188_76 rfl ?_
        refine ev_nx (s1 := (188, 78, [.ref l0, .int l1, .int ((0 : Int32) ||| ((1 : Int32) <<< (l3 &&& 31))), .int l3, .int 0], [], (sh, M, J))) f_188_77 rfl ?_
        refine ev_nx (s1 := (188, 80, [.ref l0, .int l1, .int ((0 : Int32) ||| ((1 : Int32) <<< (l3 &&& 31))), .int l3, .int 0], [.int 0], (sh, M, J))) f_188_78 rfl ?_
        refine ev_nx (s1 := (188, 81, [.ref l0, .int l1, .int ((0 : Int32) ||| ((1 : Int32) <<< (l3 &&& 31))), .int l3, .int 0], [.int l1, .int 0], (sh, M, J))) f_188_80 rfl ?_
        refine ev_br (s1 := (188, 89, [.ref l0, .int l1, .int ((0 : Int32) ||| ((1 : Int32) <<< (l3 &&& 31))), .int l3, .int 0], [], (sh, M, J))) (s2 := (188, 84, [.ref l0, .int l1, .int ((0 : Int32) ||| ((1 : Int32) <<< (l3 &&& 31))), .int l3, .int 0], [], (sh, M, J))) f_188_81 rfl ?_ ?_
        · refine ev_nx (s1 := (188, 90, [.ref l0, .int l1, .int ((0 : Int32) ||| ((1 : Int32) <<< (l3 &&& 31))), .int l3, .int 0], [.int l1], (sh, M, J))) f_188_89 rfl ?_
          refine ev_nx (s1 := (188, 91, [.ref l0, .int l1, .int ((0 : Int32) ||| ((1 : Int32) <<< (l3 &&& 31))), .int l3, .int 0], [], (sh, M, J))) f_188_90 rfl ?_
          refine ev_nx (s1 := (188, 94, [.ref l0, .int l1, .int ((0 : Int32) ||| ((1 : Int32) <<< (l3 &&& 31))), .int (l3 + 1), .int 0], [], (sh, M, J))) f_188_91 rfl ?_
          refine ev_nx (s1 := (188, 6, [.ref l0, .int l1, .int ((0 : Int32) ||| ((1 : Int32) <<< (l3 &&& 31))), .int (l3 + 1), .int 0], [], (sh, M, J))) f_188_94 rfl ?_
          exact (ev_kill hd_188_6).symm
        · refine ev_nx (s1 := (188, 86, [.ref l0, .int l1, .int ((0 : Int32) ||| ((1 : Int32) <<< (l3 &&& 31))), .int l3, .int 0], [.int 0], (sh, M, J))) f_188_84 rfl ?_
          refine ev_nx (s1 := (188, 90, [.ref l0, .int l1, .int ((0 : Int32) ||| ((1 : Int32) <<< (l3 &&& 31))), .int l3, .int 0], [.int 0], (sh, M, J))) f_188_86 rfl ?_
          refine ev_nx (s1 := (188, 91, [.ref l0, .int 0, .int ((0 : Int32) ||| ((1 : Int32) <<< (l3 &&& 31))), .int l3, .int 0], [], (sh, M, J))) f_188_90 rfl ?_
          refine ev_nx (s1 := (188, 94, [.ref l0, .int 0, .int ((0 : Int32) ||| ((1 : Int32) <<< (l3 &&& 31))), .int (l3 + 1), .int 0], [], (sh, M, J))) f_188_91 rfl ?_
          refine ev_nx (s1 := (188, 6, [.ref l0, .int 0, .int ((0 : Int32) ||| ((1 : Int32) <<< (l3 &&& 31))), .int (l3 + 1), .int 0], [], (sh, M, J))) f_188_94 rfl ?_
          exact (ev_kill hd_188_6).symm
theorem f_189_0 : xfind (xnth xTs 189) 0 = some (0, .iload_n 1, 1, (0, 0, 0, 0), .null, [], 0, 0, []) := rfl
theorem f_189_1 : xfind (xnth xTs 189) 1 = some (1, .i2l, 1, (0, 0, 0, 0), .null, [], 0, 0, []) := rfl
theorem f_189_2 : xfind (xnth xTs 189) 2 = some (2, .lconst 0, 1, (0, 0, 0, 0), (.long 0), [], 0, 0, []) := rfl
theorem f_189_3 : xfind (xnth xTs 189) 3 = some (3, .ldc2_w 249, 3, (0, 0, 0, 0), (.long 60), [], 1218, 0, []) := rfl
theorem f_189_6 : xfind (xnth xTs 189) 6 = some (6, .invokestatic 68, 3, (132, 3, 9, 6), .null, [], 897, 0, []) := rfl
theorem f_189_9 : xfind (xnth xTs 189) 9 = some (9, .ifCond .eq 15, 3, (0, 0, 0, 0), .null, [], 0, 0, []) := rfl
theorem f_189_12 : xfind (xnth xTs 189) 12 = some (12, .iload_n 2, 1, (0, 0, 0, 0), .null, [], 0, 0, []) := rfl
theorem f_189_13 : xfind (xnth xTs 189) 13 = some (13, .i2l, 1, (0, 0, 0, 0), .null, [], 0, 0, []) := rfl
theorem f_189_14 : xfind (xnth xTs 189) 14 = some (14, .lconst 0, 1, (0, 0, 0, 0), (.long 0), [], 0, 0, []) := rfl
theorem f_189_15 : xfind (xnth xTs 189) 15 = some (15, .ldc2_w 251, 3, (0, 0, 0, 0), (.long 100), [], 1219, 0, []) := rfl
theorem f_189_18 : xfind (xnth xTs 189) 18 = some (18, .invokestatic 68, 3, (132, 3, 9, 6), .null, [], 897, 0, []) := rfl
theorem f_189_21 : xfind (xnth xTs 189) 21 = some (21, .ifCond .ne 6, 3, (0, 0, 0, 0), .null, [], 0, 0, []) := rfl
theorem f_189_24 : xfind (xnth xTs 189) 24 = some (24, .ldc 91, 2, (0, 0, 0, 0), (.int (-1000000002)), [], 994, 0, []) := rfl
theorem f_189_26 : xfind (xnth xTs 189) 26 = some (26, .ireturn, 1, (0, 0, 0, 0), .null, [], 0, 0, []) := rfl
theorem f_189_27 : xfind (xnth xTs 189) 27 = some (27, .ldc2_w 253, 3, (0, 0, 0, 0), (.long 1000000000), [], 1220, 0, []) := rfl
theorem f_189_30 : xfind (xnth xTs 189) 30 = some (30, .lstore_n 3, 1, (0, 0, 0, 0), .null, [], 0, 0, []) := rfl
theorem f_189_31 : xfind (xnth xTs 189) 31 = some (31, .iconst 0, 1, (0, 0, 0, 0), (.int 0), [], 0, 0, []) := rfl
theorem f_189_32 : xfind (xnth xTs 189) 32 = some (32, .istore 5, 2, (0, 0, 0, 0), .null, [], 0, 0, []) := rfl
theorem f_189_34 : xfind (xnth xTs 189) 34 = some (34, .iload 5, 2, (0, 0, 0, 0), .null, [], 0, 1, [0, 4]) := rfl
theorem f_189_36 : xfind (xnth xTs 189) 36 = some (36, .iload_n 1, 1, (0, 0, 0, 0), .null, [], 0, 0, []) := rfl
theorem f_189_37 : xfind (xnth xTs 189) 37 = some (37, .if_icmp .ge 21, 3, (0, 0, 0, 0), .null, [], 0, 0, []) := rfl
theorem f_189_40 : xfind (xnth xTs 189) 40 = some (40, .lload_n 3, 1, (0, 0, 0, 0), .null, [], 0, 0, []) := rfl
theorem f_189_41 : xfind (xnth xTs 189) 41 = some (41, .bipush 100, 2, (0, 0, 0, 0), (.int 100), [], 0, 0, []) := rfl
theorem f_189_43 : xfind (xnth xTs 189) 43 = some (43, .iload_n 2, 1, (0, 0, 0, 0), .null, [], 0, 0, []) := rfl
theorem f_189_44 : xfind (xnth xTs 189) 44 = some (44, .isub, 1, (0, 0, 0, 0), .null, [], 0, 0, []) := rfl
theorem f_189_45 : xfind (xnth xTs 189) 45 = some (45, .i2l, 1, (0, 0, 0, 0), .null, [], 0, 0, []) := rfl
theorem f_189_46 : xfind (xnth xTs 189) 46 = some (46, .lmul, 1, (0, 0, 0, 0), .null, [], 0, 0, []) := rfl
theorem f_189_47 : xfind (xnth xTs 189) 47 = some (47, .ldc2_w 251, 3, (0, 0, 0, 0), (.long 100), [], 1219, 0, []) := rfl
theorem f_189_50 : xfind (xnth xTs 189) 50 = some (50, .ldiv, 1, (0, 0, 0, 0), .null, [], 0, 0, []) := rfl
theorem f_189_51 : xfind (xnth xTs 189) 51 = some (51, .lstore_n 3, 1, (0, 0, 0, 0), .null, [], 0, 0, []) := rfl
theorem f_189_52 : xfind (xnth xTs 189) 52 = some (52, .iinc 5 1, 3, (0, 0, 0, 0), .null, [], 0, 0, []) := rfl
theorem f_189_55 : xfind (xnth xTs 189) 55 = some (55, .goto (-21), 3, (0, 0, 0, 0), .null, [], 0, 0, []) := rfl
theorem f_189_58 : xfind (xnth xTs 189) 58 = some (58, .lload_n 3, 1, (0, 0, 0, 0), .null, [], 0, 0, []) := rfl
theorem f_189_59 : xfind (xnth xTs 189) 59 = some (59, .l2i, 1, (0, 0, 0, 0), .null, [], 0, 0, []) := rfl
theorem f_189_60 : xfind (xnth xTs 189) 60 = some (60, .ireturn, 1, (0, 0, 0, 0), .null, [], 0, 0, []) := rfl
theorem hd_189_34 : xhead 189 34 = some [0, 4] := rfl
theorem b_R_thread_0 (sh : xSh) (M : Nat → Nat → Int32) (J : Nat → Nat → Int64) (l0 : Nat) (l1 : Int32) (l2 : Int32) : ev (189, 0, [.ref l0, .int l1, .int l2, .null, .null, .null], [], (sh, M, J)) = ((ev (132, 0, [.long (l1 : Int32).toInt64, .null, .long 0, .null, .long 60, .null], [], (sh, M, J))).bind (fun r => ev (189, 9, [.ref l0, .int l1, .int l2, .null, .null, .null], r.1.toList ++ [], r.2))) := by
  refine ev_nx (s1 := (189, 1, [.ref l0, .int l1, .int l2, .null, .null, .null], [.int l1], (sh, M, J))) f_189_0 rfl ?_
  refine ev_nx (s1 := (189, 2, [.ref l0, .int l1, .int l2, .null, .null, .null], [.long (l1 : Int32).toInt64], (sh, M, J))) f_189_1 rfl ?_
  refine ev_nx (s1 := (189, 3, [.ref l0, .int l1, .int l2, .null, .null, .null], [.long 0, .long (l1 : Int32).toInt64], (sh, M, J))) f_189_2 rfl ?_
  refine ev_nx (s1 := (189, 6, [.ref l0, .int l1, .int l2, .null, .null, .null], [.long 60, .long 0, .long (l1 : Int32).toInt64], (sh, M, J))) f_189_3 rfl ?_
  exact ev_c1 (s1 := (132, 0, [.long (l1 : Int32).toInt64, .null, .long 0, .null, .long 60, .null], [], (sh, M, J))) (k := (189, 9, [.ref l0, .int l1, .int l2, .null, .null, .null], [])) f_189_6 rfl
theorem b_R_thread_9 (sh : xSh) (M : Nat → Nat → Int32) (J : Nat → Nat → Int64) (l0 : Nat) (l1 : Int32) (l2 : Int32) (k0 : Int32) : ev (189, 9, [.ref l0, .int l1, .int l2, .null, .null, .null], [.int k0], (sh, M, J)) = (bif decide (k0 = 0) then some (some (.int (-1000000002)), (sh, M, J)) else (ev (132, 0, [.long (l2 : Int32).toInt64, .null, .long 0, .null, .long 100, .null], [], (sh, M, J))).bind (fun r => ev (189, 21, [.ref l0, .int l1, .int l2, .null, .null, .null], r.1.toList ++ [], r.2))) := by
  refine ev_br (s1 := (189, 24, [.ref l0, .int l1, .int l2, .null, .null, .null], [], (sh, M, J))) (s2 := (189, 12, [.ref l0, .int l1, .int l2, .null, .null, .null], [], (sh, M, J))) f_189_9 rfl ?_ ?_
  · refine ev_nx (s1 := (189, 26, [.ref l0, .int l1, .int l2, .null, .null, .null], [.int (-1000000002)], (sh, M, J))) f_189_24 rfl ?_
    exact ev_r1 f_189_26 rfl
  · refine ev_nx (s1 := (189, 13, [.ref l0, .int l1, .int l2, .null, .null, .null], [.int l2], (sh, M, J))) f_189_12 rfl ?_
    refine ev_nx (s1 := (189, 14, [.ref l0, .int l1, .int l2, .null, .null, .null], [.long (l2 : Int32).toInt64], (sh, M, J))) f_189_13 rfl ?_
    refine ev_nx (s1 := (189, 15, [.ref l0, .int l1, .int l2, .null, .null, .null], [.long 0, .long (l2 : Int32).toInt64], (sh, M, J))) f_189_14 rfl ?_
    refine ev_nx (s1 := (189, 18, [.ref l0, .int l1, .int l2, .null, .null, .null], [.long 100, .long 0, .long (l2 : Int32).toInt64], (sh, M, J))) f_189_15 rfl ?_
    exact ev_c1 (s1 := (132, 0, [.long (l2 : Int32).toInt64, .null, .long 0, .null, .long 100, .null], [], (sh, M, J))) (k := (189, 21, [.ref l0, .int l1, .int l2, .null, .null, .null], [])) f_189_18 rfl
theorem b_R_thread_21 (sh : xSh) (M : Nat → Nat → Int32) (J : Nat → Nat → Int64) (l0 : Nat) (l1 : Int32) (l2 : Int32) (k0 : Int32) : ev (189, 21, [.ref l0, .int l1, .int l2, .null, .null, .null], [.int k0], (sh, M, J)) = (bif !decide (k0 = 0) then ev (189, 34, [.null, .int l1, .int l2, .long 1000000000, .null, .int 0], [], (sh, M, J)) else some (some (.int (-1000000002)), (sh, M, J))) := by
  refine ev_br (s1 := (189, 27, [.ref l0, .int l1, .int l2, .null, .null, .null], [], (sh, M, J))) (s2 := (189, 24, [.ref l0, .int l1, .int l2, .null, .null, .null], [], (sh, M, J))) f_189_21 rfl ?_ ?_
  · refine ev_nx (s1 := (189, 30, [.ref l0, .int l1, .int l2, .null, .null, .null], [.long 1000000000], (sh, M, J))) f_189_27 rfl ?_
    refine ev_nx (s1 := (189, 31, [.ref l0, .int l1, .int l2, .long 1000000000, .null, .null], [], (sh, M, J))) f_189_30 rfl ?_
    refine ev_nx (s1 := (189, 32, [.ref l0, .int l1, .int l2, .long 1000000000, .null, .null], [.int 0], (sh, M, J))) f_189_31 rfl ?_
    refine ev_nx (s1 := (189, 34, [.ref l0, .int l1, .int l2, .long 1000000000, .null, .int 0], [], (sh, M, J))) f_189_32 rfl ?_
    exact (ev_kill hd_189_34).symm
  · refine ev_nx (s1 := (189, 26, [.ref l0, .int l1, .int l2, .null, .null, .null], [.int (-1000000002)], (sh, M, J))) f_189_24 rfl ?_
    exact ev_r1 f_189_26 rfl
theorem b_R_thread_34 (sh : xSh) (M : Nat → Nat → Int32) (J : Nat → Nat → Int64) (l1 : Int32) (l2 : Int32) (l3 : Int64) (l5 : Int32) : ev (189, 34, [.null, .int l1, .int l2, .long l3, .null, .int l5], [], (sh, M, J)) = (bif decide (l1 ≤ l5) then some (some (.int (l3 : Int64).toInt32), (sh, M, J)) else ev (189, 34, [.null, .int l1, .int l2, .long ((l3 * (((100 : Int32) - l2) : Int32).toInt64) / 100), .null, .int (l5 + 1)], [], (sh, M, J))) := by
  refine ev_nx (s1 := (189, 36, [.null, .int l1, .int l2, .long l3, .null, .int l5], [.int l5], (sh, M, J))) f_189_34 rfl ?_
  refine ev_nx (s1 := (189, 37, [.null, .int l1, .int l2, .long l3, .null, .int l5], [.int l1, .int l5], (sh, M, J))) f_189_36 rfl ?_
  refine ev_br (s1 := (189, 58, [.null, .int l1, .int l2, .long l3, .null, .int l5], [], (sh, M, J))) (s2 := (189, 40, [.null, .int l1, .int l2, .long l3, .null, .int l5], [], (sh, M, J))) f_189_37 rfl ?_ ?_
  · refine ev_nx (s1 := (189, 59, [.null, .int l1, .int l2, .long l3, .null, .int l5], [.long l3], (sh, M, J))) f_189_58 rfl ?_
    refine ev_nx (s1 := (189, 60, [.null, .int l1, .int l2, .long l3, .null, .int l5], [.int (l3 : Int64).toInt32], (sh, M, J))) f_189_59 rfl ?_
    exact ev_r1 f_189_60 rfl
  · refine ev_nx (s1 := (189, 41, [.null, .int l1, .int l2, .long l3, .null, .int l5], [.long l3], (sh, M, J))) f_189_40 rfl ?_
    refine ev_nx (s1 := (189, 43, [.null, .int l1, .int l2, .long l3, .null, .int l5], [.int 100, .long l3], (sh, M, J))) f_189_41 rfl ?_
    refine ev_nx (s1 := (189, 44, [.null, .int l1, .int l2, .long l3, .null, .int l5], [.int l2, .int 100, .long l3], (sh, M, J))) f_189_43 rfl ?_
    refine ev_nx (s1 := (189, 45, [.null, .int l1, .int l2, .long l3, .null, .int l5], [.int ((100 : Int32) - l2), .long l3], (sh, M, J))) f_189_44 rfl ?_
    refine ev_nx (s1 := (189, 46, [.null, .int l1, .int l2, .long l3, .null, .int l5], [.long (((100 : Int32) - l2) : Int32).toInt64, .long l3], (sh, M, J))) f_189_45 rfl ?_
    refine ev_nx (s1 := (189, 47, [.null, .int l1, .int l2, .long l3, .null, .int l5], [.long (l3 * (((100 : Int32) - l2) : Int32).toInt64)], (sh, M, J))) f_189_46 rfl ?_
    refine ev_nx (s1 := (189, 50, [.null, .int l1, .int l2, .long l3, .null, .int l5], [.long 100, .long (l3 * (((100 : Int32) - l2) : Int32).toInt64)], (sh, M, J))) f_189_47 rfl ?_
    refine ev_nx (s1 := (189, 51, [.null, .int l1, .int l2, .long l3, .null, .int l5], [.long ((l3 * (((100 : Int32) - l2) : Int32).toInt64) / 100)], (sh, M, J))) f_189_50 rfl ?_
    refine ev_nx (s1 := (189, 52, [.null, .int l1, .int l2, .long ((l3 * (((100 : Int32) - l2) : Int32).toInt64) / 100), .null, .int l5], [], (sh, M, J))) f_189_51 rfl ?_
    refine ev_nx (s1 := (189, 55, [.null, .int l1, .int l2, .long ((l3 * (((100 : Int32) - l2) : Int32).toInt64) / 100), .null, .int (l5 + 1)], [], (sh, M, J))) f_189_52 rfl ?_
    refine ev_nx (s1 := (189, 34, [.null, .int l1, .int l2, .long ((l3 * (((100 : Int32) - l2) : Int32).toInt64) / 100), .null, .int (l5 + 1)], [], (sh, M, J))) f_189_55 rfl ?_
    exact rfl
theorem f_190_0 : xfind (xnth xTs 190) 0 = some (0, .aload_n 0, 1, (0, 0, 0, 0), .null, [], 0, 0, []) := rfl
theorem f_190_1 : xfind (xnth xTs 190) 1 = some (1, .iload_n 1, 1, (0, 0, 0, 0), .null, [], 0, 0, []) := rfl
theorem f_190_2 : xfind (xnth xTs 190) 2 = some (2, .invokevirtual 198, 3, (153, 1, 9, 2), .null, [], 1106, 0, []) := rfl
theorem f_190_5 : xfind (xnth xTs 190) 5 = some (5, .ifCond .ne 6, 3, (0, 0, 0, 0), .null, [], 0, 0, []) := rfl
theorem f_190_8 : xfind (xnth xTs 190) 8 = some (8, .ldc 192, 2, (0, 0, 0, 0), (.int (-1000000001)), [], 1092, 0, []) := rfl
theorem f_190_10 : xfind (xnth xTs 190) 10 = some (10, .ireturn, 1, (0, 0, 0, 0), .null, [], 0, 0, []) := rfl
theorem f_190_11 : xfind (xnth xTs 190) 11 = some (11, .aload_n 0, 1, (0, 0, 0, 0), .null, [], 0, 0, []) := rfl
theorem f_190_12 : xfind (xnth xTs 190) 12 = some (12, .getfield 83, 3, (9, 13, 0, 0), .null, [], 922, 0, []) := rfl
theorem f_190_15 : xfind (xnth xTs 190) 15 = some (15, .bipush 6, 2, (0, 0, 0, 0), (.int 6), [], 0, 0, []) := rfl
theorem f_190_17 : xfind (xnth xTs 190) 17 = some (17, .if_icmp .ne 6, 3, (0, 0, 0, 0), .null, [], 0, 0, []) := rfl
theorem f_190_20 : xfind (xnth xTs 190) 20 = some (20, .ldc 95, 2, (0, 0, 0, 0), (.int (-1000000004)), [], 995, 0, []) := rfl
theorem f_190_22 : xfind (xnth xTs 190) 22 = some (22, .ireturn, 1, (0, 0, 0, 0), .null, [], 0, 0, []) := rfl
theorem f_190_23 : xfind (xnth xTs 190) 23 = some (23, .aload_n 0, 1, (0, 0, 0, 0), .null, [], 0, 0, []) := rfl
theorem f_190_24 : xfind (xnth xTs 190) 24 = some (24, .getfield 39, 3, (9, 12, 1, 0), .null, [], 921, 0, []) := rfl
theorem f_190_27 : xfind (xnth xTs 190) 27 = some (27, .iconst 2, 1, (0, 0, 0, 0), (.int 2), [], 0, 0, []) := rfl
theorem f_190_28 : xfind (xnth xTs 190) 28 = some (28, .aload_n 0, 1, (0, 0, 0, 0), .null, [], 0, 0, []) := rfl
theorem f_190_29 : xfind (xnth xTs 190) 29 = some (29, .getfield 83, 3, (9, 13, 0, 0), .null, [], 922, 0, []) := rfl
theorem f_190_32 : xfind (xnth xTs 190) 32 = some (32, .imul, 1, (0, 0, 0, 0), .null, [], 0, 0, []) := rfl
theorem f_190_33 : xfind (xnth xTs 190) 33 = some (33, .iload_n 1, 1, (0, 0, 0, 0), .null, [], 0, 0, []) := rfl
theorem f_190_34 : xfind (xnth xTs 190) 34 = some (34, .iastore, 1, (0, 0, 0, 0), .null, [], 0, 0, []) := rfl
theorem f_190_35 : xfind (xnth xTs 190) 35 = some (35, .aload_n 0, 1, (0, 0, 0, 0), .null, [], 0, 0, []) := rfl
theorem f_190_36 : xfind (xnth xTs 190) 36 = some (36, .getfield 39, 3, (9, 12, 1, 0), .null, [], 921, 0, []) := rfl
theorem f_190_39 : xfind (xnth xTs 190) 39 = some (39, .iconst 2, 1, (0, 0, 0, 0), (.int 2), [], 0, 0, []) := rfl
theorem f_190_40 : xfind (xnth xTs 190) 40 = some (40, .aload_n 0, 1, (0, 0, 0, 0), .null, [], 0, 0, []) := rfl
theorem f_190_41 : xfind (xnth xTs 190) 41 = some (41, .getfield 83, 3, (9, 13, 0, 0), .null, [], 922, 0, []) := rfl
theorem f_190_44 : xfind (xnth xTs 190) 44 = some (44, .imul, 1, (0, 0, 0, 0), .null, [], 0, 0, []) := rfl
theorem f_190_45 : xfind (xnth xTs 190) 45 = some (45, .iconst 1, 1, (0, 0, 0, 0), (.int 1), [], 0, 0, []) := rfl
theorem f_190_46 : xfind (xnth xTs 190) 46 = some (46, .iadd, 1, (0, 0, 0, 0), .null, [], 0, 0, []) := rfl
theorem f_190_47 : xfind (xnth xTs 190) 47 = some (47, .iload_n 2, 1, (0, 0, 0, 0), .null, [], 0, 0, []) := rfl
theorem f_190_48 : xfind (xnth xTs 190) 48 = some (48, .ifCond .eq 7, 3, (0, 0, 0, 0), .null, [], 0, 0, []) := rfl
theorem f_190_51 : xfind (xnth xTs 190) 51 = some (51, .iconst 1, 1, (0, 0, 0, 0), (.int 1), [], 0, 0, []) := rfl
theorem f_190_52 : xfind (xnth xTs 190) 52 = some (52, .goto 4, 3, (0, 0, 0, 0), .null, [], 0, 0, []) := rfl
theorem f_190_55 : xfind (xnth xTs 190) 55 = some (55, .iconst 0, 1, (0, 0, 0, 0), (.int 0), [], 0, 0, []) := rfl
theorem f_190_56 : xfind (xnth xTs 190) 56 = some (56, .iastore, 1, (0, 0, 0, 0), .null, [], 0, 0, []) := rfl
theorem f_190_57 : xfind (xnth xTs 190) 57 = some (57, .aload_n 0, 1, (0, 0, 0, 0), .null, [], 0, 0, []) := rfl
theorem f_190_58 : xfind (xnth xTs 190) 58 = some (58, .dup, 1, (0, 0, 0, 0), .null, [], 0, 0, []) := rfl
theorem f_190_59 : xfind (xnth xTs 190) 59 = some (59, .getfield 83, 3, (9, 13, 0, 0), .null, [], 922, 0, []) := rfl
theorem f_190_62 : xfind (xnth xTs 190) 62 = some (62, .iconst 1, 1, (0, 0, 0, 0), (.int 1), [], 0, 0, []) := rfl
theorem f_190_63 : xfind (xnth xTs 190) 63 = some (63, .iadd, 1, (0, 0, 0, 0), .null, [], 0, 0, []) := rfl
theorem f_190_64 : xfind (xnth xTs 190) 64 = some (64, .putfield 83, 3, (9, 13, 0, 0), .null, [], 922, 0, []) := rfl
theorem f_190_67 : xfind (xnth xTs 190) 67 = some (67, .aload_n 0, 1, (0, 0, 0, 0), .null, [], 0, 0, []) := rfl
theorem f_190_68 : xfind (xnth xTs 190) 68 = some (68, .getfield 83, 3, (9, 13, 0, 0), .null, [], 922, 0, []) := rfl
theorem f_190_71 : xfind (xnth xTs 190) 71 = some (71, .ireturn, 1, (0, 0, 0, 0), .null, [], 0, 0, []) := rfl
theorem b_R_see_0 (sh : xSh) (M : Nat → Nat → Int32) (J : Nat → Nat → Int64) (l0 : Nat) (l1 : Int32) (l2 : Int32) : ev (190, 0, [.ref l0, .int l1, .int l2], [], (sh, M, J)) = (bif (decide ((sh.2.2.1 l0).1 = 9) && true) then (ev (153, 0, [.ref l0, .int l1], [], (sh, M, J))).bind (fun r => ev (190, 5, [.ref l0, .int l1, .int l2], r.1.toList ++ [], r.2)) else none) := by
  refine ev_nx (s1 := (190, 1, [.ref l0, .int l1, .int l2], [.ref l0], (sh, M, J))) f_190_0 rfl ?_
  refine ev_nx (s1 := (190, 2, [.ref l0, .int l1, .int l2], [.int l1, .ref l0], (sh, M, J))) f_190_1 rfl ?_
  exact ev_ca (cc := (decide ((sh.2.2.1 l0).1 = 9) && true)) (s1 := (153, 0, [.ref l0, .int l1], [], (sh, M, J))) (k := (190, 5, [.ref l0, .int l1, .int l2], [])) f_190_2 rfl
theorem b_R_see_5 (sh : xSh) (M : Nat → Nat → Int32) (J : Nat → Nat → Int64) (l0 : Nat) (l1 : Int32) (l2 : Int32) (k0 : Int32) : ev (190, 5, [.ref l0, .int l1, .int l2], [.int k0], (sh, M, J)) = (bif !decide (k0 = 0) then bif decide ((sh.2.2.1 l0).1 = 9) then bif !decide ((M l0 13) = 6) then bif decide ((sh.2.2.1 l0).1 = 9) then bif decide ((sh.2.2.1 l0).1 = 9) then bif (decide ((sh.2.2.1 (sh.2.2.2 l0 12)).1 = 11) && xin ((2 : Int32) * (M l0 13)) (sh.2.2.1 (sh.2.2.2 l0 12)).2) then bif decide ((sh.2.2.1 l0).1 = 9) then bif decide ((sh.2.2.1 l0).1 = 9) then bif decide (l2 = 0) then bif (decide ((sh.2.2.1 (sh.2.2.2 l0 12)).1 = 11) && xin (((2 : Int32) * ((xu M (sh.2.2.2 l0 12) (((2 : Int32) * (M l0 13)) : Int32).toNatClampNeg l1) l0 13)) + 1) (sh.2.2.1 (sh.2.2.2 l0 12)).2) then bif decide ((sh.2.2.1 l0).1 = 9) then bif decide ((sh.2.2.1 l0).1 = 9) then bif decide ((sh.2.2.1 l0).1 = 9) then some (some (.int ((xu (xu (xu M (sh.2.2.2 l0 12) (((2 : Int32) * (M l0 13)) : Int32).toNatClampNeg l1) (sh.2.2.2 l0 12) ((((2 : Int32) * ((xu M (sh.2.2.2 l0 12) (((2 : Int32) * (M l0 13)) : Int32).toNatClampNeg l1) l0 13)) + 1) : Int32).toNatClampNeg 0) l0 13 (((xu (xu M (sh.2.2.2 l0 12) (((2 : Int32) * (M l0 13)) : Int32).toNatClampNeg l1) (sh.2.2.2 l0 12) ((((2 : Int32) * ((xu M (sh.2.2.2 l0 12) (((2 : Int32) * (M l0 13)) : Int32).toNatClampNeg l1) l0 13)) + 1) : Int32).toNatClampNeg 0) l0 13) + 1)) l0 13)), (sh, (xu (xu (xu M (sh.2.2.2 l0 12) (((2 : Int32) * (M l0 13)) : Int32).toNatClampNeg l1) (sh.2.2.2 l0 12) ((((2 : Int32) * ((xu M (sh.2.2.2 l0 12) (((2 : Int32) * (M l0 13)) : Int32).toNatClampNeg l1) l0 13)) + 1) : Int32).toNatClampNeg 0) l0 13 (((xu (xu M (sh.2.2.2 l0 12) (((2 : Int32) * (M l0 13)) : Int32).toNatClampNeg l1) (sh.2.2.2 l0 12) ((((2 : Int32) * ((xu M (sh.2.2.2 l0 12) (((2 : Int32) * (M l0 13)) : Int32).toNatClampNeg l1) l0 13)) + 1) : Int32).toNatClampNeg 0) l0 13) + 1)), J)) else none else none else none else none else bif (decide ((sh.2.2.1 (sh.2.2.2 l0 12)).1 = 11) && xin (((2 : Int32) * ((xu M (sh.2.2.2 l0 12) (((2 : Int32) * (M l0 13)) : Int32).toNatClampNeg l1) l0 13)) + 1) (sh.2.2.1 (sh.2.2.2 l0 12)).2) then bif decide ((sh.2.2.1 l0).1 = 9) then bif decide ((sh.2.2.1 l0).1 = 9) then bif decide ((sh.2.2.1 l0).1 = 9) then some (some (.int ((xu (xu (xu M (sh.2.2.2 l0 12) (((2 : Int32) * (M l0 13)) : Int32).toNatClampNeg l1) (sh.2.2.2 l0 12) ((((2 : Int32) * ((xu M (sh.2.2.2 l0 12) (((2 : Int32) * (M l0 13)) : Int32).toNatClampNeg l1) l0 13)) + 1) : Int32).toNatClampNeg 1) l0 13 (((xu (xu M (sh.2.2.2 l0 12) (((2 : Int32) * (M l0 13)) : Int32).toNatClampNeg l1) (sh.2.2.2 l0 12) ((((2 : Int32) * ((xu M (sh.2.2.2 l0 12) (((2 : Int32) * (M l0 13)) : Int32).toNatClampNeg l1) l0 13)) + 1) : Int32).toNatClampNeg 1) l0 13) + 1)) l0 13)), (sh, (xu (xu (xu M (sh.2.2.2 l0 12) (((2 : Int32) * (M l0 13)) : Int32).toNatClampNeg l1) (sh.2.2.2 l0 12) ((((2 : Int32) * ((xu M (sh.2.2.2 l0 12) (((2 : Int32) * (M l0 13)) : Int32).toNatClampNeg l1) l0 13)) + 1) : Int32).toNatClampNeg 1) l0 13 (((xu (xu M (sh.2.2.2 l0 12) (((2 : Int32) * (M l0 13)) : Int32).toNatClampNeg l1) (sh.2.2.2 l0 12) ((((2 : Int32) * ((xu M (sh.2.2.2 l0 12) (((2 : Int32) * (M l0 13)) : Int32).toNatClampNeg l1) l0 13)) + 1) : Int32).toNatClampNeg 1) l0 13) + 1)), J)) else none else none else none else none else none else none else none else none else none else some (some (.int (-1000000004)), (sh, M, J)) else none else some (some (.int (-1000000001)), (sh, M, J))) := by
  refine ev_br (s1 := (190, 11, [.ref l0, .int l1, .int l2], [], (sh, M, J))) (s2 := (190, 8, [.ref l0, .int l1, .int l2], [], (sh, M, J))) f_190_5 rfl ?_ ?_
  · refine ev_nx (s1 := (190, 12, [.ref l0, .int l1, .int l2], [.ref l0], (sh, M, J))) f_190_11 rfl ?_
    refine ev_gd (s1 := (190, 15, [.ref l0, .int l1, .int l2], [.int (M l0 13)], (sh, M, J))) f_190_12 rfl ?_
    refine ev_nx (s1 := (190, 17, [.ref l0, .int l1, .int l2], [.int 6, .int (M l0 13)], (sh, M, J))) f_190_15 rfl ?_
    refine ev_br (s1 := (190, 23, [.ref l0, .int l1, .int l2], [], (sh, M, J))) (s2 := (190, 20, [.ref l0, .int l1, .int l2], [], (sh, M, J))) f_190_17 rfl ?_ ?_
    · refine ev_nx (s1 := (190, 24, [.ref l0, .int l1, .int l2], [.ref l0], (sh, M, J))) f_190_23 rfl ?_
      refine ev_gd (s1 := (190, 27, [.ref l0, .int l1, .int l2], [.ref (sh.2.2.2 l0 12)], (sh, M, J))) f_190_24 rfl ?_
      refine ev_nx (s1 := (190, 28, [.ref l0, .int l1, .int l2], [.int 2, .ref (sh.2.2.2 l0 12)], (sh, M, J))) f_190_27 rfl ?_
      refine ev_nx (s1 := (190, 29, [.ref l0, .int l1, .int l2], [.ref l0, .int 2, .ref (sh.2.2.2 l0 12)], (sh, M, J))) f_190_28 rfl ?_
      refine ev_gd (s1 := (190, 32, [.ref l0, .int l1, .int l2], [.int (M l0 13), .int 2, .ref (sh.2.2.2 l0 12)], (sh, M, J))) f_190_29 rfl ?_
      refine ev_nx (s1 := (190, 33, [.ref l0, .int l1, .int l2], [.int ((2 : Int32) * (M l0 13)), .ref (sh.2.2.2 l0 12)], (sh, M, J))) f_190_32 rfl ?_
      refine ev_nx (s1 := (190, 34, [.ref l0, .int l1, .int l2], [.int l1, .int ((2 : Int32) * (M l0 13)), .ref (sh.2.2.2 l0 12)], (sh, M, J))) f_190_33 rfl ?_
      refine ev_gd (s1 := (190, 35, [.ref l0, .int l1, .int l2], [], (sh, (xu M (sh.2.2.2 l0 12) (((2 : Int32) * (M l0 13)) : Int32).toNatClampNeg l1), J))) f_190_34 rfl ?_
      refine ev_nx (s1 := (190, 36, [.ref l0, .int l1, .int l2], [.ref l0], (sh, (xu M (sh.2.2.2 l0 12) (((2 : Int32) * (M l0 13)) : Int32).toNatClampNeg l1), J))) f_190_35 rfl ?_
      refine ev_gd (s1 := (190, 39, [.ref l0, .int l1, .int l2], [.ref (sh.2.2.2 l0 12)], (sh, (xu M (sh.2.2.2 l0 12) (((2 : Int32) * (M l0 13)) : Int32).toNatClampNeg l1), J))) f_190_36 rfl ?_
      refine ev_nx (s1 := (190, 40, [.ref l0, .int l1, .int l2], [.int 2, .ref (sh.2.2.2 l0 12)], (sh, (xu M (sh.2.2.2 l0 12) (((2 : Int32) * (M l0 13)) : Int32).toNatClampNeg l1), J))) f_190_39 rfl ?_
      refine ev_nx (s1 := (190, 41, [.ref l0, .int l1, .int l2], [.ref l0, .int 2, .ref (sh.2.2.2 l0 12)], (sh, (xu M (sh.2.2.2 l0 12) (((2 : Int32) * (M l0 13)) : Int32).toNatClampNeg l1), J))) f_190_40 rfl ?_
      refine ev_gd (s1 := (190, 44, [.ref l0, .int l1, .int l2], [.int ((xu M (sh.2.2.2 l0 12) (((2 : Int32) * (M l0 13)) : Int32).toNatClampNeg l1) l0 13), .int 2, .ref (sh.2.2.2 l0 12)], (sh, (xu M (sh.2.2.2 l0 12) (((2 : Int32) * (M l0 13)) : Int32).toNatClampNeg l1), J))) f_190_41 rfl ?_
      refine ev_nx (s1 := (190, 45, [.ref l0, .int l1, .int l2], [.int ((2 : Int32) * ((xu M (sh.2.2.2 l0 12) (((2 : Int32) * (M l0 13)) : Int32).toNatClampNeg l1) l0 13)), .ref (sh.2.2.2 l0 12)], (sh, (xu M (sh.2.2.2 l0 12) (((2 : Int32) * (M l0 13)) : Int32).toNatClampNeg l1), J))) f_190_44 rfl ?_
      refine ev_nx (s1 := (190, 46, [.ref l0, .int l1, .int l2], [.int 1, .int ((2 : Int32) * ((xu M (sh.2.2.2 l0 12) (((2 : Int32) * (M l0 13)) : Int32).toNatClampNeg l1) l0 13)), .ref (sh.2.2.2 l0 12)], (sh, (xu M (sh.2.2.2 l0 12) (((2 : Int32) * (M l0 13)) : Int32).toNatClampNeg l1), J))) f_190_45 rfl ?_
      refine ev_nx (s1 := (190, 47, [.ref l0, .int l1, .int l2], [.int (((2 : Int32) * ((xu M (sh.2.2.2 l0 12) (((2 : Int32) * (M l0 13)) : Int32).toNatClampNeg l1) l0 13)) + 1), .ref (sh.2.2.2 l0 12)], (sh, (xu M (sh.2.2.2 l0 12) (((2 : Int32) * (M l0 13)) : Int32).toNatClampNeg l1), J))) f_190_46 rfl ?_
      refine ev_nx (s1 := (190, 48, [.ref l0, .int l1, .int l2], [.int l2, .int (((2 : Int32) * ((xu M (sh.2.2.2 l0 12) (((2 : Int32) * (M l0 13)) : Int32).toNatClampNeg l1) l0 13)) + 1), .ref (sh.2.2.2 l0 12)], (sh, (xu M (sh.2.2.2 l0 12) (((2 : Int32) * (M l0 13)) : Int32).toNatClampNeg l1), J))) f_190_47 rfl ?_
      refine ev_br (s1 := (190, 55, [.ref l0, .int l1, .int l2], [.int (((2 : Int32) * ((xu M (sh.2.2.2 l0 12) (((2 : Int32) * (M l0 13)) : Int32).toNatClampNeg l1) l0 13)) + 1), .ref (sh.2.2.2 l0 12)], (sh, (xu M (sh.2.2.2 l0 12) (((2 : Int32) * (M l0 13)) : Int32).toNatClampNeg l1), J))) (s2 := (190, 51, [.ref l0, .int l1, .int l2], [.int (((2 : Int32) * ((xu M (sh.2.2.2 l0 12) (((2 : Int32) * (M l0 13)) : Int32).toNatClampNeg l1) l0 13)) + 1), .ref (sh.2.2.2 l0 12)], (sh, (xu M (sh.2.2.2 l0 12) (((2 : Int32) * (M l0 13)) : Int32).toNatClampNeg l1), J))) f_190_48 rfl ?_ ?_
      · refine ev_nx (s1 := (190, 56, [.ref l0, .int l1, .int l2], [.int 0, .int (((2 : Int32) * ((xu M (sh.2.2.2 l0 12) (((2 : Int32) * (M l0 13)) : Int32).toNatClampNeg l1) l0 13)) + 1), .ref (sh.2.2.2 l0 12)], (sh, (xu M (sh.2.2.2 l0 12) (((2 : Int32) * (M l0 13)) : Int32).toNatClampNeg l1), J))) f_190_55 rfl ?_
        refine ev_gd (s1 := (190, 57, [.ref l0, .int l1, .int l2], [], (sh, (xu (xu M (sh.2.2.2 l0 12) (((2 : Int32) * (M l0 13)) : Int32).toNatClampNeg l1) (sh.2.2.2 l0 12) ((((2 : Int32) * ((xu M (sh.2.2.2 l0 12) (((2 : Int32) * (M l0 13)) : Int32).toNatClampNeg l1) l0 13)) + 1) : Int32).toNatClampNeg 0), J))) f_190_56 rfl ?_
        refine ev_nx (s1 := (190, 58, [.ref l0, .int l1, .int l2], [.ref l0], (sh, (xu (xu M (sh.2.2.2 l0 12) (((2 : Int32) * (M l0 13)) : Int32).toNatClampNeg l1) (sh.2.2.2 l0 12) ((((2 : Int32) * ((xu M (sh.2.2.2 l0 12) (((2 : Int32) * (M l0 13)) : Int32).toNatClampNeg l1) l0 13)) + 1) : Int32).toNatClampNeg 0), J))) f_190_57 rfl ?_
        refine ev_nx (s1 := (190, 59, [.ref l0, .int l1, .int l2], [.ref l0, .ref l0], (sh, (xu (xu M (sh.2.2.2 l0 12) (((2 : Int32) * (M l0 13)) : Int32).toNatClampNeg l1) (sh.2.2.2 l0 12) ((((2 : Int32) * ((xu M (sh.2.2.2 l0 12) (((2 : Int32) * (M l0 13)) : Int32).toNatClampNeg l1) l0 13)) + 1) : Int32).toNatClampNeg 0), J))) f_190_58 rfl ?_
        refine ev_gd (s1 := (190, 62, [.ref l0, .int l1, .int l2], [.int ((xu (xu M (sh.2.2.2 l0 12) (((2 : Int32) * (M l0 13)) : Int32).toNatClampNeg l1) (sh.2.2.2 l0 12) ((((2 : Int32) * ((xu M (sh.2.2.2 l0 12) (((2 : Int32) * (M l0 13)) : Int32).toNatClampNeg l1) l0 13)) + 1) : Int32).toNatClampNeg 0) l0 13), .ref l0], (sh, (xu (xu M (sh.2.2.2 l0 12) (((2 : Int32) * (M l0 13)) : Int32).toNatClampNeg l1) (sh.2.2.2 l0 12) ((((2 : Int32) * ((xu M (sh.2.2.2 l0 12) (((2 : Int32) * (M l0 13)) : Int32).toNatClampNeg l1) l0 13)) + 1) : Int32).toNatClampNeg 0), J))) f_190_59 rfl ?_
        refine ev_nx (s1 := (190, 63, [.ref l0, .int l1, .int l2], [.int 1, .int ((xu (xu M (sh.2.2.2 l0 12) (((2 : Int32) * (M l0 13)) : Int32).toNatClampNeg l1) (sh.2.2.2 l0 12) ((((2 : Int32) * ((xu M (sh.2.2.2 l0 12) (((2 : Int32) * (M l0 13)) : Int32).toNatClampNeg l1) l0 13)) + 1) : Int32).toNatClampNeg 0) l0 13), .ref l0], (sh, (xu (xu M (sh.2.2.2 l0 12) (((2 : Int32) * (M l0 13)) : Int32).toNatClampNeg l1) (sh.2.2.2 l0 12) ((((2 : Int32) * ((xu M (sh.2.2.2 l0 12) (((2 : Int32) * (M l0 13)) : Int32).toNatClampNeg l1) l0 13)) + 1) : Int32).toNatClampNeg 0), J))) f_190_62 rfl ?_
        refine ev_nx (s1 := (190, 64, [.ref l0, .int l1, .int l2], [.int (((xu (xu M (sh.2.2.2 l0 12) (((2 : Int32) * (M l0 13)) : Int32).toNatClampNeg l1) (sh.2.2.2 l0 12) ((((2 : Int32) * ((xu M (sh.2.2.2 l0 12) (((2 : Int32) * (M l0 13)) : Int32).toNatClampNeg l1) l0 13)) + 1) : Int32).toNatClampNeg 0) l0 13) + 1), .ref l0], (sh, (xu (xu M (sh.2.2.2 l0 12) (((2 : Int32) * (M l0 13)) : Int32).toNatClampNeg l1) (sh.2.2.2 l0 12) ((((2 : Int32) * ((xu M (sh.2.2.2 l0 12) (((2 : Int32) * (M l0 13)) : Int32).toNatClampNeg l1) l0 13)) + 1) : Int32).toNatClampNeg 0), J))) f_190_63 rfl ?_
        refine ev_gd (s1 := (190, 67, [.ref l0, .int l1, .int l2], [], (sh, (xu (xu (xu M (sh.2.2.2 l0 12) (((2 : Int32) * (M l0 13)) : Int32).toNatClampNeg l1) (sh.2.2.2 l0 12) ((((2 : Int32) * ((xu M (sh.2.2.2 l0 12) (((2 : Int32) * (M l0 13)) : Int32).toNatClampNeg l1) l0 13)) + 1) : Int32).toNatClampNeg 0) l0 13 (((xu (xu M (sh.2.2.2 l0 12) (((2 : Int32) * (M l0 13)) : Int32).toNatClampNeg l1) (sh.2.2.2 l0 12) ((((2 : Int32) * ((xu M (sh.2.2.2 l0 12) (((2 : Int32) * (M l0 13)) : Int32).toNatClampNeg l1) l0 13)) + 1) : Int32).toNatClampNeg 0) l0 13) + 1)), J))) f_190_64 rfl ?_
        refine ev_nx (s1 := (190, 68, [.ref l0, .int l1, .int l2], [.ref l0], (sh, (xu (xu (xu M (sh.2.2.2 l0 12) (((2 : Int32) * (M l0 13)) : Int32).toNatClampNeg l1) (sh.2.2.2 l0 12) ((((2 : Int32) * ((xu M (sh.2.2.2 l0 12) (((2 : Int32) * (M l0 13)) : Int32).toNatClampNeg l1) l0 13)) + 1) : Int32).toNatClampNeg 0) l0 13 (((xu (xu M (sh.2.2.2 l0 12) (((2 : Int32) * (M l0 13)) : Int32).toNatClampNeg l1) (sh.2.2.2 l0 12) ((((2 : Int32) * ((xu M (sh.2.2.2 l0 12) (((2 : Int32) * (M l0 13)) : Int32).toNatClampNeg l1) l0 13)) + 1) : Int32).toNatClampNeg 0) l0 13) + 1)), J))) f_190_67 rfl ?_
        refine ev_gd (s1 := (190, 71, [.ref l0, .int l1, .int l2], [.int ((xu (xu (xu M (sh.2.2.2 l0 12) (((2 : Int32) * (M l0 13)) : Int32).toNatClampNeg l1) (sh.2.2.2 l0 12) ((((2 : Int32) * ((xu M (sh.2.2.2 l0 12) (((2 : Int32) * (M l0 13)) : Int32).toNatClampNeg l1) l0 13)) + 1) : Int32).toNatClampNeg 0) l0 13 (((xu (xu M (sh.2.2.2 l0 12) (((2 : Int32) * (M l0 13)) : Int32).toNatClampNeg l1) (sh.2.2.2 l0 12) ((((2 : Int32) * ((xu M (sh.2.2.2 l0 12) (((2 : Int32) * (M l0 13)) : Int32).toNatClampNeg l1) l0 13)) + 1) : Int32).toNatClampNeg 0) l0 13) + 1)) l0 13)], (sh, (xu (xu (xu M (sh.2.2.2 l0 12) (((2 : Int32) * (M l0 13)) : Int32).toNatClampNeg l1) (sh.2.2.2 l0 12) ((((2 : Int32) * ((xu M (sh.2.2.2 l0 12) (((2 : Int32) * (M l0 13)) : Int32).toNatClampNeg l1) l0 13)) + 1) : Int32).toNatClampNeg 0) l0 13 (((xu (xu M (sh.2.2.2 l0 12) (((2 : Int32) * (M l0 13)) : Int32).toNatClampNeg l1) (sh.2.2.2 l0 12) ((((2 : Int32) * ((xu M (sh.2.2.2 l0 12) (((2 : Int32) * (M l0 13)) : Int32).toNatClampNeg l1) l0 13)) + 1) : Int32).toNatClampNeg 0) l0 13) + 1)), J))) f_190_68 rfl ?_
        exact ev_r1 f_190_71 rfl
      · refine ev_nx (s1 := (190, 52, [.ref l0, .int l1, .int l2], [.int 1, .int (((2 : Int32) * ((xu M (sh.2.2.2 l0 12) (((2 : Int32) * (M l0 13)) : Int32).toNatClampNeg l1) l0 13)) + 1), .ref (sh.2.2.2 l0 12)], (sh, (xu M (sh.2.2.2 l0 12) (((2 : Int32) * (M l0 13)) : Int32).toNatClampNeg l1), J))) f_190_51 rfl ?_
        refine ev_nx (s1 := (190, 56, [.ref l0, .int l1, .int l2], [.int 1, .int (((2 : Int32) * ((xu M (sh.2.2.2 l0 12) (((2 : Int32) * (M l0 13)) : Int32).toNatClampNeg l1) l0 13)) + 1), .ref (sh.2.2.2 l0 12)], (sh, (xu M (sh.2.2.2 l0 12) (((2 : Int32) * (M l0 13)) : Int32).toNatClampNeg l1), J))) f_190_52 rfl ?_
        refine ev_gd (s1 := (190, 57, [.ref l0, .int l1, .int l2], [], (sh, (xu (xu M (sh.2.2.2 l0 12) (((2 : Int32) * (M l0 13)) : Int32).toNatClampNeg l1) (sh.2.2.2 l0 12) ((((2 : Int32) * ((xu M (sh.2.2.2 l0 12) (((2 : Int32) * (M l0 13)) : Int32).toNatClampNeg l1) l0 13)) + 1) : Int32).toNatClampNeg 1), J))) f_190_56 rfl ?_
        refine ev_nx (s1 := (190, 58, [.ref l0, .int l1, .int l2], [.ref l0], (sh, (xu (xu M (sh.2.2.2 l0 12) (((2 : Int32) * (M l0 13)) : Int32).toNatClampNeg l1) (sh.2.2.2 l0 12) ((((2 : Int32) * ((xu M (sh.2.2.2 l0 12) (((2 : Int32) * (M l0 13)) : Int32).toNatClampNeg l1) l0 13)) + 1) : Int32).toNatClampNeg 1), J))) f_190_57 rfl ?_
        refine ev_nx (s1 := (190, 59, [.ref l0, .int l1, .int l2], [.ref l0, .ref l0], (sh, (xu (xu M (sh.2.2.2 l0 12) (((2 : Int32) * (M l0 13)) : Int32).toNatClampNeg l1) (sh.2.2.2 l0 12) ((((2 : Int32) * ((xu M (sh.2.2.2 l0 12) (((2 : Int32) * (M l0 13)) : Int32).toNatClampNeg l1) l0 13)) + 1) : Int32).toNatClampNeg 1), J))) f_190_58 rfl ?_
        refine ev_gd (s1 := (190, 62, [.ref l0, .int l1, .int l2], [.int ((xu (xu M (sh.2.2.2 l0 12) (((2 : Int32) * (M l0 13)) : Int32).toNatClampNeg l1) (sh.2.2.2 l0 12) ((((2 : Int32) * ((xu M (sh.2.2.2 l0 12) (((2 : Int32) * (M l0 13)) : Int32).toNatClampNeg l1) l0 13)) + 1) : Int32).toNatClampNeg 1) l0 13), .ref l0], (sh, (xu (xu M (sh.2.2.2 l0 12) (((2 : Int32) * (M l0 13)) : Int32).toNatClampNeg l1) (sh.2.2.2 l0 12) ((((2 : Int32) * ((xu M (sh.2.2.2 l0 12) (((2 : Int32) * (M l0 13)) : Int32).toNatClampNeg l1) l0 13)) + 1) : Int32).toNatClampNeg 1), J))) f_190_59 rfl ?_
        refine ev_nx (s1 := (190, 63, [.ref l0, .int l1, .int l2], [.int 1, .int ((xu (xu M (sh.2.2.2 l0 12) (((2 : Int32) * (M l0 13)) : Int32).toNatClampNeg l1) (sh.2.2.2 l0 12) ((((2 : Int32) * ((xu M (sh.2.2.2 l0 12) (((2 : Int32) * (M l0 13)) : Int32).toNatClampNeg l1) l0 13)) + 1) : Int32).toNatClampNeg 1) l0 13), .ref l0], (sh, (xu (xu M (sh.2.2.2 l0 12) (((2 : Int32) * (M l0 13)) : Int32).toNatClampNeg l1) (sh.2.2.2 l0 12) ((((2 : Int32) * ((xu M (sh.2.2.2 l0 12) (((2 : Int32) * (M l0 13)) : Int32).toNatClampNeg l1) l0 13)) + 1) : Int32).toNatClampNeg 1), J))) f_190_62 rfl ?_
        refine ev_nx (s1 := (190, 64, [.ref l0, .int l1, .int l2], [.int (((xu (xu M (sh.2.2.2 l0 12) (((2 : Int32) * (M l0 13)) : Int32).toNatClampNeg l1) (sh.2.2.2 l0 12) ((((2 : Int32) * ((xu M (sh.2.2.2 l0 12) (((2 : Int32) * (M l0 13)) : Int32).toNatClampNeg l1) l0 13)) + 1) : Int32).toNatClampNeg 1) l0 13) + 1), .ref l0], (sh, (xu (xu M (sh.2.2.2 l0 12) (((2 : Int32) * (M l0 13)) : Int32).toNatClampNeg l1) (sh.2.2.2 l0 12) ((((2 : Int32) * ((xu M (sh.2.2.2 l0 12) (((2 : Int32) * (M l0 13)) : Int32).toNatClampNeg l1) l0 13)) + 1) : Int32).toNatClampNeg 1), J))) f_190_63 rfl ?_
        refine ev_gd (s1 := (190, 67, [.ref l0, .int l1, .int l2], [], (sh, (xu (xu (xu M (sh.2.2.2 l0 12) (((2 : Int32) * (M l0 13)) : Int32).toNatClampNeg l1) (sh.2.2.2 l0 12) ((((2 : Int32) * ((xu M (sh.2.2.2 l0 12) (((2 : Int32) * (M l0 13)) : Int32).toNatClampNeg l1) l0 13)) + 1) : Int32).toNatClampNeg 1) l0 13 (((xu (xu M (sh.2.2.2 l0 12) (((2 : Int32) * (M l0 13)) : Int32).toNatClampNeg l1) (sh.2.2.2 l0 12) ((((2 : Int32) * ((xu M (sh.2.2.2 l0 12) (((2 : Int32) * (M l0 13)) : Int32).toNatClampNeg l1) l0 13)) + 1) : Int32).toNatClampNeg 1) l0 13) + 1)), J))) f_190_64 rfl ?_
        refine ev_nx (s1 := (190, 68, [.ref l0, .int l1, .int l2], [.ref l0], (sh, (xu (xu (xu M (sh.2.2.2 l0 12) (((2 : Int32) * (M l0 13)) : Int32).toNatClampNeg l1) (sh.2.2.2 l0 12) ((((2 : Int32) * ((xu M (sh.2.2.2 l0 12) (((2 : Int32) * (M l0 13)) : Int32).toNatClampNeg l1) l0 13)) + 1) : Int32).toNatClampNeg 1) l0 13 (((xu (xu M (sh.2.2.2 l0 12) (((2 : Int32) * (M l0 13)) : Int32).toNatClampNeg l1) (sh.2.2.2 l0 12) ((((2 : Int32) * ((xu M (sh.2.2.2 l0 12) (((2 : Int32) * (M l0 13)) : Int32).toNatClampNeg l1) l0 13)) + 1) : Int32).toNatClampNeg 1) l0 13) + 1)), J))) f_190_67 rfl ?_
        refine ev_gd (s1 := (190, 71, [.ref l0, .int l1, .int l2], [.int ((xu (xu (xu M (sh.2.2.2 l0 12) (((2 : Int32) * (M l0 13)) : Int32).toNatClampNeg l1) (sh.2.2.2 l0 12) ((((2 : Int32) * ((xu M (sh.2.2.2 l0 12) (((2 : Int32) * (M l0 13)) : Int32).toNatClampNeg l1) l0 13)) + 1) : Int32).toNatClampNeg 1) l0 13 (((xu (xu M (sh.2.2.2 l0 12) (((2 : Int32) * (M l0 13)) : Int32).toNatClampNeg l1) (sh.2.2.2 l0 12) ((((2 : Int32) * ((xu M (sh.2.2.2 l0 12) (((2 : Int32) * (M l0 13)) : Int32).toNatClampNeg l1) l0 13)) + 1) : Int32).toNatClampNeg 1) l0 13) + 1)) l0 13)], (sh, (xu (xu (xu M (sh.2.2.2 l0 12) (((2 : Int32) * (M l0 13)) : Int32).toNatClampNeg l1) (sh.2.2.2 l0 12) ((((2 : Int32) * ((xu M (sh.2.2.2 l0 12) (((2 : Int32) * (M l0 13)) : Int32).toNatClampNeg l1) l0 13)) + 1) : Int32).toNatClampNeg 1) l0 13 (((xu (xu M (sh.2.2.2 l0 12) (((2 : Int32) * (M l0 13)) : Int32).toNatClampNeg l1) (sh.2.2.2 l0 12) ((((2 : Int32) * ((xu M (sh.2.2.2 l0 12) (((2 : Int32) * (M l0 13)) : Int32).toNatClampNeg l1) l0 13)) + 1) : Int32).toNatClampNeg 1) l0 13) + 1)), J))) f_190_68 rfl ?_
        exact ev_r1 f_190_71 rfl
    · refine ev_nx (s1 := (190, 22, [.ref l0, .int l1, .int l2], [.int (-1000000004)], (sh, M, J))) f_190_20 rfl ?_
      exact ev_r1 f_190_22 rfl
  · refine ev_nx (s1 := (190, 10, [.ref l0, .int l1, .int l2], [.int (-1000000001)], (sh, M, J))) f_190_8 rfl ?_
    exact ev_r1 f_190_10 rfl
theorem f_191_0 : xfind (xnth xTs 191) 0 = some (0, .aload_n 0, 1, (0, 0, 0, 0), .null, [], 0, 0, []) := rfl
theorem f_191_1 : xfind (xnth xTs 191) 1 = some (1, .invokevirtual 231, 3, (177, 0, 9, 1), .null, [], 1167, 0, []) := rfl
theorem f_191_4 : xfind (xnth xTs 191) 4 = some (4, .aload_n 0, 1, (0, 0, 0, 0), .null, [], 0, 0, []) := rfl
theorem f_191_5 : xfind (xnth xTs 191) 5 = some (5, .getfield 19, 3, (9, 3, 1, 0), .null, [], 912, 0, []) := rfl
theorem f_191_8 : xfind (xnth xTs 191) 8 = some (8, .bipush 20, 2, (0, 0, 0, 0), (.int 20), [], 0, 0, []) := rfl
theorem f_191_10 : xfind (xnth xTs 191) 10 = some (10, .iconst 1, 1, (0, 0, 0, 0), (.int 1), [], 0, 0, []) := rfl
theorem f_191_11 : xfind (xnth xTs 191) 11 = some (11, .iload_n 1, 1, (0, 0, 0, 0), .null, [], 0, 0, []) := rfl
theorem f_191_12 : xfind (xnth xTs 191) 12 = some (12, .ishl, 1, (0, 0, 0, 0), .null, [], 0, 0, []) := rfl
theorem f_191_13 : xfind (xnth xTs 191) 13 = some (13, .iastore, 1, (0, 0, 0, 0), .null, [], 0, 0, []) := rfl
theorem f_191_14 : xfind (xnth xTs 191) 14 = some (14, .aload_n 0, 1, (0, 0, 0, 0), .null, [], 0, 0, []) := rfl
theorem f_191_15 : xfind (xnth xTs 191) 15 = some (15, .aload_n 0, 1, (0, 0, 0, 0), .null, [], 0, 0, []) := rfl
theorem f_191_16 : xfind (xnth xTs 191) 16 = some (16, .getfield 19, 3, (9, 3, 1, 0), .null, [], 912, 0, []) := rfl
theorem f_191_19 : xfind (xnth xTs 191) 19 = some (19, .invokevirtual 177, 3, (160, 1, 9, 7), .null, [], 1053, 0, []) := rfl
theorem f_191_22 : xfind (xnth xTs 191) 22 = some (22, .ireturn, 1, (0, 0, 0, 0), .null, [], 0, 0, []) := rfl
theorem b_R_shownBy_0 (sh : xSh) (M : Nat → Nat → Int32) (J : Nat → Nat → Int64) (l0 : Nat) (l1 : Int32) : ev (191, 0, [.ref l0, .int l1], [], (sh, M, J)) = (bif (decide ((sh.2.2.1 l0).1 = 9) && true) then (ev (177, 0, [.ref l0], [], (sh, M, J))).bind (fun r => ev (191, 4, [.ref l0, .int l1], r.1.toList ++ [], r.2)) else none) := by
  refine ev_nx (s1 := (191, 1, [.ref l0, .int l1], [.ref l0], (sh, M, J))) f_191_0 rfl ?_
  exact ev_ca (cc := (decide ((sh.2.2.1 l0).1 = 9) && true)) (s1 := (177, 0, [.ref l0], [], (sh, M, J))) (k := (191, 4, [.ref l0, .int l1], [])) f_191_1 rfl
theorem b_R_shownBy_4 (sh : xSh) (M : Nat → Nat → Int32) (J : Nat → Nat → Int64) (l0 : Nat) (l1 : Int32) : ev (191, 4, [.ref l0, .int l1], [], (sh, M, J)) = (bif decide ((sh.2.2.1 l0).1 = 9) then bif (decide ((sh.2.2.1 (sh.2.2.2 l0 3)).1 = 11) && xin 20 (sh.2.2.1 (sh.2.2.2 l0 3)).2) then bif decide ((sh.2.2.1 l0).1 = 9) then bif (decide ((sh.2.2.1 l0).1 = 9) && true) then (ev (160, 0, [.ref l0, .ref (sh.2.2.2 l0 3), .null, .null, .null, .null, .null], [], (sh, (xu M (sh.2.2.2 l0 3) (20 : Int32).toNatClampNeg ((1 : Int32) <<< (l1 &&& 31))), J))).bind (fun r => ev (191, 22, [.ref l0, .int l1], r.1.toList ++ [], r.2)) else none else none else none else none) := by
  refine ev_nx (s1 := (191, 5, [.ref l0, .int l1], [.ref l0], (sh, M, J))) f_191_4 rfl ?_
  refine ev_gd (s1 := (191, 8, [.ref l0, .int l1], [.ref (sh.2.2.2 l0 3)], (sh, M, J))) f_191_5 rfl ?_
  refine ev_nx (s1 := (191, 10, [.ref l0, .int l1], [.int 20, .ref (sh.2.2.2 l0 3)], (sh, M, J))) f_191_8 rfl ?_
  refine ev_nx (s1 := (191, 11, [.ref l0, .int l1], [.int 1, .int 20, .ref (sh.2.2.2 l0 3)], (sh, M, J))) f_191_10 rfl ?_
  refine ev_nx (s1 := (191, 12, [.ref l0, .int l1], [.int l1, .int 1, .int 20, .ref (sh.2.2.2 l0 3)], (sh, M, J))) f_191_11 rfl ?_
  refine ev_nx (s1 := (191, 13, [.ref l0, .int l1], [.int ((1 : Int32) <<< (l1 &&& 31)), .int 20, .ref (sh.2.2.2 l0 3)], (sh, M, J))) f_191_12 rfl ?_
  refine ev_gd (s1 := (191, 14, [.ref l0, .int l1], [], (sh, (xu M (sh.2.2.2 l0 3) (20 : Int32).toNatClampNeg ((1 : Int32) <<< (l1 &&& 31))), J))) f_191_13 rfl ?_
  refine ev_nx (s1 := (191, 15, [.ref l0, .int l1], [.ref l0], (sh, (xu M (sh.2.2.2 l0 3) (20 : Int32).toNatClampNeg ((1 : Int32) <<< (l1 &&& 31))), J))) f_191_14 rfl ?_
  refine ev_nx (s1 := (191, 16, [.ref l0, .int l1], [.ref l0, .ref l0], (sh, (xu M (sh.2.2.2 l0 3) (20 : Int32).toNatClampNeg ((1 : Int32) <<< (l1 &&& 31))), J))) f_191_15 rfl ?_
  refine ev_gd (s1 := (191, 19, [.ref l0, .int l1], [.ref (sh.2.2.2 l0 3), .ref l0], (sh, (xu M (sh.2.2.2 l0 3) (20 : Int32).toNatClampNeg ((1 : Int32) <<< (l1 &&& 31))), J))) f_191_16 rfl ?_
  exact ev_ca (cc := (decide ((sh.2.2.1 l0).1 = 9) && true)) (s1 := (160, 0, [.ref l0, .ref (sh.2.2.2 l0 3), .null, .null, .null, .null, .null], [], (sh, (xu M (sh.2.2.2 l0 3) (20 : Int32).toNatClampNeg ((1 : Int32) <<< (l1 &&& 31))), J))) (k := (191, 22, [.ref l0, .int l1], [])) f_191_19 rfl
theorem b_R_shownBy_22 (sh : xSh) (M : Nat → Nat → Int32) (J : Nat → Nat → Int64) (l0 : Nat) (l1 : Int32) (k0 : Int32) : ev (191, 22, [.ref l0, .int l1], [.int k0], (sh, M, J)) = (some (some (.int k0), (sh, M, J))) := by
  exact ev_r1 f_191_22 rfl
theorem f_192_0 : xfind (xnth xTs 192) 0 = some (0, .iconst 0, 1, (0, 0, 0, 0), (.int 0), [], 0, 0, []) := rfl
theorem f_192_1 : xfind (xnth xTs 192) 1 = some (1, .istore_n 1, 1, (0, 0, 0, 0), .null, [], 0, 0, []) := rfl
theorem f_192_2 : xfind (xnth xTs 192) 2 = some (2, .iconst 0, 1, (0, 0, 0, 0), (.int 0), [], 0, 0, []) := rfl
theorem f_192_3 : xfind (xnth xTs 192) 3 = some (3, .istore_n 2, 1, (0, 0, 0, 0), .null, [], 0, 0, []) := rfl
theorem f_192_4 : xfind (xnth xTs 192) 4 = some (4, .iload_n 2, 1, (0, 0, 0, 0), .null, [], 0, 1, [3, 4, 5]) := rfl
theorem f_192_5 : xfind (xnth xTs 192) 5 = some (5, .aload_n 0, 1, (0, 0, 0, 0), .null, [], 0, 0, []) := rfl
theorem f_192_6 : xfind (xnth xTs 192) 6 = some (6, .invokevirtual 156, 3, (151, 0, 9, 1), .null, [], 1061, 0, []) := rfl
theorem f_192_9 : xfind (xnth xTs 192) 9 = some (9, .if_icmp .ge 99, 3, (0, 0, 0, 0), .null, [], 0, 0, []) := rfl
theorem f_192_12 : xfind (xnth xTs 192) 12 = some (12, .aload_n 0, 1, (0, 0, 0, 0), .null, [], 0, 0, []) := rfl
theorem f_192_13 : xfind (xnth xTs 192) 13 = some (13, .iload_n 2, 1, (0, 0, 0, 0), .null, [], 0, 0, []) := rfl
theorem f_192_14 : xfind (xnth xTs 192) 14 = some (14, .invokevirtual 255, 3, (191, 1, 9, 2), .null, [], 1233, 0, []) := rfl
theorem f_192_17 : xfind (xnth xTs 192) 17 = some (17, .istore_n 3, 1, (0, 0, 0, 0), .null, [], 0, 0, []) := rfl
theorem f_192_18 : xfind (xnth xTs 192) 18 = some (18, .iconst 1, 1, (0, 0, 0, 0), (.int 1), [], 0, 0, []) := rfl
theorem f_192_19 : xfind (xnth xTs 192) 19 = some (19, .istore 4, 2, (0, 0, 0, 0), .null, [], 0, 0, []) := rfl
theorem f_192_21 : xfind (xnth xTs 192) 21 = some (21, .iconst 0, 1, (0, 0, 0, 0), (.int 0), [], 0, 0, []) := rfl
theorem f_192_22 : xfind (xnth xTs 192) 22 = some (22, .istore 5, 2, (0, 0, 0, 0), .null, [], 0, 0, []) := rfl
theorem f_192_24 : xfind (xnth xTs 192) 24 = some (24, .iload 5, 2, (0, 0, 0, 0), .null, [], 0, 1, []) := rfl
theorem f_192_26 : xfind (xnth xTs 192) 26 = some (26, .aload_n 0, 1, (0, 0, 0, 0), .null, [], 0, 0, []) := rfl
theorem f_192_27 : xfind (xnth xTs 192) 27 = some (27, .getfield 83, 3, (9, 13, 0, 0), .null, [], 922, 0, []) := rfl
theorem f_192_30 : xfind (xnth xTs 192) 30 = some (30, .if_icmp .ge 57, 3, (0, 0, 0, 0), .null, [], 0, 0, []) := rfl
theorem f_192_33 : xfind (xnth xTs 192) 33 = some (33, .iload 4, 2, (0, 0, 0, 0), .null, [], 0, 0, []) := rfl
theorem f_192_35 : xfind (xnth xTs 192) 35 = some (35, .ifCond .eq 43, 3, (0, 0, 0, 0), .null, [], 0, 0, []) := rfl
theorem f_192_38 : xfind (xnth xTs 192) 38 = some (38, .iload_n 3, 1, (0, 0, 0, 0), .null, [], 0, 0, []) := rfl
theorem f_192_39 : xfind (xnth xTs 192) 39 = some (39, .aload_n 0, 1, (0, 0, 0, 0), .null, [], 0, 0, []) := rfl
theorem f_192_40 : xfind (xnth xTs 192) 40 = some (40, .getfield 39, 3, (9, 12, 1, 0), .null, [], 921, 0, []) := rfl
theorem f_192_43 : xfind (xnth xTs 192) 43 = some (43, .iconst 2, 1, (0, 0, 0, 0), (.int 2), [], 0, 0, []) := rfl
theorem f_192_44 : xfind (xnth xTs 192) 44 = some (44, .iload 5, 2, (0, 0, 0, 0), .null, [], 0, 0, []) := rfl
theorem f_192_46 : xfind (xnth xTs 192) 46 = some (46, .imul, 1, (0, 0, 0, 0), .null, [], 0, 0, []) := rfl
theorem f_192_47 : xfind (xnth xTs 192) 47 = some (47, .iaload, 1, (0, 0, 0, 0), .null, [], 0, 0, []) := rfl
theorem f_192_48 : xfind (xnth xTs 192) 48 = some (48, .invokestatic 137, 3, (133, 2, 9, 2), .null, [], 1034, 0, []) := rfl
theorem f_192_51 : xfind (xnth xTs 192) 51 = some (51, .aload_n 0, 1, (0, 0, 0, 0), .null, [], 0, 0, []) := rfl
theorem f_192_52 : xfind (xnth xTs 192) 52 = some (52, .getfield 39, 3, (9, 12, 1, 0), .null, [], 921, 0, []) := rfl
theorem f_192_55 : xfind (xnth xTs 192) 55 = some (55, .iconst 2, 1, (0, 0, 0, 0), (.int 2), [], 0, 0, []) := rfl
theorem f_192_56 : xfind (xnth xTs 192) 56 = some (56, .iload 5, 2, (0, 0, 0, 0), .null, [], 0, 0, []) := rfl
theorem f_192_58 : xfind (xnth xTs 192) 58 = some (58, .imul, 1, (0, 0, 0, 0), .null, [], 0, 0, []) := rfl
theorem f_192_59 : xfind (xnth xTs 192) 59 = some (59, .iconst 1, 1, (0, 0, 0, 0), (.int 1), [], 0, 0, []) := rfl
theorem f_192_60 : xfind (xnth xTs 192) 60 = some (60, .iadd, 1, (0, 0, 0, 0), .null, [], 0, 0, []) := rfl
theorem f_192_61 : xfind (xnth xTs 192) 61 = some (61, .iaload, 1, (0, 0, 0, 0), .null, [], 0, 0, []) := rfl
theorem f_192_62 : xfind (xnth xTs 192) 62 = some (62, .iconst 1, 1, (0, 0, 0, 0), (.int 1), [], 0, 0, []) := rfl
theorem f_192_63 : xfind (xnth xTs 192) 63 = some (63, .if_icmp .ne 7, 3, (0, 0, 0, 0), .null, [], 0, 0, []) := rfl
theorem f_192_66 : xfind (xnth xTs 192) 66 = some (66, .iconst 1, 1, (0, 0, 0, 0), (.int 1), [], 0, 0, []) := rfl
theorem f_192_67 : xfind (xnth xTs 192) 67 = some (67, .goto 4, 3, (0, 0, 0, 0), .null, [], 0, 0, []) := rfl
theorem f_192_70 : xfind (xnth xTs 192) 70 = some (70, .iconst 0, 1, (0, 0, 0, 0), (.int 0), [], 0, 0, []) := rfl
theorem f_192_71 : xfind (xnth xTs 192) 71 = some (71, .if_icmp .ne 7, 3, (0, 0, 0, 0), .null, [], 0, 0, []) := rfl
theorem f_192_74 : xfind (xnth xTs 192) 74 = some (74, .iconst 1, 1, (0, 0, 0, 0), (.int 1), [], 0, 0, []) := rfl
theorem f_192_75 : xfind (xnth xTs 192) 75 = some (75, .goto 4, 3, (0, 0, 0, 0), .null, [], 0, 0, []) := rfl
theorem f_192_78 : xfind (xnth xTs 192) 78 = some (78, .iconst 0, 1, (0, 0, 0, 0), (.int 0), [], 0, 0, []) := rfl
theorem f_192_79 : xfind (xnth xTs 192) 79 = some (79, .istore 4, 2, (0, 0, 0, 0), .null, [], 0, 0, []) := rfl
theorem f_192_81 : xfind (xnth xTs 192) 81 = some (81, .iinc 5 1, 3, (0, 0, 0, 0), .null, [], 0, 0, []) := rfl
theorem f_192_84 : xfind (xnth xTs 192) 84 = some (84, .goto (-60), 3, (0, 0, 0, 0), .null, [], 0, 0, []) := rfl
theorem f_192_87 : xfind (xnth xTs 192) 87 = some (87, .iload_n 1, 1, (0, 0, 0, 0), .null, [], 0, 0, []) := rfl
theorem f_192_88 : xfind (xnth xTs 192) 88 = some (88, .iload 4, 2, (0, 0, 0, 0), .null, [], 0, 0, []) := rfl
theorem f_192_90 : xfind (xnth xTs 192) 90 = some (90, .ifCond .eq 9, 3, (0, 0, 0, 0), .null, [], 0, 0, []) := rfl
theorem f_192_93 : xfind (xnth xTs 192) 93 = some (93, .iconst 1, 1, (0, 0, 0, 0), (.int 1), [], 0, 0, []) := rfl
theorem f_192_94 : xfind (xnth xTs 192) 94 = some (94, .iload_n 2, 1, (0, 0, 0, 0), .null, [], 0, 0, []) := rfl
theorem f_192_95 : xfind (xnth xTs 192) 95 = some (95, .ishl, 1, (0, 0, 0, 0), .null, [], 0, 0, []) := rfl
theorem f_192_96 : xfind (xnth xTs 192) 96 = some (96, .goto 4, 3, (0, 0, 0, 0), .null, [], 0, 0, []) := rfl
theorem f_192_99 : xfind (xnth xTs 192) 99 = some (99, .iconst 0, 1, (0, 0, 0, 0), (.int 0), [], 0, 0, []) := rfl
theorem f_192_100 : xfind (xnth xTs 192) 100 = some (100, .ior, 1, (0, 0, 0, 0), .null, [], 0, 0, []) := rfl
theorem f_192_101 : xfind (xnth xTs 192) 101 = some (101, .istore_n 1, 1, (0, 0, 0, 0), .null, [], 0, 0, []) := rfl
theorem f_192_102 : xfind (xnth xTs 192) 102 = some (102, .iinc 2 1, 3, (0, 0, 0, 0), .null, [], 0, 0, []) := rfl
theorem f_192_105 : xfind (xnth xTs 192) 105 = some (105, .goto (-101), 3, (0, 0, 0, 0), .null, [], 0, 0, []) := rfl
theorem f_192_108 : xfind (xnth xTs 192) 108 = some (108, .iload_n 1, 1, (0, 0, 0, 0), .null, [], 0, 0, []) := rfl
theorem f_192_109 : xfind (xnth xTs 192) 109 = some (109, .ireturn, 1, (0, 0, 0, 0), .null, [], 0, 0, []) := rfl
theorem hd_192_4 : xhead 192 4 = some [3, 4, 5] := rfl
theorem hd_192_24 : xhead 192 24 = some [] := rfl
theorem b_R_cuts_0 (sh : xSh) (M : Nat → Nat → Int32) (J : Nat → Nat → Int64) (l0 : Nat) : ev (192, 0, [.ref l0, .null, .null, .null, .null, .null], [], (sh, M, J)) = (ev (192, 4, [.ref l0, .int 0, .int 0, .null, .null, .null], [], (sh, M, J))) := by
  refine ev_nx (s1 := (192, 1, [.ref l0, .null, .null, .null, .null, .null], [.int 0], (sh, M, J))) f_192_0 rfl ?_
  refine ev_nx (s1 := (192, 2, [.ref l0, .int 0, .null, .null, .null, .null], [], (sh, M, J))) f_192_1 rfl ?_
  refine ev_nx (s1 := (192, 3, [.ref l0, .int 0, .null, .null, .null, .null], [.int 0], (sh, M, J))) f_192_2 rfl ?_
  refine ev_nx (s1 := (192, 4, [.ref l0, .int 0, .int 0, .null, .null, .null], [], (sh, M, J))) f_192_3 rfl ?_
  exact rfl
theorem b_R_cuts_4 (sh : xSh) (M : Nat → Nat → Int32) (J : Nat → Nat → Int64) (l0 : Nat) (l1 : Int32) (l2 : Int32) : ev (192, 4, [.ref l0, .int l1, .int l2, .null, .null, .null], [], (sh, M, J)) = (bif (decide ((sh.2.2.1 l0).1 = 9) && true) then (ev (151, 0, [.ref l0], [], (sh, M, J))).bind (fun r => ev (192, 9, [.ref l0, .int l1, .int l2, .null, .null, .null], r.1.toList ++ [.int l2], r.2)) else none) := by
  refine ev_nx (s1 := (192, 5, [.ref l0, .int l1, .int l2, .null, .null, .null], [.int l2], (sh, M, J))) f_192_4 rfl ?_
  refine ev_nx (s1 := (192, 6, [.ref l0, .int l1, .int l2, .null, .null, .null], [.ref l0, .int l2], (sh, M, J))) f_192_5 rfl ?_
  exact ev_ca (cc := (decide ((sh.2.2.1 l0).1 = 9) && true)) (s1 := (151, 0, [.ref l0], [], (sh, M, J))) (k := (192, 9, [.ref l0, .int l1, .int l2, .null, .null, .null], [.int l2])) f_192_6 rfl
theorem b_R_cuts_9 (sh : xSh) (M : Nat → Nat → Int32) (J : Nat → Nat → Int64) (l0 : Nat) (l1 : Int32) (l2 : Int32) (k0 : Int32) (k1 : Int32) : ev (192, 9, [.ref l0, .int l1, .int l2, .null, .null, .null], [.int k0, .int k1], (sh, M, J)) = (bif decide (k0 ≤ k1) then some (some (.int l1), (sh, M, J)) else bif (decide ((sh.2.2.1 l0).1 = 9) && true) then (ev (191, 0, [.ref l0, .int l2], [], (sh, M, J))).bind (fun r => ev (192, 17, [.ref l0, .int l1, .int l2, .null, .null, .null], r.1.toList ++ [], r.2)) else none) := by
  refine ev_br (s1 := (192, 108, [.ref l0, .int l1, .int l2, .null, .null, .null], [], (sh, M, J))) (s2 := (192, 12, [.ref l0, .int l1, .int l2, .null, .null, .null], [], (sh, M, J))) f_192_9 rfl ?_ ?_
  · refine ev_nx (s1 := (192, 109, [.ref l0, .int l1, .int l2, .null, .null, .null], [.int l1], (sh, M, J))) f_192_108 rfl ?_
    exact ev_r1 f_192_109 rfl
  · refine ev_nx (s1 := (192, 13, [.ref l0, .int l1, .int l2, .null, .null, .null], [.ref l0], (sh, M, J))) f_192_12 rfl ?_
    refine ev_nx (s1 := (192, 14, [.ref l0, .int l1, .int l2, .null, .null, .null], [.int l2, .ref l0], (sh, M, J))) f_192_13 rfl ?_
    exact ev_ca (cc := (decide ((sh.2.2.1 l0).1 = 9) && true)) (s1 := (191, 0, [.ref l0, .int l2], [], (sh, M, J))) (k := (192, 17, [.ref l0, .int l1, .int l2, .null, .null, .null], [])) f_192_14 rfl
theorem b_R_cuts_17 (sh : xSh) (M : Nat → Nat → Int32) (J : Nat → Nat → Int64) (l0 : Nat) (l1 : Int32) (l2 : Int32) (k0 : Int32) : ev (192, 17, [.ref l0, .int l1, .int l2, .null, .null, .null], [.int k0], (sh, M, J)) = (ev (192, 24, [.ref l0, .int l1, .int l2, .int k0, .int 1, .int 0], [], (sh, M, J))) := by
  refine ev_nx (s1 := (192, 18, [.ref l0, .int l1, .int l2, .int k0, .null, .null], [], (sh, M, J))) f_192_17 rfl ?_
  refine ev_nx (s1 := (192, 19, [.ref l0, .int l1, .int l2, .int k0, .null, .null], [.int 1], (sh, M, J))) f_192_18 rfl ?_
  refine ev_nx (s1 := (192, 21, [.ref l0, .int l1, .int l2, .int k0, .int 1, .null], [], (sh, M, J))) f_192_19 rfl ?_
  refine ev_nx (s1 := (192, 22, [.ref l0, .int l1, .int l2, .int k0, .int 1, .null], [.int 0], (sh, M, J))) f_192_21 rfl ?_
  refine ev_nx (s1 := (192, 24, [.ref l0, .int l1, .int l2, .int k0, .int 1, .int 0], [], (sh, M, J))) f_192_22 rfl ?_
  exact rfl
theorem b_R_cuts_24 (sh : xSh) (M : Nat → Nat → Int32) (J : Nat → Nat → Int64) (l0 : Nat) (l1 : Int32) (l2 : Int32) (l3 : Int32) (l4 : Int32) (l5 : Int32) : ev (192, 24, [.ref l0, .int l1, .int l2, .int l3, .int l4, .int l5], [], (sh, M, J)) = (bif decide ((sh.2.2.1 l0).1 = 9) then bif decide ((M l0 13) ≤ l5) then bif decide (l4 = 0) then ev (192, 4, [.ref l0, .int (l1 ||| 0), .int (l2 + 1), .null, .null, .null], [], (sh, M, J)) else ev (192, 4, [.ref l0, .int (l1 ||| ((1 : Int32) <<< (l2 &&& 31))), .int (l2 + 1), .null, .null, .null], [], (sh, M, J)) else bif decide (l4 = 0) then ev (192, 24, [.ref l0, .int l1, .int l2, .int l3, .int 0, .int (l5 + 1)], [], (sh, M, J)) else bif decide ((sh.2.2.1 l0).1 = 9) then bif (decide ((sh.2.2.1 (sh.2.2.2 l0 12)).1 = 11) && xin ((2 : Int32) * l5) (sh.2.2.1 (sh.2.2.2 l0 12)).2) then (ev (133, 0, [.int l3, .int (M (sh.2.2.2 l0 12) (((2 : Int32) * l5) : Int32).toNatClampNeg)], [], (sh, M, J))).bind (fun r => ev (192, 51, [.ref l0, .int l1, .int l2, .int l3, .int l4, .int l5], r.1.toList ++ [], r.2)) else none else none else none) := by
  refine ev_nx (s1 := (192, 26, [.ref l0, .int l1, .int l2, .int l3, .int l4, .int l5], [.int l5], (sh, M, J))) f_192_24 rfl ?_
  refine ev_nx (s1 := (192, 27, [.ref l0, .int l1, .int l2, .int l3, .int l4, .int l5], [.ref l0, .int l5], (sh, M, J))) f_192_26 rfl ?_
  refine ev_gd (s1 := (192, 30, [.ref l0, .int l1, .int l2, .int l3, .int l4, .int l5], [.int (M l0 13), .int l5], (sh, M, J))) f_192_27 rfl ?_
  refine ev_br (s1 := (192, 87, [.ref l0, .int l1, .int l2, .int l3, .int l4, .int l5], [], (sh, M, J))) (s2 := (192, 33, [.ref l0, .int l1, .int l2, .int l3, .int l4, .int l5], [], (sh, M, J))) f_192_30 rfl ?_ ?_
  · refine ev_nx (s1 := (192, 88, [.ref l0, .int l1, .int l2, .int l3, .int l4, .int l5], [.int l1], (sh, M, J))) f_192_87 rfl ?_
    refine ev_nx (s1 := (192, 90, [.ref l0, .int l1, .int l2, .int l3, .int l4, .int l5], [.int l4, .int l1], (sh, M, J))) f_192_88 rfl ?_
    refine ev_br (s1 := (192, 99, [.ref l0, .int l1, .int l2, .int l3, .int l4, .int l5], [.int l1], (sh, M, J))) (s2 := (192, 93, [.ref l0, .int l1, .int l2, .int l3, .int l4, .int l5], [.int l1], (sh, M, J))) f_192_90 rfl ?_ ?_
    · refine ev_nx (s1 := (192, 100, [.ref l0, .int l1, .int l2, .int l3, .int l4, .int l5], [.int 0, .int l1], (sh, M, J))) f_192_99 rfl ?_
      refine ev_nx (s1 := (192, 101, [.ref l0, .int l1, .int l2, .int l3, .int l4, .int l5], [.int (l1 ||| 0)], (sh, M, J))) f_192_100 rfl ?_
      refine ev_nx (s1 := (192, 102, [.ref l0, .int (l1 ||| 0), .int l2, .int l3, .int l4, .int l5], [], (sh, M, J))) f_192_101 rfl ?_
      refine ev_nx (s1 := (192, 105, [.ref l0, .int (l1 ||| 0), .int (l2 + 1), .int l3, .int l4, .int l5], [], (sh, M, J))) f_192_102 rfl ?_
      refine ev_nx (s1 := (192, 4, [.ref l0, .int (l1 ||| 0), .int (l2 + 1), .int l3, .int l4, .int l5], [], (sh, M, J))) f_192_105 rfl ?_
      exact (ev_kill hd_192_4).symm
    · refine ev_nx (s1 := (192, 94, [.ref l0, .int l1, .int l2, .int l3, .int l4, .int l5], [.int 1, .int l1], (sh, M, J))) f_192_93 rfl ?_
      refine ev_nx (s1 := (192, 95, [.ref l0, .int l1, .int l2, .int l3, .int l4, .int l5], [.int l2, .int 1, .int l1], (sh, M, J))) f_192_94 rfl ?_
      refine ev_nx (s1 := (192, 96, [.ref l0, .int l1, .int l2, .int l3, .int l4, .int l5], [.int ((1 : Int32) <<< (l2 &&& 31)), .int l1], (sh, M, J))) f_192_95 rfl ?_
      refine ev_nx (s1 := (192, 100, [.ref l0, .int l1, .int l2, .int l3, .int l4, .int l5], [.int ((1 : Int32) <<< (l2 &&& 31)), .int l1], (sh, M, J))) f_192_96 rfl ?_
      refine ev_nx (s1 := (192, 101, [.ref l0, .int l1, .int l2, .int l3, .int l4, .int l5], [.int (l1 ||| ((1 : Int32) <<< (l2 &&& 31)))], (sh, M, J))) f_192_100 rfl ?_
      refine ev_nx (s1 := (192, 102, [.ref l0, .int (l1 ||| ((1 : Int32) <<< (l2 &&& 31))), .int l2, .int l3, .int l4, .int l5], [], (sh, M, J))) f_192_101 rfl ?_
      refine ev_nx (s1 := (192, 105, [.ref l0, .int (l1 ||| ((1 : Int32) <<< (l2 &&& 31))), .int (l2 + 1), .int l3, .int l4, .int l5], [], (sh, M, J))) f_192_102 rfl ?_
      refine ev_nx (s1 := (192, 4, [.ref l0, .int (l1 ||| ((1 : Int32) <<< (l2 &&& 31))), .int (l2 + 1), .int l3, .int l4, .int l5], [], (sh, M, J))) f_192_105 rfl ?_
      exact (ev_kill hd_192_4).symm
  · refine ev_nx (s1 := (192, 35, [.ref l0, .int l1, .int l2, .int l3, .int l4, .int l5], [.int l4], (sh, M, J))) f_192_33 rfl ?_
    refine ev_br (s1 := (192, 78, [.ref l0, .int l1, .int l2, .int l3, .int l4, .int l5], [], (sh, M, J))) (s2 := (192, 38, [.ref l0, .int l1, .int l2, .int l3, .int l4, .int l5], [], (sh, M, J))) f_192_35 rfl ?_ ?_
    · refine ev_nx (s1 := (192, 79, [.ref l0, .int l1, .int l2, .int l3, .int l4, .int l5], [.int 0], (sh, M, J))) f_192_78 rfl ?_
      refine ev_nx (s1 := (192, 81, [.ref l0, .int l1, .int l2, .int l3, .int 0, .int l5], [], (sh, M, J))) f_192_79 rfl ?_
      refine ev_nx (s1 := (192, 84, [.ref l0, .int l1, .int l2, .int l3, .int 0, .int (l5 + 1)], [], (sh, M, J))) f_192_81 rfl ?_
      refine ev_nx (s1 := (192, 24, [.ref l0, .int l1, .int l2, .int l3, .int 0, .int (l5 + 1)], [], (sh, M, J))) f_192_84 rfl ?_
      exact rfl
    · refine ev_nx (s1 := (192, 39, [.ref l0, .int l1, .int l2, .int l3, .int l4, .int l5], [.int l3], (sh, M, J))) f_192_38 rfl ?_
      refine ev_nx (s1 := (192, 40, [.ref l0, .int l1, .int l2, .int l3, .int l4, .int l5], [.ref l0, .int l3], (sh, M, J))) f_192_39 rfl ?_
      refine ev_gd (s1 := (192, 43, [.ref l0, .int l1, .int l2, .int l3, .int l4, .int l5], [.ref (sh.2.2.2 l0 12), .int l3], (sh, M, J))) f_192_40 rfl ?_
      refine ev_nx (s1 := (192, 44, [.ref l0, .int l1, .int l2, .int l3, .int l4, .int l5], [.int 2, .ref (sh.2.2.2 l0 12), .int l3], (sh, M, J))) f_192_43 rfl ?_
      refine ev_nx (s1 := (192, 46, [.ref l0, .int l1, .int l2, .int l3, .int l4, .int l5], [.int l5, .int 2, .ref (sh.2.2.2 l0 12), .int l3], (sh, M, J))) f_192_44 rfl ?_
      refine ev_nx (s1 := (192, 47, [.ref l0, .int l1, .int l2, .int l3, .int l4, .int l5], [.int ((2 : Int32) * l5), .ref (sh.2.2.2 l0 12), .int l3], (sh, M, J))) f_192_46 rfl ?_
      refine ev_gd (s1 := (192, 48, [.ref l0, .int l1, .int l2, .int l3, .int l4, .int l5], [.int (M (sh.2.2.2 l0 12) (((2 : Int32) * l5) : Int32).toNatClampNeg), .int l3], (sh, M, J))) f_192_47 rfl ?_
      exact ev_c1 (s1 := (133, 0, [.int l3, .int (M (sh.2.2.2 l0 12) (((2 : Int32) * l5) : Int32).toNatClampNeg)], [], (sh, M, J))) (k := (192, 51, [.ref l0, .int l1, .int l2, .int l3, .int l4, .int l5], [])) f_192_48 rfl
theorem b_R_cuts_51 (sh : xSh) (M : Nat → Nat → Int32) (J : Nat → Nat → Int64) (l0 : Nat) (l1 : Int32) (l2 : Int32) (l3 : Int32) (l4 : Int32) (l5 : Int32) (k0 : Int32) : ev (192, 51, [.ref l0, .int l1, .int l2, .int l3, .int l4, .int l5], [.int k0], (sh, M, J)) = (bif decide ((sh.2.2.1 l0).1 = 9) then bif (decide ((sh.2.2.1 (sh.2.2.2 l0 12)).1 = 11) && xin (((2 : Int32) * l5) + 1) (sh.2.2.1 (sh.2.2.2 l0 12)).2) then bif !decide ((M (sh.2.2.2 l0 12) ((((2 : Int32) * l5) + 1) : Int32).toNatClampNeg) = 1) then bif !decide (k0 = 0) then ev (192, 24, [.ref l0, .int l1, .int l2, .int l3, .int 0, .int (l5 + 1)], [], (sh, M, J)) else ev (192, 24, [.ref l0, .int l1, .int l2, .int l3, .int 1, .int (l5 + 1)], [], (sh, M, J)) else bif !decide (k0 = 1) then ev (192, 24, [.ref l0, .int l1, .int l2, .int l3, .int 0, .int (l5 + 1)], [], (sh, M, J)) else ev (192, 24, [.ref l0, .int l1, .int l2, .int l3, .int 1, .int (l5 + 1)], [], (sh, M, J)) else none else none) := by
  refine ev_nx (s1 := (192, 52, [.ref l0, .int l1, .int l2, .int l3, .int l4, .int l5], [.ref l0, .int k0], (sh, M, J))) f_192_51 rfl ?_
  refine ev_gd (s1 := (192, 55, [.ref l0, .int l1, .int l2, .int l3, .int l4, .int l5], [.ref (sh.2.2.2 l0 12), .int k0], (sh, M, J))) f_192_52 rfl ?_
  refine ev_nx (s1 := (192, 56, [.ref l0, .int l1, .int l2, .int l3, .int l4, .int l5], [.int 2, .ref (sh.2.2.2 l0 12), .int k0], (sh, M, J))) f_192_55 rfl ?_
  refine ev_nx (s1 := (192, 58, [.ref l0, .int l1, .int l2, .int l3, .int l4, .int l5], [.int l5, .int 2, .ref (sh.2.2.2 l0 12), .int k0], (sh, M, J))) f_192_56 rfl ?_
  refine ev_nx (s1 := (192, 59, [.ref l0, .int l1, .int l2, .int l3, .int l4, .int l5], [.int ((2 : Int32) * l5), .ref (sh.2.2.2 l0 12), .int k0], (sh, M, J))) f_192_58 rfl ?_
  refine ev_nx (s1 := (192, 60, [.ref l0, .int l1, .int l2, .int l3, .int l4, .int l5], [.int 1, .int ((2 : Int32) * l5), .ref (sh.2.2.2 l0 12), .int k0], (sh, M, J))) f_192_59 rfl ?_
  refine ev_nx (s1 := (192, 61, [.ref l0, .int l1, .int l2, .int l3, .int l4, .int l5], [.int (((2 : Int32) * l5) + 1), .ref (sh.2.2.2 l0 12), .int k0], (sh, M, J))) f_192_60 rfl ?_
  refine ev_gd (s1 := (192, 62, [.ref l0, .int l1, .int l2, .int l3, .int l4, .int l5], [.int (M (sh.2.2.2 l0 12) ((((2 : Int32) * l5) + 1) : Int32).toNatClampNeg), .int k0], (sh, M, J))) f_192_61 rfl ?_
  refine ev_nx (s1 := (192, 63, [.ref l0, .int l1, .int l2, .int l3, .int l4, .int l5], [.int 1, .int (M (sh.2.2.2 l0 12) ((((2 : Int32) * l5) + 1) : Int32).toNatClampNeg), .int k0], (sh, M, J))) f_192_62 rfl ?_
  refine ev_br (s1 := (192, 70, [.ref l0, .int l1, .int l2, .int l3, .int l4, .int l5], [.int k0], (sh, M, J))) (s2 := (192, 66, [.ref l0, .int l1, .int l2, .int l3, .int l4, .int l5], [.int k0], (sh, M, J))) f_192_63 rfl ?_ ?_
  · refine ev_nx (s1 := (192, 71, [.ref l0, .int l1, .int l2, .int l3, .int l4, .int l5], [.int 0, .int k0], (sh, M, J))) f_192_70 rfl ?_
    refine ev_br (s1 := (192, 78, [.ref l0, .int l1, .int l2, .int l3, .int l4, .int l5], [], (sh, M, J))) (s2 := (192, 74, [.ref l0, .int l1, .int l2, .int l3, .int l4, .int l5], [], (sh, M, J))) f_192_71 rfl ?_ ?_
    · refine ev_nx (s1 := (192, 79, [.ref l0, .int l1, .int l2, .int l3, .int l4, .int l5], [.int 0], (sh, M, J))) f_192_78 rfl ?_
      refine ev_nx (s1 := (192, 81, [.ref l0, .int l1, .int l2, .int l3, .int 0, .int l5], [], (sh, M, J))) f_192_79 rfl ?_
      refine ev_nx (s1 := (192, 84, [.ref l0, .int l1, .int l2, .int l3, .int 0, .int (l5 + 1)], [], (sh, M, J))) f_192_81 rfl ?_
      refine ev_nx (s1 := (192, 24, [.ref l0, .int l1, .int l2, .int l3, .int 0, .int (l5 + 1)], [], (sh, M, J))) f_192_84 rfl ?_
      exact rfl
    · refine ev_nx (s1 := (192, 75, [.ref l0, .int l1, .int l2, .int l3, .int l4, .int l5], [.int 1], (sh, M, J))) f_192_74 rfl ?_
      refine ev_nx (s1 := (192, 79, [.ref l0, .int l1, .int l2, .int l3, .int l4, .int l5], [.int 1], (sh, M, J))) f_192_75 rfl ?_
      refine ev_nx (s1 := (192, 81, [.ref l0, .int l1, .int l2, .int l3, .int 1, .int l5], [], (sh, M, J))) f_192_79 rfl ?_
      refine ev_nx (s1 := (192, 84, [.ref l0, .int l1, .int l2, .int l3, .int 1, .int (l5 + 1)], [], (sh, M, J))) f_192_81 rfl ?_
      refine ev_nx (s1 := (192, 24, [.ref l0, .int l1, .int l2, .int l3, .int 1, .int (l5 + 1)], [], (sh, M, J))) f_192_84 rfl ?_
      exact rfl
  · refine ev_nx (s1 := (192, 67, [.ref l0, .int l1, .int l2, .int l3, .int l4, .int l5], [.int 1, .int k0], (sh, M, J))) f_192_66 rfl ?_
    refine ev_nx (s1 := (192, 71, [.ref l0, .int l1, .int l2, .int l3, .int l4, .int l5], [.int 1, .int k0], (sh, M, J))) f_192_67 rfl ?_
    refine ev_br (s1 := (192, 78, [.ref l0, .int l1, .int l2, .int l3, .int l4, .int l5], [], (sh, M, J))) (s2 := (192, 74, [.ref l0, .int l1, .int l2, .int l3, .int l4, .int l5], [], (sh, M, J))) f_192_71 rfl ?_ ?_
    · refine ev_nx (s1 := (192, 79, [.ref l0, .int l1, .int l2, .int l3, .int l4, .int l5], [.int 0], (sh, M, J))) f_192_78 rfl ?_
      refine ev_nx (s1 := (192, 81, [.ref l0, .int l1, .int l2, .int l3, .int 0, .int l5], [], (sh, M, J))) f_192_79 rfl ?_
      refine ev_nx (s1 := (192, 84, [.ref l0, .int l1, .int l2, .int l3, .int 0, .int (l5 + 1)], [], (sh, M, J))) f_192_81 rfl ?_
      refine ev_nx (s1 := (192, 24, [.ref l0, .int l1, .int l2, .int l3, .int 0, .int (l5 + 1)], [], (sh, M, J))) f_192_84 rfl ?_
      exact rfl
    · refine ev_nx (s1 := (192, 75, [.ref l0, .int l1, .int l2, .int l3, .int l4, .int l5], [.int 1], (sh, M, J))) f_192_74 rfl ?_
      refine ev_nx (s1 := (192, 79, [.ref l0, .int l1, .int l2, .int l3, .int l4, .int l5], [.int 1], (sh, M, J))) f_192_75 rfl ?_
      refine ev_nx (s1 := (192, 81, [.ref l0, .int l1, .int l2, .int l3, .int 1, .int l5], [], (sh, M, J))) f_192_79 rfl ?_
      refine ev_nx (s1 := (192, 84, [.ref l0, .int l1, .int l2, .int l3, .int 1, .int (l5 + 1)], [], (sh, M, J))) f_192_81 rfl ?_
      refine ev_nx (s1 := (192, 24, [.ref l0, .int l1, .int l2, .int l3, .int 1, .int (l5 + 1)], [], (sh, M, J))) f_192_84 rfl ?_
      exact rfl
theorem f_193_0 : xfind (xnth xTs 193) 0 = some (0, .aload_n 0, 1, (0, 0, 0, 0), .null, [], 0, 0, []) := rfl
theorem f_193_1 : xfind (xnth xTs 193) 1 = some (1, .invokevirtual 258, 3, (192, 0, 9, 6), .null, [], 1229, 0, []) := rfl
theorem f_193_4 : xfind (xnth xTs 193) 4 = some (4, .ireturn, 1, (0, 0, 0, 0), .null, [], 0, 0, []) := rfl
theorem b_R_wasCut_0 (sh : xSh) (M : Nat → Nat → Int32) (J : Nat → Nat → Int64) (l0 : Nat) : ev (193, 0, [.ref l0], [], (sh, M, J)) = (bif (decide ((sh.2.2.1 l0).1 = 9) && true) then (ev (192, 0, [.ref l0, .null, .null, .null, .null, .null], [], (sh, M, J))).bind (fun r => ev (193, 4, [.ref l0], r.1.toList ++ [], r.2)) else none) := by
  refine ev_nx (s1 := (193, 1, [.ref l0], [.ref l0], (sh, M, J))) f_193_0 rfl ?_
  exact ev_ca (cc := (decide ((sh.2.2.1 l0).1 = 9) && true)) (s1 := (192, 0, [.ref l0, .null, .null, .null, .null, .null], [], (sh, M, J))) (k := (193, 4, [.ref l0], [])) f_193_1 rfl
theorem b_R_wasCut_4 (sh : xSh) (M : Nat → Nat → Int32) (J : Nat → Nat → Int64) (l0 : Nat) (k0 : Int32) : ev (193, 4, [.ref l0], [.int k0], (sh, M, J)) = (some (some (.int k0), (sh, M, J))) := by
  exact ev_r1 f_193_4 rfl
theorem f_194_0 : xfind (xnth xTs 194) 0 = some (0, .aload_n 0, 1, (0, 0, 0, 0), .null, [], 0, 0, []) := rfl
theorem f_194_1 : xfind (xnth xTs 194) 1 = some (1, .invokevirtual 258, 3, (192, 0, 9, 6), .null, [], 1229, 0, []) := rfl
theorem f_194_4 : xfind (xnth xTs 194) 4 = some (4, .istore_n 1, 1, (0, 0, 0, 0), .null, [], 0, 0, []) := rfl
theorem f_194_5 : xfind (xnth xTs 194) 5 = some (5, .iload_n 1, 1, (0, 0, 0, 0), .null, [], 0, 0, []) := rfl
theorem f_194_6 : xfind (xnth xTs 194) 6 = some (6, .invokestatic 213, 3, (134, 1, 9, 3), .null, [], 1136, 0, []) := rfl
theorem f_194_9 : xfind (xnth xTs 194) 9 = some (9, .istore_n 2, 1, (0, 0, 0, 0), .null, [], 0, 0, []) := rfl
theorem f_194_10 : xfind (xnth xTs 194) 10 = some (10, .iconst (-1), 1, (0, 0, 0, 0), (.int (-1)), [], 0, 0, []) := rfl
theorem f_194_11 : xfind (xnth xTs 194) 11 = some (11, .istore_n 3, 1, (0, 0, 0, 0), .null, [], 0, 0, []) := rfl
theorem f_194_12 : xfind (xnth xTs 194) 12 = some (12, .iload_n 2, 1, (0, 0, 0, 0), .null, [], 0, 0, []) := rfl
theorem f_194_13 : xfind (xnth xTs 194) 13 = some (13, .istore 4, 2, (0, 0, 0, 0), .null, [], 0, 0, []) := rfl
theorem f_194_15 : xfind (xnth xTs 194) 15 = some (15, .iconst 0, 1, (0, 0, 0, 0), (.int 0), [], 0, 0, []) := rfl
theorem f_194_16 : xfind (xnth xTs 194) 16 = some (16, .istore 5, 2, (0, 0, 0, 0), .null, [], 0, 0, []) := rfl
theorem f_194_18 : xfind (xnth xTs 194) 18 = some (18, .iload 5, 2, (0, 0, 0, 0), .null, [], 0, 1, [6, 7]) := rfl
theorem f_194_20 : xfind (xnth xTs 194) 20 = some (20, .aload_n 0, 1, (0, 0, 0, 0), .null, [], 0, 0, []) := rfl
theorem f_194_21 : xfind (xnth xTs 194) 21 = some (21, .getfield 7, 3, (9, 0, 1, 0), .null, [], 909, 0, []) := rfl
theorem f_194_24 : xfind (xnth xTs 194) 24 = some (24, .iconst 2, 1, (0, 0, 0, 0), (.int 2), [], 0, 0, []) := rfl
theorem f_194_25 : xfind (xnth xTs 194) 25 = some (25, .iaload, 1, (0, 0, 0, 0), .null, [], 0, 0, []) := rfl
theorem f_194_26 : xfind (xnth xTs 194) 26 = some (26, .if_icmp .ge 113, 3, (0, 0, 0, 0), .null, [], 0, 0, []) := rfl
theorem f_194_29 : xfind (xnth xTs 194) 29 = some (29, .iconst 0, 1, (0, 0, 0, 0), (.int 0), [], 0, 0, []) := rfl
theorem f_194_30 : xfind (xnth xTs 194) 30 = some (30, .istore 6, 2, (0, 0, 0, 0), .null, [], 0, 0, []) := rfl
theorem f_194_32 : xfind (xnth xTs 194) 32 = some (32, .iconst 0, 1, (0, 0, 0, 0), (.int 0), [], 0, 0, []) := rfl
theorem f_194_33 : xfind (xnth xTs 194) 33 = some (33, .istore 7, 2, (0, 0, 0, 0), .null, [], 0, 0, []) := rfl
theorem f_194_35 : xfind (xnth xTs 194) 35 = some (35, .iload 7, 2, (0, 0, 0, 0), .null, [], 0, 1, []) := rfl
theorem f_194_37 : xfind (xnth xTs 194) 37 = some (37, .aload_n 0, 1, (0, 0, 0, 0), .null, [], 0, 0, []) := rfl
theorem f_194_38 : xfind (xnth xTs 194) 38 = some (38, .invokevirtual 156, 3, (151, 0, 9, 1), .null, [], 1061, 0, []) := rfl
theorem f_194_41 : xfind (xnth xTs 194) 41 = some (41, .if_icmp .ge 42, 3, (0, 0, 0, 0), .null, [], 0, 0, []) := rfl
theorem f_194_44 : xfind (xnth xTs 194) 44 = some (44, .iload 6, 2, (0, 0, 0, 0), .null, [], 0, 0, []) := rfl
theorem f_194_46 : xfind (xnth xTs 194) 46 = some (46, .iload_n 1, 1, (0, 0, 0, 0), .null, [], 0, 0, []) := rfl
theorem f_194_47 : xfind (xnth xTs 194) 47 = some (47, .iload 7, 2, (0, 0, 0, 0), .null, [], 0, 0, []) := rfl
theorem f_194_49 : xfind (xnth xTs 194) 49 = some (49, .invokestatic 137, 3, (133, 2, 9, 2), .null, [], 1034, 0, []) := rfl
theorem f_194_52 : xfind (xnth xTs 194) 52 = some (52, .ifCond .eq 21, 3, (0, 0, 0, 0), .null, [], 0, 0, []) := rfl
theorem f_194_55 : xfind (xnth xTs 194) 55 = some (55, .aload_n 0, 1, (0, 0, 0, 0), .null, [], 0, 0, []) := rfl
theorem f_194_56 : xfind (xnth xTs 194) 56 = some (56, .iload 7, 2, (0, 0, 0, 0), .null, [], 0, 0, []) := rfl
theorem f_194_58 : xfind (xnth xTs 194) 58 = some (58, .invokevirtual 255, 3, (191, 1, 9, 2), .null, [], 1233, 0, []) := rfl
theorem f_194_61 : xfind (xnth xTs 194) 61 = some (61, .iload 5, 2, (0, 0, 0, 0), .null, [], 0, 0, []) := rfl
theorem f_194_63 : xfind (xnth xTs 194) 63 = some (63, .invokestatic 137, 3, (133, 2, 9, 2), .null, [], 1034, 0, []) := rfl
theorem f_194_66 : xfind (xnth xTs 194) 66 = some (66, .ifCond .eq 7, 3, (0, 0, 0, 0), .null, [], 0, 0, []) := rfl
theorem f_194_69 : xfind (xnth xTs 194) 69 = some (69, .iconst 1, 1, (0, 0, 0, 0), (.int 1), [], 0, 0, []) := rfl
theorem f_194_70 : xfind (xnth xTs 194) 70 = some (70, .goto 4, 3, (0, 0, 0, 0), .null, [], 0, 0, []) := rfl
theorem f_194_73 : xfind (xnth xTs 194) 73 = some (73, .iconst 0, 1, (0, 0, 0, 0), (.int 0), [], 0, 0, []) := rfl
theorem f_194_74 : xfind (xnth xTs 194) 74 = some (74, .iadd, 1, (0, 0, 0, 0), .null, [], 0, 0, []) := rfl
theorem f_194_75 : xfind (xnth xTs 194) 75 = some (75, .istore 6, 2, (0, 0, 0, 0), .null, [], 0, 0, []) := rfl
theorem f_194_77 : xfind (xnth xTs 194) 77 = some (77, .iinc 7 1, 3, (0, 0, 0, 0), .null, [], 0, 0, []) := rfl
theorem f_194_80 : xfind (xnth xTs 194) 80 = some (80, .goto (-45), 3, (0, 0, 0, 0), .null, [], 0, 0, []) := rfl
theorem f_194_83 : xfind (xnth xTs 194) 83 = some (83, .iload 6, 2, (0, 0, 0, 0), .null, [], 0, 0, []) := rfl
theorem f_194_85 : xfind (xnth xTs 194) 85 = some (85, .iload_n 2, 1, (0, 0, 0, 0), .null, [], 0, 0, []) := rfl
theorem f_194_86 : xfind (xnth xTs 194) 86 = some (86, .iload 6, 2, (0, 0, 0, 0), .null, [], 0, 0, []) := rfl
theorem f_194_88 : xfind (xnth xTs 194) 88 = some (88, .isub, 1, (0, 0, 0, 0), .null, [], 0, 0, []) := rfl
theorem f_194_89 : xfind (xnth xTs 194) 89 = some (89, .if_icmp .le 8, 3, (0, 0, 0, 0), .null, [], 0, 0, []) := rfl
theorem f_194_92 : xfind (xnth xTs 194) 92 = some (92, .iload 6, 2, (0, 0, 0, 0), .null, [], 0, 0, []) := rfl
theorem f_194_94 : xfind (xnth xTs 194) 94 = some (94, .goto 7, 3, (0, 0, 0, 0), .null, [], 0, 0, []) := rfl
theorem f_194_97 : xfind (xnth xTs 194) 97 = some (97, .iload_n 2, 1, (0, 0, 0, 0), .null, [], 0, 0, []) := rfl
theorem f_194_98 : xfind (xnth xTs 194) 98 = some (98, .iload 6, 2, (0, 0, 0, 0), .null, [], 0, 0, []) := rfl
theorem f_194_100 : xfind (xnth xTs 194) 100 = some (100, .isub, 1, (0, 0, 0, 0), .null, [], 0, 0, []) := rfl
theorem f_194_101 : xfind (xnth xTs 194) 101 = some (101, .istore 7, 2, (0, 0, 0, 0), .null, [], 0, 0, []) := rfl
theorem f_194_103 : xfind (xnth xTs 194) 103 = some (103, .iload 7, 2, (0, 0, 0, 0), .null, [], 0, 0, []) := rfl
theorem f_194_105 : xfind (xnth xTs 194) 105 = some (105, .iload 4, 2, (0, 0, 0, 0), .null, [], 0, 0, []) := rfl
theorem f_194_107 : xfind (xnth xTs 194) 107 = some (107, .if_icmp .ge 8, 3, (0, 0, 0, 0), .null, [], 0, 0, []) := rfl
theorem f_194_110 : xfind (xnth xTs 194) 110 = some (110, .iload 5, 2, (0, 0, 0, 0), .null, [], 0, 0, []) := rfl
theorem f_194_112 : xfind (xnth xTs 194) 112 = some (112, .goto 4, 3, (0, 0, 0, 0), .null, [], 0, 0, []) := rfl
theorem f_194_115 : xfind (xnth xTs 194) 115 = some (115, .iload_n 3, 1, (0, 0, 0, 0), .null, [], 0, 0, []) := rfl
theorem f_194_116 : xfind (xnth xTs 194) 116 = some (116, .istore_n 3, 1, (0, 0, 0, 0), .null, [], 0, 0, []) := rfl
theorem f_194_117 : xfind (xnth xTs 194) 117 = some (117, .iload 7, 2, (0, 0, 0, 0), .null, [], 0, 0, []) := rfl
theorem f_194_119 : xfind (xnth xTs 194) 119 = some (119, .iload 4, 2, (0, 0, 0, 0), .null, [], 0, 0, []) := rfl
theorem f_194_121 : xfind (xnth xTs 194) 121 = some (121, .if_icmp .ge 8, 3, (0, 0, 0, 0), .null, [], 0, 0, []) := rfl
theorem f_194_124 : xfind (xnth xTs 194) 124 = some (124, .iload 7, 2, (0, 0, 0, 0), .null, [], 0, 0, []) := rfl
theorem f_194_126 : xfind (xnth xTs 194) 126 = some (126, .goto 5, 3, (0, 0, 0, 0), .null, [], 0, 0, []) := rfl
theorem f_194_129 : xfind (xnth xTs 194) 129 = some (129, .iload 4, 2, (0, 0, 0, 0), .null, [], 0, 0, []) := rfl
theorem f_194_131 : xfind (xnth xTs 194) 131 = some (131, .istore 4, 2, (0, 0, 0, 0), .null, [], 0, 0, []) := rfl
theorem f_194_133 : xfind (xnth xTs 194) 133 = some (133, .iinc 5 1, 3, (0, 0, 0, 0), .null, [], 0, 0, []) := rfl
theorem f_194_136 : xfind (xnth xTs 194) 136 = some (136, .goto (-118), 3, (0, 0, 0, 0), .null, [], 0, 0, []) := rfl
theorem f_194_139 : xfind (xnth xTs 194) 139 = some (139, .iload_n 3, 1, (0, 0, 0, 0), .null, [], 0, 0, []) := rfl
theorem f_194_140 : xfind (xnth xTs 194) 140 = some (140, .ireturn, 1, (0, 0, 0, 0), .null, [], 0, 0, []) := rfl
theorem hd_194_18 : xhead 194 18 = some [6, 7] := rfl
theorem hd_194_35 : xhead 194 35 = some [] := rfl
theorem b_R_watch_0 (sh : xSh) (M : Nat → Nat → Int32) (J : Nat → Nat → Int64) (l0 : Nat) : ev (194, 0, [.ref l0, .null, .null, .null, .null, .null, .null, .null], [], (sh, M, J)) = (bif (decide ((sh.2.2.1 l0).1 = 9) && true) then (ev (192, 0, [.ref l0, .null, .null, .null, .null, .null], [], (sh, M, J))).bind (fun r => ev (194, 4, [.ref l0, .null, .null, .null, .null, .null, .null, .null], r.1.toList ++ [], r.2)) else none) := by
  refine ev_nx (s1 := (194, 1, [.ref l0, .null, .null, .null, .null, .null, .null, .null], [.ref l0], (sh, M, J))) f_194_0 rfl ?_
  exact ev_ca (cc := (decide ((sh.2.2.1 l0).1 = 9) && true)) (s1 := (192, 0, [.ref l0, .null, .null, .null, .null, .null], [], (sh, M, J))) (k := (194, 4, [.ref l0, .null, .null, .null, .null, .null, .null, .null], [])) f_194_1 rfl
theorem b_R_watch_4 (sh : xSh) (M : Nat → Nat → Int32) (J : Nat → Nat → Int64) (l0 : Nat) (k0 : Int32) : ev (194, 4, [.ref l0, .null, .null, .null, .null, .null, .null, .null], [.int k0], (sh, M, J)) = ((ev (134, 0, [.int k0, .null, .null], [], (sh, M, J))).bind (fun r => ev (194, 9, [.ref l0, .int k0, .null, .null, .null, .null, .null, .null], r.1.toList ++ [], r.2))) := by
  refine ev_nx (s1 := (194, 5, [.ref l0, .int k0, .null, .null, .null, .null, .null, .null], [], (sh, M, J))) f_194_4 rfl ?_
  refine ev_nx (s1 := (194, 6, [.ref l0, .int k0, .null, .null, .null, .null, .null, .null], [.int k0], (sh, M, J))) f_194_5 rfl ?_
  exact ev_c1 (s1 := (134, 0, [.int k0, .null, .null], [], (sh, M, J))) (k := (194, 9, [.ref l0, .int k0, .null, .null, .null, .null, .null, .null], [])) f_194_6 rfl
theorem b_R_watch_9 (sh : xSh) (M : Nat → Nat → Int32) (J : Nat → Nat → Int64) (l0 : Nat) (l1 : Int32) (k0 : Int32) : ev (194, 9, [.ref l0, .int l1, .null, .null, .null, .null, .null, .null], [.int k0], (sh, M, J)) = (ev (194, 18, [.ref l0, .int l1, .int k0, .int (-1), .int k0, .int 0, .null, .null], [], (sh, M, J))) := by
  refine ev_nx (s1 := (194, 10, [.ref l0, .int l1, .int k0, .null, .null, .null, .null, .null], [], (sh, M, J))) f_194_9 rfl ?_
  refine ev_nx (s1 := (194, 11, [.ref l0, .int l1, .int k0, .null, .null, .null, .null, .null], [.int (-1)], (sh, M, J))) f_194_10 rfl ?_
  refine ev_nx (s1 := (194, 12, [.ref l0, .int l1, .int k0, .int (-1), .null, .null, .null, .null], [], (sh, M, J))) f_194_11 rfl ?_
  refine ev_nx (s1 := (194, 13, [.ref l0, .int l1, .int k0, .int (-1), .null, .null, .null, .null], [.int k0], (sh, M, J))) f_194_12 rfl ?_
  refine ev_nx (s1 := (194, 15, [.ref l0, .int l1, .int k0, .int (-1), .int k0, .null, .null, .null], [], (sh, M, J))) f_194_13 rfl ?_
  refine ev_nx (s1 := (194, 16, [.ref l0, .int l1, .int k0, .int (-1), .int k0, .null, .null, .null], [.int 0], (sh, M, J))) f_194_15 rfl ?_
  refine ev_nx (s1 := (194, 18, [.ref l0, .int l1, .int k0, .int (-1), .int k0, .int 0, .null, .null], [], (sh, M, J))) f_194_16 rfl ?_
  exact rfl
theorem b_R_watch_18 (sh : xSh) (M : Nat → Nat → Int32) (J : Nat → Nat → Int64) (l0 : Nat) (l1 : Int32) (l2 : Int32) (l3 : Int32) (l4 : Int32) (l5 : Int32) : ev (194, 18, [.ref l0, .int l1, .int l2, .int l3, .int l4, .int l5, .null, .null], [], (sh, M, J)) = (bif decide ((sh.2.2.1 l0).1 = 9) then bif (decide ((sh.2.2.1 (sh.2.2.2 l0 0)).1 = 11) && xin 2 (sh.2.2.1 (sh.2.2.2 l0 0)).2) then bif decide ((M (sh.2.2.2 l0 0) (2 : Int32).toNatClampNeg) ≤ l5) then some (some (.int l3), (sh, M, J)) else ev (194, 35, [.ref l0, .int l1, .int l2, .int l3, .int l4, .int l5, .int 0, .int 0], [], (sh, M, J)) else none else none) := by
  refine ev_nx (s1 := (194, 20, [.ref l0, .int l1, .int l2, .int l3, .int l4, .int l5, .null, .null], [.int l5], (sh, M, J))) f_194_18 rfl ?_
  refine ev_nx (s1 := (194, 21, [.ref l0, .int l1, .int l2, .int l3, .int l4, .int l5, .null, .null], [.ref l0, .int l5], (sh, M, J))) f_194_20 rfl ?_
  refine ev_gd (s1 := (194, 24, [.ref l0, .int l1, .int l2, .int l3, .int l4, .int l5, .null, .null], [.ref (sh.2.2.2 l0 0), .int l5], (sh, M, J))) f_194_21 rfl ?_
  refine ev_nx (s1 := (194, 25, [.ref l0, .int l1, .int l2, .int l3, .int l4, .int l5, .null, .null], [.int 2, .ref (sh.2.2.2 l0 0), .int l5], (sh, M, J))) f_194_24 rfl ?_
  refine ev_gd (s1 := (194, 26, [.ref l0, .int l1, .int l2, .int l3, .int l4, .int l5, .null, .null], [.int (M (sh.2.2.2 l0 0) (2 : Int32).toNatClampNeg), .int l5], (sh, M, J))) f_194_25 rfl ?_
  refine ev_br (s1 := (194, 139, [.ref l0, .int l1, .int l2, .int l3, .int l4, .int l5, .null, .null], [], (sh, M, J))) (s2 := (194, 29, [.ref l0, .int l1, .int l2, .int l3, .int l4, .int l5, .null, .null], [], (sh, M, J))) f_194_26 rfl ?_ ?_
  · refine ev_nx (s1 := (194, 140, [.ref l0, .int l1, .int l2, .int l3, .int l4, .int l5, .null, .null], [.int l3], (sh, M, J))) f_194_139 rfl ?_
    exact ev_r1 f_194_140 rfl
  · refine ev_nx (s1 := (194, 30, [.ref l0, .int l1, .int l2, .int l3, .int l4, .int l5, .null, .null], [.int 0], (sh, M, J))) f_194_29 rfl ?_
    refine ev_nx (s1 := (194, 32, [.ref l0, .int l1, .int l2, .int l3, .int l4, .int l5, .int 0, .null], [], (sh, M, J))) f_194_30 rfl ?_
    refine ev_nx (s1 := (194, 33, [.ref l0, .int l1, .int l2, .int l3, .int l4, .int l5, .int 0, .null], [.int 0], (sh, M, J))) f_194_32 rfl ?_
    refine ev_nx (s1 := (194, 35, [.ref l0, .int l1, .int l2, .int l3, .int l4, .int l5, .int 0, .int 0], [], (sh, M, J))) f_194_33 rfl ?_
    exact rfl
theorem b_R_watch_35 (sh : xSh) (M : Nat → Nat → Int32) (J : Nat → Nat → Int64) (l0 : Nat) (l1 : Int32) (l2 : Int32) (l3 : Int32) (l4 : Int32) (l5 : Int32) (l6 : Int32) (l7 : Int32) : ev (194, 35, [.ref l0, .int l1, .int l2, .int l3, .int l4, .int l5, .int l6, .int l7], [], (sh, M, J)) = (bif (decide ((sh.2.2.1 l0).1 = 9) && true) then (ev (151, 0, [.ref l0], [], (sh, M, J))).bind (fun r => ev (194, 41, [.ref l0, .int l1, .int l2, .int l3, .int l4, .int l5, .int l6, .int l7], r.1.toList ++ [.int l7], r.2)) else none) := by
  refine ev_nx (s1 := (194, 37, [.ref l0, .int l1, .int l2, .int l3, .int l4, .int l5, .int l6, .int l7], [.int l7], (sh, M, J))) f_194_35 rfl ?_
  refine ev_nx (s1 := (194, 38, [.ref l0, .int l1, .int l2, .int l3, .int l4, .int l5, .int l6, .int l7], [.ref l0, .int l7], (sh, M, J))) f_194_37 rfl ?_
  exact ev_ca (cc := (decide ((sh.2.2.1 l0).1 = 9) && true)) (s1 := (151, 0, [.ref l0], [], (sh, M, J))) (k := (194, 41, [.ref l0, .int l1, .int l2, .int l3, .int l4, .int l5, .int l6, .int l7], [.int l7])) f_194_38 rfl
theorem b_R_watch_41 (sh : xSh) (M : Nat → Nat → Int32) (J : Nat → Nat → Int64) (l0 : Nat) (l1 : Int32) (l2 : Int32) (l3 : Int32) (l4 : Int32) (l5 : Int32) (l6 : Int32) (l7 : Int32) (k0 : Int32) (k1 : Int32) : ev (194, 41, [.ref l0, .int l1, .int l2, .int l3, .int l4, .int l5, .int l6, .int l7], [.int k0, .int k1], (sh, M, J)) = (bif decide (k0 ≤ k1) then bif decide (l6 ≤ (l2 - l6)) then bif decide (l4 ≤ (l2 - l6)) then bif decide (l4 ≤ (l2 - l6)) then ev (194, 18, [.ref l0, .int l1, .int l2, .int l3, .int l4, .int (l5 + 1), .null, .null], [], (sh, M, J)) else ev (194, 18, [.ref l0, .int l1, .int l2, .int l3, .int (l2 - l6), .int (l5 + 1), .null, .null], [], (sh, M, J)) else bif decide (l4 ≤ (l2 - l6)) then ev (194, 18, [.ref l0, .int l1, .int l2, .int l5, .int l4, .int (l5 + 1), .null, .null], [], (sh, M, J)) else ev (194, 18, [.ref l0, .int l1, .int l2, .int l5, .int (l2 - l6), .int (l5 + 1), .null, .null], [], (sh, M, J)) else bif decide (l4 ≤ l6) then bif decide (l4 ≤ l6) then ev (194, 18, [.ref l0, .int l1, .int l2, .int l3, .int l4, .int (l5 + 1), .null, .null], [], (sh, M, J)) else ev (194, 18, [.ref l0, .int l1, .int l2, .int l3, .int l6, .int (l5 + 1), .null, .null], [], (sh, M, J)) else bif decide (l4 ≤ l6) then ev (194, 18, [.ref l0, .int l1, .int l2, .int l5, .int l4, .int (l5 + 1), .null, .null], [], (sh, M, J)) else ev (194, 18, [.ref l0, .int l1, .int l2, .int l5, .int l6, .int (l5 + 1), .null, .null], [], (sh, M, J)) else (ev (133, 0, [.int l1, .int l7], [], (sh, M, J))).bind (fun r => ev (194, 52, [.ref l0, .int l1, .int l2, .int l3, .int l4, .int l5, .int l6, .int l7], r.1.toList ++ [.int l6], r.2))) := by
  refine ev_br (s1 := (194, 83, [.ref l0, .int l1, .int l2, .int l3, .int l4, .int l5, .int l6, .int l7], [], (sh, M, J))) (s2 := (194, 44, [.ref l0, .int l1, .int l2, .int l3, .int l4, .int l5, .int l6, .int l7], [], (sh, M, J))) f_194_41 rfl ?_ ?_
  · refine ev_nx (s1 := (194, 85, [.ref l0, .int l1, .int l2, .int l3, .int l4, .int l5, .int l6, .int l7], [.int l6], (sh, M, J))) f_194_83 rfl ?_
    refine ev_nx (s1 := (194, 86, [.ref l0, .int l1, .int l2, .int l3, .int l4, .int l5, .int l6, .int l7], [.int l2, .int l6], (sh, M, J))) f_194_85 rfl ?_
    refine ev_nx (s1 := (194, 88, [.ref l0, .int l1, .int l2, .int l3, .int l4, .int l5, .int l6, .int l7], [.int l6, .int l2, .int l6], (sh, M, J))) f_194_86 rfl ?_
    refine ev_nx (s1 := (194, 89, [.ref l0, .int l1, .int l2, .int l3, .int l4, .int l5, .int l6, .int l7], [.int (l2 - l6), .int l6], (sh, M, J))) f_194_88 rfl ?_
    refine ev_br (s1 := (194, 97, [.ref l0, .int l1, .int l2, .int l3, .int l4, .int l5, .int l6, .int l7], [], (sh, M, J))) (s2 := (194, 92, [.ref l0, .int l1, .int l2, .int l3, .int l4, .int l5, .int l6, .int l7], [], (sh, M, J))) f_194_89 rfl ?_ ?_
    · refine ev_nx (s1 := (194, 98, [.ref l0, .int l1, .int l2, .int l3, .int l4, .int l5, .int l6, .int l7], [.int l2], (sh, M, J))) f_194_97 rfl ?_
      refine ev_nx (s1 := (194, 100, [.ref l0, .int l1, .int l2, .int l3, .int l4, .int l5, .int l6, .int l7], [.int l6, .int l2], (sh, M, J))) f_194_98 rfl ?_
      refine ev_nx (s1 := (194, 101, [.ref l0, .int l1, .int l2, .int l3, .int l4, .int l5, .int l6, .int l7], [.int (l2 - l6)], (sh, M, J))) f_194_100 rfl ?_
      refine ev_nx (s1 := (194, 103, [.ref l0, .int l1, .int l2, .int l3, .int l4, .int l5, .int l6, .int (l2 - l6)], [], (sh, M, J))) f_194_101 rfl ?_
      refine ev_nx (s1 := (194, 105, [.ref l0, .int l1, .int l2, .int l3, .int l4, .int l5, .int l6, .int (l2 - l6)], [.int (l2 - l6)], (sh, M, J))) f_194_103 rfl ?_
      refine ev_nx (s1 := (194, 107, [.ref l0, .int l1, .int l2, .int l3, .int l4, .int l5, .int l6, .int (l2 - l6)], [.int l4, .int (l2 - l6)], (sh, M, J))) f_194_105 rfl ?_
      refine ev_br (s1 := (194, 115, [.ref l0, .int l1, .int l2, .int l3, .int l4, .int l5, .int l6, .int (l2 - l6)], [], (sh, M, J))) (s2 := (194, 110, [.ref l0, .int l1, .int l2, .int l3, .int l4, .int l5, .int l6, .int (l2 - l6)], [], (sh, M, J))) f_194_107 rfl ?_ ?_
      · refine ev_nx (s1 := (194, 116, [.ref l0, .int l1, .int l2, .int l3, .int l4, .int l5, .int l6, .int (l2 - l6)], [.int l3], (sh, M, J))) f_194_115 rfl ?_
        refine ev_nx (s1 := (194, 117, [.ref l0, .int l1, .int l2, .int l3, .int l4, .int l5, .int l6, .int (l2 - l6)], [], (sh, M, J))) f_194_116 rfl ?_
        refine ev_nx (s1 := (194, 119, [.ref l0, .int l1, .int l2, .int l3, .int l4, .int l5, .int l6, .int (l2 - l6)], [.int (l2 - l6)], (sh, M, J))) f_194_117 rfl ?_
        refine ev_nx (s1 := (194, 121, [.ref l0, .int l1, .int l2, .int l3, .int l4, .int l5, .int l6, .int (l2 - l6)], [.int l4, .int (l2 - l6)], (sh, M, J))) f_194_119 rfl ?_
        refine ev_br (s1 := (194, 129, [.ref l0, .int l1, .int l2, .int l3, .int l4, .int l5, .int l6, .int (l2 - l6)], [], (sh, M, J))) (s2 := (194, 124, [.ref l0, .int l1, .int l2, .int l3, .int l4, .int l5, .int l6, .int (l2 - l6)], [], (sh, M, J))) f_194_121 rfl ?_ ?_
        · refine ev_nx (s1 := (194, 131, [.ref l0, .int l1, .int l2, .int l3, .int l4, .int l5, .int l6, .int (l2 - l6)], [.int l4], (sh, M, J))) f_194_129 rfl ?_
          refine ev_nx (s1 := (194, 133, [.ref l0, .int l1, .int l2, .int l3, .int l4, .int l5, .int l6, .int (l2 - l6)], [], (sh, M, J))) f_194_131 rfl ?_
          refine ev_nx (s1 := (194, 136, [.ref l0, .int l1, .int l2, .int l3, .int l4, .int (l5 + 1), .int l6, .int (l2 - l6)], [], (sh, M, J))) f_194_133 rfl ?_
          refine ev_nx (s1 := (194, 18, [.ref l0, .int l1, .int l2, .int l3, .int l4, .int (l5 + 1), .int l6, .int (l2 - l6)], [], (sh, M, J))) f_194_136 rfl ?_
          exact (ev_kill hd_194_18).symm
        · refine ev_nx (s1 := (194, 126, [.ref l0, .int l1, .int l2, .int l3, .int l4, .int l5, .int l6, .int (l2 - l6)], [.int (l2 - l6)], (sh, M, J))) f_194_124 rfl ?_
          refine ev_nx (s1 := (194, 131, [.ref l0, .int l1, .int l2, .int l3, .int l4, .int l5, .int l6, .int (l2 - l6)], [.int (l2 - l6)], (sh, M, J))) f_194_126 rfl ?_
          refine ev_nx (s1 := (194, 133, [.ref l0, .int l1, .int l2, .int l3, .int (l2 - l6), .int l5, .int l6, .int (l2 - l6)], [], (sh, M, J))) f_194_131 rfl ?_
          refine ev_nx (s1 := (194, 136, [.ref l0, .int l1, .int l2, .int l3, .int (l2 - l6), .int (l5 + 1), .int l6, .int (l2 - l6)], [], (sh, M, J))) f_194_133 rfl ?_
          refine ev_nx (s1 := (194, 18, [.ref l0, .int l1, .int l2, .int l3, .int (l2 - l6), .int (l5 + 1), .int l6, .int (l2 - l6)], [], (sh, M, J))) f_194_136 rfl ?_
          exact (ev_kill hd_194_18).symm
      · refine ev_nx (s1 := (194, 112, [.ref l0, .int l1, .int l2, .int l3, .int l4, .int l5, .int l6, .int (l2 - l6)], [.int l5], (sh, M, J))) f_194_110 rfl ?_
        refine ev_nx (s1 := (194, 116, [.ref l0, .int l1, .int l2, .int l3, .int l4, .int l5, .int l6, .int (l2 - l6)], [.int l5], (sh, M, J))) f_194_112 rfl ?_
        refine ev_nx (s1 := (194, 117, [.ref l0, .int l1, .int l2, .int l5, .int l4, .int l5, .int l6, .int (l2 - l6)], [], (sh, M, J))) f_194_116 rfl ?_
        refine ev_nx (s1 := (194, 119, [.ref l0, .int l1, .int l2, .int l5, .int l4, .int l5, .int l6, .int (l2 - l6)], [.int (l2 - l6)], (sh, M, J))) f_194_117 rfl ?_
        refine ev_nx (s1 := (194, 121, [.ref l0, .int l1, .int l2, .int l5, .int l4, .int l5, .int l6, .int (l2 - l6)], [.int l4, .int (l2 - l6)], (sh, M, J))) f_194_119 rfl ?_
        refine ev_br (s1 := (194, 129, [.ref l0, .int l1, .int l2, .int l5, .int l4, .int l5, .int l6, .int (l2 - l6)], [], (sh, M, J))) (s2 := (194, 124, [.ref l0, .int l1, .int l2, .int l5, .int l4, .int l5, .int l6, .int (l2 - l6)], [], (sh, M, J))) f_194_121 rfl ?_ ?_
        · refine ev_nx (s1 := (194, 131, [.ref l0, .int l1, .int l2, .int l5, .int l4, .int l5, .int l6, .int (l2 - l6)], [.int l4], (sh, M, J))) f_194_129 rfl ?_
          refine ev_nx (s1 := (194, 133, [.ref l0, .int l1, .int l2, .int l5, .int l4, .int l5, .int l6, .int (l2 - l6)], [], (sh, M, J))) f_194_131 rfl ?_
          refine ev_nx (s1 := (194, 136, [.ref l0, .int l1, .int l2, .int l5, .int l4, .int (l5 + 1), .int l6, .int (l2 - l6)], [], (sh, M, J))) f_194_133 rfl ?_
          refine ev_nx (s1 := (194, 18, [.ref l0, .int l1, .int l2, .int l5, .int l4, .int (l5 + 1), .int l6, .int (l2 - l6)], [], (sh, M, J))) f_194_136 rfl ?_
          exact (ev_kill hd_194_18).symm
        · refine ev_nx (s1 := (194, 126, [.ref l0, .int l1, .int l2, .int l5, .int l4, .int l5, .int l6, .int (l2 - l6)], [.int (l2 - l6)], (sh, M, J))) f_194_124 rfl ?_
          refine ev_nx (s1 := (194, 131, [.ref l0, .int l1, .int l2, .int l5, .int l4, .int l5, .int l6, .int (l2 - l6)], [.int (l2 - l6)], (sh, M, J))) f_194_126 rfl ?_
          refine ev_nx (s1 := (194, 133, [.ref l0, .int l1, .int l2, .int l5, .int (l2 - l6), .int l5, .int l6, .int (l2 - l6)], [], (sh, M, J))) f_194_131 rfl ?_
          refine ev_nx (s1 := (194, 136, [.ref l0, .int l1, .int l2, .int l5, .int (l2 - l6), .int (l5 + 1), .int l6, .int (l2 - l6)], [], (sh, M, J))) f_194_133 rfl ?_
          refine ev_nx (s1 := (194, 18, [.ref l0, .int l1, .int l2, .int l5, .int (l2 - l6), .int (l5 + 1), .int l6, .int (l2 - l6)], [], (sh, M, J))) f_194_136 rfl ?_
          exact (ev_kill hd_194_18).symm
    · refine ev_nx (s1 := (194, 94, [.ref l0, .int l1, .int l2, .int l3, .int l4, .int l5, .int l6, .int l7], [.int l6], (sh, M, J))) f_194_92 rfl ?_
      refine ev_nx (s1 := (194, 101, [.ref l0, .int l1, .int l2, .int l3, .int l4, .int l5, .int l6, .int l7], [.int l6], (sh, M, J))) f_194_94 rfl ?_
      refine ev_nx (s1 := (194, 103, [.ref l0, .int l1, .int l2, .int l3, .int l4, .int l5, .int l6, .int l6], [], (sh, M, J))) f_194_101 rfl ?_
      refine ev_nx (s1 := (194, 105, [.ref l0, .int l1, .int l2, .int l3, .int l4, .int l5, .int l6, .int l6], [.int l6], (sh, M, J))) f_194_103 rfl ?_
      refine ev_nx (s1 := (194, 107, [.ref l0, .int l1, .int l2, .int l3, .int l4, .int l5, .int l6, .int l6], [.int l4, .int l6], (sh, M, J))) f_194_105 rfl ?_
      refine ev_br (s1 := (194, 115, [.ref l0, .int l1, .int l2, .int l3, .int l4, .int l5, .int l6, .int l6], [], (sh, M, J))) (s2 := (194, 110, [.ref l0, .int l1, .int l2, .int l3, .int l4, .int l5, .int l6, .int l6], [], (sh, M, J))) f_194_107 rfl ?_ ?_
      · refine ev_nx (s1 := (194, 116, [.ref l0, .int l1, .int l2, .int l3, .int l4, .int l5, .int l6, .int l6], [.int l3], (sh, M, J))) f_194_115 rfl ?_
        refine ev_nx (s1 := (194, 117, [.ref l0, .int l1, .int l2, .int l3, .int l4, .int l5, .int l6, .int l6], [], (sh, M, J))) f_194_116 rfl ?_
        refine ev_nx (s1 := (194, 119, [.ref l0, .int l1, .int l2, .int l3, .int l4, .int l5, .int l6, .int l6], [.int l6], (sh, M, J))) f_194_117 rfl ?_
        refine ev_nx (s1 := (194, 121, [.ref l0, .int l1, .int l2, .int l3, .int l4, .int l5, .int l6, .int l6], [.int l4, .int l6], (sh, M, J))) f_194_119 rfl ?_
        refine ev_br (s1 := (194, 129, [.ref l0, .int l1, .int l2, .int l3, .int l4, .int l5, .int l6, .int l6], [], (sh, M, J))) (s2 := (194, 124, [.ref l0, .int l1, .int l2, .int l3, .int l4, .int l5, .int l6, .int l6], [], (sh, M, J))) f_194_121 rfl ?_ ?_
        · refine ev_nx (s1 := (194, 131, [.ref l0, .int l1, .int l2, .int l3, .int l4, .int l5, .int l6, .int l6], [.int l4], (sh, M, J))) f_194_129 rfl ?_
          refine ev_nx (s1 := (194, 133, [.ref l0, .int l1, .int l2, .int l3, .int l4, .int l5, .int l6, .int l6], [], (sh, M, J))) f_194_131 rfl ?_
          refine ev_nx (s1 := (194, 136, [.ref l0, .int l1, .int l2, .int l3, .int l4, .int (l5 + 1), .int l6, .int l6], [], (sh, M, J))) f_194_133 rfl ?_
          refine ev_nx (s1 := (194, 18, [.ref l0, .int l1, .int l2, .int l3, .int l4, .int (l5 + 1), .int l6, .int l6], [], (sh, M, J))) f_194_136 rfl ?_
          exact (ev_kill hd_194_18).symm
        · refine ev_nx (s1 := (194, 126, [.ref l0, .int l1, .int l2, .int l3, .int l4, .int l5, .int l6, .int l6], [.int l6], (sh, M, J))) f_194_124 rfl ?_
          refine ev_nx (s1 := (194, 131, [.ref l0, .int l1, .int l2, .int l3, .int l4, .int l5, .int l6, .int l6], [.int l6], (sh, M, J))) f_194_126 rfl ?_
          refine ev_nx (s1 := (194, 133, [.ref l0, .int l1, .int l2, .int l3, .int l6, .int l5, .int l6, .int l6], [], (sh, M, J))) f_194_131 rfl ?_
          refine ev_nx (s1 := (194, 136, [.ref l0, .int l1, .int l2, .int l3, .int l6, .int (l5 + 1), .int l6, .int l6], [], (sh, M, J))) f_194_133 rfl ?_
          refine ev_nx (s1 := (194, 18, [.ref l0, .int l1, .int l2, .int l3, .int l6, .int (l5 + 1), .int l6, .int l6], [], (sh, M, J))) f_194_136 rfl ?_
          exact (ev_kill hd_194_18).symm
      · refine ev_nx (s1 := (194, 112, [.ref l0, .int l1, .int l2, .int l3, .int l4, .int l5, .int l6, .int l6], [.int l5], (sh, M, J))) f_194_110 rfl ?_
        refine ev_nx (s1 := (194, 116, [.ref l0, .int l1, .int l2, .int l3, .int l4, .int l5, .int l6, .int l6], [.int l5], (sh, M, J))) f_194_112 rfl ?_
        refine ev_nx (s1 := (194, 117, [.ref l0, .int l1, .int l2, .int l5, .int l4, .int l5, .int l6, .int l6], [], (sh, M, J))) f_194_116 rfl ?_
        refine ev_nx (s1 := (194, 119, [.ref l0, .int l1, .int l2, .int l5, .int l4, .int l5, .int l6, .int l6], [.int l6], (sh, M, J))) f_194_117 rfl ?_
        refine ev_nx (s1 := (194, 121, [.ref l0, .int l1, .int l2, .int l5, .int l4, .int l5, .int l6, .int l6], [.int l4, .int l6], (sh, M, J))) f_194_119 rfl ?_
        refine ev_br (s1 := (194, 129, [.ref l0, .int l1, .int l2, .int l5, .int l4, .int l5, .int l6, .int l6], [], (sh, M, J))) (s2 := (194, 124, [.ref l0, .int l1, .int l2, .int l5, .int l4, .int l5, .int l6, .int l6], [], (sh, M, J))) f_194_121 rfl ?_ ?_
        · refine ev_nx (s1 := (194, 131, [.ref l0, .int l1, .int l2, .int l5, .int l4, .int l5, .int l6, .int l6], [.int l4], (sh, M, J))) f_194_129 rfl ?_
          refine ev_nx (s1 := (194, 133, [.ref l0, .int l1, .int l2, .int l5, .int l4, .int l5, .int l6, .int l6], [], (sh, M, J))) f_194_131 rfl ?_
          refine ev_nx (s1 := (194, 136, [.ref l0, .int l1, .int l2, .int l5, .int l4, .int (l5 + 1), .int l6, .int l6], [], (sh, M, J))) f_194_133 rfl ?_
          refine ev_nx (s1 := (194, 18, [.ref l0, .int l1, .int l2, .int l5, .int l4, .int (l5 + 1), .int l6, .int l6], [], (sh, M, J))) f_194_136 rfl ?_
          exact (ev_kill hd_194_18).symm
        · refine ev_nx (s1 := (194, 126, [.ref l0, .int l1, .int l2, .int l5, .int l4, .int l5, .int l6, .int l6], [.int l6], (sh, M, J))) f_194_124 rfl ?_
          refine ev_nx (s1 := (194, 131, [.ref l0, .int l1, .int l2, .int l5, .int l4, .int l5, .int l6, .int l6], [.int l6], (sh, M, J))) f_194_126 rfl ?_
          refine ev_nx (s1 := (194, 133, [.ref l0, .int l1, .int l2, .int l5, .int l6, .int l5, .int l6, .int l6], [], (sh, M, J))) f_194_131 rfl ?_
          refine ev_nx (s1 := (194, 136, [.ref l0, .int l1, .int l2, .int l5, .int l6, .int (l5 + 1), .int l6, .int l6], [], (sh, M, J))) f_194_133 rfl ?_
          refine ev_nx (s1 := (194, 18, [.ref l0, .int l1, .int l2, .int l5, .int l6, .int (l5 + 1), .int l6, .int l6], [], (sh, M, J))) f_194_136 rfl ?_
          exact (ev_kill hd_194_18).symm
  · refine ev_nx (s1 := (194, 46, [.ref l0, .int l1, .int l2, .int l3, .int l4, .int l5, .int l6, .int l7], [.int l6], (sh, M, J))) f_194_44 rfl ?_
    refine ev_nx (s1 := (194, 47, [.ref l0, .int l1, .int l2, .int l3, .int l4, .int l5, .int l6, .int l7], [.int l1, .int l6], (sh, M, J))) f_194_46 rfl ?_
    refine ev_nx (s1 := (194, 49, [.ref l0, .int l1, .int l2, .int l3, .int l4, .int l5, .int l6, .int l7], [.int l7, .int l1, .int l6], (sh, M, J))) f_194_47 rfl ?_
    exact ev_c1 (s1 := (133, 0, [.int l1, .int l7], [], (sh, M, J))) (k := (194, 52, [.ref l0, .int l1, .int l2, .int l3, .int l4, .int l5, .int l6, .int l7], [.int l6])) f_194_49 rfl
theorem b_R_watch_52 (sh : xSh) (M : Nat → Nat → Int32) (J : Nat → Nat → Int64) (l0 : Nat) (l1 : Int32) (l2 : Int32) (l3 : Int32) (l4 : Int32) (l5 : Int32) (l6 : Int32) (l7 : Int32) (k0 : Int32) (k1 : Int32) : ev (194, 52, [.ref l0, .int l1, .int l2, .int l3, .int l4, .int l5, .int l6, .int l7], [.int k0, .int k1], (sh, M, J)) = (bif decide (k0 = 0) then ev (194, 35, [.ref l0, .int l1, .int l2, .int l3, .int l4, .int l5, .int (k1 + 0), .int (l7 + 1)], [], (sh, M, J)) else bif (decide ((sh.2.2.1 l0).1 = 9) && true) then (ev (191, 0, [.ref l0, .int l7], [], (sh, M, J))).bind (fun r => ev (194, 61, [.ref l0, .int l1, .int l2, .int l3, .int l4, .int l5, .int l6, .int l7], r.1.toList ++ [.int k1], r.2)) else none) := by
  refine ev_br (s1 := (194, 73, [.ref l0, .int l1, .int l2, .int l3, .int l4, .int l5, .int l6, .int l7], [.int k1], (sh, M, J))) (s2 := (194, 55, [.ref l0, .int l1, .int l2, .int l3, .int l4, .int l5, .int l6, .int l7], [.int k1], (sh, M, J))) f_194_52 rfl ?_ ?_
  · refine ev_nx (s1 := (194, 74, [.ref l0, .int l1, .int l2, .int l3, .int l4, .int l5, .int l6, .int l7], [.int 0, .int k1], (sh, M, J))) f_194_73 rfl ?_
    refine ev_nx (s1 := (194, 75, [.ref l0, .int l1, .int l2, .int l3, .int l4, .int l5, .int l6, .int l7], [.int (k1 + 0)], (sh, M, J))) f_194_74 rfl ?_
    refine ev_nx (s1 := (194, 77, [.ref l0, .int l1, .int l2, .int l3, .int l4, .int l5, .int (k1 + 0), .int l7], [], (sh, M, J))) f_194_75 rfl ?_
    refine ev_nx (s1 := (194, 80, [.ref l0, .int l1, .int l2, .int l3, .int l4, .int l5, .int (k1 + 0), .int (l7 + 1)], [], (sh, M, J))) f_194_77 rfl ?_
    refine ev_nx (s1 := (194, 35, [.ref l0, .int l1, .int l2, .int l3, .int l4, .int l5, .int (k1 + 0), .int (l7 + 1)], [], (sh, M, J))) f_194_80 rfl ?_
    exact rfl
  · refine ev_nx (s1 := (194, 56, [.ref l0, .int l1, .int l2, .int l3, .int l4, .int l5, .int l6, .int l7], [.ref l0, .int k1], (sh, M, J))) f_194_55 rfl ?_
    refine ev_nx (s1 := (194, 58, [.ref l0, .int l1, .int l2, .int l3, .int l4, .int l5, .int l6, .int l7], [.int l7, .ref l0, .int k1], (sh, M, J))) f_194_56 rfl ?_
    exact ev_ca (cc := (decide ((sh.2.2.1 l0).1 = 9) && true)) (s1 := (191, 0, [.ref l0, .int l7], [], (sh, M, J))) (k := (194, 61, [.ref l0, .int l1, .int l2, .int l3, .int l4, .int l5, .int l6, .int l7], [.int k1])) f_194_58 rfl
theorem b_R_watch_61 (sh : xSh) (M : Nat → Nat → Int32) (J : Nat → Nat → Int64) (l0 : Nat) (l1 : Int32) (l2 : Int32) (l3 : Int32) (l4 : Int32) (l5 : Int32) (l6 : Int32) (l7 : Int32) (k0 : Int32) (k1 : Int32) : ev (194, 61, [.ref l0, .int l1, .int l2, .int l3, .int l4, .int l5, .int l6, .int l7], [.int k0, .int k1], (sh, M, J)) = ((ev (133, 0, [.int k0, .int l5], [], (sh, M, J))).bind (fun r => ev (194, 66, [.ref l0, .int l1, .int l2, .int l3, .int l4, .int l5, .int l6, .int l7], r.1.toList ++ [.int k1], r.2))) := by
  refine ev_nx (s1 := (194, 63, [.ref l0, .int l1, .int l2, .int l3, .int l4, .int l5, .int l6, .int l7], [.int l5, .int k0, .int k1], (sh, M, J))) f_194_61 rfl ?_
  exact ev_c1 (s1 := (133, 0, [.int k0, .int l5], [], (sh, M, J))) (k := (194, 66, [.ref l0, .int l1, .int l2, .int l3, .int l4, .int l5, .int l6, .int l7], [.int k1])) f_194_63 rfl
theorem b_R_watch_66 (sh : xSh) (M : Nat → Nat → Int32) (J : Nat → Nat → Int64) (l0 : Nat) (l1 : Int32) (l2 : Int32) (l3 : Int32) (l4 : Int32) (l5 : Int32) (l6 : Int32) (l7 : Int32) (k0 : Int32) (k1 : Int32) : ev (194, 66, [.ref l0, .int l1, .int l2, .int l3, .int l4, .int l5, .int l6, .int l7], [.int k0, .int k1], (sh, M, J)) = (bif decide (k0 = 0) then ev (194, 35, [.ref l0, .int l1, .int l2, .int l3, .int l4, .int l5, .int (k1 + 0), .int (l7 + 1)], [], (sh, M, J)) else ev (194, 35, [.ref l0, .int l1, .int l2, .int l3, .int l4, .int l5, .int (k1 + 1), .int (l7 + 1)], [], (sh, M, J))) := by
  refine ev_br (s1 := (194, 73, [.ref l0, .int l1, .int l2, .int l3, .int l4, .int l5, .int l6, .int l7], [.int k1], (sh, M, J))) (s2 := (194, 69, [.ref l0, .int l1, .int l2, .int l3, .int l4, .int l5, .int l6, .int l7], [.int k1], (sh, M, J))) f_194_66 rfl ?_ ?_
  · refine ev_nx (s1 := (194, 74, [.ref l0, .int l1, .int l2, .int l3, .int l4, .int l5, .int l6, .int l7], [.int 0, .int k1], (sh, M, J))) f_194_73 rfl ?_
    refine ev_nx (s1 := (194, 75, [.ref l0, .int l1, .int l2, .int l3, .int l4, .int l5, .int l6, .int l7], [.int (k1 + 0)], (sh, M, J))) f_194_74 rfl ?_
    refine ev_nx (s1 := (194, 77, [.ref l0, .int l1, .int l2, .int l3, .int l4, .int l5, .int (k1 + 0), .int l7], [], (sh, M, J))) f_194_75 rfl ?_
    refine ev_nx (s1 := (194, 80, [.ref l0, .int l1, .int l2, .int l3, .int l4, .int l5, .int (k1 + 0), .int (l7 + 1)], [], (sh, M, J))) f_194_77 rfl ?_
    refine ev_nx (s1 := (194, 35, [.ref l0, .int l1, .int l2, .int l3, .int l4, .int l5, .int (k1 + 0), .int (l7 + 1)], [], (sh, M, J))) f_194_80 rfl ?_
    exact rfl
  · refine ev_nx (s1 := (194, 70, [.ref l0, .int l1, .int l2, .int l3, .int l4, .int l5, .int l6, .int l7], [.int 1, .int k1], (sh, M, J))) f_194_69 rfl ?_
    refine ev_nx (s1 := (194, 74, [.ref l0, .int l1, .int l2, .int l3, .int l4, .int l5, .int l6, .int l7], [.int 1, .int k1], (sh, M, J))) f_194_70 rfl ?_
    refine ev_nx (s1 := (194, 75, [.ref l0, .int l1, .int l2, .int l3, .int l4, .int l5, .int l6, .int l7], [.int (k1 + 1)], (sh, M, J))) f_194_74 rfl ?_
    refine ev_nx (s1 := (194, 77, [.ref l0, .int l1, .int l2, .int l3, .int l4, .int l5, .int (k1 + 1), .int l7], [], (sh, M, J))) f_194_75 rfl ?_
    refine ev_nx (s1 := (194, 80, [.ref l0, .int l1, .int l2, .int l3, .int l4, .int l5, .int (k1 + 1), .int (l7 + 1)], [], (sh, M, J))) f_194_77 rfl ?_
    refine ev_nx (s1 := (194, 35, [.ref l0, .int l1, .int l2, .int l3, .int l4, .int l5, .int (k1 + 1), .int (l7 + 1)], [], (sh, M, J))) f_194_80 rfl ?_
    exact rfl
theorem f_195_0 : xfind (xnth xTs 195) 0 = some (0, .aload_n 0, 1, (0, 0, 0, 0), .null, [], 0, 0, []) := rfl
theorem f_195_1 : xfind (xnth xTs 195) 1 = some (1, .iload_n 1, 1, (0, 0, 0, 0), .null, [], 0, 0, []) := rfl
theorem f_195_2 : xfind (xnth xTs 195) 2 = some (2, .invokevirtual 198, 3, (153, 1, 9, 2), .null, [], 1106, 0, []) := rfl
theorem f_195_5 : xfind (xnth xTs 195) 5 = some (5, .ifCond .ne 6, 3, (0, 0, 0, 0), .null, [], 0, 0, []) := rfl
theorem f_195_8 : xfind (xnth xTs 195) 8 = some (8, .ldc 192, 2, (0, 0, 0, 0), (.int (-1000000001)), [], 1092, 0, []) := rfl
theorem f_195_10 : xfind (xnth xTs 195) 10 = some (10, .ireturn, 1, (0, 0, 0, 0), .null, [], 0, 0, []) := rfl
theorem f_195_11 : xfind (xnth xTs 195) 11 = some (11, .iload_n 2, 1, (0, 0, 0, 0), .null, [], 0, 0, []) := rfl
theorem f_195_12 : xfind (xnth xTs 195) 12 = some (12, .i2l, 1, (0, 0, 0, 0), .null, [], 0, 0, []) := rfl
theorem f_195_13 : xfind (xnth xTs 195) 13 = some (13, .lconst 0, 1, (0, 0, 0, 0), (.long 0), [], 0, 0, []) := rfl
theorem f_195_14 : xfind (xnth xTs 195) 14 = some (14, .ldc2_w 66, 3, (0, 0, 0, 0), (.long 9), [], 896, 0, []) := rfl
theorem f_195_17 : xfind (xnth xTs 195) 17 = some (17, .invokestatic 68, 3, (132, 3, 9, 6), .null, [], 897, 0, []) := rfl
theorem f_195_20 : xfind (xnth xTs 195) 20 = some (20, .ifCond .ne 6, 3, (0, 0, 0, 0), .null, [], 0, 0, []) := rfl
theorem f_195_23 : xfind (xnth xTs 195) 23 = some (23, .ldc 91, 2, (0, 0, 0, 0), (.int (-1000000002)), [], 994, 0, []) := rfl
theorem f_195_25 : xfind (xnth xTs 195) 25 = some (25, .ireturn, 1, (0, 0, 0, 0), .null, [], 0, 0, []) := rfl
theorem f_195_26 : xfind (xnth xTs 195) 26 = some (26, .aload_n 0, 1, (0, 0, 0, 0), .null, [], 0, 0, []) := rfl
theorem f_195_27 : xfind (xnth xTs 195) 27 = some (27, .getfield 86, 3, (9, 15, 0, 0), .null, [], 924, 0, []) := rfl
theorem f_195_30 : xfind (xnth xTs 195) 30 = some (30, .bipush 15, 2, (0, 0, 0, 0), (.int 15), [], 0, 0, []) := rfl
theorem f_195_32 : xfind (xnth xTs 195) 32 = some (32, .if_icmp .ne 6, 3, (0, 0, 0, 0), .null, [], 0, 0, []) := rfl
theorem f_195_35 : xfind (xnth xTs 195) 35 = some (35, .ldc 95, 2, (0, 0, 0, 0), (.int (-1000000004)), [], 995, 0, []) := rfl
theorem f_195_37 : xfind (xnth xTs 195) 37 = some (37, .ireturn, 1, (0, 0, 0, 0), .null, [], 0, 0, []) := rfl
theorem f_195_38 : xfind (xnth xTs 195) 38 = some (38, .aload_n 0, 1, (0, 0, 0, 0), .null, [], 0, 0, []) := rfl
theorem f_195_39 : xfind (xnth xTs 195) 39 = some (39, .getfield 42, 3, (9, 14, 1, 0), .null, [], 923, 0, []) := rfl
theorem f_195_42 : xfind (xnth xTs 195) 42 = some (42, .iconst 2, 1, (0, 0, 0, 0), (.int 2), [], 0, 0, []) := rfl
theorem f_195_43 : xfind (xnth xTs 195) 43 = some (43, .aload_n 0, 1, (0, 0, 0, 0), .null, [], 0, 0, []) := rfl
theorem f_195_44 : xfind (xnth xTs 195) 44 = some (44, .getfield 86, 3, (9, 15, 0, 0), .null, [], 924, 0, []) := rfl
theorem f_195_47 : xfind (xnth xTs 195) 47 = some (47, .imul, 1, (0, 0, 0, 0), .null, [], 0, 0, []) := rfl
theorem f_195_48 : xfind (xnth xTs 195) 48 = some (48, .iload_n 1, 1, (0, 0, 0, 0), .null, [], 0, 0, []) := rfl
theorem f_195_49 : xfind (xnth xTs 195) 49 = some (49, .iastore, 1, (0, 0, 0, 0), .null, [], 0, 0, []) := rfl
theorem f_195_50 : xfind (xnth xTs 195) 50 = some (50, .aload_n 0, 1, (0, 0, 0, 0), .null, [], 0, 0, []) := rfl
theorem f_195_51 : xfind (xnth xTs 195) 51 = some (51, .getfield 42, 3, (9, 14, 1, 0), .null, [], 923, 0, []) := rfl
theorem f_195_54 : xfind (xnth xTs 195) 54 = some (54, .iconst 2, 1, (0, 0, 0, 0), (.int 2), [], 0, 0, []) := rfl
theorem f_195_55 : xfind (xnth xTs 195) 55 = some (55, .aload_n 0, 1, (0, 0, 0, 0), .null, [], 0, 0, []) := rfl
theorem f_195_56 : xfind (xnth xTs 195) 56 = some (56, .getfield 86, 3, (9, 15, 0, 0), .null, [], 924, 0, []) := rfl
theorem f_195_59 : xfind (xnth xTs 195) 59 = some (59, .imul, 1, (0, 0, 0, 0), .null, [], 0, 0, []) := rfl
theorem f_195_60 : xfind (xnth xTs 195) 60 = some (60, .iconst 1, 1, (0, 0, 0, 0), (.int 1), [], 0, 0, []) := rfl
theorem f_195_61 : xfind (xnth xTs 195) 61 = some (61, .iadd, 1, (0, 0, 0, 0), .null, [], 0, 0, []) := rfl
theorem f_195_62 : xfind (xnth xTs 195) 62 = some (62, .iload_n 2, 1, (0, 0, 0, 0), .null, [], 0, 0, []) := rfl
theorem f_195_63 : xfind (xnth xTs 195) 63 = some (63, .iastore, 1, (0, 0, 0, 0), .null, [], 0, 0, []) := rfl
theorem f_195_64 : xfind (xnth xTs 195) 64 = some (64, .aload_n 0, 1, (0, 0, 0, 0), .null, [], 0, 0, []) := rfl
theorem f_195_65 : xfind (xnth xTs 195) 65 = some (65, .dup, 1, (0, 0, 0, 0), .null, [], 0, 0, []) := rfl
theorem f_195_66 : xfind (xnth xTs 195) 66 = some (66, .getfield 86, 3, (9, 15, 0, 0), .null, [], 924, 0, []) := rfl
theorem f_195_69 : xfind (xnth xTs 195) 69 = some (69, .iconst 1, 1, (0, 0, 0, 0), (.int 1), [], 0, 0, []) := rfl
theorem f_195_70 : xfind (xnth xTs 195) 70 = some (70, .iadd, 1, (0, 0, 0, 0), .null, [], 0, 0, []) := rfl
theorem f_195_71 : xfind (xnth xTs 195) 71 = some (71, .putfield 86, 3, (9, 15, 0, 0), .null, [], 924, 0, []) := rfl
theorem f_195_74 : xfind (xnth xTs 195) 74 = some (74, .aload_n 0, 1, (0, 0, 0, 0), .null, [], 0, 0, []) := rfl
theorem f_195_75 : xfind (xnth xTs 195) 75 = some (75, .getfield 86, 3, (9, 15, 0, 0), .null, [], 924, 0, []) := rfl
theorem f_195_78 : xfind (xnth xTs 195) 78 = some (78, .ireturn, 1, (0, 0, 0, 0), .null, [], 0, 0, []) := rfl
theorem b_R_write_0 (sh : xSh) (M : Nat → Nat → Int32) (J : Nat → Nat → Int64) (l0 : Nat) (l1 : Int32) (l2 : Int32) : ev (195, 0, [.ref l0, .int l1, .int l2], [], (sh, M, J)) = (bif (decide ((sh.2.2.1 l0).1 = 9) && true) then (ev (153, 0, [.ref l0, .int l1], [], (sh, M, J))).bind (fun r => ev (195, 5, [.ref l0, .int l1, .int l2], r.1.toList ++ [], r.2)) else none) := by
  refine ev_nx (s1 := (195, 1, [.ref l0, .int l1, .int l2], [.ref l0], (sh, M, J))) f_195_0 rfl ?_
  refine ev_nx (s1 := (195, 2, [.ref l0, .int l1, .int l2], [.int l1, .ref l0], (sh, M, J))) f_195_1 rfl ?_
  exact ev_ca (cc := (decide ((sh.2.2.1 l0).1 = 9) && true)) (s1 := (153, 0, [.ref l0, .int l1], [], (sh, M, J))) (k := (195, 5, [.ref l0, .int l1, .int l2], [])) f_195_2 rfl
theorem b_R_write_5 (sh : xSh) (M : Nat → Nat → Int32) (J : Nat → Nat → Int64) (l0 : Nat) (l1 : Int32) (l2 : Int32) (k0 : Int32) : ev (195, 5, [.ref l0, .int l1, .int l2], [.int k0], (sh, M, J)) = (bif !decide (k0 = 0) then (ev (132, 0, [.long (l2 : Int32).toInt64, .null, .long 0, .null, .long 9, .null], [], (sh, M, J))).bind (fun r => ev (195, 20, [.ref l0, .int l1, .int l2], r.1.toList ++ [], r.2)) else some (some (.int (-1000000001)), (sh, M, J))) := by
  refine ev_br (s1 := (195, 11, [.ref l0, .int l1, .int l2], [], (sh, M, J))) (s2 := (195, 8, [.ref l0, .int l1, .int l2], [], (sh, M, J))) f_195_5 rfl ?_ ?_
  · refine ev_nx (s1 := (195, 12, [.ref l0, .int l1, .int l2], [.int l2], (sh, M, J))) f_195_11 rfl ?_
    refine ev_nx (s1 := (195, 13, [.ref l0, .int l1, .int l2], [.long (l2 : Int32).toInt64], (sh, M, J))) f_195_12 rfl ?_
    refine ev_nx (s1 := (195, 14, [.ref l0, .int l1, .int l2], [.long 0, .long (l2 : Int32).toInt64], (sh, M, J))) f_195_13 rfl ?_
    refine ev_nx (s1 := (195, 17, [.ref l0, .int l1, .int l2], [.long 9, .long 0, .long (l2 : Int32).toInt64], (sh, M, J))) f_195_14 rfl ?_
    exact ev_c1 (s1 := (132, 0, [.long (l2 : Int32).toInt64, .null, .long 0, .null, .long 9, .null], [], (sh, M, J))) (k := (195, 20, [.ref l0, .int l1, .int l2], [])) f_195_17 rfl
  · refine ev_nx (s1 := (195, 10, [.ref l0, .int l1, .int l2], [.int (-1000000001)], (sh, M, J))) f_195_8 rfl ?_
    exact ev_r1 f_195_10 rfl
theorem b_R_write_20 (sh : xSh) (M : Nat → Nat → Int32) (J : Nat → Nat → Int64) (l0 : Nat) (l1 : Int32) (l2 : Int32) (k0 : Int32) : ev (195, 20, [.ref l0, .int l1, .int l2], [.int k0], (sh, M, J)) = (bif !decide (k0 = 0) then bif decide ((sh.2.2.1 l0).1 = 9) then bif !decide ((M l0 15) = 15) then bif decide ((sh.2.2.1 l0).1 = 9) then bif decide ((sh.2.2.1 l0).1 = 9) then bif (decide ((sh.2.2.1 (sh.2.2.2 l0 14)).1 = 11) && xin ((2 : Int32) * (M l0 15)) (sh.2.2.1 (sh.2.2.2 l0 14)).2) then bif decide ((sh.2.2.1 l0).1 = 9) then bif decide ((sh.2.2.1 l0).1 = 9) then bif (decide ((sh.2.2.1 (sh.2.2.2 l0 14)).1 = 11) && xin (((2 : Int32) * ((xu M (sh.2.2.2 l0 14) (((2 : Int32) * (M l0 15)) : Int32).toNatClampNeg l1) l0 15)) + 1) (sh.2.2.1 (sh.2.2.2 l0 14)).2) then bif decide ((sh.2.2.1 l0).1 = 9) then bif decide ((sh.2.2.1 l0).1 = 9) then bif decide ((sh.2.2.1 l0).1 = 9) then some (some (.int ((xu (xu (xu M (sh.2.2.2 l0 14) (((2 : Int32) * (M l0 15)) : Int32).toNatClampNeg l1) (sh.2.2.2 l0 14) ((((2 : Int32) * ((xu M (sh.2.2.2 l0 14) (((2 : Int32) * (M l0 15)) : Int32).toNatClampNeg l1) l0 15)) + 1) : Int32).toNatClampNeg l2) l0 15 (((xu (xu M (sh.2.2.2 l0 14) (((2 : Int32) * (M l0 15)) : Int32).toNatClampNeg l1) (sh.2.2.2 l0 14) ((((2 : Int32) * ((xu M (sh.2.2.2 l0 14) (((2 : Int32) * (M l0 15)) : Int32).toNatClampNeg l1) l0 15)) + 1) : Int32).toNatClampNeg l2) l0 15) + 1)) l0 15)), (sh, (xu (xu (xu M (sh.2.2.2 l0 14) (((2 : Int32) * (M l0 15)) : Int32).toNatClampNeg l1) (sh.2.2.2 l0 14) ((((2 : Int32) * ((xu M (sh.2.2.2 l0 14) (((2 : Int32) * (M l0 15)) : Int32).toNatClampNeg l1) l0 15)) + 1) : Int32).toNatClampNeg l2) l0 15 (((xu (xu M (sh.2.2.2 l0 14) (((2 : Int32) * (M l0 15)) : Int32).toNatClampNeg l1) (sh.2.2.2 l0 14) ((((2 : Int32) * ((xu M (sh.2.2.2 l0 14) (((2 : Int32) * (M l0 15)) : Int32).toNatClampNeg l1) l0 15)) + 1) : Int32).toNatClampNeg l2) l0 15) + 1)), J)) else none else none else none else none else none else none else none else none else none else some (some (.int (-1000000004)), (sh, M, J)) else none else some (some (.int (-1000000002)), (sh, M, J))) := by
  refine ev_br (s1 := (195, 26, [.ref l0, .int l1, .int l2], [], (sh, M, J))) (s2 := (195, 23, [.ref l0, .int l1, .int l2], [], (sh, M, J))) f_195_20 rfl ?_ ?_
  · refine ev_nx (s1 := (195, 27, [.ref l0, .int l1, .int l2], [.ref l0], (sh, M, J))) f_195_26 rfl ?_
    refine ev_gd (s1 := (195, 30, [.ref l0, .int l1, .int l2], [.int (M l0 15)], (sh, M, J))) f_195_27 rfl ?_
    refine ev_nx (s1 := (195, 32, [.ref l0, .int l1, .int l2], [.int 15, .int (M l0 15)], (sh, M, J))) f_195_30 rfl ?_
    refine ev_br (s1 := (195, 38, [.ref l0, .int l1, .int l2], [], (sh, M, J))) (s2 := (195, 35, [.ref l0, .int l1, .int l2], [], (sh, M, J))) f_195_32 rfl ?_ ?_
    · refine ev_nx (s1 := (195, 39, [.ref l0, .int l1, .int l2], [.ref l0], (sh, M, J))) f_195_38 rfl ?_
      refine ev_gd (s1 := (195, 42, [.ref l0, .int l1, .int l2], [.ref (sh.2.2.2 l0 14)], (sh, M, J))) f_195_39 rfl ?_
      refine ev_nx (s1 := (195, 43, [.ref l0, .int l1, .int l2], [.int 2, .ref (sh.2.2.2 l0 14)], (sh, M, J))) f_195_42 rfl ?_
      refine ev_nx (s1 := (195, 44, [.ref l0, .int l1, .int l2], [.ref l0, .int 2, .ref (sh.2.2.2 l0 14)], (sh, M, J))) f_195_43 rfl ?_
      refine ev_gd (s1 := (195, 47, [.ref l0, .int l1, .int l2], [.int (M l0 15), .int 2, .ref (sh.2.2.2 l0 14)], (sh, M, J))) f_195_44 rfl ?_
      refine ev_nx (s1 := (195, 48, [.ref l0, .int l1, .int l2], [.int ((2 : Int32) * (M l0 15)), .ref (sh.2.2.2 l0 14)], (sh, M, J))) f_195_47 rfl ?_
      refine ev_nx (s1 := (195, 49, [.ref l0, .int l1, .int l2], [.int l1, .int ((2 : Int32) * (M l0 15)), .ref (sh.2.2.2 l0 14)], (sh, M, J))) f_195_48 rfl ?_
      refine ev_gd (s1 := (195, 50, [.ref l0, .int l1, .int l2], [], (sh, (xu M (sh.2.2.2 l0 14) (((2 : Int32) * (M l0 15)) : Int32).toNatClampNeg l1), J))) f_195_49 rfl ?_
      refine ev_nx (s1 := (195, 51, [.ref l0, .int l1, .int l2], [.ref l0], (sh, (xu M (sh.2.2.2 l0 14) (((2 : Int32) * (M l0 15)) : Int32).toNatClampNeg l1), J))) f_195_50 rfl ?_
      refine ev_gd (s1 := (195, 54, [.ref l0, .int l1, .int l2], [.ref (sh.2.2.2 l0 14)], (sh, (xu M (sh.2.2.2 l0 14) (((2 : Int32) * (M l0 15)) : Int32).toNatClampNeg l1), J))) f_195_51 rfl ?_
      refine ev_nx (s1 := (195, 55, [.ref l0, .int l1, .int l2], [.int 2, .ref (sh.2.2.2 l0 14)], (sh, (xu M (sh.2.2.2 l0 14) (((2 : Int32) * (M l0 15)) : Int32).toNatClampNeg l1), J))) f_195_54 rfl ?_
      refine ev_nx (s1 := (195, 56, [.ref l0, .int l1, .int l2], [.ref l0, .int 2, .ref (sh.2.2.2 l0 14)], (sh, (xu M (sh.2.2.2 l0 14) (((2 : Int32) * (M l0 15)) : Int32).toNatClampNeg l1), J))) f_195_55 rfl ?_
      refine ev_gd (s1 := (195, 59, [.ref l0, .int l1, .int l2], [.int ((xu M (sh.2.2.2 l0 14) (((2 : Int32) * (M l0 15)) : Int32).toNatClampNeg l1) l0 15), .int 2, .ref (sh.2.2.2 l0 14)], (sh, (xu M (sh.2.2.2 l0 14) (((2 : Int32) * (M l0 15)) : Int32).toNatClampNeg l1), J))) f_195_56 rfl ?_
      refine ev_nx (s1 := (195, 60, [.ref l0, .int l1, .int l2], [.int ((2 : Int32) * ((xu M (sh.2.2.2 l0 14) (((2 : Int32) * (M l0 15)) : Int32).toNatClampNeg l1) l0 15)), .ref (sh.2.2.2 l0 14)], (sh, (xu M (sh.2.2.2 l0 14) (((2 : Int32) * (M l0 15)) : Int32).toNatClampNeg l1), J))) f_195_59 rfl ?_
      refine ev_nx (s1 := (195, 61, [.ref l0, .int l1, .int l2], [.int 1, .int ((2 : Int32) * ((xu M (sh.2.2.2 l0 14) (((2 : Int32) * (M l0 15)) : Int32).toNatClampNeg l1) l0 15)), .ref (sh.2.2.2 l0 14)], (sh, (xu M (sh.2.2.2 l0 14) (((2 : Int32) * (M l0 15)) : Int32).toNatClampNeg l1), J))) f_195_60 rfl ?_
      refine ev_nx (s1 := (195, 62, [.ref l0, .int l1, .int l2], [.int (((2 : Int32) * ((xu M (sh.2.2.2 l0 14) (((2 : Int32) * (M l0 15)) : Int32).toNatClampNeg l1) l0 15)) + 1), .ref (sh.2.2.2 l0 14)], (sh, (xu M (sh.2.2.2 l0 14) (((2 : Int32) * (M l0 15)) : Int32).toNatClampNeg l1), J))) f_195_61 rfl ?_
      refine ev_nx (s1 := (195, 63, [.ref l0, .int l1, .int l2], [.int l2, .int (((2 : Int32) * ((xu M (sh.2.2.2 l0 14) (((2 : Int32) * (M l0 15)) : Int32).toNatClampNeg l1) l0 15)) + 1), .ref (sh.2.2.2 l0 14)], (sh, (xu M (sh.2.2.2 l0 14) (((2 : Int32) * (M l0 15)) : Int32).toNatClampNeg l1), J))) f_195_62 rfl ?_
      refine ev_gd (s1 := (195, 64, [.ref l0, .int l1, .int l2], [], (sh, (xu (xu M (sh.2.2.2 l0 14) (((2 : Int32) * (M l0 15)) : Int32).toNatClampNeg l1) (sh.2.2.2 l0 14) ((((2 : Int32) * ((xu M (sh.2.2.2 l0 14) (((2 : Int32) * (M l0 15)) : Int32).toNatClampNeg l1) l0 15)) + 1) : Int32).toNatClampNeg l2), J))) f_195_63 rfl ?_
      refine ev_nx (s1 := (195, 65, [.ref l0, .int l1, .int l2], [.ref l0], (sh, (xu (xu M (sh.2.2.2 l0 14) (((2 : Int32) * (M l0 15)) : Int32).toNatClampNeg l1) (sh.2.2.2 l0 14) ((((2 : Int32) * ((xu M (sh.2.2.2 l0 14) (((2 : Int32) * (M l0 15)) : Int32).toNatClampNeg l1) l0 15)) + 1) : Int32).toNatClampNeg l2), J))) f_195_64 rfl ?_
      refine ev_nx (s1 := (195, 66, [.ref l0, .int l1, .int l2], [.ref l0, .ref l0], (sh, (xu (xu M (sh.2.2.2 l0 14) (((2 : Int32) * (M l0 15)) : Int32).toNatClampNeg l1) (sh.2.2.2 l0 14) ((((2 : Int32) * ((xu M (sh.2.2.2 l0 14) (((2 : Int32) * (M l0 15)) : Int32).toNatClampNeg l1) l0 15)) + 1) : Int32).toNatClampNeg l2), J))) f_195_65 rfl ?_
      refine ev_gd (s1 := (195, 69, [.ref l0, .int l1, .int l2], [.int ((xu (xu M (sh.2.2.2 l0 14) (((2 : Int32) * (M l0 15)) : Int32).toNatClampNeg l1) (sh.2.2.2 l0 14) ((((2 : Int32) * ((xu M (sh.2.2.2 l0 14) (((2 : Int32) * (M l0 15)) : Int32).toNatClampNeg l1) l0 15)) + 1) : Int32).toNatClampNeg l2) l0 15), .ref l0], (sh, (xu (xu M (sh.2.2.2 l0 14) (((2 : Int32) * (M l0 15)) : Int32).toNatClampNeg l1) (sh.2.2.2 l0 14) ((((2 : Int32) * ((xu M (sh.2.2.2 l0 14) (((2 : Int32) * (M l0 15)) : Int32).toNatClampNeg l1) l0 15)) + 1) : Int32).toNatClampNeg l2), J))) f_195_66 rfl ?_
      refine ev_nx (s1 := (195, 70, [.ref l0, .int l1, .int l2], [.int 1, .int ((xu (xu M (sh.2.2.2 l0 14) (((2 : Int32) * (M l0 15)) : Int32).toNatClampNeg l1) (sh.2.2.2 l0 14) ((((2 : Int32) * ((xu M (sh.2.2.2 l0 14) (((2 : Int32) * (M l0 15)) : Int32).toNatClampNeg l1) l0 15)) + 1) : Int32).toNatClampNeg l2) l0 15), .ref l0], (sh, (xu (xu M (sh.2.2.2 l0 14) (((2 : Int32) * (M l0 15)) : Int32).toNatClampNeg l1) (sh.2.2.2 l0 14) ((((2 : Int32) * ((xu M (sh.2.2.2 l0 14) (((2 : Int32) * (M l0 15)) : Int32).toNatClampNeg l1) l0 15)) + 1) : Int32).toNatClampNeg l2), J))) f_195_69 rfl ?_
      refine ev_nx (s1 := (195, 71, [.ref l0, .int l1, .int l2], [.int (((xu (xu M (sh.2.2.2 l0 14) (((2 : Int32) * (M l0 15)) : Int32).toNatClampNeg l1) (sh.2.2.2 l0 14) ((((2 : Int32) * ((xu M (sh.2.2.2 l0 14) (((2 : Int32) * (M l0 15)) : Int32).toNatClampNeg l1) l0 15)) + 1) : Int32).toNatClampNeg l2) l0 15) + 1), .ref l0], (sh, (xu (xu M (sh.2.2.2 l0 14) (((2 : Int32) * (M l0 15)) : Int32).toNatClampNeg l1) (sh.2.2.2 l0 14) ((((2 : Int32) * ((xu M (sh.2.2.2 l0 14) (((2 : Int32) * (M l0 15)) : Int32).toNatClampNeg l1) l0 15)) + 1) : Int32).toNatClampNeg l2), J))) f_195_70 rfl ?_
      refine ev_gd (s1 := (195, 74, [.ref l0, .int l1, .int l2], [], (sh, (xu (xu (xu M (sh.2.2.2 l0 14) (((2 : Int32) * (M l0 15)) : Int32).toNatClampNeg l1) (sh.2.2.2 l0 14) ((((2 : Int32) * ((xu M (sh.2.2.2 l0 14) (((2 : Int32) * (M l0 15)) : Int32).toNatClampNeg l1) l0 15)) + 1) : Int32).toNatClampNeg l2) l0 15 (((xu (xu M (sh.2.2.2 l0 14) (((2 : Int32) * (M l0 15)) : Int32).toNatClampNeg l1) (sh.2.2.2 l0 14) ((((2 : Int32) * ((xu M (sh.2.2.2 l0 14) (((2 : Int32) * (M l0 15)) : Int32).toNatClampNeg l1) l0 15)) + 1) : Int32).toNatClampNeg l2) l0 15) + 1)), J))) f_195_71 rfl ?_
      refine ev_nx (s1 := (195, 75, [.ref l0, .int l1, .int l2], [.ref l0], (sh, (xu (xu (xu M (sh.2.2.2 l0 14) (((2 : Int32) * (M l0 15)) : Int32).toNatClampNeg l1) (sh.2.2.2 l0 14) ((((2 : Int32) * ((xu M (sh.2.2.2 l0 14) (((2 : Int32) * (M l0 15)) : Int32).toNatClampNeg l1) l0 15)) + 1) : Int32).toNatClampNeg l2) l0 15 (((xu (xu M (sh.2.2.2 l0 14) (((2 : Int32) * (M l0 15)) : Int32).toNatClampNeg l1) (sh.2.2.2 l0 14) ((((2 : Int32) * ((xu M (sh.2.2.2 l0 14) (((2 : Int32) * (M l0 15)) : Int32).toNatClampNeg l1) l0 15)) + 1) : Int32).toNatClampNeg l2) l0 15) + 1)), J))) f_195_74 rfl ?_
      refine ev_gd (s1 := (195, 78, [.ref l0, .int l1, .int l2], [.int ((xu (xu (xu M (sh.2.2.2 l0 14) (((2 : Int32) * (M l0 15)) : Int32).toNatClampNeg l1) (sh.2.2.2 l0 14) ((((2 : Int32) * ((xu M (sh.2.2.2 l0 14) (((2 : Int32) * (M l0 15)) : Int32).toNatClampNeg l1) l0 15)) + 1) : Int32).toNatClampNeg l2) l0 15 (((xu (xu M (sh.2.2.2 l0 14) (((2 : Int32) * (M l0 15)) : Int32).toNatClampNeg l1) (sh.2.2.2 l0 14) ((((2 : Int32) * ((xu M (sh.2.2.2 l0 14) (((2 : Int32) * (M l0 15)) : Int32).toNatClampNeg l1) l0 15)) + 1) : Int32).toNatClampNeg l2) l0 15) + 1)) l0 15)], (sh, (xu (xu (xu M (sh.2.2.2 l0 14) (((2 : Int32) * (M l0 15)) : Int32).toNatClampNeg l1) (sh.2.2.2 l0 14) ((((2 : Int32) * ((xu M (sh.2.2.2 l0 14) (((2 : Int32) * (M l0 15)) : Int32).toNatClampNeg l1) l0 15)) + 1) : Int32).toNatClampNeg l2) l0 15 (((xu (xu M (sh.2.2.2 l0 14) (((2 : Int32) * (M l0 15)) : Int32).toNatClampNeg l1) (sh.2.2.2 l0 14) ((((2 : Int32) * ((xu M (sh.2.2.2 l0 14) (((2 : Int32) * (M l0 15)) : Int32).toNatClampNeg l1) l0 15)) + 1) : Int32).toNatClampNeg l2) l0 15) + 1)), J))) f_195_75 rfl ?_
      exact ev_r1 f_195_78 rfl
    · refine ev_nx (s1 := (195, 37, [.ref l0, .int l1, .int l2], [.int (-1000000004)], (sh, M, J))) f_195_35 rfl ?_
      exact ev_r1 f_195_37 rfl
  · refine ev_nx (s1 := (195, 25, [.ref l0, .int l1, .int l2], [.int (-1000000002)], (sh, M, J))) f_195_23 rfl ?_
    exact ev_r1 f_195_25 rfl
theorem f_196_0 : xfind (xnth xTs 196) 0 = some (0, .aload_n 0, 1, (0, 0, 0, 0), .null, [], 0, 0, []) := rfl
theorem f_196_1 : xfind (xnth xTs 196) 1 = some (1, .getfield 83, 3, (9, 13, 0, 0), .null, [], 922, 0, []) := rfl
theorem f_196_4 : xfind (xnth xTs 196) 4 = some (4, .aload_n 0, 1, (0, 0, 0, 0), .null, [], 0, 0, []) := rfl
theorem f_196_5 : xfind (xnth xTs 196) 5 = some (5, .getfield 86, 3, (9, 15, 0, 0), .null, [], 924, 0, []) := rfl
theorem f_196_8 : xfind (xnth xTs 196) 8 = some (8, .iadd, 1, (0, 0, 0, 0), .null, [], 0, 0, []) := rfl
theorem f_196_9 : xfind (xnth xTs 196) 9 = some (9, .istore_n 1, 1, (0, 0, 0, 0), .null, [], 0, 0, []) := rfl
theorem f_196_10 : xfind (xnth xTs 196) 10 = some (10, .aload_n 0, 1, (0, 0, 0, 0), .null, [], 0, 0, []) := rfl
theorem f_196_11 : xfind (xnth xTs 196) 11 = some (11, .iconst 0, 1, (0, 0, 0, 0), (.int 0), [], 0, 0, []) := rfl
theorem f_196_12 : xfind (xnth xTs 196) 12 = some (12, .putfield 83, 3, (9, 13, 0, 0), .null, [], 922, 0, []) := rfl
theorem f_196_15 : xfind (xnth xTs 196) 15 = some (15, .aload_n 0, 1, (0, 0, 0, 0), .null, [], 0, 0, []) := rfl
theorem f_196_16 : xfind (xnth xTs 196) 16 = some (16, .iconst 0, 1, (0, 0, 0, 0), (.int 0), [], 0, 0, []) := rfl
theorem f_196_17 : xfind (xnth xTs 196) 17 = some (17, .putfield 86, 3, (9, 15, 0, 0), .null, [], 924, 0, []) := rfl
theorem f_196_20 : xfind (xnth xTs 196) 20 = some (20, .iload_n 1, 1, (0, 0, 0, 0), .null, [], 0, 0, []) := rfl
theorem f_196_21 : xfind (xnth xTs 196) 21 = some (21, .ireturn, 1, (0, 0, 0, 0), .null, [], 0, 0, []) := rfl
theorem b_R_tear_0 (sh : xSh) (M : Nat → Nat → Int32) (J : Nat → Nat → Int64) (l0 : Nat) : ev (196, 0, [.ref l0, .null], [], (sh, M, J)) = (bif decide ((sh.2.2.1 l0).1 = 9) then bif decide ((sh.2.2.1 l0).1 = 9) then bif decide ((sh.2.2.1 l0).1 = 9) then bif decide ((sh.2.2.1 l0).1 = 9) then some (some (.int ((M l0 13) + (M l0 15))), (sh, (xu (xu M l0 13 0) l0 15 0), J)) else none else none else none else none) := by
  refine ev_nx (s1 := (196, 1, [.ref l0, .null], [.ref l0], (sh, M, J))) f_196_0 rfl ?_
  refine ev_gd (s1 := (196, 4, [.ref l0, .null], [.int (M l0 13)], (sh, M, J))) f_196_1 rfl ?_
  refine ev_nx (s1 := (196, 5, [.ref l0, .null], [.ref l0, .int (M l0 13)], (sh, M, J))) f_196_4 rfl ?_
  refine ev_gd (s1 := (196, 8, [.ref l0, .null], [.int (M l0 15), .int (M l0 13)], (sh, M, J))) f_196_5 rfl ?_
  refine ev_nx (s1 := (196, 9, [.ref l0, .null], [.int ((M l0 13) + (M l0 15))], (sh, M, J))) f_196_8 rfl ?_
  refine ev_nx (s1 := (196, 10, [.ref l0, .int ((M l0 13) + (M l0 15))], [], (sh, M, J))) f_196_9 rfl ?_
  refine ev_nx (s1 := (196, 11, [.ref l0, .int ((M l0 13) + (M l0 15))], [.ref l0], (sh, M, J))) f_196_10 rfl ?_
  refine ev_nx (s1 := (196, 12, [.ref l0, .int ((M l0 13) + (M l0 15))], [.int 0, .ref l0], (sh, M, J))) f_196_11 rfl ?_
  refine ev_gd (s1 := (196, 15, [.ref l0, .int ((M l0 13) + (M l0 15))], [], (sh, (xu M l0 13 0), J))) f_196_12 rfl ?_
  refine ev_nx (s1 := (196, 16, [.ref l0, .int ((M l0 13) + (M l0 15))], [.ref l0], (sh, (xu M l0 13 0), J))) f_196_15 rfl ?_
  refine ev_nx (s1 := (196, 17, [.ref l0, .int ((M l0 13) + (M l0 15))], [.int 0, .ref l0], (sh, (xu M l0 13 0), J))) f_196_16 rfl ?_
  refine ev_gd (s1 := (196, 20, [.ref l0, .int ((M l0 13) + (M l0 15))], [], (sh, (xu (xu M l0 13 0) l0 15 0), J))) f_196_17 rfl ?_
  refine ev_nx (s1 := (196, 21, [.ref l0, .int ((M l0 13) + (M l0 15))], [.int ((M l0 13) + (M l0 15))], (sh, (xu (xu M l0 13 0) l0 15 0), J))) f_196_20 rfl ?_
  exact ev_r1 f_196_21 rfl
theorem f_197_0 : xfind (xnth xTs 197) 0 = some (0, .iconst 0, 1, (0, 0, 0, 0), (.int 0), [], 0, 0, []) := rfl
theorem f_197_1 : xfind (xnth xTs 197) 1 = some (1, .istore_n 1, 1, (0, 0, 0, 0), .null, [], 0, 0, []) := rfl
theorem f_197_2 : xfind (xnth xTs 197) 2 = some (2, .iload_n 1, 1, (0, 0, 0, 0), .null, [], 0, 1, []) := rfl
theorem f_197_3 : xfind (xnth xTs 197) 3 = some (3, .aload_n 0, 1, (0, 0, 0, 0), .null, [], 0, 0, []) := rfl
theorem f_197_4 : xfind (xnth xTs 197) 4 = some (4, .getfield 86, 3, (9, 15, 0, 0), .null, [], 924, 0, []) := rfl
theorem f_197_7 : xfind (xnth xTs 197) 7 = some (7, .if_icmp .ge 40, 3, (0, 0, 0, 0), .null, [], 0, 0, []) := rfl
theorem f_197_10 : xfind (xnth xTs 197) 10 = some (10, .aload_n 0, 1, (0, 0, 0, 0), .null, [], 0, 0, []) := rfl
theorem f_197_11 : xfind (xnth xTs 197) 11 = some (11, .getfield 16, 3, (9, 2, 1, 0), .null, [], 911, 0, []) := rfl
theorem f_197_14 : xfind (xnth xTs 197) 14 = some (14, .bipush 51, 2, (0, 0, 0, 0), (.int 51), [], 0, 0, []) := rfl
theorem f_197_16 : xfind (xnth xTs 197) 16 = some (16, .aload_n 0, 1, (0, 0, 0, 0), .null, [], 0, 0, []) := rfl
theorem f_197_17 : xfind (xnth xTs 197) 17 = some (17, .getfield 42, 3, (9, 14, 1, 0), .null, [], 923, 0, []) := rfl
theorem f_197_20 : xfind (xnth xTs 197) 20 = some (20, .iconst 2, 1, (0, 0, 0, 0), (.int 2), [], 0, 0, []) := rfl
theorem f_197_21 : xfind (xnth xTs 197) 21 = some (21, .iload_n 1, 1, (0, 0, 0, 0), .null, [], 0, 0, []) := rfl
theorem f_197_22 : xfind (xnth xTs 197) 22 = some (22, .imul, 1, (0, 0, 0, 0), .null, [], 0, 0, []) := rfl
theorem f_197_23 : xfind (xnth xTs 197) 23 = some (23, .iaload, 1, (0, 0, 0, 0), .null, [], 0, 0, []) := rfl
theorem f_197_24 : xfind (xnth xTs 197) 24 = some (24, .iadd, 1, (0, 0, 0, 0), .null, [], 0, 0, []) := rfl
theorem f_197_25 : xfind (xnth xTs 197) 25 = some (25, .iaload, 1, (0, 0, 0, 0), .null, [], 0, 0, []) := rfl
theorem f_197_26 : xfind (xnth xTs 197) 26 = some (26, .aload_n 0, 1, (0, 0, 0, 0), .null, [], 0, 0, []) := rfl
theorem f_197_27 : xfind (xnth xTs 197) 27 = some (27, .getfield 42, 3, (9, 14, 1, 0), .null, [], 923, 0, []) := rfl
theorem f_197_30 : xfind (xnth xTs 197) 30 = some (30, .iconst 2, 1, (0, 0, 0, 0), (.int 2), [], 0, 0, []) := rfl
theorem f_197_31 : xfind (xnth xTs 197) 31 = some (31, .iload_n 1, 1, (0, 0, 0, 0), .null, [], 0, 0, []) := rfl
theorem f_197_32 : xfind (xnth xTs 197) 32 = some (32, .imul, 1, (0, 0, 0, 0), .null, [], 0, 0, []) := rfl
theorem f_197_33 : xfind (xnth xTs 197) 33 = some (33, .iconst 1, 1, (0, 0, 0, 0), (.int 1), [], 0, 0, []) := rfl
theorem f_197_34 : xfind (xnth xTs 197) 34 = some (34, .iadd, 1, (0, 0, 0, 0), .null, [], 0, 0, []) := rfl
theorem f_197_35 : xfind (xnth xTs 197) 35 = some (35, .iaload, 1, (0, 0, 0, 0), .null, [], 0, 0, []) := rfl
theorem f_197_36 : xfind (xnth xTs 197) 36 = some (36, .if_icmp .eq 5, 3, (0, 0, 0, 0), .null, [], 0, 0, []) := rfl
theorem f_197_39 : xfind (xnth xTs 197) 39 = some (39, .iload_n 1, 1, (0, 0, 0, 0), .null, [], 0, 0, []) := rfl
theorem f_197_40 : xfind (xnth xTs 197) 40 = some (40, .ireturn, 1, (0, 0, 0, 0), .null, [], 0, 0, []) := rfl
theorem f_197_41 : xfind (xnth xTs 197) 41 = some (41, .iinc 1 1, 3, (0, 0, 0, 0), .null, [], 0, 0, []) := rfl
theorem f_197_44 : xfind (xnth xTs 197) 44 = some (44, .goto (-42), 3, (0, 0, 0, 0), .null, [], 0, 0, []) := rfl
theorem f_197_47 : xfind (xnth xTs 197) 47 = some (47, .iconst (-1), 1, (0, 0, 0, 0), (.int (-1)), [], 0, 0, []) := rfl
theorem f_197_48 : xfind (xnth xTs 197) 48 = some (48, .ireturn, 1, (0, 0, 0, 0), .null, [], 0, 0, []) := rfl
theorem hd_197_2 : xhead 197 2 = some [] := rfl
theorem b_R_judge_0 (sh : xSh) (M : Nat → Nat → Int32) (J : Nat → Nat → Int64) (l0 : Nat) : ev (197, 0, [.ref l0, .null], [], (sh, M, J)) = (ev (197, 2, [.ref l0, .int 0], [], (sh, M, J))) := by
  refine ev_nx (s1 := (197, 1, [.ref l0, .null], [.int 0], (sh, M, J))) f_197_0 rfl ?_
  refine ev_nx (s1 := (197, 2, [.ref l0, .int 0], [], (sh, M, J))) f_197_1 rfl ?_
  exact rfl
theorem b_R_judge_2 (sh : xSh) (M : Nat → Nat → Int32) (J : Nat → Nat → Int64) (l0 : Nat) (l1 : Int32) : ev (197, 2, [.ref l0, .int l1], [], (sh, M, J)) = (bif decide ((sh.2.2.1 l0).1 = 9) then bif decide ((M l0 15) ≤ l1) then some (some (.int (-1)), (sh, M, J)) else bif decide ((sh.2.2.1 l0).1 = 9) then bif decide ((sh.2.2.1 l0).1 = 9) then bif (decide ((sh.2.2.1 (sh.2.2.2 l0 14)).1 = 11) && xin ((2 : Int32) * l1) (sh.2.2.1 (sh.2.2.2 l0 14)).2) then bif (decide ((sh.2.2.1 (sh.2.2.2 l0 2)).1 = 11) && xin ((51 : Int32) + (M (sh.2.2.2 l0 14) (((2 : Int32) * l1) : Int32).toNatClampNeg)) (sh.2.2.1 (sh.2.2.2 l0 2)).2) then bif decide ((sh.2.2.1 l0).1 = 9) then bif (decide ((sh.2.2.1 (sh.2.2.2 l0 14)).1 = 11) && xin (((2 : Int32) * l1) + 1) (sh.2.2.1 (sh.2.2.2 l0 14)).2) then bif decide ((M (sh.2.2.2 l0 2) (((51 : Int32) + (M (sh.2.2.2 l0 14) (((2 : Int32) * l1) : Int32).toNatClampNeg)) : Int32).toNatClampNeg) = (M (sh.2.2.2 l0 14) ((((2 : Int32) * l1) + 1) : Int32).toNatClampNeg)) then ev (197, 2, [.ref l0, .int (l1 + 1)], [], (sh, M, J)) else some (some (.int l1), (sh, M, J)) else none else none else none else none else none else none else none) := by
  refine ev_nx (s1 := (197, 3, [.ref l0, .int l1], [.int l1], (sh, M, J))) f_197_2 rfl ?_
  refine ev_nx (s1 := (197, 4, [.ref l0, .int l1], [.ref l0, .int l1], (sh, M, J))) f_197_3 rfl ?_
  refine ev_gd (s1 := (197, 7, [.ref l0, .int l1], [.int (M l0 15), .int l1], (sh, M, J))) f_197_4 rfl ?_
  refine ev_br (s1 := (197, 47, [.ref l0, .int l1], [], (sh, M, J))) (s2 := (197, 10, [.ref l0, .int l1], [], (sh, M, J))) f_197_7 rfl ?_ ?_
  · refine ev_nx (s1 := (197, 48, [.ref l0, .int l1], [.int (-1)], (sh, M, J))) f_197_47 rfl ?_
    exact ev_r1 f_197_48 rfl
  · refine ev_nx (s1 := (197, 11, [.ref l0, .int l1], [.ref l0], (sh, M, J))) f_197_10 rfl ?_
    refine ev_gd (s1 := (197, 14, [.ref l0, .int l1], [.ref (sh.2.2.2 l0 2)], (sh, M, J))) f_197_11 rfl ?_
    refine ev_nx (s1 := (197, 16, [.ref l0, .int l1], [.int 51, .ref (sh.2.2.2 l0 2)], (sh, M, J))) f_197_14 rfl ?_
    refine ev_nx (s1 := (197, 17, [.ref l0, .int l1], [.ref l0, .int 51, .ref (sh.2.2.2 l0 2)], (sh, M, J))) f_197_16 rfl ?_
    refine ev_gd (s1 := (197, 20, [.ref l0, .int l1], [.ref (sh.2.2.2 l0 14), .int 51, .ref (sh.2.2.2 l0 2)], (sh, M, J))) f_197_17 rfl ?_
    refine ev_nx (s1 := (197, 21, [.ref l0, .int l1], [.int 2, .ref (sh.2.2.2 l0 14), .int 51, .ref (sh.2.2.2 l0 2)], (sh, M, J))) f_197_20 rfl ?_
    refine ev_nx (s1 := (197, 22, [.ref l0, .int l1], [.int l1, .int 2, .ref (sh.2.2.2 l0 14), .int 51, .ref (sh.2.2.2 l0 2)], (sh, M, J))) f_197_21 rfl ?_
    refine ev_nx (s1 := (197, 23, [.ref l0, .int l1], [.int ((2 : Int32) * l1), .ref (sh.2.2.2 l0 14), .int 51, .ref (sh.2.2.2 l0 2)], (sh, M, J))) f_197_22 rfl ?_
    refine ev_gd (s1 := (197, 24, [.ref l0, .int l1], [.int (M (sh.2.2.2 l0 14) (((2 : Int32) * l1) : Int32).toNatClampNeg), .int 51, .ref (sh.2.2.2 l0 2)], (sh, M, J))) f_197_23 rfl ?_
    refine ev_nx (s1 := (197, 25, [.ref l0, .int l1], [.int ((51 : Int32) + (M (sh.2.2.2 l0 14) (((2 : Int32) * l1) : Int32).toNatClampNeg)), .ref (sh.2.2.2 l0 2)], (sh, M, J))) f_197_24 rfl ?_
    refine ev_gd (s1 := (197, 26, [.ref l0, .int l1], [.int (M (sh.2.2.2 l0 2) (((51 : Int32) + (M (sh.2.2.2 l0 14) (((2 : Int32) * l1) : Int32).toNatClampNeg)) : Int32).toNatClampNeg)], (sh, M, J))) f_197_25 rfl ?_
    refine ev_nx (s1 := (197, 27, [.ref l0, .int l1], [.ref l0, .int (M (sh.2.2.2 l0 2) (((51 : Int32) + (M (sh.2.2.2 l0 14) (((2 : Int32) * l1) : Int32).toNatClampNeg)) : Int32).toNatClampNeg)], (sh, M, J))) f_197_26 rfl ?_
    refine ev_gd (s1 := (197, 30, [.ref l0, .int l1], [.ref (sh.2.2.2 l0 14), .int (M (sh.2.2.2 l0 2) (((51 : Int32) + (M (sh.2.2.2 l0 14) (((2 : Int32) * l1) : Int32).toNatClampNeg)) : Int32).toNatClampNeg)], (sh, M, J))) f_197_27 rfl ?_
    refine ev_nx (s1 := (197, 31, [.ref l0, .int l1], [.int 2, .ref (sh.2.2.2 l0 14), .int (M (sh.2.2.2 l0 2) (((51 : Int32) + (M (sh.2.2.2 l0 14) (((2 : Int32) * l1) : Int32).toNatClampNeg)) : Int32).toNatClampNeg)], (sh, M, J))) f_197_30 rfl ?_
    refine ev_nx (s1 := (197, 32, [.ref l0, .int l1], [.int l1, .int 2, .ref (sh.2.2.2 l0 14), .int (M (sh.2.2.2 l0 2) (((51 : Int32) + (M (sh.2.2.2 l0 14) (((2 : Int32) * l1) : Int32).toNatClampNeg)) : Int32).toNatClampNeg)], (sh, M, J))) f_197_31 rfl ?_
    refine ev_nx (s1 := (197, 33, [.ref l0, .int l1], [.int ((2 : Int32) * l1), .ref (sh.2.2.2 l0 14), .int (M (sh.2.2.2 l0 2) (((51 : Int32) + (M (sh.2.2.2 l0 14) (((2 : Int32) * l1) : Int32).toNatClampNeg)) : Int32).toNatClampNeg)], (sh, M, J))) f_197_32 rfl ?_
    refine ev_nx (s1 := (197, 34, [.ref l0, .int l1], [.int 1, .int ((2 : Int32) * l1), .ref (sh.2.2.2 l0 14), .int (M (sh.2.2.2 l0 2) (((51 : Int32) + (M (sh.2.2.2 l0 14) (((2 : Int32) * l1) : Int32).toNatClampNeg)) : Int32).toNatClampNeg)], (sh, M, J))) f_197_33 rfl ?_
    refine ev_nx (s1 := (197, 35, [.ref l0, .int l1], [.int (((2 : Int32) * l1) + 1), .ref (sh.2.2.2 l0 14), .int (M (sh.2.2.2 l0 2) (((51 : Int32) + (M (sh.2.2.2 l0 14) (((2 : Int32) * l1) : Int32).toNatClampNeg)) : Int32).toNatClampNeg)], (sh, M, J))) f_197_34 rfl ?_
    refine ev_gd (s1 := (197, 36, [.ref l0, .int l1], [.int (M (sh.2.2.2 l0 14) ((((2 : Int32) * l1) + 1) : Int32).toNatClampNeg), .int (M (sh.2.2.2 l0 2) (((51 : Int32) + (M (sh.2.2.2 l0 14) (((2 : Int32) * l1) : Int32).toNatClampNeg)) : Int32).toNatClampNeg)], (sh, M, J))) f_197_35 rfl ?_
    refine ev_br (s1 := (197, 41, [.ref l0, .int l1], [], (sh, M, J))) (s2 := (197, 39, [.ref l0, .int l1], [], (sh, M, J))) f_197_36 rfl ?_ ?_
    · refine ev_nx (s1 := (197, 44, [.ref l0, .int (l1 + 1)], [], (sh, M, J))) f_197_41 rfl ?_
      refine ev_nx (s1 := (197, 2, [.ref l0, .int (l1 + 1)], [], (sh, M, J))) f_197_44 rfl ?_
      exact rfl
    · refine ev_nx (s1 := (197, 40, [.ref l0, .int l1], [.int l1], (sh, M, J))) f_197_39 rfl ?_
      exact ev_r1 f_197_40 rfl
theorem f_198_0 : xfind (xnth xTs 198) 0 = some (0, .iload_n 1, 1, (0, 0, 0, 0), .null, [], 0, 0, []) := rfl
theorem f_198_1 : xfind (xnth xTs 198) 1 = some (1, .ifCond .ge 6, 3, (0, 0, 0, 0), .null, [], 0, 0, []) := rfl
theorem f_198_4 : xfind (xnth xTs 198) 4 = some (4, .ldc 91, 2, (0, 0, 0, 0), (.int (-1000000002)), [], 994, 0, []) := rfl
theorem f_198_6 : xfind (xnth xTs 198) 6 = some (6, .ireturn, 1, (0, 0, 0, 0), .null, [], 0, 0, []) := rfl
theorem f_198_7 : xfind (xnth xTs 198) 7 = some (7, .aload_n 0, 1, (0, 0, 0, 0), .null, [], 0, 0, []) := rfl
theorem f_198_8 : xfind (xnth xTs 198) 8 = some (8, .getfield 216, 3, (9, 8, 2, 0), .null, [], 917, 0, []) := rfl
theorem f_198_11 : xfind (xnth xTs 198) 11 = some (11, .l2i, 1, (0, 0, 0, 0), .null, [], 0, 0, []) := rfl
theorem f_198_12 : xfind (xnth xTs 198) 12 = some (12, .istore_n 2, 1, (0, 0, 0, 0), .null, [], 0, 0, []) := rfl
theorem f_198_13 : xfind (xnth xTs 198) 13 = some (13, .aload_n 0, 1, (0, 0, 0, 0), .null, [], 0, 0, []) := rfl
theorem f_198_14 : xfind (xnth xTs 198) 14 = some (14, .iload_n 1, 1, (0, 0, 0, 0), .null, [], 0, 0, []) := rfl
theorem f_198_15 : xfind (xnth xTs 198) 15 = some (15, .i2l, 1, (0, 0, 0, 0), .null, [], 0, 0, []) := rfl
theorem f_198_16 : xfind (xnth xTs 198) 16 = some (16, .putfield 216, 3, (9, 8, 2, 0), .null, [], 917, 0, []) := rfl
theorem f_198_19 : xfind (xnth xTs 198) 19 = some (19, .iload_n 2, 1, (0, 0, 0, 0), .null, [], 0, 0, []) := rfl
theorem f_198_20 : xfind (xnth xTs 198) 20 = some (20, .ireturn, 1, (0, 0, 0, 0), .null, [], 0, 0, []) := rfl
theorem b_R_seed_0 (sh : xSh) (M : Nat → Nat → Int32) (J : Nat → Nat → Int64) (l0 : Nat) (l1 : Int32) : ev (198, 0, [.ref l0, .int l1, .null], [], (sh, M, J)) = (bif decide (0 ≤ l1) then bif decide ((sh.2.2.1 l0).1 = 9) then bif decide ((sh.2.2.1 l0).1 = 9) then some (some (.int ((J l0 8) : Int64).toInt32), (sh, M, (xu J l0 8 (l1 : Int32).toInt64))) else none else none else some (some (.int (-1000000002)), (sh, M, J))) := by
  refine ev_nx (s1 := (198, 1, [.ref l0, .int l1, .null], [.int l1], (sh, M, J))) f_198_0 rfl ?_
  refine ev_br (s1 := (198, 7, [.ref l0, .int l1, .null], [], (sh, M, J))) (s2 := (198, 4, [.ref l0, .int l1, .null], [], (sh, M, J))) f_198_1 rfl ?_ ?_
  · refine ev_nx (s1 := (198, 8, [.ref l0, .int l1, .null], [.ref l0], (sh, M, J))) f_198_7 rfl ?_
    refine ev_gd (s1 := (198, 11, [.ref l0, .int l1, .null], [.long (J l0 8)], (sh, M, J))) f_198_8 rfl ?_
    refine ev_nx (s1 := (198, 12, [.ref l0, .int l1, .null], [.int ((J l0 8) : Int64).toInt32], (sh, M, J))) f_198_11 rfl ?_
    refine ev_nx (s1 := (198, 13, [.ref l0, .int l1, .int ((J l0 8) : Int64).toInt32], [], (sh, M, J))) f_198_12 rfl ?_
    refine ev_nx (s1 := (198, 14, [.ref l0, .int l1, .int ((J l0 8) : Int64).toInt32], [.ref l0], (sh, M, J))) f_198_13 rfl ?_
    refine ev_nx (s1 := (198, 15, [.ref l0, .int l1, .int ((J l0 8) : Int64).toInt32], [.int l1, .ref l0], (sh, M, J))) f_198_14 rfl ?_
    refine ev_nx (s1 := (198, 16, [.ref l0, .int l1, .int ((J l0 8) : Int64).toInt32], [.long (l1 : Int32).toInt64, .ref l0], (sh, M, J))) f_198_15 rfl ?_
    refine ev_gd (s1 := (198, 19, [.ref l0, .int l1, .int ((J l0 8) : Int64).toInt32], [], (sh, M, (xu J l0 8 (l1 : Int32).toInt64)))) f_198_16 rfl ?_
    refine ev_nx (s1 := (198, 20, [.ref l0, .int l1, .int ((J l0 8) : Int64).toInt32], [.int ((J l0 8) : Int64).toInt32], (sh, M, (xu J l0 8 (l1 : Int32).toInt64)))) f_198_19 rfl ?_
    exact ev_r1 f_198_20 rfl
  · refine ev_nx (s1 := (198, 6, [.ref l0, .int l1, .null], [.int (-1000000002)], (sh, M, J))) f_198_4 rfl ?_
    exact ev_r1 f_198_6 rfl
theorem f_199_0 : xfind (xnth xTs 199) 0 = some (0, .iload_n 1, 1, (0, 0, 0, 0), .null, [], 0, 0, []) := rfl
theorem f_199_1 : xfind (xnth xTs 199) 1 = some (1, .i2l, 1, (0, 0, 0, 0), .null, [], 0, 0, []) := rfl
theorem f_199_2 : xfind (xnth xTs 199) 2 = some (2, .lconst 0, 1, (0, 0, 0, 0), (.long 0), [], 0, 0, []) := rfl
theorem f_199_3 : xfind (xnth xTs 199) 3 = some (3, .lconst 1, 1, (0, 0, 0, 0), (.long 1), [], 0, 0, []) := rfl
theorem f_199_4 : xfind (xnth xTs 199) 4 = some (4, .invokestatic 68, 3, (132, 3, 9, 6), .null, [], 897, 0, []) := rfl
theorem f_199_7 : xfind (xnth xTs 199) 7 = some (7, .ifCond .ne 6, 3, (0, 0, 0, 0), .null, [], 0, 0, []) := rfl
theorem f_199_10 : xfind (xnth xTs 199) 10 = some (10, .ldc 192, 2, (0, 0, 0, 0), (.int (-1000000001)), [], 1092, 0, []) := rfl
theorem f_199_12 : xfind (xnth xTs 199) 12 = some (12, .ireturn, 1, (0, 0, 0, 0), .null, [], 0, 0, []) := rfl
theorem f_199_13 : xfind (xnth xTs 199) 13 = some (13, .aload_n 0, 1, (0, 0, 0, 0), .null, [], 0, 0, []) := rfl
theorem f_199_14 : xfind (xnth xTs 199) 14 = some (14, .getfield 16, 3, (9, 2, 1, 0), .null, [], 911, 0, []) := rfl
theorem f_199_17 : xfind (xnth xTs 199) 17 = some (17, .iconst 0, 1, (0, 0, 0, 0), (.int 0), [], 0, 0, []) := rfl
theorem f_199_18 : xfind (xnth xTs 199) 18 = some (18, .aload_n 0, 1, (0, 0, 0, 0), .null, [], 0, 0, []) := rfl
theorem f_199_19 : xfind (xnth xTs 199) 19 = some (19, .getfield 25, 3, (9, 6, 1, 0), .null, [], 915, 0, []) := rfl
theorem f_199_22 : xfind (xnth xTs 199) 22 = some (22, .bipush 63, 2, (0, 0, 0, 0), (.int 63), [], 0, 0, []) := rfl
theorem f_199_24 : xfind (xnth xTs 199) 24 = some (24, .iload_n 1, 1, (0, 0, 0, 0), .null, [], 0, 0, []) := rfl
theorem f_199_25 : xfind (xnth xTs 199) 25 = some (25, .imul, 1, (0, 0, 0, 0), .null, [], 0, 0, []) := rfl
theorem f_199_26 : xfind (xnth xTs 199) 26 = some (26, .bipush 62, 2, (0, 0, 0, 0), (.int 62), [], 0, 0, []) := rfl
theorem f_199_28 : xfind (xnth xTs 199) 28 = some (28, .invokestatic 76, 3, (136, 5, 9, 6), .null, [], 906, 0, []) := rfl
theorem f_199_31 : xfind (xnth xTs 199) 31 = some (31, .aload_n 0, 1, (0, 0, 0, 0), .null, [], 0, 0, []) := rfl
theorem f_199_32 : xfind (xnth xTs 199) 32 = some (32, .getfield 25, 3, (9, 6, 1, 0), .null, [], 915, 0, []) := rfl
theorem f_199_35 : xfind (xnth xTs 199) 35 = some (35, .bipush 63, 2, (0, 0, 0, 0), (.int 63), [], 0, 0, []) := rfl
theorem f_199_37 : xfind (xnth xTs 199) 37 = some (37, .iload_n 1, 1, (0, 0, 0, 0), .null, [], 0, 0, []) := rfl
theorem f_199_38 : xfind (xnth xTs 199) 38 = some (38, .imul, 1, (0, 0, 0, 0), .null, [], 0, 0, []) := rfl
theorem f_199_39 : xfind (xnth xTs 199) 39 = some (39, .bipush 62, 2, (0, 0, 0, 0), (.int 62), [], 0, 0, []) := rfl
theorem f_199_41 : xfind (xnth xTs 199) 41 = some (41, .iadd, 1, (0, 0, 0, 0), .null, [], 0, 0, []) := rfl
theorem f_199_42 : xfind (xnth xTs 199) 42 = some (42, .aload_n 0, 1, (0, 0, 0, 0), .null, [], 0, 0, []) := rfl
theorem f_199_43 : xfind (xnth xTs 199) 43 = some (43, .getfield 216, 3, (9, 8, 2, 0), .null, [], 917, 0, []) := rfl
theorem f_199_46 : xfind (xnth xTs 199) 46 = some (46, .l2i, 1, (0, 0, 0, 0), .null, [], 0, 0, []) := rfl
theorem f_199_47 : xfind (xnth xTs 199) 47 = some (47, .iastore, 1, (0, 0, 0, 0), .null, [], 0, 0, []) := rfl
theorem f_199_48 : xfind (xnth xTs 199) 48 = some (48, .aload_n 0, 1, (0, 0, 0, 0), .null, [], 0, 0, []) := rfl
theorem f_199_49 : xfind (xnth xTs 199) 49 = some (49, .getfield 28, 3, (9, 7, 1, 0), .null, [], 916, 0, []) := rfl
theorem f_199_52 : xfind (xnth xTs 199) 52 = some (52, .iload_n 1, 1, (0, 0, 0, 0), .null, [], 0, 0, []) := rfl
theorem f_199_53 : xfind (xnth xTs 199) 53 = some (53, .iconst 1, 1, (0, 0, 0, 0), (.int 1), [], 0, 0, []) := rfl
theorem f_199_54 : xfind (xnth xTs 199) 54 = some (54, .bastore, 1, (0, 0, 0, 0), .null, [], 0, 0, []) := rfl
theorem f_199_55 : xfind (xnth xTs 199) 55 = some (55, .aload_n 0, 1, (0, 0, 0, 0), .null, [], 0, 0, []) := rfl
theorem f_199_56 : xfind (xnth xTs 199) 56 = some (56, .iconst 0, 1, (0, 0, 0, 0), (.int 0), [], 0, 0, []) := rfl
theorem f_199_57 : xfind (xnth xTs 199) 57 = some (57, .putfield 80, 3, (9, 5, 0, 0), .null, [], 914, 0, []) := rfl
theorem f_199_60 : xfind (xnth xTs 199) 60 = some (60, .iconst 1, 1, (0, 0, 0, 0), (.int 1), [], 0, 0, []) := rfl
theorem f_199_61 : xfind (xnth xTs 199) 61 = some (61, .ireturn, 1, (0, 0, 0, 0), .null, [], 0, 0, []) := rfl
theorem b_R_keep_0 (sh : xSh) (M : Nat → Nat → Int32) (J : Nat → Nat → Int64) (l0 : Nat) (l1 : Int32) : ev (199, 0, [.ref l0, .int l1], [], (sh, M, J)) = ((ev (132, 0, [.long (l1 : Int32).toInt64, .null, .long 0, .null, .long 1, .null], [], (sh, M, J))).bind (fun r => ev (199, 7, [.ref l0, .int l1], r.1.toList ++ [], r.2))) := by
  refine ev_nx (s1 := (199, 1, [.ref l0, .int l1], [.int l1], (sh, M, J))) f_199_0 rfl ?_
  refine ev_nx (s1 := (199, 2, [.ref l0, .int l1], [.long (l1 : Int32).toInt64], (sh, M, J))) f_199_1 rfl ?_
  refine ev_nx (s1 := (199, 3, [.ref l0, .int l1], [.long 0, .long (l1 : Int32).toInt64], (sh, M, J))) f_199_2 rfl ?_
  refine ev_nx (s1 := (199, 4, [.ref l0, .int l1], [.long 1, .long 0, .long (l1 : Int32).toInt64], (sh, M, J))) f_199_3 rfl ?_
  exact ev_c1 (s1 := (132, 0, [.long (l1 : Int32).toInt64, .null, .long 0, .null, .long 1, .null], [], (sh, M, J))) (k := (199, 7, [.ref l0, .int l1], [])) f_199_4 rfl
theorem b_R_keep_7 (sh : xSh) (M : Nat → Nat → Int32) (J : Nat → Nat → Int64) (l0 : Nat) (l1 : Int32) (k0 : Int32) : ev (199, 7, [.ref l0, .int l1], [.int k0], (sh, M, J)) = (bif !decide (k0 = 0) then bif decide ((sh.2.2.1 l0).1 = 9) then bif decide ((sh.2.2.1 l0).1 = 9) then (ev (136, 0, [.ref (sh.2.2.2 l0 2), .int 0, .ref (sh.2.2.2 l0 6), .int ((63 : Int32) * l1), .int 62, .null], [], (sh, M, J))).bind (fun r => ev (199, 31, [.ref l0, .int l1], r.1.toList ++ [], r.2)) else none else none else some (some (.int (-1000000001)), (sh, M, J))) := by
  refine ev_br (s1 := (199, 13, [.ref l0, .int l1], [], (sh, M, J))) (s2 := (199, 10, [.ref l0, .int l1], [], (sh, M, J))) f_199_7 rfl ?_ ?_
  · refine ev_nx (s1 := (199, 14, [.ref l0, .int l1], [.ref l0], (sh, M, J))) f_199_13 rfl ?_
    refine ev_gd (s1 := (199, 17, [.ref l0, .int l1], [.ref (sh.2.2.2 l0 2)], (sh, M, J))) f_199_14 rfl ?_
    refine ev_nx (s1 := (199, 18, [.ref l0, .int l1], [.int 0, .ref (sh.2.2.2 l0 2)], (sh, M, J))) f_199_17 rfl ?_
    refine ev_nx (s1 := (199, 19, [.ref l0, .int l1], [.ref l0, .int 0, .ref (sh.2.2.2 l0 2)], (sh, M, J))) f_199_18 rfl ?_
    refine ev_gd (s1 := (199, 22, [.ref l0, .int l1], [.ref (sh.2.2.2 l0 6), .int 0, .ref (sh.2.2.2 l0 2)], (sh, M, J))) f_199_19 rfl ?_
    refine ev_nx (s1 := (199, 24, [.ref l0, .int l1], [.int 63, .ref (sh.2.2.2 l0 6), .int 0, .ref (sh.2.2.2 l0 2)], (sh, M, J))) f_199_22 rfl ?_
    refine ev_nx (s1 := (199, 25, [.ref l0, .int l1], [.int l1, .int 63, .ref (sh.2.2.2 l0 6), .int 0, .ref (sh.2.2.2 l0 2)], (sh, M, J))) f_199_24 rfl ?_
    refine ev_nx (s1 := (199, 26, [.ref l0, .int l1], [.int ((63 : Int32) * l1), .ref (sh.2.2.2 l0 6), .int 0, .ref (sh.2.2.2 l0 2)], (sh, M, J))) f_199_25 rfl ?_
    refine ev_nx (s1 := (199, 28, [.ref l0, .int l1], [.int 62, .int ((63 : Int32) * l1), .ref (sh.2.2.2 l0 6), .int 0, .ref (sh.2.2.2 l0 2)], (sh, M, J))) f_199_26 rfl ?_
    exact ev_c1 (s1 := (136, 0, [.ref (sh.2.2.2 l0 2), .int 0, .ref (sh.2.2.2 l0 6), .int ((63 : Int32) * l1), .int 62, .null], [], (sh, M, J))) (k := (199, 31, [.ref l0, .int l1], [])) f_199_28 rfl
  · refine ev_nx (s1 := (199, 12, [.ref l0, .int l1], [.int (-1000000001)], (sh, M, J))) f_199_10 rfl ?_
    exact ev_r1 f_199_12 rfl
theorem b_R_keep_31 (sh : xSh) (M : Nat → Nat → Int32) (J : Nat → Nat → Int64) (l0 : Nat) (l1 : Int32) : ev (199, 31, [.ref l0, .int l1], [], (sh, M, J)) = (bif decide ((sh.2.2.1 l0).1 = 9) then bif decide ((sh.2.2.1 l0).1 = 9) then bif (decide ((sh.2.2.1 (sh.2.2.2 l0 6)).1 = 11) && xin (((63 : Int32) * l1) + 62) (sh.2.2.1 (sh.2.2.2 l0 6)).2) then bif decide ((sh.2.2.1 l0).1 = 9) then bif (decide ((sh.2.2.1 (sh.2.2.2 l0 7)).1 = 10) && xin l1 (sh.2.2.1 (sh.2.2.2 l0 7)).2) then bif decide ((sh.2.2.1 l0).1 = 9) then some (some (.int 1), (sh, (xu (xu (xu M (sh.2.2.2 l0 6) ((((63 : Int32) * l1) + 62) : Int32).toNatClampNeg ((J l0 8) : Int64).toInt32) (sh.2.2.2 l0 7) (l1 : Int32).toNatClampNeg ((1 : Int32) &&& 1)) l0 5 0), J)) else none else none else none else none else none else none) := by
  refine ev_nx (s1 := (199, 32, [.ref l0, .int l1], [.ref l0], (sh, M, J))) f_199_31 rfl ?_
  refine ev_gd (s1 := (199, 35, [.ref l0, .int l1], [.ref (sh.2.2.2 l0 6)], (sh, M, J))) f_199_32 rfl ?_
  refine ev_nx (s1 := (199, 37, [.ref l0, .int l1], [.int 63, .ref (sh.2.2.2 l0 6)], (sh, M, J))) f_199_35 rfl ?_
  refine ev_nx (s1 := (199, 38, [.ref l0, .int l1], [.int l1, .int 63, .ref (sh.2.2.2 l0 6)], (sh, M, J))) f_199_37 rfl ?_
  refine ev_nx (s1 := (199, 39, [.ref l0, .int l1], [.int ((63 : Int32) * l1), .ref (sh.2.2.2 l0 6)], (sh, M, J))) f_199_38 rfl ?_
  refine ev_nx (s1 := (199, 41, [.ref l0, .int l1], [.int 62, .int ((63 : Int32) * l1), .ref (sh.2.2.2 l0 6)], (sh, M, J))) f_199_39 rfl ?_
  refine ev_nx (s1 := (199, 42, [.ref l0, .int l1], [.int (((63 : Int32) * l1) + 62), .ref (sh.2.2.2 l0 6)], (sh, M, J))) f_199_41 rfl ?_
  refine ev_nx (s1 := (199, 43, [.ref l0, .int l1], [.ref l0, .int (((63 : Int32) * l1) + 62), .ref (sh.2.2.2 l0 6)], (sh, M, J))) f_199_42 rfl ?_
  refine ev_gd (s1 := (199, 46, [.ref l0, .int l1], [.long (J l0 8), .int (((63 : Int32) * l1) + 62), .ref (sh.2.2.2 l0 6)], (sh, M, J))) f_199_43 rfl ?_
  refine ev_nx (s1 := (199, 47, [.ref l0, .int l1], [.int ((J l0 8) : Int64).toInt32, .int (((63 : Int32) * l1) + 62), .ref (sh.2.2.2 l0 6)], (sh, M, J))) f_199_46 rfl ?_
  refine ev_gd (s1 := (199, 48, [.ref l0, .int l1], [], (sh, (xu M (sh.2.2.2 l0 6) ((((63 : Int32) * l1) + 62) : Int32).toNatClampNeg ((J l0 8) : Int64).toInt32), J))) f_199_47 rfl ?_
  refine ev_nx (s1 := (199, 49, [.ref l0, .int l1], [.ref l0], (sh, (xu M (sh.2.2.2 l0 6) ((((63 : Int32) * l1) + 62) : Int32).toNatClampNeg ((J l0 8) : Int64).toInt32), J))) f_199_48 rfl ?_
  refine ev_gd (s1 := (199, 52, [.ref l0, .int l1], [.ref (sh.2.2.2 l0 7)], (sh, (xu M (sh.2.2.2 l0 6) ((((63 : Int32) * l1) + 62) : Int32).toNatClampNeg ((J l0 8) : Int64).toInt32), J))) f_199_49 rfl ?_
  refine ev_nx (s1 := (199, 53, [.ref l0, .int l1], [.int l1, .ref (sh.2.2.2 l0 7)], (sh, (xu M (sh.2.2.2 l0 6) ((((63 : Int32) * l1) + 62) : Int32).toNatClampNeg ((J l0 8) : Int64).toInt32), J))) f_199_52 rfl ?_
  refine ev_nx (s1 := (199, 54, [.ref l0, .int l1], [.int 1, .int l1, .ref (sh.2.2.2 l0 7)], (sh, (xu M (sh.2.2.2 l0 6) ((((63 : Int32) * l1) + 62) : Int32).toNatClampNeg ((J l0 8) : Int64).toInt32), J))) f_199_53 rfl ?_
  refine ev_gd (s1 := (199, 55, [.ref l0, .int l1], [], (sh, (xu (xu M (sh.2.2.2 l0 6) ((((63 : Int32) * l1) + 62) : Int32).toNatClampNeg ((J l0 8) : Int64).toInt32) (sh.2.2.2 l0 7) (l1 : Int32).toNatClampNeg ((1 : Int32) &&& 1)), J))) f_199_54 rfl ?_
  refine ev_nx (s1 := (199, 56, [.ref l0, .int l1], [.ref l0], (sh, (xu (xu M (sh.2.2.2 l0 6) ((((63 : Int32) * l1) + 62) : Int32).toNatClampNeg ((J l0 8) : Int64).toInt32) (sh.2.2.2 l0 7) (l1 : Int32).toNatClampNeg ((1 : Int32) &&& 1)), J))) f_199_55 rfl ?_
  refine ev_nx (s1 := (199, 57, [.ref l0, .int l1], [.int 0, .ref l0], (sh, (xu (xu M (sh.2.2.2 l0 6) ((((63 : Int32) * l1) + 62) : Int32).toNatClampNeg ((J l0 8) : Int64).toInt32) (sh.2.2.2 l0 7) (l1 : Int32).toNatClampNeg ((1 : Int32) &&& 1)), J))) f_199_56 rfl ?_
  refine ev_gd (s1 := (199, 60, [.ref l0, .int l1], [], (sh, (xu (xu (xu M (sh.2.2.2 l0 6) ((((63 : Int32) * l1) + 62) : Int32).toNatClampNeg ((J l0 8) : Int64).toInt32) (sh.2.2.2 l0 7) (l1 : Int32).toNatClampNeg ((1 : Int32) &&& 1)) l0 5 0), J))) f_199_57 rfl ?_
  refine ev_nx (s1 := (199, 61, [.ref l0, .int l1], [.int 1], (sh, (xu (xu (xu M (sh.2.2.2 l0 6) ((((63 : Int32) * l1) + 62) : Int32).toNatClampNeg ((J l0 8) : Int64).toInt32) (sh.2.2.2 l0 7) (l1 : Int32).toNatClampNeg ((1 : Int32) &&& 1)) l0 5 0), J))) f_199_60 rfl ?_
  exact ev_r1 f_199_61 rfl
theorem f_200_0 : xfind (xnth xTs 200) 0 = some (0, .iload_n 1, 1, (0, 0, 0, 0), .null, [], 0, 0, []) := rfl
theorem f_200_1 : xfind (xnth xTs 200) 1 = some (1, .i2l, 1, (0, 0, 0, 0), .null, [], 0, 0, []) := rfl
theorem f_200_2 : xfind (xnth xTs 200) 2 = some (2, .lconst 0, 1, (0, 0, 0, 0), (.long 0), [], 0, 0, []) := rfl
theorem f_200_3 : xfind (xnth xTs 200) 3 = some (3, .lconst 1, 1, (0, 0, 0, 0), (.long 1), [], 0, 0, []) := rfl
theorem f_200_4 : xfind (xnth xTs 200) 4 = some (4, .invokestatic 68, 3, (132, 3, 9, 6), .null, [], 897, 0, []) := rfl
theorem f_200_7 : xfind (xnth xTs 200) 7 = some (7, .ifCond .ne 6, 3, (0, 0, 0, 0), .null, [], 0, 0, []) := rfl
theorem f_200_10 : xfind (xnth xTs 200) 10 = some (10, .ldc 192, 2, (0, 0, 0, 0), (.int (-1000000001)), [], 1092, 0, []) := rfl
theorem f_200_12 : xfind (xnth xTs 200) 12 = some (12, .ireturn, 1, (0, 0, 0, 0), .null, [], 0, 0, []) := rfl
theorem f_200_13 : xfind (xnth xTs 200) 13 = some (13, .aload_n 0, 1, (0, 0, 0, 0), .null, [], 0, 0, []) := rfl
theorem f_200_14 : xfind (xnth xTs 200) 14 = some (14, .getfield 28, 3, (9, 7, 1, 0), .null, [], 916, 0, []) := rfl
theorem f_200_17 : xfind (xnth xTs 200) 17 = some (17, .iload_n 1, 1, (0, 0, 0, 0), .null, [], 0, 0, []) := rfl
theorem f_200_18 : xfind (xnth xTs 200) 18 = some (18, .baload, 1, (0, 0, 0, 0), .null, [], 0, 0, []) := rfl
theorem f_200_19 : xfind (xnth xTs 200) 19 = some (19, .ifCond .ne 6, 3, (0, 0, 0, 0), .null, [], 0, 0, []) := rfl
theorem f_200_22 : xfind (xnth xTs 200) 22 = some (22, .ldc 203, 2, (0, 0, 0, 0), (.int (-1000000003)), [], 1119, 0, []) := rfl
theorem f_200_24 : xfind (xnth xTs 200) 24 = some (24, .ireturn, 1, (0, 0, 0, 0), .null, [], 0, 0, []) := rfl
theorem f_200_25 : xfind (xnth xTs 200) 25 = some (25, .aload_n 0, 1, (0, 0, 0, 0), .null, [], 0, 0, []) := rfl
theorem f_200_26 : xfind (xnth xTs 200) 26 = some (26, .getfield 25, 3, (9, 6, 1, 0), .null, [], 915, 0, []) := rfl
theorem f_200_29 : xfind (xnth xTs 200) 29 = some (29, .bipush 63, 2, (0, 0, 0, 0), (.int 63), [], 0, 0, []) := rfl
theorem f_200_31 : xfind (xnth xTs 200) 31 = some (31, .iload_n 1, 1, (0, 0, 0, 0), .null, [], 0, 0, []) := rfl
theorem f_200_32 : xfind (xnth xTs 200) 32 = some (32, .imul, 1, (0, 0, 0, 0), .null, [], 0, 0, []) := rfl
theorem f_200_33 : xfind (xnth xTs 200) 33 = some (33, .aload_n 0, 1, (0, 0, 0, 0), .null, [], 0, 0, []) := rfl
theorem f_200_34 : xfind (xnth xTs 200) 34 = some (34, .getfield 16, 3, (9, 2, 1, 0), .null, [], 911, 0, []) := rfl
theorem f_200_37 : xfind (xnth xTs 200) 37 = some (37, .iconst 0, 1, (0, 0, 0, 0), (.int 0), [], 0, 0, []) := rfl
theorem f_200_38 : xfind (xnth xTs 200) 38 = some (38, .bipush 62, 2, (0, 0, 0, 0), (.int 62), [], 0, 0, []) := rfl
theorem f_200_40 : xfind (xnth xTs 200) 40 = some (40, .invokestatic 76, 3, (136, 5, 9, 6), .null, [], 906, 0, []) := rfl
theorem f_200_43 : xfind (xnth xTs 200) 43 = some (43, .aload_n 0, 1, (0, 0, 0, 0), .null, [], 0, 0, []) := rfl
theorem f_200_44 : xfind (xnth xTs 200) 44 = some (44, .aload_n 0, 1, (0, 0, 0, 0), .null, [], 0, 0, []) := rfl
theorem f_200_45 : xfind (xnth xTs 200) 45 = some (45, .getfield 25, 3, (9, 6, 1, 0), .null, [], 915, 0, []) := rfl
theorem f_200_48 : xfind (xnth xTs 200) 48 = some (48, .bipush 63, 2, (0, 0, 0, 0), (.int 63), [], 0, 0, []) := rfl
theorem f_200_50 : xfind (xnth xTs 200) 50 = some (50, .iload_n 1, 1, (0, 0, 0, 0), .null, [], 0, 0, []) := rfl
theorem f_200_51 : xfind (xnth xTs 200) 51 = some (51, .imul, 1, (0, 0, 0, 0), .null, [], 0, 0, []) := rfl
theorem f_200_52 : xfind (xnth xTs 200) 52 = some (52, .bipush 62, 2, (0, 0, 0, 0), (.int 62), [], 0, 0, []) := rfl
theorem f_200_54 : xfind (xnth xTs 200) 54 = some (54, .iadd, 1, (0, 0, 0, 0), .null, [], 0, 0, []) := rfl
theorem f_200_55 : xfind (xnth xTs 200) 55 = some (55, .iaload, 1, (0, 0, 0, 0), .null, [], 0, 0, []) := rfl
theorem f_200_56 : xfind (xnth xTs 200) 56 = some (56, .i2l, 1, (0, 0, 0, 0), .null, [], 0, 0, []) := rfl
theorem f_200_57 : xfind (xnth xTs 200) 57 = some (57, .putfield 216, 3, (9, 8, 2, 0), .null, [], 917, 0, []) := rfl
theorem f_200_60 : xfind (xnth xTs 200) 60 = some (60, .aload_n 0, 1, (0, 0, 0, 0), .null, [], 0, 0, []) := rfl
theorem f_200_61 : xfind (xnth xTs 200) 61 = some (61, .iconst 0, 1, (0, 0, 0, 0), (.int 0), [], 0, 0, []) := rfl
theorem f_200_62 : xfind (xnth xTs 200) 62 = some (62, .putfield 80, 3, (9, 5, 0, 0), .null, [], 914, 0, []) := rfl
theorem f_200_65 : xfind (xnth xTs 200) 65 = some (65, .iconst 1, 1, (0, 0, 0, 0), (.int 1), [], 0, 0, []) := rfl
theorem f_200_66 : xfind (xnth xTs 200) 66 = some (66, .ireturn, 1, (0, 0, 0, 0), .null, [], 0, 0, []) := rfl
theorem b_R_goBack_0 (sh : xSh) (M : Nat → Nat → Int32) (J : Nat → Nat → Int64) (l0 : Nat) (l1 : Int32) : ev (200, 0, [.ref l0, .int l1], [], (sh, M, J)) = ((ev (132, 0, [.long (l1 : Int32).toInt64, .null, .long 0, .null, .long 1, .null], [], (sh, M, J))).bind (fun r => ev (200, 7, [.ref l0, .int l1], r.1.toList ++ [], r.2))) := by
  refine ev_nx (s1 := (200, 1, [.ref l0, .int l1], [.int l1], (sh, M, J))) f_200_0 rfl ?_
  refine ev_nx (s1 := (200, 2, [.ref l0, .int l1], [.long (l1 : Int32).toInt64], (sh, M, J))) f_200_1 rfl ?_
  refine ev_nx (s1 := (200, 3, [.ref l0, .int l1], [.long 0, .long (l1 : Int32).toInt64], (sh, M, J))) f_200_2 rfl ?_
  refine ev_nx (s1 := (200, 4, [.ref l0, .int l1], [.long 1, .long 0, .long (l1 : Int32).toInt64], (sh, M, J))) f_200_3 rfl ?_
  exact ev_c1 (s1 := (132, 0, [.long (l1 : Int32).toInt64, .null, .long 0, .null, .long 1, .null], [], (sh, M, J))) (k := (200, 7, [.ref l0, .int l1], [])) f_200_4 rfl
theorem b_R_goBack_7 (sh : xSh) (M : Nat → Nat → Int32) (J : Nat → Nat → Int64) (l0 : Nat) (l1 : Int32) (k0 : Int32) : ev (200, 7, [.ref l0, .int l1], [.int k0], (sh, M, J)) = (bif !decide (k0 = 0) then bif decide ((sh.2.2.1 l0).1 = 9) then bif (decide ((sh.2.2.1 (sh.2.2.2 l0 7)).1 = 10) && xin l1 (sh.2.2.1 (sh.2.2.2 l0 7)).2) then bif !decide ((M (sh.2.2.2 l0 7) (l1 : Int32).toNatClampNeg) = 0) then bif decide ((sh.2.2.1 l0).1 = 9) then bif decide ((sh.2.2.1 l0).1 = 9) then (ev (136, 0, [.ref (sh.2.2.2 l0 6), .int ((63 : Int32) * l1), .ref (sh.2.2.2 l0 2), .int 0, .int 62, .null], [], (sh, M, J))).bind (fun r => ev (200, 43, [.ref l0, .int l1], r.1.toList ++ [], r.2)) else none else none else some (some (.int (-1000000003)), (sh, M, J)) else none else none else some (some (.int (-1000000001)), (sh, M, J))) := by
  refine ev_br (s1 := (200, 13, [.ref l0, .int l1], [], (sh, M, J))) (s2 := (200, 10, [.ref l0, .int l1], [], (sh, M, J))) f_200_7 rfl ?_ ?_
  · refine ev_nx (s1 := (200, 14, [.ref l0, .int l1], [.ref l0], (sh, M, J))) f_200_13 rfl ?_
    refine ev_gd (s1 := (200, 17, [.ref l0, .int l1], [.ref (sh.2.2.2 l0 7)], (sh, M, J))) f_200_14 rfl ?_
    refine ev_nx (s1 := (200, 18, [.ref l0, .int l1], [.int l1, .ref (sh.2.2.2 l0 7)], (sh, M, J))) f_200_17 rfl ?_
    refine ev_gd (s1 := (200, 19, [.ref l0, .int l1], [.int (M (sh.2.2.2 l0 7) (l1 : Int32).toNatClampNeg)], (sh, M, J))) f_200_18 rfl ?_
    refine ev_br (s1 := (200, 25, [.ref l0, .int l1], [], (sh, M, J))) (s2 := (200, 22, [.ref l0, .int l1], [], (sh, M, J))) f_200_19 rfl ?_ ?_
    · refine ev_nx (s1 := (200, 26, [.ref l0, .int l1], [.ref l0], (sh, M, J))) f_200_25 rfl ?_
      refine ev_gd (s1 := (200, 29, [.ref l0, .int l1], [.ref (sh.2.2.2 l0 6)], (sh, M, J))) f_200_26 rfl ?_
      refine ev_nx (s1 := (200, 31, [.ref l0, .int l1], [.int 63, .ref (sh.2.2.2 l0 6)], (sh, M, J))) f_200_29 rfl ?_
      refine ev_nx (s1 := (200, 32, [.ref l0, .int l1], [.int l1, .int 63, .ref (sh.2.2.2 l0 6)], (sh, M, J))) f_200_31 rfl ?_
      refine ev_nx (s1 := (200, 33, [.ref l0, .int l1], [.int ((63 : Int32) * l1), .ref (sh.2.2.2 l0 6)], (sh, M, J))) f_200_32 rfl ?_
      refine ev_nx (s1 := (200, 34, [.ref l0, .int l1], [.ref l0, .int ((63 : Int32) * l1), .ref (sh.2.2.2 l0 6)], (sh, M, J))) f_200_33 rfl ?_
      refine ev_gd (s1 := (200, 37, [.ref l0, .int l1], [.ref (sh.2.2.2 l0 2), .int ((63 : Int32) * l1), .ref (sh.2.2.2 l0 6)], (sh, M, J))) f_200_34 rfl ?_
      refine ev_nx (s1 := (200, 38, [.ref l0, .int l1], [.int 0, .ref (sh.2.2.2 l0 2), .int ((63 : Int32) * l1), .ref (sh.2.2.2 l0 6)], (sh, M, J))) f_200_37 rfl ?_
      refine ev_nx (s1 := (200, 40, [.ref l0, .int l1], [.int 62, .int 0, .ref (sh.2.2.2 l0 2), .int ((63 : Int32) * l1), .ref (sh.2.2.2 l0 6)], (sh, M, J))) f_200_38 rfl ?_
      exact ev_c1 (s1 := (136, 0, [.ref (sh.2.2.2 l0 6), .int ((63 : Int32) * l1), .ref (sh.2.2.2 l0 2), .int 0, .int 62, .null], [], (sh, M, J))) (k := (200, 43, [.ref l0, .int l1], [])) f_200_40 rfl
    · refine ev_nx (s1 := (200, 24, [.ref l0, .int l1], [.int (-1000000003)], (sh, M, J))) f_200_22 rfl ?_
      exact ev_r1 f_200_24 rfl
  · refine ev_nx (s1 := (200, 12, [.ref l0, .int l1], [.int (-1000000001)], (sh, M, J))) f_200_10 rfl ?_
    exact ev_r1 f_200_12 rfl
theorem b_R_goBack_43 (sh : xSh) (M : Nat → Nat → Int32) (J : Nat → Nat → Int64) (l0 : Nat) (l1 : Int32) : ev (200, 43, [.ref l0, .int l1], [], (sh, M, J)) = (bif decide ((sh.2.2.1 l0).1 = 9) then bif (decide ((sh.2.2.1 (sh.2.2.2 l0 6)).1 = 11) && xin (((63 : Int32) * l1) + 62) (sh.2.2.1 (sh.2.2.2 l0 6)).2) then bif decide ((sh.2.2.1 l0).1 = 9) then bif decide ((sh.2.2.1 l0).1 = 9) then some (some (.int 1), (sh, (xu M l0 5 0), (xu J l0 8 ((M (sh.2.2.2 l0 6) ((((63 : Int32) * l1) + 62) : Int32).toNatClampNeg) : Int32).toInt64))) else none else none else none else none) := by
  refine ev_nx (s1 := (200, 44, [.ref l0, .int l1], [.ref l0], (sh, M, J))) f_200_43 rfl ?_
  refine ev_nx (s1 := (200, 45, [.ref l0, .int l1], [.ref l0, .ref l0], (sh, M, J))) f_200_44 rfl ?_
  refine ev_gd (s1 := (200, 48, [.ref l0, .int l1], [.ref (sh.2.2.2 l0 6), .ref l0], (sh, M, J))) f_200_45 rfl ?_
  refine ev_nx (s1 := (200, 50, [.ref l0, .int l1], [.int 63, .ref (sh.2.2.2 l0 6), .ref l0], (sh, M, J))) f_200_48 rfl ?_
  refine ev_nx (s1 := (200, 51, [.ref l0, .int l1], [.int l1, .int 63, .ref (sh.2.2.2 l0 6), .ref l0], (sh, M, J))) f_200_50 rfl ?_
  refine ev_nx (s1 := (200, 52, [.ref l0, .int l1], [.int ((63 : Int32) * l1), .ref (sh.2.2.2 l0 6), .ref l0], (sh, M, J))) f_200_51 rfl ?_
  refine ev_nx (s1 := (200, 54, [.ref l0, .int l1], [.int 62, .int ((63 : Int32) * l1), .ref (sh.2.2.2 l0 6), .ref l0], (sh, M, J))) f_200_52 rfl ?_
  refine ev_nx (s1 := (200, 55, [.ref l0, .int l1], [.int (((63 : Int32) * l1) + 62), .ref (sh.2.2.2 l0 6), .ref l0], (sh, M, J))) f_200_54 rfl ?_
  refine ev_gd (s1 := (200, 56, [.ref l0, .int l1], [.int (M (sh.2.2.2 l0 6) ((((63 : Int32) * l1) + 62) : Int32).toNatClampNeg), .ref l0], (sh, M, J))) f_200_55 rfl ?_
  refine ev_nx (s1 := (200, 57, [.ref l0, .int l1], [.long ((M (sh.2.2.2 l0 6) ((((63 : Int32) * l1) + 62) : Int32).toNatClampNeg) : Int32).toInt64, .ref l0], (sh, M, J))) f_200_56 rfl ?_
  refine ev_gd (s1 := (200, 60, [.ref l0, .int l1], [], (sh, M, (xu J l0 8 ((M (sh.2.2.2 l0 6) ((((63 : Int32) * l1) + 62) : Int32).toNatClampNeg) : Int32).toInt64)))) f_200_57 rfl ?_
  refine ev_nx (s1 := (200, 61, [.ref l0, .int l1], [.ref l0], (sh, M, (xu J l0 8 ((M (sh.2.2.2 l0 6) ((((63 : Int32) * l1) + 62) : Int32).toNatClampNeg) : Int32).toInt64)))) f_200_60 rfl ?_
  refine ev_nx (s1 := (200, 62, [.ref l0, .int l1], [.int 0, .ref l0], (sh, M, (xu J l0 8 ((M (sh.2.2.2 l0 6) ((((63 : Int32) * l1) + 62) : Int32).toNatClampNeg) : Int32).toInt64)))) f_200_61 rfl ?_
  refine ev_gd (s1 := (200, 65, [.ref l0, .int l1], [], (sh, (xu M l0 5 0), (xu J l0 8 ((M (sh.2.2.2 l0 6) ((((63 : Int32) * l1) + 62) : Int32).toNatClampNeg) : Int32).toInt64)))) f_200_62 rfl ?_
  refine ev_nx (s1 := (200, 66, [.ref l0, .int l1], [.int 1], (sh, (xu M l0 5 0), (xu J l0 8 ((M (sh.2.2.2 l0 6) ((((63 : Int32) * l1) + 62) : Int32).toNatClampNeg) : Int32).toInt64)))) f_200_65 rfl ?_
  exact ev_r1 f_200_66 rfl
