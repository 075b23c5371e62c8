/-! the class's entries, and those of the JDK methods that it calls -/
/-- init, block 0 -/
noncomputable def b_0_0 : List En := [(0, .aload 0, 1, []), (1, .invokespecial 3, 3, [1169]), (4, .aload 0, 1, []), (5, .iconst 128, 3, []), (8, .invokestatic 9, 3, [50, 1, 0, 0]), (11, .putfield 15, 3, [0, 0, 3, 0]), (14, .aload 0, 1, []), (15, .iconst 8, 2, []), (17, .invokestatic 9, 3, [50, 1, 0, 0]), (20, .putfield 21, 3, [0, 1, 3, 1]), (23, .aload 0, 1, []), (24, .iconst 7, 2, []), (26, .invokestatic 9, 3, [50, 1, 0, 0]), (29, .putfield 24, 3, [0, 2, 3, 2]), (32, .aload 0, 1, []), (33, .new 10, 3, [5, 0]), (36, .dup, 1, []), (37, .invokespecial 27, 3, [49, 1, 6, 1]), (40, .putfield 28, 3, [0, 3, 3, 3]), (43, .aload 0, 1, []), (44, .new 10, 3, [5, 0]), (47, .dup, 1, []), (48, .invokespecial 27, 3, [49, 1, 6, 1]), (51, .putfield 32, 3, [0, 4, 3, 4]), (54, .aload 0, 1, []), (55, .new 10, 3, [5, 0]), (58, .dup, 1, []), (59, .invokespecial 27, 3, [49, 1, 6, 1]), (62, .putfield 35, 3, [0, 5, 3, 5]), (65, .aload 0, 1, []), (66, .new 10, 3, [5, 0]), (69, .dup, 1, []), (70, .invokespecial 27, 3, [49, 1, 6, 1]), (73, .putfield 38, 3, [0, 6, 3, 6]), (76, .aload 0, 1, []), (77, .new 10, 3, [5, 0]), (80, .dup, 1, []), (81, .invokespecial 27, 3, [49, 1, 6, 1]), (84, .putfield 41, 3, [0, 7, 3, 7]), (87, .aload 0, 1, []), (88, .new 10, 3, [5, 0]), (91, .dup, 1, []), (92, .invokespecial 27, 3, [49, 1, 6, 1]), (95, .putfield 44, 3, [0, 8, 3, 8]), (98, .return_, 1, [])]
noncomputable def cod_0 : List (List En) := [b_0_0]
/-- move, block 0 -/
noncomputable def b_1_0 : List En := [(0, .aload 0, 1, []), (1, .iload 1, 1, []), (2, .iload 2, 1, []), (3, .iconst 0, 1, []), (4, .invokevirtual 47, 3, [2, 4, 1, 2]), (7, .aload 0, 1, []), (8, .iload 1, 1, []), (9, .iload 3, 1, []), (10, .iconst 1, 1, []), (11, .invokevirtual 47, 3, [2, 4, 1, 2]), (14, .return_, 1, [])]
noncomputable def cod_1 : List (List En) := [b_1_0]
/-- markInSets, block 0 -/
noncomputable def b_2_0 : List En := [(0, .iload 2, 1, []), (1, .invokestatic 51, 3, [3, 1, 0, 3]), (4, .ifCond .ne 4, 3, [1]), (7, .return_, 1, [])]
/-- markInSets, block 1 -/
noncomputable def b_2_1 : List En := [(8, .aload 0, 1, []), (9, .getfield 28, 3, [0, 3, 3, 3]), (12, .iload 1, 1, []), (13, .iload 3, 1, []), (14, .invokevirtual 55, 3, [56, 3, 6, 4]), (17, .aload 0, 1, []), (18, .iload 2, 1, []), (19, .invokevirtual 59, 3, [7, 2, 1, 5]), (22, .iload 1, 1, []), (23, .iload 3, 1, []), (24, .invokevirtual 55, 3, [56, 3, 6, 4]), (27, .iconst 0, 1, []), (28, .istore 4, 2, []), (30, .nop, 0, [2])]
/-- markInSets, block 2 -/
noncomputable def b_2_2 : List En := [(30, .iload 4, 2, []), (32, .iconst 8, 2, []), (34, .if_icmp .ge 30, 3, [4]), (37, .iload 2, 1, []), (38, .iload 4, 2, []), (40, .invokestatic 63, 3, [4, 1, 0, 6]), (43, .if_icmp .ge 15, 3, [3]), (46, .aload 0, 1, []), (47, .getfield 21, 3, [0, 1, 3, 1]), (50, .iload 4, 2, []), (52, .aaload, 1, []), (53, .iload 1, 1, []), (54, .iload 3, 1, []), (55, .invokevirtual 55, 3, [56, 3, 6, 4]), (58, .nop, 0, [3])]
/-- markInSets, block 3 -/
noncomputable def b_2_3 : List En := [(58, .iinc 4 1, 3, []), (61, .goto (-31), 3, [2])]
/-- markInSets, block 4 -/
noncomputable def b_2_4 : List En := [(64, .iconst 0, 1, []), (65, .istore 4, 2, []), (67, .nop, 0, [5])]
/-- markInSets, block 5 -/
noncomputable def b_2_5 : List En := [(67, .iload 4, 2, []), (69, .iconst 7, 2, []), (71, .if_icmp .ge 30, 3, [7]), (74, .iload 2, 1, []), (75, .iload 4, 2, []), (77, .invokestatic 67, 3, [6, 2, 0, 7]), (80, .ifCond .eq 15, 3, [6]), (83, .aload 0, 1, []), (84, .getfield 24, 3, [0, 2, 3, 2]), (87, .iload 4, 2, []), (89, .aaload, 1, []), (90, .iload 1, 1, []), (91, .iload 3, 1, []), (92, .invokevirtual 55, 3, [56, 3, 6, 4]), (95, .nop, 0, [6])]
/-- markInSets, block 6 -/
noncomputable def b_2_6 : List En := [(95, .iinc 4 1, 3, []), (98, .goto (-31), 3, [5])]
/-- markInSets, block 7 -/
noncomputable def b_2_7 : List En := [(101, .return_, 1, [])]
noncomputable def cod_2 : List (List En) := [b_2_0, b_2_1, b_2_2, b_2_3, b_2_4, b_2_5, b_2_6, b_2_7]
/-- isValue, block 0 -/
noncomputable def b_3_0 : List En := [(0, .iload 0, 1, []), (1, .iconst (-64), 2, []), (3, .if_icmp .lt 13, 3, [1]), (6, .iload 0, 1, []), (7, .iconst 63, 2, []), (9, .if_icmp .gt 7, 3, [1]), (12, .iconst 1, 1, []), (13, .goto 4, 3, [2])]
/-- isValue, block 1 -/
noncomputable def b_3_1 : List En := [(16, .iconst 0, 1, []), (17, .nop, 0, [2])]
/-- isValue, block 2 -/
noncomputable def b_3_2 : List En := [(17, .ireturn, 1, [1])]
noncomputable def cod_3 : List (List En) := [b_3_0, b_3_1, b_3_2]
/-- boundAt, block 0 -/
noncomputable def b_4_0 : List En := [(0, .iconst (-64), 2, []), (2, .iconst 16, 2, []), (4, .iload 0, 1, []), (5, .imul, 1, []), (6, .iadd, 1, []), (7, .ireturn, 1, [0])]
noncomputable def cod_4 : List (List En) := [b_4_0]
/-- boundUnder, block 0 -/
noncomputable def b_5_0 : List En := [(0, .iload 0, 1, []), (1, .invokestatic 51, 3, [3, 1, 0, 3]), (4, .ifCond .eq 13, 3, [1]), (7, .iload 0, 1, []), (8, .iconst (-64), 2, []), (10, .isub, 1, []), (11, .iconst 16, 2, []), (13, .idiv, 1, []), (14, .goto 4, 3, [2])]
/-- boundUnder, block 1 -/
noncomputable def b_5_1 : List En := [(17, .iconst 0, 1, []), (18, .nop, 0, [2])]
/-- boundUnder, block 2 -/
noncomputable def b_5_2 : List En := [(18, .ireturn, 1, [0])]
noncomputable def cod_5 : List (List En) := [b_5_0, b_5_1, b_5_2]
/-- hasDigit, block 0 -/
noncomputable def b_6_0 : List En := [(0, .iload 0, 1, []), (1, .iload 1, 1, []), (2, .ishr, 1, []), (3, .iconst 1, 1, []), (4, .iand, 1, []), (5, .iconst 1, 1, []), (6, .if_icmp .ne 7, 3, [1]), (9, .iconst 1, 1, []), (10, .goto 4, 3, [2])]
/-- hasDigit, block 1 -/
noncomputable def b_6_1 : List En := [(13, .iconst 0, 1, []), (14, .nop, 0, [2])]
/-- hasDigit, block 2 -/
noncomputable def b_6_2 : List En := [(14, .ireturn, 1, [1])]
noncomputable def cod_6 : List (List En) := [b_6_0, b_6_1, b_6_2]
/-- ofValue, block 0 -/
noncomputable def b_7_0 : List En := [(0, .iload 1, 1, []), (1, .iconst (-64), 2, []), (3, .if_icmp .lt 13, 3, [1]), (6, .iload 1, 1, []), (7, .iconst 63, 2, []), (9, .if_icmp .gt 7, 3, [1]), (12, .iconst 1, 1, []), (13, .goto 4, 3, [2])]
/-- ofValue, block 1 -/
noncomputable def b_7_1 : List En := [(16, .iconst 0, 1, []), (17, .nop, 0, [2])]
/-- ofValue, block 2 -/
noncomputable def b_7_2 : List En := [(17, .istore 2, 1, []), (18, .iload 2, 1, []), (19, .ifCond .eq 15, 3, [3]), (22, .aload 0, 1, []), (23, .getfield 15, 3, [0, 0, 3, 0]), (26, .iload 1, 1, []), (27, .iconst (-64), 2, []), (29, .isub, 1, []), (30, .aaload, 1, []), (31, .goto 7, 3, [4])]
/-- ofValue, block 3 -/
noncomputable def b_7_3 : List En := [(34, .aload 0, 1, []), (35, .getfield 32, 3, [0, 4, 3, 4]), (38, .nop, 0, [4])]
/-- ofValue, block 4 -/
noncomputable def b_7_4 : List En := [(38, .areturn, 1, [])]
noncomputable def cod_7 : List (List En) := [b_7_0, b_7_1, b_7_2, b_7_3, b_7_4]
/-- valuesIn, block 0 -/
noncomputable def b_8_0 : List En := [(0, .iconst 0, 1, []), (1, .istore 3, 1, []), (2, .iload 1, 1, []), (3, .iconst (-64), 2, []), (5, .invokestatic 71, 3, [2236, 0]), (8, .istore 4, 2, []), (10, .nop, 0, [1])]
/-- valuesIn, block 1 -/
noncomputable def b_8_1 : List En := [(10, .iload 4, 2, []), (12, .iload 2, 1, []), (13, .iconst 63, 2, []), (15, .invokestatic 77, 3, [2237, 1]), (18, .if_icmp .gt 24, 3, [3]), (21, .aload 0, 1, []), (22, .iload 4, 2, []), (24, .invokevirtual 59, 3, [7, 2, 1, 5]), (27, .invokevirtual 80, 3, [63, 1, 6, 8]), (30, .ifCond .ne 6, 3, [2]), (33, .iinc 3 1, 3, []), (36, .nop, 0, [2])]
/-- valuesIn, block 2 -/
noncomputable def b_8_2 : List En := [(36, .iinc 4 1, 3, []), (39, .goto (-29), 3, [1])]
/-- valuesIn, block 3 -/
noncomputable def b_8_3 : List En := [(42, .iload 3, 1, []), (43, .ireturn, 1, [0])]
noncomputable def cod_8 : List (List En) := [b_8_0, b_8_1, b_8_2, b_8_3]
/-- uniteValues, block 0 -/
noncomputable def b_9_0 : List En := [(0, .iload 1, 1, []), (1, .iconst (-64), 2, []), (3, .invokestatic 71, 3, [2236, 0]), (6, .istore 4, 2, []), (8, .nop, 0, [1])]
/-- uniteValues, block 1 -/
noncomputable def b_9_1 : List En := [(8, .iload 4, 2, []), (10, .iload 2, 1, []), (11, .iconst 63, 2, []), (13, .invokestatic 77, 3, [2237, 1]), (16, .if_icmp .gt 19, 3, [2]), (19, .aload 3, 1, []), (20, .aload 0, 1, []), (21, .iload 4, 2, []), (23, .invokevirtual 59, 3, [7, 2, 1, 5]), (26, .invokevirtual 84, 3, [58, 2, 6, 9]), (29, .iinc 4 1, 3, []), (32, .goto (-24), 3, [1])]
/-- uniteValues, block 2 -/
noncomputable def b_9_2 : List En := [(35, .return_, 1, [])]
noncomputable def cod_9 : List (List En) := [b_9_0, b_9_1, b_9_2]
/-- tell, block 0 -/
noncomputable def b_12_0 : List En := [(0, .iload 1, 1, []), (1, .iconst 7, 2, []), (3, .if_icmp .ne 15, 3, [1]), (6, .aload 5, 2, []), (8, .aload 0, 1, []), (9, .getfield 28, 3, [0, 3, 3, 3]), (12, .invokevirtual 88, 3, [53, 2, 6, 10]), (15, .goto 83, 3, [5])]
/-- tell, block 1 -/
noncomputable def b_12_1 : List En := [(18, .iload 1, 1, []), (19, .iconst 6, 2, []), (21, .if_icmp .ne 22, 3, [2]), (24, .aload 5, 2, []), (26, .aload 4, 2, []), (28, .invokevirtual 88, 3, [53, 2, 6, 10]), (31, .aload 5, 2, []), (33, .aload 0, 1, []), (34, .getfield 28, 3, [0, 3, 3, 3]), (37, .invokevirtual 91, 3, [59, 2, 6, 11]), (40, .goto 58, 3, [5])]
/-- tell, block 2 -/
noncomputable def b_12_2 : List En := [(43, .iload 3, 1, []), (44, .ifCond .ne 14, 3, [3]), (47, .aload 0, 1, []), (48, .iload 1, 1, []), (49, .iload 2, 1, []), (50, .aload 5, 2, []), (52, .invokevirtual 94, 3, [13, 4, 1, 12]), (55, .goto 43, 3, [5])]
/-- tell, block 3 -/
noncomputable def b_12_3 : List En := [(58, .iload 3, 1, []), (59, .iconst 1, 1, []), (60, .if_icmp .ne 22, 3, [4]), (63, .aload 0, 1, []), (64, .iload 2, 1, []), (65, .invokevirtual 98, 3, [14, 2, 1, 13]), (68, .aload 0, 1, []), (69, .iload 1, 1, []), (70, .aload 0, 1, []), (71, .getfield 28, 3, [0, 3, 3, 3]), (74, .aload 5, 2, []), (76, .invokevirtual 102, 3, [16, 4, 1, 14]), (79, .goto 19, 3, [5])]
/-- tell, block 4 -/
noncomputable def b_12_4 : List En := [(82, .aload 0, 1, []), (83, .iload 2, 1, []), (84, .invokevirtual 106, 3, [15, 2, 1, 15]), (87, .aload 0, 1, []), (88, .iload 1, 1, []), (89, .aload 0, 1, []), (90, .getfield 28, 3, [0, 3, 3, 3]), (93, .aload 5, 2, []), (95, .invokevirtual 102, 3, [16, 4, 1, 14]), (98, .nop, 0, [5])]
/-- tell, block 5 -/
noncomputable def b_12_5 : List En := [(98, .return_, 1, [])]
noncomputable def cod_12 : List (List En) := [b_12_0, b_12_1, b_12_2, b_12_3, b_12_4, b_12_5]
/-- tellByValues, block 0 -/
noncomputable def b_13_0 : List En := [(0, .aload 3, 1, []), (1, .invokevirtual 109, 3, [51, 1, 6, 16]), (4, .iload 1, 1, []), (5, .ifCond .eq 13, 3, [1]), (8, .iload 1, 1, []), (9, .iconst 1, 1, []), (10, .if_icmp .eq 8, 3, [1]), (13, .iload 1, 1, []), (14, .iconst 5, 1, []), (15, .if_icmp .ne 13, 3, [2]), (18, .nop, 0, [1])]
/-- tellByValues, block 1 -/
noncomputable def b_13_1 : List En := [(18, .aload 0, 1, []), (19, .iconst (-64), 2, []), (21, .iload 2, 1, []), (22, .iconst 1, 1, []), (23, .isub, 1, []), (24, .aload 3, 1, []), (25, .invokevirtual 112, 3, [9, 4, 1, 17]), (28, .nop, 0, [2])]
/-- tellByValues, block 2 -/
noncomputable def b_13_2 : List En := [(28, .iload 1, 1, []), (29, .iconst 1, 1, []), (30, .if_icmp .eq 13, 3, [3]), (33, .iload 1, 1, []), (34, .iconst 2, 1, []), (35, .if_icmp .eq 8, 3, [3]), (38, .iload 1, 1, []), (39, .iconst 3, 1, []), (40, .if_icmp .ne 10, 3, [4]), (43, .nop, 0, [3])]
/-- tellByValues, block 3 -/
noncomputable def b_13_3 : List En := [(43, .aload 0, 1, []), (44, .iload 2, 1, []), (45, .iload 2, 1, []), (46, .aload 3, 1, []), (47, .invokevirtual 112, 3, [9, 4, 1, 17]), (50, .nop, 0, [4])]
/-- tellByValues, block 4 -/
noncomputable def b_13_4 : List En := [(50, .iload 1, 1, []), (51, .iconst 3, 1, []), (52, .if_icmp .eq 13, 3, [5]), (55, .iload 1, 1, []), (56, .iconst 4, 1, []), (57, .if_icmp .eq 8, 3, [5]), (60, .iload 1, 1, []), (61, .iconst 5, 1, []), (62, .if_icmp .ne 13, 3, [6]), (65, .nop, 0, [5])]
/-- tellByValues, block 5 -/
noncomputable def b_13_5 : List En := [(65, .aload 0, 1, []), (66, .iload 2, 1, []), (67, .iconst 1, 1, []), (68, .iadd, 1, []), (69, .iconst 63, 2, []), (71, .aload 3, 1, []), (72, .invokevirtual 112, 3, [9, 4, 1, 17]), (75, .nop, 0, [6])]
/-- tellByValues, block 6 -/
noncomputable def b_13_6 : List En := [(75, .return_, 1, [])]
noncomputable def cod_13 : List (List En) := [b_13_0, b_13_1, b_13_2, b_13_3, b_13_4, b_13_5, b_13_6]
/-- splitByBounds, block 0 -/
noncomputable def b_14_0 : List En := [(0, .iload 1, 1, []), (1, .invokestatic 115, 3, [5, 1, 0, 18]), (4, .istore 2, 1, []), (5, .aload 0, 1, []), (6, .getfield 35, 3, [0, 5, 3, 5]), (9, .aload 0, 1, []), (10, .getfield 21, 3, [0, 1, 3, 1]), (13, .iload 2, 1, []), (14, .aaload, 1, []), (15, .invokevirtual 88, 3, [53, 2, 6, 10]), (18, .aload 0, 1, []), (19, .iload 2, 1, []), (20, .invokestatic 63, 3, [4, 1, 0, 6]), (23, .iload 1, 1, []), (24, .iconst 1, 1, []), (25, .isub, 1, []), (26, .aload 0, 1, []), (27, .getfield 35, 3, [0, 5, 3, 5]), (30, .invokevirtual 112, 3, [9, 4, 1, 17]), (33, .aload 0, 1, []), (34, .getfield 38, 3, [0, 6, 3, 6]), (37, .aload 0, 1, []), (38, .iload 1, 1, []), (39, .invokevirtual 59, 3, [7, 2, 1, 5]), (42, .invokevirtual 88, 3, [53, 2, 6, 10]), (45, .return_, 1, [])]
noncomputable def cod_14 : List (List En) := [b_14_0]
/-- splitByDigits, block 0 -/
noncomputable def b_15_0 : List En := [(0, .aload 0, 1, []), (1, .getfield 35, 3, [0, 5, 3, 5]), (4, .invokevirtual 109, 3, [51, 1, 6, 16]), (7, .aload 0, 1, []), (8, .getfield 38, 3, [0, 6, 3, 6]), (11, .aload 0, 1, []), (12, .getfield 28, 3, [0, 3, 3, 3]), (15, .invokevirtual 88, 3, [53, 2, 6, 10]), (18, .iconst 6, 2, []), (20, .istore 2, 1, []), (21, .nop, 0, [1])]
/-- splitByDigits, block 1 -/
noncomputable def b_15_1 : List En := [(21, .iload 2, 1, []), (22, .ifCond .lt 96, 3, [7]), (25, .iload 1, 1, []), (26, .iload 2, 1, []), (27, .invokestatic 67, 3, [6, 2, 0, 7]), (30, .istore 3, 1, []), (31, .aload 0, 1, []), (32, .getfield 44, 3, [0, 8, 3, 8]), (35, .aload 0, 1, []), (36, .getfield 38, 3, [0, 6, 3, 6]), (39, .invokevirtual 88, 3, [53, 2, 6, 10]), (42, .iload 3, 1, []), (43, .ifCond .eq 19, 3, [2]), (46, .aload 0, 1, []), (47, .getfield 38, 3, [0, 6, 3, 6]), (50, .aload 0, 1, []), (51, .getfield 24, 3, [0, 2, 3, 2]), (54, .iload 2, 1, []), (55, .aaload, 1, []), (56, .invokevirtual 118, 3, [57, 2, 6, 19]), (59, .goto 16, 3, [3])]
/-- splitByDigits, block 2 -/
noncomputable def b_15_2 : List En := [(62, .aload 0, 1, []), (63, .getfield 38, 3, [0, 6, 3, 6]), (66, .aload 0, 1, []), (67, .getfield 24, 3, [0, 2, 3, 2]), (70, .iload 2, 1, []), (71, .aaload, 1, []), (72, .invokevirtual 91, 3, [59, 2, 6, 11]), (75, .nop, 0, [3])]
/-- splitByDigits, block 3 -/
noncomputable def b_15_3 : List En := [(75, .iload 3, 1, []), (76, .iload 2, 1, []), (77, .iconst 6, 2, []), (79, .if_icmp .ne 7, 3, [4]), (82, .iconst 1, 1, []), (83, .goto 4, 3, [5])]
/-- splitByDigits, block 4 -/
noncomputable def b_15_4 : List En := [(86, .iconst 0, 1, []), (87, .nop, 0, [5])]
/-- splitByDigits, block 5 -/
noncomputable def b_15_5 : List En := [(87, .if_icmp .eq 25, 3, [6]), (90, .aload 0, 1, []), (91, .getfield 44, 3, [0, 8, 3, 8]), (94, .aload 0, 1, []), (95, .getfield 38, 3, [0, 6, 3, 6]), (98, .invokevirtual 91, 3, [59, 2, 6, 11]), (101, .aload 0, 1, []), (102, .getfield 35, 3, [0, 5, 3, 5]), (105, .aload 0, 1, []), (106, .getfield 44, 3, [0, 8, 3, 8]), (109, .invokevirtual 84, 3, [58, 2, 6, 9]), (112, .nop, 0, [6])]
/-- splitByDigits, block 6 -/
noncomputable def b_15_6 : List En := [(112, .iinc 2 (-1), 3, []), (115, .goto (-94), 3, [1])]
/-- splitByDigits, block 7 -/
noncomputable def b_15_7 : List En := [(118, .return_, 1, [])]
noncomputable def cod_15 : List (List En) := [b_15_0, b_15_1, b_15_2, b_15_3, b_15_4, b_15_5, b_15_6, b_15_7]
/-- tellFromSplit, block 0 -/
noncomputable def b_16_0 : List En := [(0, .iload 1, 1, []), (1, .tableswitch 116 0 4 #[35, 46, 65, 76, 92], 35, [6, 1, 2, 3, 4, 5])]
/-- tellFromSplit, block 1 -/
noncomputable def b_16_1 : List En := [(36, .aload 3, 1, []), (37, .aload 0, 1, []), (38, .getfield 35, 3, [0, 5, 3, 5]), (41, .invokevirtual 88, 3, [53, 2, 6, 10]), (44, .goto 86, 3, [7])]
/-- tellFromSplit, block 2 -/
noncomputable def b_16_2 : List En := [(47, .aload 3, 1, []), (48, .aload 0, 1, []), (49, .getfield 35, 3, [0, 5, 3, 5]), (52, .invokevirtual 88, 3, [53, 2, 6, 10]), (55, .aload 3, 1, []), (56, .aload 0, 1, []), (57, .getfield 38, 3, [0, 6, 3, 6]), (60, .invokevirtual 84, 3, [58, 2, 6, 9]), (63, .goto 67, 3, [7])]
/-- tellFromSplit, block 3 -/
noncomputable def b_16_3 : List En := [(66, .aload 3, 1, []), (67, .aload 0, 1, []), (68, .getfield 38, 3, [0, 6, 3, 6]), (71, .invokevirtual 88, 3, [53, 2, 6, 10]), (74, .goto 56, 3, [7])]
/-- tellFromSplit, block 4 -/
noncomputable def b_16_4 : List En := [(77, .aload 3, 1, []), (78, .aload 2, 1, []), (79, .invokevirtual 88, 3, [53, 2, 6, 10]), (82, .aload 3, 1, []), (83, .aload 0, 1, []), (84, .getfield 35, 3, [0, 5, 3, 5]), (87, .invokevirtual 91, 3, [59, 2, 6, 11]), (90, .goto 40, 3, [7])]
/-- tellFromSplit, block 5 -/
noncomputable def b_16_5 : List En := [(93, .aload 3, 1, []), (94, .aload 2, 1, []), (95, .invokevirtual 88, 3, [53, 2, 6, 10]), (98, .aload 3, 1, []), (99, .aload 0, 1, []), (100, .getfield 35, 3, [0, 5, 3, 5]), (103, .invokevirtual 91, 3, [59, 2, 6, 11]), (106, .aload 3, 1, []), (107, .aload 0, 1, []), (108, .getfield 38, 3, [0, 6, 3, 6]), (111, .invokevirtual 91, 3, [59, 2, 6, 11]), (114, .goto 16, 3, [7])]
/-- tellFromSplit, block 6 -/
noncomputable def b_16_6 : List En := [(117, .aload 3, 1, []), (118, .aload 2, 1, []), (119, .invokevirtual 88, 3, [53, 2, 6, 10]), (122, .aload 3, 1, []), (123, .aload 0, 1, []), (124, .getfield 38, 3, [0, 6, 3, 6]), (127, .invokevirtual 91, 3, [59, 2, 6, 11]), (130, .nop, 0, [7])]
/-- tellFromSplit, block 7 -/
noncomputable def b_16_7 : List En := [(130, .return_, 1, [])]
noncomputable def cod_16 : List (List En) := [b_16_0, b_16_1, b_16_2, b_16_3, b_16_4, b_16_5, b_16_6, b_16_7]
/-- sumOver, block 0 -/
noncomputable def b_18_0 : List En := [(0, .iconst 0, 1, []), (1, .istore 2, 1, []), (2, .iconst 0, 1, []), (3, .istore 3, 1, []), (4, .nop, 0, [1])]
/-- sumOver, block 1 -/
noncomputable def b_18_1 : List En := [(4, .iload 3, 1, []), (5, .iconst 7, 2, []), (7, .if_icmp .ge 27, 3, [2]), (10, .iload 2, 1, []), (11, .aload 0, 1, []), (12, .getfield 24, 3, [0, 2, 3, 2]), (15, .iload 3, 1, []), (16, .aaload, 1, []), (17, .aload 1, 1, []), (18, .invokevirtual 124, 3, [68, 2, 6, 20]), (21, .iload 3, 1, []), (22, .invokestatic 128, 3, [19, 1, 0, 21]), (25, .imul, 1, []), (26, .iadd, 1, []), (27, .istore 2, 1, []), (28, .iinc 3 1, 3, []), (31, .goto (-27), 3, [1])]
/-- sumOver, block 2 -/
noncomputable def b_18_2 : List En := [(34, .iload 2, 1, []), (35, .ireturn, 1, [0])]
noncomputable def cod_18 : List (List En) := [b_18_0, b_18_1, b_18_2]
/-- weightOf, block 0 -/
noncomputable def b_19_0 : List En := [(0, .iload 0, 1, []), (1, .iconst 6, 2, []), (3, .if_icmp .ne 8, 3, [1]), (6, .iconst (-64), 2, []), (8, .goto 6, 3, [2])]
/-- weightOf, block 1 -/
noncomputable def b_19_1 : List En := [(11, .iconst 1, 1, []), (12, .iload 0, 1, []), (13, .ishl, 1, []), (14, .nop, 0, [2])]
/-- weightOf, block 2 -/
noncomputable def b_19_2 : List En := [(14, .ireturn, 1, [0])]
noncomputable def cod_19 : List (List En) := [b_19_0, b_19_1, b_19_2]
/-- leastOver, block 0 -/
noncomputable def b_20_0 : List En := [(0, .aload 0, 1, []), (1, .getfield 41, 3, [0, 7, 3, 7]), (4, .aload 1, 1, []), (5, .invokevirtual 88, 3, [53, 2, 6, 10]), (8, .aload 0, 1, []), (9, .getfield 41, 3, [0, 7, 3, 7]), (12, .aload 0, 1, []), (13, .getfield 28, 3, [0, 3, 3, 3]), (16, .invokevirtual 118, 3, [57, 2, 6, 19]), (19, .iload 2, 1, []), (20, .ifCond .lt 14, 3, [1]), (23, .iload 2, 1, []), (24, .aload 0, 1, []), (25, .getfield 41, 3, [0, 7, 3, 7]), (28, .invokevirtual 131, 3, [67, 1, 6, 22]), (31, .if_icmp .lt 6, 3, [2]), (34, .nop, 0, [1])]
/-- leastOver, block 1 -/
noncomputable def b_20_1 : List En := [(34, .iconst 100, 2, []), (36, .ireturn, 1, [0])]
/-- leastOver, block 2 -/
noncomputable def b_20_2 : List En := [(37, .iconst 0, 1, []), (38, .istore 3, 1, []), (39, .iload 2, 1, []), (40, .istore 4, 2, []), (42, .iconst 6, 2, []), (44, .istore 5, 2, []), (46, .nop, 0, [3])]
/-- leastOver, block 3 -/
noncomputable def b_20_3 : List En := [(46, .iload 5, 2, []), (48, .ifCond .lt 145, 3, [13]), (51, .iload 5, 2, []), (53, .iconst 6, 2, []), (55, .if_icmp .ne 7, 3, [4]), (58, .iconst 1, 1, []), (59, .goto 4, 3, [5])]
/-- leastOver, block 4 -/
noncomputable def b_20_4 : List En := [(62, .iconst 0, 1, []), (63, .nop, 0, [5])]
/-- leastOver, block 5 -/
noncomputable def b_20_5 : List En := [(63, .istore 6, 2, []), (65, .aload 0, 1, []), (66, .getfield 44, 3, [0, 8, 3, 8]), (69, .aload 0, 1, []), (70, .getfield 41, 3, [0, 7, 3, 7]), (73, .invokevirtual 88, 3, [53, 2, 6, 10]), (76, .iload 6, 2, []), (78, .ifCond .eq 20, 3, [6]), (81, .aload 0, 1, []), (82, .getfield 44, 3, [0, 8, 3, 8]), (85, .aload 0, 1, []), (86, .getfield 24, 3, [0, 2, 3, 2]), (89, .iload 5, 2, []), (91, .aaload, 1, []), (92, .invokevirtual 118, 3, [57, 2, 6, 19]), (95, .goto 17, 3, [7])]
/-- leastOver, block 6 -/
noncomputable def b_20_6 : List En := [(98, .aload 0, 1, []), (99, .getfield 44, 3, [0, 8, 3, 8]), (102, .aload 0, 1, []), (103, .getfield 24, 3, [0, 2, 3, 2]), (106, .iload 5, 2, []), (108, .aaload, 1, []), (109, .invokevirtual 91, 3, [59, 2, 6, 11]), (112, .nop, 0, [7])]
/-- leastOver, block 7 -/
noncomputable def b_20_7 : List En := [(112, .aload 0, 1, []), (113, .getfield 44, 3, [0, 8, 3, 8]), (116, .invokevirtual 131, 3, [67, 1, 6, 22]), (119, .istore 7, 2, []), (121, .iload 4, 2, []), (123, .iload 7, 2, []), (125, .if_icmp .ge 7, 3, [8]), (128, .iconst 1, 1, []), (129, .goto 4, 3, [9])]
/-- leastOver, block 8 -/
noncomputable def b_20_8 : List En := [(132, .iconst 0, 1, []), (133, .nop, 0, [9])]
/-- leastOver, block 9 -/
noncomputable def b_20_9 : List En := [(133, .istore 8, 2, []), (135, .iload 8, 2, []), (137, .ifCond .eq 17, 3, [10]), (140, .aload 0, 1, []), (141, .getfield 41, 3, [0, 7, 3, 7]), (144, .aload 0, 1, []), (145, .getfield 44, 3, [0, 8, 3, 8]), (148, .invokevirtual 88, 3, [53, 2, 6, 10]), (151, .goto 21, 3, [11])]
/-- leastOver, block 10 -/
noncomputable def b_20_10 : List En := [(154, .aload 0, 1, []), (155, .getfield 41, 3, [0, 7, 3, 7]), (158, .aload 0, 1, []), (159, .getfield 44, 3, [0, 8, 3, 8]), (162, .invokevirtual 91, 3, [59, 2, 6, 11]), (165, .iload 4, 2, []), (167, .iload 7, 2, []), (169, .isub, 1, []), (170, .istore 4, 2, []), (172, .nop, 0, [11])]
/-- leastOver, block 11 -/
noncomputable def b_20_11 : List En := [(172, .iload 8, 2, []), (174, .iload 6, 2, []), (176, .if_icmp .ne 11, 3, [12]), (179, .iload 3, 1, []), (180, .iload 5, 2, []), (182, .invokestatic 128, 3, [19, 1, 0, 21]), (185, .iadd, 1, []), (186, .istore 3, 1, []), (187, .nop, 0, [12])]
/-- leastOver, block 12 -/
noncomputable def b_20_12 : List En := [(187, .iinc 5 (-1), 3, []), (190, .goto (-144), 3, [3])]
/-- leastOver, block 13 -/
noncomputable def b_20_13 : List En := [(193, .iload 3, 1, []), (194, .ireturn, 1, [0])]
noncomputable def cod_20 : List (List En) := [b_20_0, b_20_1, b_20_2, b_20_3, b_20_4, b_20_5, b_20_6, b_20_7, b_20_8, b_20_9, b_20_10, b_20_11, b_20_12, b_20_13]
/-- rowAtPlace, block 0 -/
noncomputable def b_21_0 : List En := [(0, .aload 0, 1, []), (1, .getfield 28, 3, [0, 3, 3, 3]), (4, .aload 1, 1, []), (5, .invokevirtual 124, 3, [68, 2, 6, 20]), (8, .istore 3, 1, []), (9, .iload 2, 1, []), (10, .ifCond .lt 8, 3, [1]), (13, .iload 2, 1, []), (14, .iload 3, 1, []), (15, .if_icmp .lt 5, 3, [2]), (18, .nop, 0, [1])]
/-- rowAtPlace, block 1 -/
noncomputable def b_21_1 : List En := [(18, .iconst (-1), 1, []), (19, .ireturn, 1, [0])]
/-- rowAtPlace, block 2 -/
noncomputable def b_21_2 : List En := [(20, .aload 0, 1, []), (21, .aload 0, 1, []), (22, .aload 1, 1, []), (23, .iload 3, 1, []), (24, .iconst 1, 1, []), (25, .isub, 1, []), (26, .iload 2, 1, []), (27, .isub, 1, []), (28, .invokevirtual 135, 3, [20, 3, 1, 23]), (31, .invokevirtual 106, 3, [15, 2, 1, 15]), (34, .iload 3, 1, []), (35, .aload 0, 1, []), (36, .getfield 35, 3, [0, 5, 3, 5]), (39, .aload 1, 1, []), (40, .invokevirtual 124, 3, [68, 2, 6, 20]), (43, .isub, 1, []), (44, .aload 0, 1, []), (45, .getfield 38, 3, [0, 6, 3, 6]), (48, .aload 1, 1, []), (49, .invokevirtual 124, 3, [68, 2, 6, 20]), (52, .isub, 1, []), (53, .istore 4, 2, []), (55, .aload 0, 1, []), (56, .getfield 38, 3, [0, 6, 3, 6]), (59, .aload 1, 1, []), (60, .invokevirtual 118, 3, [57, 2, 6, 19]), (63, .aload 0, 1, []), (64, .getfield 38, 3, [0, 6, 3, 6]), (67, .iload 2, 1, []), (68, .iload 4, 2, []), (70, .isub, 1, []), (71, .invokevirtual 139, 3, [70, 2, 6, 24]), (74, .ireturn, 1, [0])]
noncomputable def cod_21 : List (List En) := [b_21_0, b_21_1, b_21_2]
/-- valuesOver, block 0 -/
noncomputable def b_22_0 : List En := [(0, .iconst 0, 1, []), (1, .istore 2, 1, []), (2, .iconst (-64), 2, []), (4, .istore 3, 1, []), (5, .nop, 0, [1])]
/-- valuesOver, block 1 -/
noncomputable def b_22_1 : List En := [(5, .iload 3, 1, []), (6, .iconst 63, 2, []), (8, .if_icmp .gt 24, 3, [3]), (11, .aload 0, 1, []), (12, .iload 3, 1, []), (13, .invokevirtual 59, 3, [7, 2, 1, 5]), (16, .aload 1, 1, []), (17, .invokevirtual 142, 3, [64, 2, 6, 25]), (20, .ifCond .eq 6, 3, [2]), (23, .iinc 2 1, 3, []), (26, .nop, 0, [2])]
/-- valuesOver, block 2 -/
noncomputable def b_22_2 : List En := [(26, .iinc 3 1, 3, []), (29, .goto (-24), 3, [1])]
/-- valuesOver, block 3 -/
noncomputable def b_22_3 : List En := [(32, .iload 2, 1, []), (33, .ireturn, 1, [0])]
noncomputable def cod_22 : List (List En) := [b_22_0, b_22_1, b_22_2, b_22_3]
/-- pairsWith, block 0 -/
noncomputable def b_23_0 : List En := [(0, .iconst 0, 1, []), (1, .istore 4, 2, []), (3, .iconst (-64), 2, []), (5, .istore 5, 2, []), (7, .nop, 0, [1])]
/-- pairsWith, block 1 -/
noncomputable def b_23_1 : List En := [(7, .iload 5, 2, []), (9, .iconst 63, 2, []), (11, .if_icmp .gt 35, 3, [2]), (14, .iload 4, 2, []), (16, .aload 0, 1, []), (17, .iload 5, 2, []), (19, .invokevirtual 59, 3, [7, 2, 1, 5]), (22, .aload 1, 1, []), (23, .invokevirtual 124, 3, [68, 2, 6, 20]), (26, .aload 2, 1, []), (27, .iload 5, 2, []), (29, .invokevirtual 59, 3, [7, 2, 1, 5]), (32, .aload 3, 1, []), (33, .invokevirtual 124, 3, [68, 2, 6, 20]), (36, .imul, 1, []), (37, .iadd, 1, []), (38, .istore 4, 2, []), (40, .iinc 5 1, 3, []), (43, .goto (-36), 3, [1])]
/-- pairsWith, block 2 -/
noncomputable def b_23_2 : List En := [(46, .iload 4, 2, []), (48, .ireturn, 1, [0])]
noncomputable def cod_23 : List (List En) := [b_23_0, b_23_1, b_23_2]
/-- tellPartners, block 0 -/
noncomputable def b_24_0 : List En := [(0, .aload 4, 2, []), (2, .invokevirtual 109, 3, [51, 1, 6, 16]), (5, .iconst (-64), 2, []), (7, .istore 5, 2, []), (9, .nop, 0, [1])]
/-- tellPartners, block 1 -/
noncomputable def b_24_1 : List En := [(9, .iload 5, 2, []), (11, .iconst 63, 2, []), (13, .if_icmp .gt 33, 3, [3]), (16, .aload 2, 1, []), (17, .iload 5, 2, []), (19, .invokevirtual 59, 3, [7, 2, 1, 5]), (22, .aload 3, 1, []), (23, .invokevirtual 142, 3, [64, 2, 6, 25]), (26, .ifCond .eq 14, 3, [2]), (29, .aload 4, 2, []), (31, .aload 0, 1, []), (32, .iload 5, 2, []), (34, .invokevirtual 59, 3, [7, 2, 1, 5]), (37, .invokevirtual 84, 3, [58, 2, 6, 9]), (40, .nop, 0, [2])]
/-- tellPartners, block 2 -/
noncomputable def b_24_2 : List En := [(40, .iinc 5 1, 3, []), (43, .goto (-34), 3, [1])]
/-- tellPartners, block 3 -/
noncomputable def b_24_3 : List En := [(46, .aload 4, 2, []), (48, .aload 1, 1, []), (49, .invokevirtual 118, 3, [57, 2, 6, 19]), (52, .return_, 1, [])]
noncomputable def cod_24 : List (List En) := [b_24_0, b_24_1, b_24_2, b_24_3]
/-- costOf, block 0 -/
noncomputable def b_25_0 : List En := [(0, .iload 1, 1, []), (1, .iconst 6, 2, []), (3, .if_icmp .eq 9, 3, [1]), (6, .iload 1, 1, []), (7, .iconst 7, 2, []), (9, .if_icmp .ne 5, 3, [2]), (12, .nop, 0, [1])]
/-- costOf, block 1 -/
noncomputable def b_25_1 : List En := [(12, .iconst 1, 1, []), (13, .ireturn, 1, [0])]
/-- costOf, block 2 -/
noncomputable def b_25_2 : List En := [(14, .iload 3, 1, []), (15, .iconst 2, 1, []), (16, .if_icmp .ne 8, 3, [3]), (19, .iload 1, 1, []), (20, .invokestatic 146, 3, [29, 1, 0, 26]), (23, .ireturn, 1, [0])]
/-- costOf, block 3 -/
noncomputable def b_25_3 : List En := [(24, .aload 0, 1, []), (25, .iload 2, 1, []), (26, .iload 2, 1, []), (27, .invokevirtual 149, 3, [8, 3, 1, 27]), (30, .istore 4, 2, []), (32, .iload 3, 1, []), (33, .iconst 1, 1, []), (34, .if_icmp .ne 24, 3, [4]), (37, .iload 1, 1, []), (38, .aload 0, 1, []), (39, .iload 2, 1, []), (40, .invokestatic 115, 3, [5, 1, 0, 18]), (43, .invokestatic 63, 3, [4, 1, 0, 6]), (46, .iload 2, 1, []), (47, .iconst 1, 1, []), (48, .isub, 1, []), (49, .invokevirtual 149, 3, [8, 3, 1, 27]), (52, .iload 4, 2, []), (54, .invokestatic 152, 3, [28, 3, 0, 28]), (57, .ireturn, 1, [0])]
/-- costOf, block 4 -/
noncomputable def b_25_4 : List En := [(58, .aload 0, 1, []), (59, .iconst (-64), 2, []), (61, .iload 2, 1, []), (62, .iconst 1, 1, []), (63, .isub, 1, []), (64, .invokevirtual 149, 3, [8, 3, 1, 27]), (67, .istore 5, 2, []), (69, .iload 1, 1, []), (70, .iload 5, 2, []), (72, .iload 4, 2, []), (74, .aload 0, 1, []), (75, .iload 2, 1, []), (76, .iconst 1, 1, []), (77, .iadd, 1, []), (78, .iconst 63, 2, []), (80, .invokevirtual 149, 3, [8, 3, 1, 27]), (83, .invokestatic 156, 3, [27, 4, 0, 29]), (86, .ireturn, 1, [0])]
noncomputable def cod_25 : List (List En) := [b_25_0, b_25_1, b_25_2, b_25_3, b_25_4]
/-- bestWayFor, block 0 -/
noncomputable def b_26_0 : List En := [(0, .iconst 0, 1, []), (1, .istore 3, 1, []), (2, .aload 0, 1, []), (3, .iload 1, 1, []), (4, .iload 2, 1, []), (5, .iconst 0, 1, []), (6, .invokevirtual 160, 3, [25, 4, 1, 30]), (9, .istore 4, 2, []), (11, .iconst 1, 1, []), (12, .istore 5, 2, []), (14, .nop, 0, [1])]
/-- bestWayFor, block 1 -/
noncomputable def b_26_1 : List En := [(14, .iload 5, 2, []), (16, .iconst 2, 1, []), (17, .if_icmp .gt 33, 3, [3]), (20, .aload 0, 1, []), (21, .iload 1, 1, []), (22, .iload 2, 1, []), (23, .iload 5, 2, []), (25, .invokevirtual 160, 3, [25, 4, 1, 30]), (28, .istore 6, 2, []), (30, .iload 6, 2, []), (32, .iload 4, 2, []), (34, .if_icmp .ge 10, 3, [2]), (37, .iload 5, 2, []), (39, .istore 3, 1, []), (40, .iload 6, 2, []), (42, .istore 4, 2, []), (44, .nop, 0, [2])]
/-- bestWayFor, block 2 -/
noncomputable def b_26_2 : List En := [(44, .iinc 5 1, 3, []), (47, .goto (-33), 3, [1])]
/-- bestWayFor, block 3 -/
noncomputable def b_26_3 : List En := [(50, .iload 3, 1, []), (51, .ireturn, 1, [0])]
noncomputable def cod_26 : List (List En) := [b_26_0, b_26_1, b_26_2, b_26_3]
/-- costByValues, block 0 -/
noncomputable def b_27_0 : List En := [(0, .iload 0, 1, []), (1, .tableswitch 49 0 4 #[35, 37, 41, 43, 47], 35, [6, 1, 2, 3, 4, 5])]
/-- costByValues, block 1 -/
noncomputable def b_27_1 : List En := [(36, .iload 1, 1, []), (37, .ireturn, 1, [0])]
/-- costByValues, block 2 -/
noncomputable def b_27_2 : List En := [(38, .iload 1, 1, []), (39, .iload 2, 1, []), (40, .iadd, 1, []), (41, .ireturn, 1, [0])]
/-- costByValues, block 3 -/
noncomputable def b_27_3 : List En := [(42, .iload 2, 1, []), (43, .ireturn, 1, [0])]
/-- costByValues, block 4 -/
noncomputable def b_27_4 : List En := [(44, .iload 2, 1, []), (45, .iload 3, 1, []), (46, .iadd, 1, []), (47, .ireturn, 1, [0])]
/-- costByValues, block 5 -/
noncomputable def b_27_5 : List En := [(48, .iload 3, 1, []), (49, .ireturn, 1, [0])]
/-- costByValues, block 6 -/
noncomputable def b_27_6 : List En := [(50, .iload 1, 1, []), (51, .iload 3, 1, []), (52, .iadd, 1, []), (53, .ireturn, 1, [0])]
noncomputable def cod_27 : List (List En) := [b_27_0, b_27_1, b_27_2, b_27_3, b_27_4, b_27_5, b_27_6]
/-- costByBounds, block 0 -/
noncomputable def b_28_0 : List En := [(0, .iload 0, 1, []), (1, .tableswitch 63 0 4 #[35, 39, 45, 53, 57], 35, [6, 1, 2, 3, 4, 5])]
/-- costByBounds, block 1 -/
noncomputable def b_28_1 : List En := [(36, .iconst 1, 1, []), (37, .iload 1, 1, []), (38, .iadd, 1, []), (39, .ireturn, 1, [0])]
/-- costByBounds, block 2 -/
noncomputable def b_28_2 : List En := [(40, .iconst 1, 1, []), (41, .iload 1, 1, []), (42, .iadd, 1, []), (43, .iload 2, 1, []), (44, .iadd, 1, []), (45, .ireturn, 1, [0])]
/-- costByBounds, block 3 -/
noncomputable def b_28_3 : List En := [(46, .iconst 3, 1, []), (47, .iconst 2, 1, []), (48, .iload 1, 1, []), (49, .imul, 1, []), (50, .iadd, 1, []), (51, .iload 2, 1, []), (52, .iadd, 1, []), (53, .ireturn, 1, [0])]
/-- costByBounds, block 4 -/
noncomputable def b_28_4 : List En := [(54, .iconst 2, 1, []), (55, .iload 1, 1, []), (56, .iadd, 1, []), (57, .ireturn, 1, [0])]
/-- costByBounds, block 5 -/
noncomputable def b_28_5 : List En := [(58, .iconst 2, 1, []), (59, .iload 1, 1, []), (60, .iadd, 1, []), (61, .iload 2, 1, []), (62, .iadd, 1, []), (63, .ireturn, 1, [0])]
/-- costByBounds, block 6 -/
noncomputable def b_28_6 : List En := [(64, .iconst 4, 1, []), (65, .iconst 2, 1, []), (66, .iload 1, 1, []), (67, .imul, 1, []), (68, .iadd, 1, []), (69, .iload 2, 1, []), (70, .iadd, 1, []), (71, .ireturn, 1, [0])]
noncomputable def cod_28 : List (List En) := [b_28_0, b_28_1, b_28_2, b_28_3, b_28_4, b_28_5, b_28_6]
/-- costByDigits, block 0 -/
noncomputable def b_29_0 : List En := [(0, .iload 0, 1, []), (1, .tableswitch 48 0 5 #[39, 39, 42, 48, 48, 45], 39, [4, 1, 1, 2, 4, 4, 3])]
/-- costByDigits, block 1 -/
noncomputable def b_29_1 : List En := [(40, .iconst 14, 2, []), (42, .ireturn, 1, [0])]
/-- costByDigits, block 2 -/
noncomputable def b_29_2 : List En := [(43, .iconst 7, 2, []), (45, .ireturn, 1, [0])]
/-- costByDigits, block 3 -/
noncomputable def b_29_3 : List En := [(46, .iconst 8, 2, []), (48, .ireturn, 1, [0])]
/-- costByDigits, block 4 -/
noncomputable def b_29_4 : List En := [(49, .iconst 15, 2, []), (51, .ireturn, 1, [0])]
noncomputable def cod_29 : List (List En) := [b_29_0, b_29_1, b_29_2, b_29_3, b_29_4]
/-- init, block 0 -/
noncomputable def b_30_0 : List En := [(0, .aload 0, 1, []), (1, .invokespecial 1, 3, [1063]), (4, .return_, 1, [])]
noncomputable def cod_30 : List (List En) := [b_30_0]
/-- ask, block 0 -/
noncomputable def b_31_0 : List En := [(0, .aload 0, 1, []), (1, .iload 1, 1, []), (2, .putfield 7, 3, [1, 0, 1, 9]), (5, .aload 0, 1, []), (6, .iload 2, 1, []), (7, .putfield 13, 3, [1, 1, 1, 10]), (10, .aload 0, 1, []), (11, .iload 3, 1, []), (12, .putfield 16, 3, [1, 2, 1, 11]), (15, .return_, 1, [])]
noncomputable def cod_31 : List (List En) := [b_31_0]
/-- setTo, block 0 -/
noncomputable def b_32_0 : List En := [(0, .aload 0, 1, []), (1, .aload 1, 1, []), (2, .getfield 7, 3, [1, 0, 1, 9]), (5, .aload 1, 1, []), (6, .getfield 13, 3, [1, 1, 1, 10]), (9, .aload 1, 1, []), (10, .getfield 16, 3, [1, 2, 1, 11]), (13, .invokevirtual 19, 3, [31, 4, 2, 31]), (16, .return_, 1, [])]
noncomputable def cod_32 : List (List En) := [b_32_0]
/-- init, block 0 -/
noncomputable def b_33_0 : List En := [(0, .aload 0, 1, []), (1, .invokespecial 1, 3, [1158]), (4, .return_, 1, [])]
noncomputable def cod_33 : List (List En) := [b_33_0]
/-- start, block 0 -/
noncomputable def b_34_0 : List En := [(0, .aload 0, 1, []), (1, .iload 1, 1, []), (2, .putfield 7, 3, [2, 0, 1, 12]), (5, .return_, 1, [])]
noncomputable def cod_34 : List (List En) := [b_34_0]
/-- draw, block 0 -/
noncomputable def b_35_0 : List En := [(0, .aload 0, 1, []), (1, .aload 0, 1, []), (2, .getfield 7, 3, [2, 0, 1, 12]), (5, .iconst 1103515245, 2, [0]), (7, .imul, 1, []), (8, .iconst 12345, 3, []), (11, .iadd, 1, []), (12, .putfield 7, 3, [2, 0, 1, 12]), (15, .iload 1, 1, []), (16, .ifCond .gt 7, 3, [1]), (19, .iconst 0, 1, []), (20, .goto 12, 3, [2])]
/-- draw, block 1 -/
noncomputable def b_35_1 : List En := [(23, .aload 0, 1, []), (24, .getfield 7, 3, [2, 0, 1, 12]), (27, .iconst 16, 2, []), (29, .iushr, 1, []), (30, .iload 1, 1, []), (31, .irem, 1, []), (32, .nop, 0, [2])]
/-- draw, block 2 -/
noncomputable def b_35_2 : List En := [(32, .ireturn, 1, [0])]
noncomputable def cod_35 : List (List En) := [b_35_0, b_35_1, b_35_2]
/-- init, block 0 -/
noncomputable def b_36_0 : List En := [(0, .aload 0, 1, []), (1, .invokespecial 3, 3, [1128]), (4, .aload 0, 1, []), (5, .iconst 2405, 3, []), (8, .newarray .int, 2, [10]), (10, .putfield 11, 3, [3, 0, 3, 13]), (13, .aload 0, 1, []), (14, .iconst 4, 1, []), (15, .newarray .int, 2, [10]), (17, .putfield 15, 3, [3, 1, 3, 14]), (20, .aload 0, 1, []), (21, .iconst 4, 1, []), (22, .newarray .int, 2, [10]), (24, .putfield 18, 3, [3, 2, 3, 15]), (27, .aload 0, 1, []), (28, .iconst 5, 1, []), (29, .invokestatic 21, 3, [50, 1, 0, 32]), (32, .putfield 27, 3, [3, 3, 3, 16]), (35, .aload 0, 1, []), (36, .iconst 4, 1, []), (37, .invokestatic 21, 3, [50, 1, 0, 32]), (40, .putfield 31, 3, [3, 4, 3, 17]), (43, .return_, 1, [])]
noncomputable def cod_36 : List (List En) := [b_36_0]
/-- cellAt, block 0 -/
noncomputable def b_37_0 : List En := [(0, .iload 1, 1, []), (1, .ifCond .lt 24, 3, [1]), (4, .iload 1, 1, []), (5, .aload 0, 1, []), (6, .getfield 34, 3, [3, 6, 1, 18]), (9, .if_icmp .ge 16, 3, [1]), (12, .iload 2, 1, []), (13, .ifCond .lt 12, 3, [1]), (16, .iload 2, 1, []), (17, .iconst 5, 1, []), (18, .if_icmp .ge 7, 3, [1]), (21, .iconst 1, 1, []), (22, .goto 4, 3, [2])]
/-- cellAt, block 1 -/
noncomputable def b_37_1 : List En := [(25, .iconst 0, 1, []), (26, .nop, 0, [2])]
/-- cellAt, block 2 -/
noncomputable def b_37_2 : List En := [(26, .istore 3, 1, []), (27, .iload 3, 1, []), (28, .ifCond .eq 16, 3, [3]), (31, .aload 0, 1, []), (32, .getfield 11, 3, [3, 0, 3, 13]), (35, .iload 1, 1, []), (36, .iconst 5, 1, []), (37, .imul, 1, []), (38, .iload 2, 1, []), (39, .iadd, 1, []), (40, .iaload, 1, []), (41, .goto 4, 3, [4])]
/-- cellAt, block 3 -/
noncomputable def b_37_3 : List En := [(44, .iconst (-1), 1, []), (45, .nop, 0, [4])]
/-- cellAt, block 4 -/
noncomputable def b_37_4 : List En := [(45, .ireturn, 1, [0])]
noncomputable def cod_37 : List (List En) := [b_37_0, b_37_1, b_37_2, b_37_3, b_37_4]
/-- roll, block 0 -/
noncomputable def b_38_0 : List En := [(0, .aload 0, 1, []), (1, .iconst 0, 1, []), (2, .putfield 34, 3, [3, 6, 1, 18]), (5, .aload 0, 1, []), (6, .iconst 0, 1, []), (7, .putfield 38, 3, [3, 5, 1, 19]), (10, .iconst 0, 1, []), (11, .istore 4, 2, []), (13, .nop, 0, [1])]
/-- roll, block 1 -/
noncomputable def b_38_1 : List En := [(13, .iload 4, 2, []), (15, .iconst 4, 1, []), (16, .if_icmp .ge 49, 3, [3]), (19, .aload 0, 1, []), (20, .getfield 15, 3, [3, 1, 3, 14]), (23, .iload 4, 2, []), (25, .iconst 101, 2, []), (27, .iastore, 1, []), (28, .iload 3, 1, []), (29, .iload 4, 2, []), (31, .ishr, 1, []), (32, .iconst 1, 1, []), (33, .iand, 1, []), (34, .iconst 1, 1, []), (35, .if_icmp .ne 24, 3, [2]), (38, .aload 0, 1, []), (39, .getfield 18, 3, [3, 2, 3, 15]), (42, .aload 0, 1, []), (43, .getfield 38, 3, [3, 5, 1, 19]), (46, .iload 4, 2, []), (48, .iastore, 1, []), (49, .aload 0, 1, []), (50, .dup, 1, []), (51, .getfield 38, 3, [3, 5, 1, 19]), (54, .iconst 1, 1, []), (55, .iadd, 1, []), (56, .putfield 38, 3, [3, 5, 1, 19]), (59, .nop, 0, [2])]
/-- roll, block 2 -/
noncomputable def b_38_2 : List En := [(59, .iinc 4 1, 3, []), (62, .goto (-49), 3, [1])]
/-- roll, block 3 -/
noncomputable def b_38_3 : List En := [(65, .aload 0, 1, []), (66, .getfield 27, 3, [3, 3, 3, 16]), (69, .iconst 0, 1, []), (70, .aaload, 1, []), (71, .aload 1, 1, []), (72, .invokevirtual 41, 3, [53, 2, 6, 33]), (75, .aload 1, 1, []), (76, .invokevirtual 45, 3, [63, 1, 6, 34]), (79, .ifCond .ne 9, 3, [4]), (82, .aload 0, 1, []), (83, .aload 2, 1, []), (84, .iconst 0, 1, []), (85, .invokestatic 49, 3, [39, 3, 0, 35]), (88, .nop, 0, [4])]
/-- roll, block 4 -/
noncomputable def b_38_4 : List En := [(88, .return_, 1, [])]
noncomputable def cod_38 : List (List En) := [b_38_0, b_38_1, b_38_2, b_38_3, b_38_4]
/-- split, block 0 -/
noncomputable def b_39_0 : List En := [(0, .iload 2, 1, []), (1, .ifCond .lt 8, 3, [1]), (4, .iload 2, 1, []), (5, .iconst 4, 1, []), (6, .if_icmp .le 4, 3, [2]), (9, .nop, 0, [1])]
/-- split, block 1 -/
noncomputable def b_39_1 : List En := [(9, .return_, 1, [])]
/-- split, block 2 -/
noncomputable def b_39_2 : List En := [(10, .iload 2, 1, []), (11, .aload 0, 1, []), (12, .getfield 38, 3, [3, 5, 1, 19]), (15, .if_icmp .ge 140, 3, [6]), (18, .iload 2, 1, []), (19, .iconst 4, 1, []), (20, .if_icmp .ge 135, 3, [6]), (23, .aload 0, 1, []), (24, .getfield 18, 3, [3, 2, 3, 15]), (27, .iload 2, 1, []), (28, .iaload, 1, []), (29, .istore 3, 1, []), (30, .aload 1, 1, []), (31, .iload 3, 1, []), (32, .aaload, 1, []), (33, .astore 4, 2, []), (35, .aload 0, 1, []), (36, .getfield 31, 3, [3, 4, 3, 17]), (39, .iload 2, 1, []), (40, .aaload, 1, []), (41, .astore 5, 2, []), (43, .aload 0, 1, []), (44, .getfield 27, 3, [3, 3, 3, 16]), (47, .iload 2, 1, []), (48, .iconst 1, 1, []), (49, .iadd, 1, []), (50, .aaload, 1, []), (51, .astore 6, 2, []), (53, .aload 5, 2, []), (55, .aload 0, 1, []), (56, .getfield 27, 3, [3, 3, 3, 16]), (59, .iload 2, 1, []), (60, .aaload, 1, []), (61, .invokevirtual 41, 3, [53, 2, 6, 33]), (64, .iconst 0, 1, []), (65, .istore 7, 2, []), (67, .nop, 0, [3])]
/-- split, block 3 -/
noncomputable def b_39_3 : List En := [(67, .iload 7, 2, []), (69, .iconst 120, 2, []), (71, .if_icmp .ge 76, 3, [5]), (74, .aload 5, 2, []), (76, .invokevirtual 45, 3, [63, 1, 6, 34]), (79, .ifCond .ne 68, 3, [5]), (82, .aload 4, 2, []), (84, .aload 5, 2, []), (86, .iconst 0, 1, []), (87, .invokevirtual 53, 3, [20, 3, 1, 36]), (90, .istore 8, 2, []), (92, .aload 6, 2, []), (94, .aload 5, 2, []), (96, .invokevirtual 41, 3, [53, 2, 6, 33]), (99, .iload 8, 2, []), (101, .iconst 100, 2, []), (103, .if_icmp .eq 15, 3, [4]), (106, .aload 6, 2, []), (108, .aload 4, 2, []), (110, .iload 8, 2, []), (112, .invokevirtual 59, 3, [7, 2, 1, 37]), (115, .invokevirtual 63, 3, [57, 2, 6, 38]), (118, .nop, 0, [4])]
/-- split, block 4 -/
noncomputable def b_39_4 : List En := [(118, .aload 0, 1, []), (119, .getfield 15, 3, [3, 1, 3, 14]), (122, .iload 3, 1, []), (123, .iload 8, 2, []), (125, .iastore, 1, []), (126, .aload 0, 1, []), (127, .aload 1, 1, []), (128, .iload 2, 1, []), (129, .iconst 1, 1, []), (130, .iadd, 1, []), (131, .invokestatic 49, 3, [40, 3, 0, 39]), (134, .aload 5, 2, []), (136, .aload 6, 2, []), (138, .invokevirtual 66, 3, [59, 2, 6, 40]), (141, .iinc 7 1, 3, []), (144, .goto (-77), 3, [3])]
/-- split, block 5 -/
noncomputable def b_39_5 : List En := [(147, .aload 0, 1, []), (148, .getfield 15, 3, [3, 1, 3, 14]), (151, .iload 3, 1, []), (152, .iconst 101, 2, []), (154, .iastore, 1, []), (155, .nop, 0, [6])]
/-- split, block 6 -/
noncomputable def b_39_6 : List En := [(155, .aload 0, 1, []), (156, .aload 0, 1, []), (157, .getfield 27, 3, [3, 3, 3, 16]), (160, .iload 2, 1, []), (161, .aaload, 1, []), (162, .invokevirtual 69, 3, [67, 1, 6, 41]), (165, .invokevirtual 73, 3, [44, 2, 4, 42]), (168, .return_, 1, [])]
noncomputable def cod_39 : List (List En) := [b_39_0, b_39_1, b_39_2, b_39_3, b_39_4, b_39_5, b_39_6]
/-- split, block 0 -/
noncomputable def b_40_0 : List En := [(0, .iload 2, 1, []), (1, .ifCond .lt 8, 3, [1]), (4, .iload 2, 1, []), (5, .iconst 4, 1, []), (6, .if_icmp .le 4, 3, [2]), (9, .nop, 0, [1])]
/-- split, block 1 -/
noncomputable def b_40_1 : List En := [(9, .return_, 1, [])]
/-- split, block 2 -/
noncomputable def b_40_2 : List En := [(10, .iload 2, 1, []), (11, .aload 0, 1, []), (12, .getfield 38, 3, [3, 5, 1, 19]), (15, .if_icmp .ge 140, 3, [6]), (18, .iload 2, 1, []), (19, .iconst 4, 1, []), (20, .if_icmp .ge 135, 3, [6]), (23, .aload 0, 1, []), (24, .getfield 18, 3, [3, 2, 3, 15]), (27, .iload 2, 1, []), (28, .iaload, 1, []), (29, .istore 3, 1, []), (30, .aload 1, 1, []), (31, .iload 3, 1, []), (32, .aaload, 1, []), (33, .astore 4, 2, []), (35, .aload 0, 1, []), (36, .getfield 31, 3, [3, 4, 3, 17]), (39, .iload 2, 1, []), (40, .aaload, 1, []), (41, .astore 5, 2, []), (43, .aload 0, 1, []), (44, .getfield 27, 3, [3, 3, 3, 16]), (47, .iload 2, 1, []), (48, .iconst 1, 1, []), (49, .iadd, 1, []), (50, .aaload, 1, []), (51, .astore 6, 2, []), (53, .aload 5, 2, []), (55, .aload 0, 1, []), (56, .getfield 27, 3, [3, 3, 3, 16]), (59, .iload 2, 1, []), (60, .aaload, 1, []), (61, .invokevirtual 41, 3, [53, 2, 6, 33]), (64, .iconst 0, 1, []), (65, .istore 7, 2, []), (67, .nop, 0, [3])]
/-- split, block 3 -/
noncomputable def b_40_3 : List En := [(67, .iload 7, 2, []), (69, .iconst 120, 2, []), (71, .if_icmp .ge 76, 3, [5]), (74, .aload 5, 2, []), (76, .invokevirtual 45, 3, [63, 1, 6, 34]), (79, .ifCond .ne 68, 3, [5]), (82, .aload 4, 2, []), (84, .aload 5, 2, []), (86, .iconst 0, 1, []), (87, .invokevirtual 53, 3, [20, 3, 1, 36]), (90, .istore 8, 2, []), (92, .aload 6, 2, []), (94, .aload 5, 2, []), (96, .invokevirtual 41, 3, [53, 2, 6, 33]), (99, .iload 8, 2, []), (101, .iconst 100, 2, []), (103, .if_icmp .eq 15, 3, [4]), (106, .aload 6, 2, []), (108, .aload 4, 2, []), (110, .iload 8, 2, []), (112, .invokevirtual 59, 3, [7, 2, 1, 37]), (115, .invokevirtual 63, 3, [57, 2, 6, 38]), (118, .nop, 0, [4])]
/-- split, block 4 -/
noncomputable def b_40_4 : List En := [(118, .aload 0, 1, []), (119, .getfield 15, 3, [3, 1, 3, 14]), (122, .iload 3, 1, []), (123, .iload 8, 2, []), (125, .iastore, 1, []), (126, .aload 0, 1, []), (127, .aload 1, 1, []), (128, .iload 2, 1, []), (129, .iconst 1, 1, []), (130, .iadd, 1, []), (131, .invokestatic 49, 3, [41, 3, 0, 43]), (134, .aload 5, 2, []), (136, .aload 6, 2, []), (138, .invokevirtual 66, 3, [59, 2, 6, 40]), (141, .iinc 7 1, 3, []), (144, .goto (-77), 3, [3])]
/-- split, block 5 -/
noncomputable def b_40_5 : List En := [(147, .aload 0, 1, []), (148, .getfield 15, 3, [3, 1, 3, 14]), (151, .iload 3, 1, []), (152, .iconst 101, 2, []), (154, .iastore, 1, []), (155, .nop, 0, [6])]
/-- split, block 6 -/
noncomputable def b_40_6 : List En := [(155, .aload 0, 1, []), (156, .aload 0, 1, []), (157, .getfield 27, 3, [3, 3, 3, 16]), (160, .iload 2, 1, []), (161, .aaload, 1, []), (162, .invokevirtual 69, 3, [67, 1, 6, 41]), (165, .invokevirtual 73, 3, [44, 2, 4, 42]), (168, .return_, 1, [])]
noncomputable def cod_40 : List (List En) := [b_40_0, b_40_1, b_40_2, b_40_3, b_40_4, b_40_5, b_40_6]
/-- split, block 0 -/
noncomputable def b_41_0 : List En := [(0, .iload 2, 1, []), (1, .ifCond .lt 8, 3, [1]), (4, .iload 2, 1, []), (5, .iconst 4, 1, []), (6, .if_icmp .le 4, 3, [2]), (9, .nop, 0, [1])]
/-- split, block 1 -/
noncomputable def b_41_1 : List En := [(9, .return_, 1, [])]
/-- split, block 2 -/
noncomputable def b_41_2 : List En := [(10, .iload 2, 1, []), (11, .aload 0, 1, []), (12, .getfield 38, 3, [3, 5, 1, 19]), (15, .if_icmp .ge 140, 3, [6]), (18, .iload 2, 1, []), (19, .iconst 4, 1, []), (20, .if_icmp .ge 135, 3, [6]), (23, .aload 0, 1, []), (24, .getfield 18, 3, [3, 2, 3, 15]), (27, .iload 2, 1, []), (28, .iaload, 1, []), (29, .istore 3, 1, []), (30, .aload 1, 1, []), (31, .iload 3, 1, []), (32, .aaload, 1, []), (33, .astore 4, 2, []), (35, .aload 0, 1, []), (36, .getfield 31, 3, [3, 4, 3, 17]), (39, .iload 2, 1, []), (40, .aaload, 1, []), (41, .astore 5, 2, []), (43, .aload 0, 1, []), (44, .getfield 27, 3, [3, 3, 3, 16]), (47, .iload 2, 1, []), (48, .iconst 1, 1, []), (49, .iadd, 1, []), (50, .aaload, 1, []), (51, .astore 6, 2, []), (53, .aload 5, 2, []), (55, .aload 0, 1, []), (56, .getfield 27, 3, [3, 3, 3, 16]), (59, .iload 2, 1, []), (60, .aaload, 1, []), (61, .invokevirtual 41, 3, [53, 2, 6, 33]), (64, .iconst 0, 1, []), (65, .istore 7, 2, []), (67, .nop, 0, [3])]
/-- split, block 3 -/
noncomputable def b_41_3 : List En := [(67, .iload 7, 2, []), (69, .iconst 120, 2, []), (71, .if_icmp .ge 76, 3, [5]), (74, .aload 5, 2, []), (76, .invokevirtual 45, 3, [63, 1, 6, 34]), (79, .ifCond .ne 68, 3, [5]), (82, .aload 4, 2, []), (84, .aload 5, 2, []), (86, .iconst 0, 1, []), (87, .invokevirtual 53, 3, [20, 3, 1, 36]), (90, .istore 8, 2, []), (92, .aload 6, 2, []), (94, .aload 5, 2, []), (96, .invokevirtual 41, 3, [53, 2, 6, 33]), (99, .iload 8, 2, []), (101, .iconst 100, 2, []), (103, .if_icmp .eq 15, 3, [4]), (106, .aload 6, 2, []), (108, .aload 4, 2, []), (110, .iload 8, 2, []), (112, .invokevirtual 59, 3, [7, 2, 1, 37]), (115, .invokevirtual 63, 3, [57, 2, 6, 38]), (118, .nop, 0, [4])]
/-- split, block 4 -/
noncomputable def b_41_4 : List En := [(118, .aload 0, 1, []), (119, .getfield 15, 3, [3, 1, 3, 14]), (122, .iload 3, 1, []), (123, .iload 8, 2, []), (125, .iastore, 1, []), (126, .aload 0, 1, []), (127, .aload 1, 1, []), (128, .iload 2, 1, []), (129, .iconst 1, 1, []), (130, .iadd, 1, []), (131, .invokestatic 49, 3, [42, 3, 0, 44]), (134, .aload 5, 2, []), (136, .aload 6, 2, []), (138, .invokevirtual 66, 3, [59, 2, 6, 40]), (141, .iinc 7 1, 3, []), (144, .goto (-77), 3, [3])]
/-- split, block 5 -/
noncomputable def b_41_5 : List En := [(147, .aload 0, 1, []), (148, .getfield 15, 3, [3, 1, 3, 14]), (151, .iload 3, 1, []), (152, .iconst 101, 2, []), (154, .iastore, 1, []), (155, .nop, 0, [6])]
/-- split, block 6 -/
noncomputable def b_41_6 : List En := [(155, .aload 0, 1, []), (156, .aload 0, 1, []), (157, .getfield 27, 3, [3, 3, 3, 16]), (160, .iload 2, 1, []), (161, .aaload, 1, []), (162, .invokevirtual 69, 3, [67, 1, 6, 41]), (165, .invokevirtual 73, 3, [44, 2, 4, 42]), (168, .return_, 1, [])]
noncomputable def cod_41 : List (List En) := [b_41_0, b_41_1, b_41_2, b_41_3, b_41_4, b_41_5, b_41_6]
/-- split, block 0 -/
noncomputable def b_42_0 : List En := [(0, .iload 2, 1, []), (1, .ifCond .lt 8, 3, [1]), (4, .iload 2, 1, []), (5, .iconst 4, 1, []), (6, .if_icmp .le 4, 3, [2]), (9, .nop, 0, [1])]
/-- split, block 1 -/
noncomputable def b_42_1 : List En := [(9, .return_, 1, [])]
/-- split, block 2 -/
noncomputable def b_42_2 : List En := [(10, .iload 2, 1, []), (11, .aload 0, 1, []), (12, .getfield 38, 3, [3, 5, 1, 19]), (15, .if_icmp .ge 140, 3, [6]), (18, .iload 2, 1, []), (19, .iconst 4, 1, []), (20, .if_icmp .ge 135, 3, [6]), (23, .aload 0, 1, []), (24, .getfield 18, 3, [3, 2, 3, 15]), (27, .iload 2, 1, []), (28, .iaload, 1, []), (29, .istore 3, 1, []), (30, .aload 1, 1, []), (31, .iload 3, 1, []), (32, .aaload, 1, []), (33, .astore 4, 2, []), (35, .aload 0, 1, []), (36, .getfield 31, 3, [3, 4, 3, 17]), (39, .iload 2, 1, []), (40, .aaload, 1, []), (41, .astore 5, 2, []), (43, .aload 0, 1, []), (44, .getfield 27, 3, [3, 3, 3, 16]), (47, .iload 2, 1, []), (48, .iconst 1, 1, []), (49, .iadd, 1, []), (50, .aaload, 1, []), (51, .astore 6, 2, []), (53, .aload 5, 2, []), (55, .aload 0, 1, []), (56, .getfield 27, 3, [3, 3, 3, 16]), (59, .iload 2, 1, []), (60, .aaload, 1, []), (61, .invokevirtual 41, 3, [53, 2, 6, 33]), (64, .iconst 0, 1, []), (65, .istore 7, 2, []), (67, .nop, 0, [3])]
/-- split, block 3 -/
noncomputable def b_42_3 : List En := [(67, .iload 7, 2, []), (69, .iconst 120, 2, []), (71, .if_icmp .ge 76, 3, [5]), (74, .aload 5, 2, []), (76, .invokevirtual 45, 3, [63, 1, 6, 34]), (79, .ifCond .ne 68, 3, [5]), (82, .aload 4, 2, []), (84, .aload 5, 2, []), (86, .iconst 0, 1, []), (87, .invokevirtual 53, 3, [20, 3, 1, 36]), (90, .istore 8, 2, []), (92, .aload 6, 2, []), (94, .aload 5, 2, []), (96, .invokevirtual 41, 3, [53, 2, 6, 33]), (99, .iload 8, 2, []), (101, .iconst 100, 2, []), (103, .if_icmp .eq 15, 3, [4]), (106, .aload 6, 2, []), (108, .aload 4, 2, []), (110, .iload 8, 2, []), (112, .invokevirtual 59, 3, [7, 2, 1, 37]), (115, .invokevirtual 63, 3, [57, 2, 6, 38]), (118, .nop, 0, [4])]
/-- split, block 4 -/
noncomputable def b_42_4 : List En := [(118, .aload 0, 1, []), (119, .getfield 15, 3, [3, 1, 3, 14]), (122, .iload 3, 1, []), (123, .iload 8, 2, []), (125, .iastore, 1, []), (126, .aload 0, 1, []), (127, .aload 1, 1, []), (128, .iload 2, 1, []), (129, .iconst 1, 1, []), (130, .iadd, 1, []), (131, .invokestatic 49, 3, [43, 3, 0, 45]), (134, .aload 5, 2, []), (136, .aload 6, 2, []), (138, .invokevirtual 66, 3, [59, 2, 6, 40]), (141, .iinc 7 1, 3, []), (144, .goto (-77), 3, [3])]
/-- split, block 5 -/
noncomputable def b_42_5 : List En := [(147, .aload 0, 1, []), (148, .getfield 15, 3, [3, 1, 3, 14]), (151, .iload 3, 1, []), (152, .iconst 101, 2, []), (154, .iastore, 1, []), (155, .nop, 0, [6])]
/-- split, block 6 -/
noncomputable def b_42_6 : List En := [(155, .aload 0, 1, []), (156, .aload 0, 1, []), (157, .getfield 27, 3, [3, 3, 3, 16]), (160, .iload 2, 1, []), (161, .aaload, 1, []), (162, .invokevirtual 69, 3, [67, 1, 6, 41]), (165, .invokevirtual 73, 3, [44, 2, 4, 42]), (168, .return_, 1, [])]
noncomputable def cod_42 : List (List En) := [b_42_0, b_42_1, b_42_2, b_42_3, b_42_4, b_42_5, b_42_6]
/-- split, block 0 -/
noncomputable def b_43_0 : List En := [(0, .iload 2, 1, []), (1, .ifCond .lt 8, 3, [1]), (4, .iload 2, 1, []), (5, .iconst 4, 1, []), (6, .if_icmp .le 4, 3, [2]), (9, .nop, 0, [1])]
/-- split, block 1 -/
noncomputable def b_43_1 : List En := [(9, .return_, 1, [])]
/-- split, block 2 -/
noncomputable def b_43_2 : List En := [(10, .iload 2, 1, []), (11, .aload 0, 1, []), (12, .getfield 38, 3, [3, 5, 1, 19]), (15, .if_icmp .ge 140, 3, [6]), (18, .iload 2, 1, []), (19, .iconst 4, 1, []), (20, .if_icmp .ge 135, 3, [6]), (23, .aload 0, 1, []), (24, .getfield 18, 3, [3, 2, 3, 15]), (27, .iload 2, 1, []), (28, .iaload, 1, []), (29, .istore 3, 1, []), (30, .aload 1, 1, []), (31, .iload 3, 1, []), (32, .aaload, 1, []), (33, .astore 4, 2, []), (35, .aload 0, 1, []), (36, .getfield 31, 3, [3, 4, 3, 17]), (39, .iload 2, 1, []), (40, .aaload, 1, []), (41, .astore 5, 2, []), (43, .aload 0, 1, []), (44, .getfield 27, 3, [3, 3, 3, 16]), (47, .iload 2, 1, []), (48, .iconst 1, 1, []), (49, .iadd, 1, []), (50, .aaload, 1, []), (51, .astore 6, 2, []), (53, .aload 5, 2, []), (55, .aload 0, 1, []), (56, .getfield 27, 3, [3, 3, 3, 16]), (59, .iload 2, 1, []), (60, .aaload, 1, []), (61, .invokevirtual 41, 3, [53, 2, 6, 33]), (64, .iconst 0, 1, []), (65, .istore 7, 2, []), (67, .nop, 0, [3])]
/-- split, block 3 -/
noncomputable def b_43_3 : List En := [(67, .iload 7, 2, []), (69, .iconst 120, 2, []), (71, .if_icmp .ge 76, 3, [5]), (74, .aload 5, 2, []), (76, .invokevirtual 45, 3, [63, 1, 6, 34]), (79, .ifCond .ne 68, 3, [5]), (82, .aload 4, 2, []), (84, .aload 5, 2, []), (86, .iconst 0, 1, []), (87, .invokevirtual 53, 3, [20, 3, 1, 36]), (90, .istore 8, 2, []), (92, .aload 6, 2, []), (94, .aload 5, 2, []), (96, .invokevirtual 41, 3, [53, 2, 6, 33]), (99, .iload 8, 2, []), (101, .iconst 100, 2, []), (103, .if_icmp .eq 15, 3, [4]), (106, .aload 6, 2, []), (108, .aload 4, 2, []), (110, .iload 8, 2, []), (112, .invokevirtual 59, 3, [7, 2, 1, 37]), (115, .invokevirtual 63, 3, [57, 2, 6, 38]), (118, .nop, 0, [4])]
/-- split, block 4 -/
noncomputable def b_43_4 : List En := [(118, .aload 0, 1, []), (119, .getfield 15, 3, [3, 1, 3, 14]), (122, .iload 3, 1, []), (123, .iload 8, 2, []), (125, .iastore, 1, []), (126, .aload 0, 1, []), (127, .aload 1, 1, []), (128, .iload 2, 1, []), (129, .iconst 1, 1, []), (130, .iadd, 1, []), (131, .monitorenter, 3, []), (134, .aload 5, 2, []), (136, .aload 6, 2, []), (138, .invokevirtual 66, 3, [59, 2, 6, 40]), (141, .iinc 7 1, 3, []), (144, .goto (-77), 3, [3])]
/-- split, block 5 -/
noncomputable def b_43_5 : List En := [(147, .aload 0, 1, []), (148, .getfield 15, 3, [3, 1, 3, 14]), (151, .iload 3, 1, []), (152, .iconst 101, 2, []), (154, .iastore, 1, []), (155, .nop, 0, [6])]
/-- split, block 6 -/
noncomputable def b_43_6 : List En := [(155, .aload 0, 1, []), (156, .aload 0, 1, []), (157, .getfield 27, 3, [3, 3, 3, 16]), (160, .iload 2, 1, []), (161, .aaload, 1, []), (162, .invokevirtual 69, 3, [67, 1, 6, 41]), (165, .invokevirtual 73, 3, [44, 2, 4, 42]), (168, .return_, 1, [])]
noncomputable def cod_43 : List (List En) := [b_43_0, b_43_1, b_43_2, b_43_3, b_43_4, b_43_5, b_43_6]
/-- addGroup, block 0 -/
noncomputable def b_44_0 : List En := [(0, .aload 0, 1, []), (1, .getfield 34, 3, [3, 6, 1, 18]), (4, .iconst 481, 3, []), (7, .if_icmp .lt 4, 3, [1]), (10, .return_, 1, [])]
/-- addGroup, block 1 -/
noncomputable def b_44_1 : List En := [(11, .aload 0, 1, []), (12, .getfield 34, 3, [3, 6, 1, 18]), (15, .iconst 5, 1, []), (16, .imul, 1, []), (17, .istore 2, 1, []), (18, .aload 0, 1, []), (19, .getfield 15, 3, [3, 1, 3, 14]), (22, .iconst 0, 1, []), (23, .aload 0, 1, []), (24, .getfield 11, 3, [3, 0, 3, 13]), (27, .iload 2, 1, []), (28, .iconst 4, 1, []), (29, .invokestatic 77, 3, [4060]), (32, .aload 0, 1, []), (33, .getfield 11, 3, [3, 0, 3, 13]), (36, .iload 2, 1, []), (37, .iconst 4, 1, []), (38, .iadd, 1, []), (39, .iload 1, 1, []), (40, .iastore, 1, []), (41, .aload 0, 1, []), (42, .dup, 1, []), (43, .getfield 34, 3, [3, 6, 1, 18]), (46, .iconst 1, 1, []), (47, .iadd, 1, []), (48, .putfield 34, 3, [3, 6, 1, 18]), (51, .return_, 1, [])]
noncomputable def cod_44 : List (List En) := [b_44_0, b_44_1]
/-- init, block 0 -/
noncomputable def b_45_0 : List En := [(0, .aload 0, 1, []), (1, .invokespecial 3, 3, [1107]), (4, .aload 0, 1, []), (5, .iconst 8, 2, []), (7, .anewarray 9, 3, [17, 1]), (10, .putfield 11, 3, [4, 0, 3, 20]), (13, .iconst 0, 1, []), (14, .istore 1, 1, []), (15, .nop, 0, [1])]
/-- init, block 1 -/
noncomputable def b_45_1 : List En := [(15, .iload 1, 1, []), (16, .iconst 8, 2, []), (18, .if_icmp .ge 22, 3, [2]), (21, .aload 0, 1, []), (22, .getfield 11, 3, [4, 0, 3, 20]), (25, .iload 1, 1, []), (26, .new 9, 3, [6, 1]), (29, .dup, 1, []), (30, .invokespecial 17, 3, [74, 1, 7, 46]), (33, .aastore, 1, []), (34, .iinc 1 1, 3, []), (37, .goto (-22), 3, [1])]
/-- init, block 2 -/
noncomputable def b_45_2 : List En := [(40, .return_, 1, [])]
noncomputable def cod_45 : List (List En) := [b_45_0, b_45_1, b_45_2]
/-- size, block 0 -/
noncomputable def b_46_0 : List En := [(0, .aload 0, 1, []), (1, .getfield 18, 3, [4, 2, 1, 21]), (4, .ireturn, 1, [0])]
noncomputable def cod_46 : List (List En) := [b_46_0]
/-- remember, block 0 -/
noncomputable def b_47_0 : List En := [(0, .aload 0, 1, []), (1, .getfield 11, 3, [4, 0, 3, 20]), (4, .aload 0, 1, []), (5, .getfield 22, 3, [4, 1, 1, 22]), (8, .aaload, 1, []), (9, .aload 1, 1, []), (10, .invokevirtual 25, 3, [78, 2, 7, 47]), (13, .aload 0, 1, []), (14, .aload 0, 1, []), (15, .getfield 22, 3, [4, 1, 1, 22]), (18, .iconst 1, 1, []), (19, .iadd, 1, []), (20, .iconst 8, 2, []), (22, .irem, 1, []), (23, .putfield 22, 3, [4, 1, 1, 22]), (26, .aload 0, 1, []), (27, .aload 0, 1, []), (28, .getfield 18, 3, [4, 2, 1, 21]), (31, .iconst 1, 1, []), (32, .iadd, 1, []), (33, .iconst 8, 2, []), (35, .invokestatic 29, 3, [2133, 1]), (38, .putfield 18, 3, [4, 2, 1, 21]), (41, .return_, 1, [])]
noncomputable def cod_47 : List (List En) := [b_47_0]
/-- takeLatest, block 0 -/
noncomputable def b_48_0 : List En := [(0, .aload 0, 1, []), (1, .aload 0, 1, []), (2, .getfield 22, 3, [4, 1, 1, 22]), (5, .iconst 8, 2, []), (7, .iadd, 1, []), (8, .iconst 1, 1, []), (9, .isub, 1, []), (10, .iconst 8, 2, []), (12, .irem, 1, []), (13, .putfield 22, 3, [4, 1, 1, 22]), (16, .aload 0, 1, []), (17, .aload 0, 1, []), (18, .getfield 18, 3, [4, 2, 1, 21]), (21, .iconst 1, 1, []), (22, .isub, 1, []), (23, .iconst 0, 1, []), (24, .invokestatic 35, 3, [5029, 0]), (27, .putfield 18, 3, [4, 2, 1, 21]), (30, .aload 0, 1, []), (31, .getfield 11, 3, [4, 0, 3, 20]), (34, .aload 0, 1, []), (35, .getfield 22, 3, [4, 1, 1, 22]), (38, .aaload, 1, []), (39, .areturn, 1, [])]
noncomputable def cod_48 : List (List En) := [b_48_0]
/-- init, block 0 -/
noncomputable def b_49_0 : List En := [(0, .aload 0, 1, []), (1, .invokespecial 5, 3, [1040]), (4, .return_, 1, [])]
noncomputable def cod_49 : List (List En) := [b_49_0]
/-- several, block 0 -/
noncomputable def b_50_0 : List En := [(0, .iload 0, 1, []), (1, .iconst 0, 1, []), (2, .invokestatic 11, 3, [1051, 0]), (5, .anewarray 1, 3, [14, 2]), (8, .astore 1, 1, []), (9, .iconst 0, 1, []), (10, .istore 2, 1, []), (11, .nop, 0, [1])]
/-- several, block 1 -/
noncomputable def b_50_1 : List En := [(11, .iload 2, 1, []), (12, .aload 1, 1, []), (13, .arraylength, 1, []), (14, .if_icmp .ge 19, 3, [2]), (17, .aload 1, 1, []), (18, .iload 2, 1, []), (19, .new 1, 3, [5, 2]), (22, .dup, 1, []), (23, .invokespecial 17, 3, [49, 1, 6, 48]), (26, .aastore, 1, []), (27, .iinc 2 1, 3, []), (30, .goto (-19), 3, [1])]
/-- several, block 2 -/
noncomputable def b_50_2 : List En := [(33, .aload 1, 1, []), (34, .areturn, 1, [])]
noncomputable def cod_50 : List (List En) := [b_50_0, b_50_1, b_50_2]
/-- clear, block 0 -/
noncomputable def b_51_0 : List En := [(0, .aload 0, 1, []), (1, .bipush 0, 1, []), (2, .putfield 18, 3, [5, 0, 2, 23]), (5, .aload 0, 1, []), (6, .bipush 0, 1, []), (7, .putfield 22, 3, [5, 1, 2, 24]), (10, .return_, 1, [])]
noncomputable def cod_51 : List (List En) := [b_51_0]
/-- setToAll, block 0 -/
noncomputable def b_52_0 : List En := [(0, .aload 0, 1, []), (1, .bipush (-1), 3, [0]), (4, .putfield 18, 3, [5, 0, 2, 23]), (7, .aload 0, 1, []), (8, .bipush 72057594037927935, 3, [1]), (11, .putfield 22, 3, [5, 1, 2, 24]), (14, .return_, 1, [])]
noncomputable def cod_52 : List (List En) := [b_52_0]
/-- setTo, block 0 -/
noncomputable def b_53_0 : List En := [(0, .aload 0, 1, []), (1, .aload 1, 1, []), (2, .getfield 18, 3, [5, 0, 2, 23]), (5, .putfield 18, 3, [5, 0, 2, 23]), (8, .aload 0, 1, []), (9, .aload 1, 1, []), (10, .getfield 22, 3, [5, 1, 2, 24]), (13, .putfield 22, 3, [5, 1, 2, 24]), (16, .return_, 1, [])]
noncomputable def cod_53 : List (List En) := [b_53_0]
/-- setToRunStarts, block 0 -/
noncomputable def b_54_0 : List En := [(0, .aload 0, 1, []), (1, .aload 1, 1, []), (2, .getfield 18, 3, [5, 0, 2, 23]), (5, .aload 1, 1, []), (6, .getfield 18, 3, [5, 0, 2, 23]), (9, .iconst 1, 1, []), (10, .lshl, 1, []), (11, .bipush (-1), 3, [0]), (14, .lxor, 1, []), (15, .land, 1, []), (16, .putfield 18, 3, [5, 0, 2, 23]), (19, .aload 0, 1, []), (20, .aload 1, 1, []), (21, .getfield 22, 3, [5, 1, 2, 24]), (24, .aload 1, 1, []), (25, .getfield 22, 3, [5, 1, 2, 24]), (28, .iconst 1, 1, []), (29, .lshl, 1, []), (30, .aload 1, 1, []), (31, .getfield 18, 3, [5, 0, 2, 23]), (34, .iconst 63, 2, []), (36, .lushr, 1, []), (37, .lor, 1, []), (38, .bipush (-1), 3, [0]), (41, .lxor, 1, []), (42, .land, 1, []), (43, .putfield 22, 3, [5, 1, 2, 24]), (46, .return_, 1, [])]
noncomputable def cod_54 : List (List En) := [b_54_0]
/-- setToRunEnds, block 0 -/
noncomputable def b_55_0 : List En := [(0, .aload 0, 1, []), (1, .aload 1, 1, []), (2, .getfield 18, 3, [5, 0, 2, 23]), (5, .aload 1, 1, []), (6, .getfield 18, 3, [5, 0, 2, 23]), (9, .iconst 1, 1, []), (10, .lushr, 1, []), (11, .aload 1, 1, []), (12, .getfield 22, 3, [5, 1, 2, 24]), (15, .iconst 63, 2, []), (17, .lshl, 1, []), (18, .lor, 1, []), (19, .bipush (-1), 3, [0]), (22, .lxor, 1, []), (23, .land, 1, []), (24, .putfield 18, 3, [5, 0, 2, 23]), (27, .aload 0, 1, []), (28, .aload 1, 1, []), (29, .getfield 22, 3, [5, 1, 2, 24]), (32, .aload 1, 1, []), (33, .getfield 22, 3, [5, 1, 2, 24]), (36, .iconst 1, 1, []), (37, .lushr, 1, []), (38, .bipush (-1), 3, [0]), (41, .lxor, 1, []), (42, .land, 1, []), (43, .putfield 22, 3, [5, 1, 2, 24]), (46, .return_, 1, [])]
noncomputable def cod_55 : List (List En) := [b_55_0]
/-- mark, block 0 -/
noncomputable def b_56_0 : List En := [(0, .iload 1, 1, []), (1, .ifCond .lt 9, 3, [1]), (4, .iload 1, 1, []), (5, .iconst 120, 2, []), (7, .if_icmp .lt 4, 3, [2]), (10, .nop, 0, [1])]
/-- mark, block 1 -/
noncomputable def b_56_1 : List En := [(10, .return_, 1, [])]
/-- mark, block 2 -/
noncomputable def b_56_2 : List En := [(11, .iload 1, 1, []), (12, .iconst 64, 2, []), (14, .if_icmp .ge 7, 3, [3]), (17, .iconst 1, 1, []), (18, .goto 4, 3, [4])]
/-- mark, block 3 -/
noncomputable def b_56_3 : List En := [(21, .iconst 0, 1, []), (22, .nop, 0, [4])]
/-- mark, block 4 -/
noncomputable def b_56_4 : List En := [(22, .istore 3, 1, []), (23, .bipush 1, 1, []), (24, .iload 3, 1, []), (25, .ifCond .eq 7, 3, [5]), (28, .iload 1, 1, []), (29, .goto 7, 3, [6])]
/-- mark, block 5 -/
noncomputable def b_56_5 : List En := [(32, .iload 1, 1, []), (33, .iconst 64, 2, []), (35, .isub, 1, []), (36, .nop, 0, [6])]
/-- mark, block 6 -/
noncomputable def b_56_6 : List En := [(36, .lshl, 1, []), (37, .lstore 4, 2, []), (39, .iload 3, 1, []), (40, .ifCond .eq 35, 3, [9]), (43, .aload 0, 1, []), (44, .iload 2, 1, []), (45, .ifCond .eq 13, 3, [7]), (48, .aload 0, 1, []), (49, .getfield 18, 3, [5, 0, 2, 23]), (52, .lload 4, 2, []), (54, .lor, 1, []), (55, .goto 14, 3, [8])]
/-- mark, block 7 -/
noncomputable def b_56_7 : List En := [(58, .aload 0, 1, []), (59, .getfield 18, 3, [5, 0, 2, 23]), (62, .lload 4, 2, []), (64, .bipush (-1), 3, [0]), (67, .lxor, 1, []), (68, .land, 1, []), (69, .nop, 0, [8])]
/-- mark, block 8 -/
noncomputable def b_56_8 : List En := [(69, .putfield 18, 3, [5, 0, 2, 23]), (72, .goto 32, 3, [12])]
/-- mark, block 9 -/
noncomputable def b_56_9 : List En := [(75, .aload 0, 1, []), (76, .iload 2, 1, []), (77, .ifCond .eq 13, 3, [10]), (80, .aload 0, 1, []), (81, .getfield 22, 3, [5, 1, 2, 24]), (84, .lload 4, 2, []), (86, .lor, 1, []), (87, .goto 14, 3, [11])]
/-- mark, block 10 -/
noncomputable def b_56_10 : List En := [(90, .aload 0, 1, []), (91, .getfield 22, 3, [5, 1, 2, 24]), (94, .lload 4, 2, []), (96, .bipush (-1), 3, [0]), (99, .lxor, 1, []), (100, .land, 1, []), (101, .nop, 0, [11])]
/-- mark, block 11 -/
noncomputable def b_56_11 : List En := [(101, .putfield 22, 3, [5, 1, 2, 24]), (104, .nop, 0, [12])]
/-- mark, block 12 -/
noncomputable def b_56_12 : List En := [(104, .return_, 1, [])]
noncomputable def cod_56 : List (List En) := [b_56_0, b_56_1, b_56_2, b_56_3, b_56_4, b_56_5, b_56_6, b_56_7, b_56_8, b_56_9, b_56_10, b_56_11, b_56_12]
/-- keep, block 0 -/
noncomputable def b_57_0 : List En := [(0, .aload 0, 1, []), (1, .dup, 1, []), (2, .getfield 18, 3, [5, 0, 2, 23]), (5, .aload 1, 1, []), (6, .getfield 18, 3, [5, 0, 2, 23]), (9, .land, 1, []), (10, .putfield 18, 3, [5, 0, 2, 23]), (13, .aload 0, 1, []), (14, .dup, 1, []), (15, .getfield 22, 3, [5, 1, 2, 24]), (18, .aload 1, 1, []), (19, .getfield 22, 3, [5, 1, 2, 24]), (22, .land, 1, []), (23, .putfield 22, 3, [5, 1, 2, 24]), (26, .return_, 1, [])]
noncomputable def cod_57 : List (List En) := [b_57_0]
/-- unite, block 0 -/
noncomputable def b_58_0 : List En := [(0, .aload 0, 1, []), (1, .dup, 1, []), (2, .getfield 18, 3, [5, 0, 2, 23]), (5, .aload 1, 1, []), (6, .getfield 18, 3, [5, 0, 2, 23]), (9, .lor, 1, []), (10, .putfield 18, 3, [5, 0, 2, 23]), (13, .aload 0, 1, []), (14, .dup, 1, []), (15, .getfield 22, 3, [5, 1, 2, 24]), (18, .aload 1, 1, []), (19, .getfield 22, 3, [5, 1, 2, 24]), (22, .lor, 1, []), (23, .putfield 22, 3, [5, 1, 2, 24]), (26, .return_, 1, [])]
noncomputable def cod_58 : List (List En) := [b_58_0]
/-- leaveOut, block 0 -/
noncomputable def b_59_0 : List En := [(0, .aload 0, 1, []), (1, .aload 0, 1, []), (2, .getfield 18, 3, [5, 0, 2, 23]), (5, .aload 1, 1, []), (6, .getfield 18, 3, [5, 0, 2, 23]), (9, .bipush (-1), 3, [0]), (12, .lxor, 1, []), (13, .land, 1, []), (14, .putfield 18, 3, [5, 0, 2, 23]), (17, .aload 0, 1, []), (18, .aload 0, 1, []), (19, .getfield 22, 3, [5, 1, 2, 24]), (22, .aload 1, 1, []), (23, .getfield 22, 3, [5, 1, 2, 24]), (26, .bipush (-1), 3, [0]), (29, .lxor, 1, []), (30, .land, 1, []), (31, .putfield 22, 3, [5, 1, 2, 24]), (34, .return_, 1, [])]
noncomputable def cod_59 : List (List En) := [b_59_0]
/-- leaveOneOf, block 0 -/
noncomputable def b_60_0 : List En := [(0, .aload 0, 1, []), (1, .dup, 1, []), (2, .getfield 18, 3, [5, 0, 2, 23]), (5, .aload 1, 1, []), (6, .getfield 18, 3, [5, 0, 2, 23]), (9, .lxor, 1, []), (10, .putfield 18, 3, [5, 0, 2, 23]), (13, .aload 0, 1, []), (14, .dup, 1, []), (15, .getfield 22, 3, [5, 1, 2, 24]), (18, .aload 1, 1, []), (19, .getfield 22, 3, [5, 1, 2, 24]), (22, .lxor, 1, []), (23, .putfield 22, 3, [5, 1, 2, 24]), (26, .return_, 1, [])]
noncomputable def cod_60 : List (List En) := [b_60_0]
/-- operate, block 0 -/
noncomputable def b_61_0 : List En := [(0, .iload 1, 1, []), (1, .tableswitch 51 0 2 #[27, 35, 43], 27, [4, 1, 2, 3])]
/-- operate, block 1 -/
noncomputable def b_61_1 : List En := [(28, .aload 0, 1, []), (29, .aload 2, 1, []), (30, .invokevirtual 29, 3, [57, 2, 6, 49]), (33, .goto 24, 3, [5])]
/-- operate, block 2 -/
noncomputable def b_61_2 : List En := [(36, .aload 0, 1, []), (37, .aload 2, 1, []), (38, .invokevirtual 33, 3, [58, 2, 6, 50]), (41, .goto 16, 3, [5])]
/-- operate, block 3 -/
noncomputable def b_61_3 : List En := [(44, .aload 0, 1, []), (45, .aload 2, 1, []), (46, .invokevirtual 36, 3, [60, 2, 6, 51]), (49, .goto 8, 3, [5])]
/-- operate, block 4 -/
noncomputable def b_61_4 : List En := [(52, .aload 0, 1, []), (53, .aload 2, 1, []), (54, .invokevirtual 39, 3, [59, 2, 6, 52]), (57, .nop, 0, [5])]
/-- operate, block 5 -/
noncomputable def b_61_5 : List En := [(57, .return_, 1, [])]
noncomputable def cod_61 : List (List En) := [b_61_0, b_61_1, b_61_2, b_61_3, b_61_4, b_61_5]
/-- contains, block 0 -/
noncomputable def b_62_0 : List En := [(0, .iload 1, 1, []), (1, .ifCond .lt 9, 3, [1]), (4, .iload 1, 1, []), (5, .iconst 120, 2, []), (7, .if_icmp .lt 5, 3, [2]), (10, .nop, 0, [1])]
/-- contains, block 1 -/
noncomputable def b_62_1 : List En := [(10, .iconst 0, 1, []), (11, .ireturn, 1, [1])]
/-- contains, block 2 -/
noncomputable def b_62_2 : List En := [(12, .iload 1, 1, []), (13, .iconst 64, 2, []), (15, .if_icmp .ge 12, 3, [3]), (18, .aload 0, 1, []), (19, .getfield 18, 3, [5, 0, 2, 23]), (22, .iload 1, 1, []), (23, .lushr, 1, []), (24, .goto 12, 3, [4])]
/-- contains, block 3 -/
noncomputable def b_62_3 : List En := [(27, .aload 0, 1, []), (28, .getfield 22, 3, [5, 1, 2, 24]), (31, .iload 1, 1, []), (32, .iconst 64, 2, []), (34, .isub, 1, []), (35, .lushr, 1, []), (36, .nop, 0, [4])]
/-- contains, block 4 -/
noncomputable def b_62_4 : List En := [(36, .lstore 2, 1, []), (37, .lload 2, 1, []), (38, .bipush 1, 1, []), (39, .land, 1, []), (40, .bipush 0, 1, []), (41, .lcmp, 1, []), (42, .ifCond .eq 7, 3, [5]), (45, .iconst 1, 1, []), (46, .goto 4, 3, [6])]
/-- contains, block 5 -/
noncomputable def b_62_5 : List En := [(49, .iconst 0, 1, []), (50, .nop, 0, [6])]
/-- contains, block 6 -/
noncomputable def b_62_6 : List En := [(50, .ireturn, 1, [1])]
noncomputable def cod_62 : List (List En) := [b_62_0, b_62_1, b_62_2, b_62_3, b_62_4, b_62_5, b_62_6]
/-- isEmpty, block 0 -/
noncomputable def b_63_0 : List En := [(0, .aload 0, 1, []), (1, .getfield 18, 3, [5, 0, 2, 23]), (4, .aload 0, 1, []), (5, .getfield 22, 3, [5, 1, 2, 24]), (8, .lor, 1, []), (9, .bipush 0, 1, []), (10, .lcmp, 1, []), (11, .ifCond .ne 7, 3, [1]), (14, .iconst 1, 1, []), (15, .goto 4, 3, [2])]
/-- isEmpty, block 1 -/
noncomputable def b_63_1 : List En := [(18, .iconst 0, 1, []), (19, .nop, 0, [2])]
/-- isEmpty, block 2 -/
noncomputable def b_63_2 : List En := [(19, .ireturn, 1, [1])]
noncomputable def cod_63 : List (List En) := [b_63_0, b_63_1, b_63_2]
/-- meets, block 0 -/
noncomputable def b_64_0 : List En := [(0, .aload 0, 1, []), (1, .getfield 18, 3, [5, 0, 2, 23]), (4, .aload 1, 1, []), (5, .getfield 18, 3, [5, 0, 2, 23]), (8, .land, 1, []), (9, .aload 0, 1, []), (10, .getfield 22, 3, [5, 1, 2, 24]), (13, .aload 1, 1, []), (14, .getfield 22, 3, [5, 1, 2, 24]), (17, .land, 1, []), (18, .lor, 1, []), (19, .bipush 0, 1, []), (20, .lcmp, 1, []), (21, .ifCond .eq 7, 3, [1]), (24, .iconst 1, 1, []), (25, .goto 4, 3, [2])]
/-- meets, block 1 -/
noncomputable def b_64_1 : List En := [(28, .iconst 0, 1, []), (29, .nop, 0, [2])]
/-- meets, block 2 -/
noncomputable def b_64_2 : List En := [(29, .ireturn, 1, [1])]
noncomputable def cod_64 : List (List En) := [b_64_0, b_64_1, b_64_2]
/-- isWithin, block 0 -/
noncomputable def b_65_0 : List En := [(0, .aload 0, 1, []), (1, .getfield 18, 3, [5, 0, 2, 23]), (4, .aload 1, 1, []), (5, .getfield 18, 3, [5, 0, 2, 23]), (8, .bipush (-1), 3, [0]), (11, .lxor, 1, []), (12, .land, 1, []), (13, .aload 0, 1, []), (14, .getfield 22, 3, [5, 1, 2, 24]), (17, .aload 1, 1, []), (18, .getfield 22, 3, [5, 1, 2, 24]), (21, .bipush (-1), 3, [0]), (24, .lxor, 1, []), (25, .land, 1, []), (26, .lor, 1, []), (27, .bipush 0, 1, []), (28, .lcmp, 1, []), (29, .ifCond .ne 7, 3, [1]), (32, .iconst 1, 1, []), (33, .goto 4, 3, [2])]
/-- isWithin, block 1 -/
noncomputable def b_65_1 : List En := [(36, .iconst 0, 1, []), (37, .nop, 0, [2])]
/-- isWithin, block 2 -/
noncomputable def b_65_2 : List En := [(37, .ireturn, 1, [1])]
noncomputable def cod_65 : List (List En) := [b_65_0, b_65_1, b_65_2]
/-- isSame, block 0 -/
noncomputable def b_66_0 : List En := [(0, .aload 0, 1, []), (1, .getfield 18, 3, [5, 0, 2, 23]), (4, .aload 1, 1, []), (5, .getfield 18, 3, [5, 0, 2, 23]), (8, .lcmp, 1, []), (9, .ifCond .ne 19, 3, [1]), (12, .aload 0, 1, []), (13, .getfield 22, 3, [5, 1, 2, 24]), (16, .aload 1, 1, []), (17, .getfield 22, 3, [5, 1, 2, 24]), (20, .lcmp, 1, []), (21, .ifCond .ne 7, 3, [1]), (24, .iconst 1, 1, []), (25, .goto 4, 3, [2])]
/-- isSame, block 1 -/
noncomputable def b_66_1 : List En := [(28, .iconst 0, 1, []), (29, .nop, 0, [2])]
/-- isSame, block 2 -/
noncomputable def b_66_2 : List En := [(29, .ireturn, 1, [1])]
noncomputable def cod_66 : List (List En) := [b_66_0, b_66_1, b_66_2]
/-- size, block 0 -/
noncomputable def b_67_0 : List En := [(0, .aload 0, 1, []), (1, .getfield 18, 3, [5, 0, 2, 23]), (4, .invokestatic 42, 3, [252, 1, 0, 53]), (7, .aload 0, 1, []), (8, .getfield 22, 3, [5, 1, 2, 24]), (11, .invokestatic 42, 3, [252, 1, 0, 53]), (14, .iadd, 1, []), (15, .ireturn, 1, [0])]
noncomputable def cod_67 : List (List En) := [b_67_0]
/-- sizeWith, block 0 -/
noncomputable def b_68_0 : List En := [(0, .aload 0, 1, []), (1, .getfield 18, 3, [5, 0, 2, 23]), (4, .aload 1, 1, []), (5, .getfield 18, 3, [5, 0, 2, 23]), (8, .land, 1, []), (9, .invokestatic 42, 3, [252, 1, 0, 53]), (12, .aload 0, 1, []), (13, .getfield 22, 3, [5, 1, 2, 24]), (16, .aload 1, 1, []), (17, .getfield 22, 3, [5, 1, 2, 24]), (20, .land, 1, []), (21, .invokestatic 42, 3, [252, 1, 0, 53]), (24, .iadd, 1, []), (25, .ireturn, 1, [0])]
noncomputable def cod_68 : List (List En) := [b_68_0]
/-- sizeBelow, block 0 -/
noncomputable def b_69_0 : List En := [(0, .iload 1, 1, []), (1, .ifCond .gt 5, 3, [1]), (4, .iconst 0, 1, []), (5, .ireturn, 1, [0])]
/-- sizeBelow, block 1 -/
noncomputable def b_69_1 : List En := [(6, .iload 1, 1, []), (7, .iconst 120, 2, []), (9, .if_icmp .lt 8, 3, [2]), (12, .aload 0, 1, []), (13, .invokevirtual 48, 3, [67, 1, 6, 54]), (16, .ireturn, 1, [0])]
/-- sizeBelow, block 2 -/
noncomputable def b_69_2 : List En := [(17, .iload 1, 1, []), (18, .iconst 64, 2, []), (20, .if_icmp .ge 17, 3, [3]), (23, .aload 0, 1, []), (24, .getfield 18, 3, [5, 0, 2, 23]), (27, .bipush 1, 1, []), (28, .iload 1, 1, []), (29, .lshl, 1, []), (30, .bipush 1, 1, []), (31, .lsub, 1, []), (32, .land, 1, []), (33, .invokestatic 42, 3, [252, 1, 0, 53]), (36, .ireturn, 1, [0])]
/-- sizeBelow, block 3 -/
noncomputable def b_69_3 : List En := [(37, .aload 0, 1, []), (38, .getfield 18, 3, [5, 0, 2, 23]), (41, .invokestatic 42, 3, [252, 1, 0, 53]), (44, .aload 0, 1, []), (45, .getfield 22, 3, [5, 1, 2, 24]), (48, .bipush 1, 1, []), (49, .iload 1, 1, []), (50, .iconst 64, 2, []), (52, .isub, 1, []), (53, .lshl, 1, []), (54, .bipush 1, 1, []), (55, .lsub, 1, []), (56, .land, 1, []), (57, .invokestatic 42, 3, [252, 1, 0, 53]), (60, .iadd, 1, []), (61, .ireturn, 1, [0])]
noncomputable def cod_69 : List (List En) := [b_69_0, b_69_1, b_69_2, b_69_3]
/-- numberAt, block 0 -/
noncomputable def b_70_0 : List En := [(0, .iload 1, 1, []), (1, .ifCond .lt 11, 3, [1]), (4, .iload 1, 1, []), (5, .aload 0, 1, []), (6, .invokevirtual 48, 3, [67, 1, 6, 54]), (9, .if_icmp .lt 5, 3, [2]), (12, .nop, 0, [1])]
/-- numberAt, block 1 -/
noncomputable def b_70_1 : List En := [(12, .iconst (-1), 1, []), (13, .ireturn, 1, [0])]
/-- numberAt, block 2 -/
noncomputable def b_70_2 : List En := [(14, .aload 0, 1, []), (15, .getfield 18, 3, [5, 0, 2, 23]), (18, .invokestatic 42, 3, [252, 1, 0, 53]), (21, .istore 2, 1, []), (22, .iload 1, 1, []), (23, .iload 2, 1, []), (24, .if_icmp .ge 14, 3, [3]), (27, .aload 0, 1, []), (28, .getfield 18, 3, [5, 0, 2, 23]), (31, .iload 1, 1, []), (32, .invokestatic 52, 3, [73, 2, 0, 55]), (35, .goto 16, 3, [4])]
/-- numberAt, block 3 -/
noncomputable def b_70_3 : List En := [(38, .iconst 64, 2, []), (40, .aload 0, 1, []), (41, .getfield 22, 3, [5, 1, 2, 24]), (44, .iload 1, 1, []), (45, .iload 2, 1, []), (46, .isub, 1, []), (47, .invokestatic 52, 3, [73, 2, 0, 55]), (50, .iadd, 1, []), (51, .nop, 0, [4])]
/-- numberAt, block 4 -/
noncomputable def b_70_4 : List En := [(51, .ireturn, 1, [0])]
noncomputable def cod_70 : List (List En) := [b_70_0, b_70_1, b_70_2, b_70_3, b_70_4]
/-- firstFrom, block 0 -/
noncomputable def b_71_0 : List En := [(0, .aload 0, 1, []), (1, .aload 0, 1, []), (2, .iload 1, 1, []), (3, .invokevirtual 56, 3, [69, 2, 6, 56]), (6, .invokevirtual 60, 3, [70, 2, 6, 57]), (9, .ireturn, 1, [0])]
noncomputable def cod_71 : List (List En) := [b_71_0]
/-- bitAt, block 0 -/
noncomputable def b_73_0 : List En := [(0, .lload 0, 1, []), (1, .lstore 3, 1, []), (2, .iload 2, 1, []), (3, .istore 5, 2, []), (5, .iconst 0, 1, []), (6, .istore 6, 2, []), (8, .iconst 32, 2, []), (10, .istore 7, 2, []), (12, .nop, 0, [1])]
/-- bitAt, block 1 -/
noncomputable def b_73_1 : List En := [(12, .iload 7, 2, []), (14, .ifCond .le 51, 3, [3]), (17, .lload 3, 1, []), (18, .bipush 1, 1, []), (19, .iload 7, 2, []), (21, .lshl, 1, []), (22, .bipush 1, 1, []), (23, .lsub, 1, []), (24, .land, 1, []), (25, .invokestatic 42, 3, [252, 1, 0, 53]), (28, .istore 8, 2, []), (30, .iload 5, 2, []), (32, .iload 8, 2, []), (34, .if_icmp .lt 22, 3, [2]), (37, .iload 5, 2, []), (39, .iload 8, 2, []), (41, .isub, 1, []), (42, .istore 5, 2, []), (44, .iload 6, 2, []), (46, .iload 7, 2, []), (48, .iadd, 1, []), (49, .istore 6, 2, []), (51, .lload 3, 1, []), (52, .iload 7, 2, []), (54, .lushr, 1, []), (55, .lstore 3, 1, []), (56, .nop, 0, [2])]
/-- bitAt, block 2 -/
noncomputable def b_73_2 : List En := [(56, .iload 7, 2, []), (58, .iconst 2, 1, []), (59, .idiv, 1, []), (60, .istore 7, 2, []), (62, .goto (-50), 3, [1])]
/-- bitAt, block 3 -/
noncomputable def b_73_3 : List En := [(65, .iload 6, 2, []), (67, .ireturn, 1, [0])]
noncomputable def cod_73 : List (List En) := [b_73_0, b_73_1, b_73_2, b_73_3]
/-- init, block 0 -/
noncomputable def b_74_0 : List En := [(0, .aload 0, 1, []), (1, .invokespecial 3, 3, [1034]), (4, .aload 0, 1, []), (5, .new 9, 3, [5, 3]), (8, .dup, 1, []), (9, .invokespecial 11, 3, [49, 1, 6, 58]), (12, .putfield 12, 3, [6, 0, 3, 25]), (15, .aload 0, 1, []), (16, .iconst 480, 3, []), (19, .newarray .int, 2, [10]), (21, .putfield 18, 3, [6, 1, 3, 26]), (24, .aload 0, 1, []), (25, .iconst 8, 2, []), (27, .invokestatic 22, 3, [50, 1, 0, 59]), (30, .putfield 26, 3, [6, 2, 3, 27]), (33, .aload 0, 1, []), (34, .iconst 4, 1, []), (35, .invokestatic 22, 3, [50, 1, 0, 59]), (38, .putfield 30, 3, [6, 3, 3, 28]), (41, .aload 0, 1, []), (42, .iconst 4, 1, []), (43, .anewarray 33, 3, [16, 4]), (46, .putfield 35, 3, [6, 4, 3, 29]), (49, .iconst 0, 1, []), (50, .istore 1, 1, []), (51, .nop, 0, [1])]
/-- init, block 1 -/
noncomputable def b_74_1 : List En := [(51, .iload 1, 1, []), (52, .aload 0, 1, []), (53, .getfield 18, 3, [6, 1, 3, 26]), (56, .arraylength, 1, []), (57, .if_icmp .ge 17, 3, [2]), (60, .aload 0, 1, []), (61, .getfield 18, 3, [6, 1, 3, 26]), (64, .iload 1, 1, []), (65, .iconst 100, 2, []), (67, .iastore, 1, []), (68, .iinc 1 1, 3, []), (71, .goto (-20), 3, [1])]
/-- init, block 2 -/
noncomputable def b_74_2 : List En := [(74, .iconst 0, 1, []), (75, .istore 1, 1, []), (76, .nop, 0, [3])]
/-- init, block 3 -/
noncomputable def b_74_3 : List En := [(76, .iload 1, 1, []), (77, .iconst 4, 1, []), (78, .if_icmp .ge 22, 3, [4]), (81, .aload 0, 1, []), (82, .getfield 35, 3, [6, 4, 3, 29]), (85, .iload 1, 1, []), (86, .new 33, 3, [1, 4]), (89, .dup, 1, []), (90, .invokespecial 39, 3, [30, 1, 2, 60]), (93, .aastore, 1, []), (94, .iinc 1 1, 3, []), (97, .goto (-21), 3, [3])]
/-- init, block 4 -/
noncomputable def b_74_4 : List En := [(100, .return_, 1, [])]
noncomputable def cod_74 : List (List En) := [b_74_0, b_74_1, b_74_2, b_74_3, b_74_4]
/-- isCell, block 0 -/
noncomputable def b_75_0 : List En := [(0, .iload 0, 1, []), (1, .ifCond .lt 22, 3, [1]), (4, .iload 0, 1, []), (5, .iconst 120, 2, []), (7, .if_icmp .ge 16, 3, [1]), (10, .iload 1, 1, []), (11, .ifCond .lt 12, 3, [1]), (14, .iload 1, 1, []), (15, .iconst 4, 1, []), (16, .if_icmp .ge 7, 3, [1]), (19, .iconst 1, 1, []), (20, .goto 4, 3, [2])]
/-- isCell, block 1 -/
noncomputable def b_75_1 : List En := [(23, .iconst 0, 1, []), (24, .nop, 0, [2])]
/-- isCell, block 2 -/
noncomputable def b_75_2 : List En := [(24, .ireturn, 1, [1])]
noncomputable def cod_75 : List (List En) := [b_75_0, b_75_1, b_75_2]
/-- cellAt, block 0 -/
noncomputable def b_76_0 : List En := [(0, .iload 1, 1, []), (1, .iload 2, 1, []), (2, .invokestatic 40, 3, [75, 2, 0, 61]), (5, .ifCond .eq 16, 3, [1]), (8, .aload 0, 1, []), (9, .getfield 18, 3, [6, 1, 3, 26]), (12, .iload 1, 1, []), (13, .iconst 4, 1, []), (14, .imul, 1, []), (15, .iload 2, 1, []), (16, .iadd, 1, []), (17, .iaload, 1, []), (18, .goto 5, 3, [2])]
/-- cellAt, block 1 -/
noncomputable def b_76_1 : List En := [(21, .iconst 100, 2, []), (23, .nop, 0, [2])]
/-- cellAt, block 2 -/
noncomputable def b_76_2 : List En := [(23, .ireturn, 1, [0])]
noncomputable def cod_76 : List (List En) := [b_76_0, b_76_1, b_76_2]
/-- setCell, block 0 -/
noncomputable def b_77_0 : List En := [(0, .iload 1, 1, []), (1, .iload 2, 1, []), (2, .invokestatic 40, 3, [75, 2, 0, 61]), (5, .ifCond .eq 14, 3, [1]), (8, .aload 0, 1, []), (9, .getfield 18, 3, [6, 1, 3, 26]), (12, .iload 1, 1, []), (13, .iconst 4, 1, []), (14, .imul, 1, []), (15, .iload 2, 1, []), (16, .iadd, 1, []), (17, .iload 3, 1, []), (18, .iastore, 1, []), (19, .nop, 0, [1])]
/-- setCell, block 1 -/
noncomputable def b_77_1 : List En := [(19, .return_, 1, [])]
noncomputable def cod_77 : List (List En) := [b_77_0, b_77_1]
/-- setTo, block 0 -/
noncomputable def b_78_0 : List En := [(0, .aload 0, 1, []), (1, .getfield 12, 3, [6, 0, 3, 25]), (4, .aload 1, 1, []), (5, .getfield 12, 3, [6, 0, 3, 25]), (8, .invokevirtual 44, 3, [53, 2, 6, 62]), (11, .aload 1, 1, []), (12, .getfield 18, 3, [6, 1, 3, 26]), (15, .iconst 0, 1, []), (16, .aload 0, 1, []), (17, .getfield 18, 3, [6, 1, 3, 26]), (20, .iconst 0, 1, []), (21, .aload 0, 1, []), (22, .getfield 18, 3, [6, 1, 3, 26]), (25, .arraylength, 1, []), (26, .invokestatic 48, 3, [2122]), (29, .iconst 0, 1, []), (30, .istore 2, 1, []), (31, .nop, 0, [1])]
/-- setTo, block 1 -/
noncomputable def b_78_1 : List En := [(31, .iload 2, 1, []), (32, .iconst 8, 2, []), (34, .if_icmp .ge 24, 3, [2]), (37, .aload 0, 1, []), (38, .getfield 26, 3, [6, 2, 3, 27]), (41, .iload 2, 1, []), (42, .aaload, 1, []), (43, .aload 1, 1, []), (44, .getfield 26, 3, [6, 2, 3, 27]), (47, .iload 2, 1, []), (48, .aaload, 1, []), (49, .invokevirtual 44, 3, [53, 2, 6, 62]), (52, .iinc 2 1, 3, []), (55, .goto (-24), 3, [1])]
/-- setTo, block 2 -/
noncomputable def b_78_2 : List En := [(58, .iconst 0, 1, []), (59, .istore 2, 1, []), (60, .nop, 0, [3])]
/-- setTo, block 3 -/
noncomputable def b_78_3 : List En := [(60, .iload 2, 1, []), (61, .iconst 4, 1, []), (62, .if_icmp .ge 24, 3, [4]), (65, .aload 0, 1, []), (66, .getfield 30, 3, [6, 3, 3, 28]), (69, .iload 2, 1, []), (70, .aaload, 1, []), (71, .aload 1, 1, []), (72, .getfield 30, 3, [6, 3, 3, 28]), (75, .iload 2, 1, []), (76, .aaload, 1, []), (77, .invokevirtual 44, 3, [53, 2, 6, 62]), (80, .iinc 2 1, 3, []), (83, .goto (-23), 3, [3])]
/-- setTo, block 4 -/
noncomputable def b_78_4 : List En := [(86, .iconst 0, 1, []), (87, .istore 2, 1, []), (88, .nop, 0, [5])]
/-- setTo, block 5 -/
noncomputable def b_78_5 : List En := [(88, .iload 2, 1, []), (89, .iconst 4, 1, []), (90, .if_icmp .ge 24, 3, [6]), (93, .aload 0, 1, []), (94, .getfield 35, 3, [6, 4, 3, 29]), (97, .iload 2, 1, []), (98, .aaload, 1, []), (99, .aload 1, 1, []), (100, .getfield 35, 3, [6, 4, 3, 29]), (103, .iload 2, 1, []), (104, .aaload, 1, []), (105, .invokevirtual 54, 3, [32, 2, 2, 63]), (108, .iinc 2 1, 3, []), (111, .goto (-23), 3, [5])]
/-- setTo, block 6 -/
noncomputable def b_78_6 : List En := [(114, .aload 0, 1, []), (115, .aload 1, 1, []), (116, .getfield 57, 3, [6, 5, 1, 30]), (119, .putfield 57, 3, [6, 5, 1, 30]), (122, .return_, 1, [])]
noncomputable def cod_78 : List (List En) := [b_78_0, b_78_1, b_78_2, b_78_3, b_78_4, b_78_5, b_78_6]
/-- init, block 0 -/
noncomputable def b_79_0 : List En := [(0, .aload 0, 1, []), (1, .invokespecial 1, 3, [1026]), (4, .aload 0, 1, []), (5, .new 7, 3, [6, 5]), (8, .dup, 1, []), (9, .invokespecial 9, 3, [74, 1, 7, 64]), (12, .putfield 10, 3, [7, 0, 3, 31]), (15, .aload 0, 1, []), (16, .new 16, 3, [4, 6]), (19, .dup, 1, []), (20, .invokespecial 18, 3, [45, 1, 5, 65]), (23, .putfield 19, 3, [7, 1, 3, 32]), (26, .aload 0, 1, []), (27, .iconst 4, 1, []), (28, .anewarray 23, 3, [15, 7]), (31, .putfield 25, 3, [7, 2, 3, 33]), (34, .aload 0, 1, []), (35, .new 29, 3, [3, 8]), (38, .dup, 1, []), (39, .invokespecial 31, 3, [36, 1, 4, 66]), (42, .putfield 32, 3, [7, 3, 3, 34]), (45, .aload 0, 1, []), (46, .new 36, 3, [2, 9]), (49, .dup, 1, []), (50, .invokespecial 38, 3, [33, 1, 3, 67]), (53, .putfield 39, 3, [7, 4, 3, 35]), (56, .aload 0, 1, []), (57, .iconst 4, 1, []), (58, .newarray .int, 2, [10]), (60, .putfield 43, 3, [7, 5, 3, 36]), (63, .aload 0, 1, []), (64, .new 47, 3, [5, 10]), (67, .dup, 1, []), (68, .invokespecial 49, 3, [49, 1, 6, 68]), (71, .putfield 50, 3, [7, 6, 3, 37]), (74, .aload 0, 1, []), (75, .new 47, 3, [5, 10]), (78, .dup, 1, []), (79, .invokespecial 49, 3, [49, 1, 6, 68]), (82, .putfield 54, 3, [7, 7, 3, 38]), (85, .aload 0, 1, []), (86, .new 47, 3, [5, 10]), (89, .dup, 1, []), (90, .invokespecial 49, 3, [49, 1, 6, 68]), (93, .putfield 57, 3, [7, 8, 3, 39]), (96, .aload 0, 1, []), (97, .new 47, 3, [5, 10]), (100, .dup, 1, []), (101, .invokespecial 49, 3, [49, 1, 6, 68]), (104, .putfield 60, 3, [7, 9, 3, 40]), (107, .aload 0, 1, []), (108, .new 47, 3, [5, 10]), (111, .dup, 1, []), (112, .invokespecial 49, 3, [49, 1, 6, 68]), (115, .putfield 63, 3, [7, 10, 3, 41]), (118, .iconst 0, 1, []), (119, .istore 1, 1, []), (120, .nop, 0, [1])]
/-- init, block 1 -/
noncomputable def b_79_1 : List En := [(120, .iload 1, 1, []), (121, .iconst 4, 1, []), (122, .if_icmp .ge 22, 3, [2]), (125, .aload 0, 1, []), (126, .getfield 25, 3, [7, 2, 3, 33]), (129, .iload 1, 1, []), (130, .new 23, 3, [0, 7]), (133, .dup, 1, []), (134, .invokespecial 66, 3, [0, 1, 1, 69]), (137, .aastore, 1, []), (138, .iinc 1 1, 3, []), (141, .goto (-21), 3, [1])]
/-- init, block 2 -/
noncomputable def b_79_2 : List En := [(144, .return_, 1, [])]
noncomputable def cod_79 : List (List En) := [b_79_0, b_79_1, b_79_2]
/-- fill, block 0 -/
noncomputable def b_81_0 : List En := [(0, .iload 2, 1, []), (1, .iconst 1, 1, []), (2, .iconst 20, 2, []), (4, .invokestatic 86, 3, [140, 3, 0, 70]), (7, .iload 3, 1, []), (8, .iconst 1, 1, []), (9, .iconst 64, 2, []), (11, .invokestatic 86, 3, [140, 3, 0, 70]), (14, .aload 0, 1, []), (15, .iload 2, 1, []), (16, .invokevirtual 71, 3, [143, 2, 8, 71]), (19, .aload 0, 1, []), (20, .getfield 19, 3, [7, 1, 3, 32]), (23, .aload 0, 1, []), (24, .getfield 10, 3, [7, 0, 3, 31]), (27, .invokevirtual 74, 3, [47, 2, 5, 72]), (30, .aload 0, 1, []), (31, .getfield 39, 3, [7, 4, 3, 35]), (34, .iload 1, 1, []), (35, .invokevirtual 89, 3, [34, 2, 3, 73]), (38, .iconst 0, 1, []), (39, .istore 4, 2, []), (41, .nop, 0, [1])]
/-- fill, block 1 -/
noncomputable def b_81_1 : List En := [(41, .iload 4, 2, []), (43, .iload 2, 1, []), (44, .if_icmp .ge 62, 3, [5]), (47, .aload 0, 1, []), (48, .invokevirtual 78, 3, [146, 1, 8, 74]), (51, .istore 5, 2, []), (53, .iconst 0, 1, []), (54, .istore 6, 2, []), (56, .nop, 0, [2])]
/-- fill, block 2 -/
noncomputable def b_81_2 : List En := [(56, .iload 6, 2, []), (58, .iconst 4, 1, []), (59, .if_icmp .ge 41, 3, [4]), (62, .aload 0, 1, []), (63, .getfield 39, 3, [7, 4, 3, 35]), (66, .iconst 8, 2, []), (68, .invokevirtual 92, 3, [35, 2, 3, 75]), (71, .ifCond .eq 23, 3, [3]), (74, .aload 0, 1, []), (75, .iload 5, 2, []), (77, .iload 6, 2, []), (79, .aload 0, 1, []), (80, .getfield 39, 3, [7, 4, 3, 35]), (83, .iconst 2, 1, []), (84, .iload 3, 1, []), (85, .imul, 1, []), (86, .invokevirtual 92, 3, [35, 2, 3, 75]), (89, .iload 3, 1, []), (90, .isub, 1, []), (91, .invokevirtual 82, 3, [147, 4, 8, 76]), (94, .nop, 0, [3])]
/-- fill, block 3 -/
noncomputable def b_81_3 : List En := [(94, .iinc 6 1, 3, []), (97, .goto (-41), 3, [2])]
/-- fill, block 4 -/
noncomputable def b_81_4 : List En := [(100, .iinc 4 1, 3, []), (103, .goto (-62), 3, [1])]
/-- fill, block 5 -/
noncomputable def b_81_5 : List En := [(106, .aload 0, 1, []), (107, .getfield 10, 3, [7, 0, 3, 31]), (110, .getfield 96, 3, [6, 0, 3, 42]), (113, .invokevirtual 99, 3, [67, 1, 6, 77]), (116, .ireturn, 1, [0])]
noncomputable def cod_81 : List (List En) := [b_81_0, b_81_1, b_81_2, b_81_3, b_81_4, b_81_5]
/-- setValue, block 0 -/
noncomputable def b_82_0 : List En := [(0, .aload 0, 1, []), (1, .iload 1, 1, []), (2, .invokevirtual 102, 3, [138, 2, 8, 78]), (5, .iload 2, 1, []), (6, .invokestatic 105, 3, [133, 1, 0, 79]), (9, .iload 3, 1, []), (10, .invokestatic 67, 3, [142, 1, 0, 80]), (13, .aload 0, 1, []), (14, .getfield 19, 3, [7, 1, 3, 32]), (17, .aload 0, 1, []), (18, .getfield 10, 3, [7, 0, 3, 31]), (21, .invokevirtual 74, 3, [47, 2, 5, 72]), (24, .aload 0, 1, []), (25, .getfield 10, 3, [7, 0, 3, 31]), (28, .iload 1, 1, []), (29, .iload 2, 1, []), (30, .invokevirtual 108, 3, [76, 3, 7, 81]), (33, .istore 4, 2, []), (35, .aload 0, 1, []), (36, .iload 1, 1, []), (37, .iload 2, 1, []), (38, .iload 3, 1, []), (39, .invokevirtual 82, 3, [147, 4, 8, 76]), (42, .iload 4, 2, []), (44, .ireturn, 1, [0])]
noncomputable def cod_82 : List (List En) := [b_82_0]
/-- strike, block 0 -/
noncomputable def b_83_0 : List En := [(0, .aload 0, 1, []), (1, .iload 1, 1, []), (2, .invokevirtual 102, 3, [138, 2, 8, 78]), (5, .aload 0, 1, []), (6, .getfield 19, 3, [7, 1, 3, 32]), (9, .aload 0, 1, []), (10, .getfield 10, 3, [7, 0, 3, 31]), (13, .invokevirtual 74, 3, [47, 2, 5, 72]), (16, .iconst 0, 1, []), (17, .istore 2, 1, []), (18, .nop, 0, [1])]
/-- strike, block 1 -/
noncomputable def b_83_1 : List En := [(18, .iload 2, 1, []), (19, .iconst 4, 1, []), (20, .if_icmp .ge 17, 3, [2]), (23, .aload 0, 1, []), (24, .iload 1, 1, []), (25, .iload 2, 1, []), (26, .iconst 100, 2, []), (28, .invokevirtual 82, 3, [147, 4, 8, 76]), (31, .iinc 2 1, 3, []), (34, .goto (-16), 3, [1])]
/-- strike, block 2 -/
noncomputable def b_83_2 : List En := [(37, .aload 0, 1, []), (38, .getfield 10, 3, [7, 0, 3, 31]), (41, .getfield 96, 3, [6, 0, 3, 42]), (44, .iload 1, 1, []), (45, .iconst 0, 1, []), (46, .invokevirtual 112, 3, [56, 3, 6, 82]), (49, .iconst 0, 1, []), (50, .istore 2, 1, []), (51, .iconst 0, 1, []), (52, .istore 3, 1, []), (53, .nop, 0, [3])]
/-- strike, block 3 -/
noncomputable def b_83_3 : List En := [(53, .iload 3, 1, []), (54, .iconst 8, 2, []), (56, .if_icmp .ge 42, 3, [5]), (59, .aload 0, 1, []), (60, .getfield 10, 3, [7, 0, 3, 31]), (63, .getfield 116, 3, [6, 2, 3, 43]), (66, .iload 3, 1, []), (67, .aaload, 1, []), (68, .iload 1, 1, []), (69, .invokevirtual 120, 3, [62, 2, 6, 83]), (72, .ifCond .eq 20, 3, [4]), (75, .aload 0, 1, []), (76, .getfield 10, 3, [7, 0, 3, 31]), (79, .getfield 116, 3, [6, 2, 3, 43]), (82, .iload 3, 1, []), (83, .aaload, 1, []), (84, .iload 1, 1, []), (85, .iconst 0, 1, []), (86, .invokevirtual 112, 3, [56, 3, 6, 82]), (89, .iinc 2 1, 3, []), (92, .nop, 0, [4])]
/-- strike, block 4 -/
noncomputable def b_83_4 : List En := [(92, .iinc 3 1, 3, []), (95, .goto (-42), 3, [3])]
/-- strike, block 5 -/
noncomputable def b_83_5 : List En := [(98, .iload 2, 1, []), (99, .ireturn, 1, [0])]
noncomputable def cod_83 : List (List En) := [b_83_0, b_83_1, b_83_2, b_83_3, b_83_4, b_83_5]
/-- select, block 0 -/
noncomputable def b_84_0 : List En := [(0, .iload 1, 1, []), (1, .invokestatic 124, 3, [134, 1, 0, 84]), (4, .iload 2, 1, []), (5, .invokestatic 105, 3, [133, 1, 0, 79]), (8, .iload 3, 1, []), (9, .iconst 0, 1, []), (10, .iconst 7, 2, []), (12, .invokestatic 86, 3, [140, 3, 0, 70]), (15, .iload 4, 2, []), (17, .invokestatic 127, 3, [141, 1, 0, 85]), (20, .iload 5, 2, []), (22, .iconst 0, 1, []), (23, .iconst 2, 1, []), (24, .invokestatic 86, 3, [140, 3, 0, 70]), (27, .aload 0, 1, []), (28, .getfield 19, 3, [7, 1, 3, 32]), (31, .aload 0, 1, []), (32, .getfield 10, 3, [7, 0, 3, 31]), (35, .invokevirtual 74, 3, [47, 2, 5, 72]), (38, .aload 0, 1, []), (39, .getfield 25, 3, [7, 2, 3, 33]), (42, .iload 2, 1, []), (43, .aaload, 1, []), (44, .iload 3, 1, []), (45, .iload 4, 2, []), (47, .iload 5, 2, []), (49, .aload 0, 1, []), (50, .getfield 10, 3, [7, 0, 3, 31]), (53, .getfield 96, 3, [6, 0, 3, 42]), (56, .aload 0, 1, []), (57, .getfield 10, 3, [7, 0, 3, 31]), (60, .getfield 116, 3, [6, 2, 3, 43]), (63, .iload 1, 1, []), (64, .aaload, 1, []), (65, .invokevirtual 130, 3, [12, 6, 1, 86]), (68, .aload 0, 1, []), (69, .getfield 10, 3, [7, 0, 3, 31]), (72, .getfield 116, 3, [6, 2, 3, 43]), (75, .iload 1, 1, []), (76, .aaload, 1, []), (77, .invokevirtual 99, 3, [67, 1, 6, 77]), (80, .ireturn, 1, [0])]
noncomputable def cod_84 : List (List En) := [b_84_0]
/-- between, block 0 -/
noncomputable def b_85_0 : List En := [(0, .iload 1, 1, []), (1, .invokestatic 124, 3, [134, 1, 0, 84]), (4, .iload 2, 1, []), (5, .invokestatic 105, 3, [133, 1, 0, 79]), (8, .iload 3, 1, []), (9, .invokestatic 127, 3, [141, 1, 0, 85]), (12, .iload 4, 2, []), (14, .invokestatic 127, 3, [141, 1, 0, 85]), (17, .aload 0, 1, []), (18, .getfield 19, 3, [7, 1, 3, 32]), (21, .aload 0, 1, []), (22, .getfield 10, 3, [7, 0, 3, 31]), (25, .invokevirtual 74, 3, [47, 2, 5, 72]), (28, .aload 0, 1, []), (29, .getfield 10, 3, [7, 0, 3, 31]), (32, .getfield 116, 3, [6, 2, 3, 43]), (35, .iload 1, 1, []), (36, .aaload, 1, []), (37, .invokevirtual 134, 3, [51, 1, 6, 87]), (40, .aload 0, 1, []), (41, .getfield 25, 3, [7, 2, 3, 33]), (44, .iload 2, 1, []), (45, .aaload, 1, []), (46, .iload 3, 1, []), (47, .iload 4, 2, []), (49, .aload 0, 1, []), (50, .getfield 10, 3, [7, 0, 3, 31]), (53, .getfield 116, 3, [6, 2, 3, 43]), (56, .iload 1, 1, []), (57, .aaload, 1, []), (58, .invokevirtual 137, 3, [9, 4, 1, 88]), (61, .aload 0, 1, []), (62, .getfield 10, 3, [7, 0, 3, 31]), (65, .getfield 116, 3, [6, 2, 3, 43]), (68, .iload 1, 1, []), (69, .aaload, 1, []), (70, .invokevirtual 99, 3, [67, 1, 6, 77]), (73, .ireturn, 1, [0])]
noncomputable def cod_85 : List (List En) := [b_85_0]
/-- combine, block 0 -/
noncomputable def b_87_0 : List En := [(0, .iload 1, 1, []), (1, .invokestatic 124, 3, [134, 1, 0, 84]), (4, .iload 3, 1, []), (5, .invokestatic 124, 3, [134, 1, 0, 84]), (8, .iload 2, 1, []), (9, .iconst 0, 1, []), (10, .iconst 3, 1, []), (11, .invokestatic 86, 3, [140, 3, 0, 70]), (14, .aload 0, 1, []), (15, .getfield 19, 3, [7, 1, 3, 32]), (18, .aload 0, 1, []), (19, .getfield 10, 3, [7, 0, 3, 31]), (22, .invokevirtual 74, 3, [47, 2, 5, 72]), (25, .aload 0, 1, []), (26, .getfield 10, 3, [7, 0, 3, 31]), (29, .getfield 116, 3, [6, 2, 3, 43]), (32, .iload 1, 1, []), (33, .aaload, 1, []), (34, .iload 2, 1, []), (35, .aload 0, 1, []), (36, .getfield 10, 3, [7, 0, 3, 31]), (39, .getfield 116, 3, [6, 2, 3, 43]), (42, .iload 3, 1, []), (43, .aaload, 1, []), (44, .invokevirtual 145, 3, [61, 3, 6, 89]), (47, .aload 0, 1, []), (48, .getfield 10, 3, [7, 0, 3, 31]), (51, .getfield 116, 3, [6, 2, 3, 43]), (54, .iload 1, 1, []), (55, .aaload, 1, []), (56, .invokevirtual 99, 3, [67, 1, 6, 77]), (59, .ireturn, 1, [0])]
noncomputable def cod_87 : List (List En) := [b_87_0]
/-- contrary, block 0 -/
noncomputable def b_88_0 : List En := [(0, .iload 1, 1, []), (1, .invokestatic 124, 3, [134, 1, 0, 84]), (4, .aload 0, 1, []), (5, .getfield 19, 3, [7, 1, 3, 32]), (8, .aload 0, 1, []), (9, .getfield 10, 3, [7, 0, 3, 31]), (12, .invokevirtual 74, 3, [47, 2, 5, 72]), (15, .aload 0, 1, []), (16, .getfield 50, 3, [7, 6, 3, 37]), (19, .aload 0, 1, []), (20, .getfield 10, 3, [7, 0, 3, 31]), (23, .getfield 96, 3, [6, 0, 3, 42]), (26, .invokevirtual 149, 3, [53, 2, 6, 90]), (29, .aload 0, 1, []), (30, .getfield 50, 3, [7, 6, 3, 37]), (33, .aload 0, 1, []), (34, .getfield 10, 3, [7, 0, 3, 31]), (37, .getfield 116, 3, [6, 2, 3, 43]), (40, .iload 1, 1, []), (41, .aaload, 1, []), (42, .invokevirtual 153, 3, [59, 2, 6, 91]), (45, .aload 0, 1, []), (46, .getfield 10, 3, [7, 0, 3, 31]), (49, .getfield 116, 3, [6, 2, 3, 43]), (52, .iload 1, 1, []), (53, .aaload, 1, []), (54, .aload 0, 1, []), (55, .getfield 50, 3, [7, 6, 3, 37]), (58, .invokevirtual 149, 3, [53, 2, 6, 90]), (61, .aload 0, 1, []), (62, .getfield 50, 3, [7, 6, 3, 37]), (65, .invokevirtual 99, 3, [67, 1, 6, 77]), (68, .ireturn, 1, [0])]
noncomputable def cod_88 : List (List En) := [b_88_0]
/-- copyOf, block 0 -/
noncomputable def b_89_0 : List En := [(0, .iload 1, 1, []), (1, .invokestatic 124, 3, [134, 1, 0, 84]), (4, .iload 2, 1, []), (5, .invokestatic 124, 3, [134, 1, 0, 84]), (8, .aload 0, 1, []), (9, .getfield 19, 3, [7, 1, 3, 32]), (12, .aload 0, 1, []), (13, .getfield 10, 3, [7, 0, 3, 31]), (16, .invokevirtual 74, 3, [47, 2, 5, 72]), (19, .aload 0, 1, []), (20, .getfield 10, 3, [7, 0, 3, 31]), (23, .getfield 116, 3, [6, 2, 3, 43]), (26, .iload 1, 1, []), (27, .aaload, 1, []), (28, .aload 0, 1, []), (29, .getfield 10, 3, [7, 0, 3, 31]), (32, .getfield 116, 3, [6, 2, 3, 43]), (35, .iload 2, 1, []), (36, .aaload, 1, []), (37, .invokevirtual 149, 3, [53, 2, 6, 90]), (40, .aload 0, 1, []), (41, .getfield 10, 3, [7, 0, 3, 31]), (44, .getfield 116, 3, [6, 2, 3, 43]), (47, .iload 1, 1, []), (48, .aaload, 1, []), (49, .invokevirtual 99, 3, [67, 1, 6, 77]), (52, .ireturn, 1, [0])]
noncomputable def cod_89 : List (List En) := [b_89_0]
/-- sample, block 0 -/
noncomputable def b_91_0 : List En := [(0, .iload 1, 1, []), (1, .invokestatic 124, 3, [134, 1, 0, 84]), (4, .iload 3, 1, []), (5, .iconst 0, 1, []), (6, .iconst 120, 2, []), (8, .invokestatic 86, 3, [140, 3, 0, 70]), (11, .aload 0, 1, []), (12, .getfield 19, 3, [7, 1, 3, 32]), (15, .aload 0, 1, []), (16, .getfield 10, 3, [7, 0, 3, 31]), (19, .invokevirtual 74, 3, [47, 2, 5, 72]), (22, .aload 0, 1, []), (23, .getfield 10, 3, [7, 0, 3, 31]), (26, .getfield 116, 3, [6, 2, 3, 43]), (29, .iload 1, 1, []), (30, .aaload, 1, []), (31, .astore 4, 2, []), (33, .aload 0, 1, []), (34, .getfield 50, 3, [7, 6, 3, 37]), (37, .invokevirtual 134, 3, [51, 1, 6, 87]), (40, .aload 0, 1, []), (41, .getfield 39, 3, [7, 4, 3, 35]), (44, .iload 2, 1, []), (45, .invokevirtual 89, 3, [34, 2, 3, 73]), (48, .iconst 0, 1, []), (49, .istore 5, 2, []), (51, .nop, 0, [1])]
/-- sample, block 1 -/
noncomputable def b_91_1 : List En := [(51, .iload 5, 2, []), (53, .iload 3, 1, []), (54, .if_icmp .ge 54, 3, [2]), (57, .aload 4, 2, []), (59, .invokevirtual 156, 3, [63, 1, 6, 92]), (62, .ifCond .ne 46, 3, [2]), (65, .aload 4, 2, []), (67, .aload 0, 1, []), (68, .getfield 39, 3, [7, 4, 3, 35]), (71, .aload 4, 2, []), (73, .invokevirtual 99, 3, [67, 1, 6, 77]), (76, .invokevirtual 92, 3, [35, 2, 3, 75]), (79, .invokevirtual 160, 3, [70, 2, 6, 93]), (82, .istore 6, 2, []), (84, .aload 4, 2, []), (86, .iload 6, 2, []), (88, .iconst 0, 1, []), (89, .invokevirtual 112, 3, [56, 3, 6, 82]), (92, .aload 0, 1, []), (93, .getfield 50, 3, [7, 6, 3, 37]), (96, .iload 6, 2, []), (98, .iconst 1, 1, []), (99, .invokevirtual 112, 3, [56, 3, 6, 82]), (102, .iinc 5 1, 3, []), (105, .goto (-54), 3, [1])]
/-- sample, block 2 -/
noncomputable def b_91_2 : List En := [(108, .aload 4, 2, []), (110, .aload 0, 1, []), (111, .getfield 50, 3, [7, 6, 3, 37]), (114, .invokevirtual 149, 3, [53, 2, 6, 90]), (117, .aload 0, 1, []), (118, .getfield 50, 3, [7, 6, 3, 37]), (121, .invokevirtual 99, 3, [67, 1, 6, 77]), (124, .ireturn, 1, [0])]
noncomputable def cod_91 : List (List En) := [b_91_0, b_91_1, b_91_2]
/-- partners, block 0 -/
noncomputable def b_92_0 : List En := [(0, .iload 1, 1, []), (1, .invokestatic 124, 3, [134, 1, 0, 84]), (4, .iload 2, 1, []), (5, .iload 3, 1, []), (6, .iload 4, 2, []), (8, .iload 5, 2, []), (10, .invokestatic 163, 3, [137, 4, 0, 94]), (13, .aload 0, 1, []), (14, .getfield 19, 3, [7, 1, 3, 32]), (17, .aload 0, 1, []), (18, .getfield 10, 3, [7, 0, 3, 31]), (21, .invokevirtual 74, 3, [47, 2, 5, 72]), (24, .aload 0, 1, []), (25, .getfield 25, 3, [7, 2, 3, 33]), (28, .iload 2, 1, []), (29, .aaload, 1, []), (30, .aload 0, 1, []), (31, .getfield 10, 3, [7, 0, 3, 31]), (34, .getfield 116, 3, [6, 2, 3, 43]), (37, .iload 3, 1, []), (38, .aaload, 1, []), (39, .aload 0, 1, []), (40, .getfield 25, 3, [7, 2, 3, 33]), (43, .iload 4, 2, []), (45, .aaload, 1, []), (46, .aload 0, 1, []), (47, .getfield 10, 3, [7, 0, 3, 31]), (50, .getfield 116, 3, [6, 2, 3, 43]), (53, .iload 5, 2, []), (55, .aaload, 1, []), (56, .aload 0, 1, []), (57, .getfield 50, 3, [7, 6, 3, 37]), (60, .invokevirtual 167, 3, [24, 5, 1, 95]), (63, .aload 0, 1, []), (64, .getfield 10, 3, [7, 0, 3, 31]), (67, .getfield 116, 3, [6, 2, 3, 43]), (70, .iload 1, 1, []), (71, .aaload, 1, []), (72, .aload 0, 1, []), (73, .getfield 50, 3, [7, 6, 3, 37]), (76, .invokevirtual 149, 3, [53, 2, 6, 90]), (79, .aload 0, 1, []), (80, .getfield 50, 3, [7, 6, 3, 37]), (83, .invokevirtual 99, 3, [67, 1, 6, 77]), (86, .ireturn, 1, [0])]
noncomputable def cod_92 : List (List En) := [b_92_0]
/-- runPlan, block 0 -/
noncomputable def b_93_0 : List En := [(0, .iload 1, 1, []), (1, .invokestatic 124, 3, [134, 1, 0, 84]), (4, .aload 0, 1, []), (5, .getfield 19, 3, [7, 1, 3, 32]), (8, .aload 0, 1, []), (9, .getfield 10, 3, [7, 0, 3, 31]), (12, .invokevirtual 74, 3, [47, 2, 5, 72]), (15, .aload 0, 1, []), (16, .invokevirtual 171, 3, [151, 1, 8, 96]), (19, .aload 0, 1, []), (20, .getfield 50, 3, [7, 6, 3, 37]), (23, .aload 0, 1, []), (24, .getfield 10, 3, [7, 0, 3, 31]), (27, .getfield 96, 3, [6, 0, 3, 42]), (30, .invokevirtual 149, 3, [53, 2, 6, 90]), (33, .iconst 0, 1, []), (34, .istore 2, 1, []), (35, .nop, 0, [1])]
/-- runPlan, block 1 -/
noncomputable def b_93_1 : List En := [(35, .iload 2, 1, []), (36, .aload 0, 1, []), (37, .getfield 10, 3, [7, 0, 3, 31]), (40, .getfield 174, 3, [6, 5, 1, 44]), (43, .if_icmp .ge 61, 3, [5]), (46, .iconst 0, 1, []), (47, .istore 3, 1, []), (48, .nop, 0, [2])]
/-- runPlan, block 2 -/
noncomputable def b_93_2 : List En := [(48, .iload 3, 1, []), (49, .aload 0, 1, []), (50, .getfield 10, 3, [7, 0, 3, 31]), (53, .getfield 174, 3, [6, 5, 1, 44]), (56, .if_icmp .ge 42, 3, [4]), (59, .aload 0, 1, []), (60, .iload 3, 1, []), (61, .invokevirtual 178, 3, [152, 2, 8, 97]), (64, .iload 2, 1, []), (65, .if_icmp .ne 27, 3, [3]), (68, .aload 0, 1, []), (69, .aload 0, 1, []), (70, .getfield 10, 3, [7, 0, 3, 31]), (73, .getfield 181, 3, [6, 4, 3, 45]), (76, .iload 3, 1, []), (77, .aaload, 1, []), (78, .invokevirtual 185, 3, [150, 2, 8, 98]), (81, .aload 0, 1, []), (82, .getfield 50, 3, [7, 6, 3, 37]), (85, .aload 0, 1, []), (86, .getfield 54, 3, [7, 7, 3, 38]), (89, .invokevirtual 189, 3, [57, 2, 6, 99]), (92, .nop, 0, [3])]
/-- runPlan, block 3 -/
noncomputable def b_93_3 : List En := [(92, .iinc 3 1, 3, []), (95, .goto (-47), 3, [2])]
/-- runPlan, block 4 -/
noncomputable def b_93_4 : List En := [(98, .iinc 2 1, 3, []), (101, .goto (-66), 3, [1])]
/-- runPlan, block 5 -/
noncomputable def b_93_5 : List En := [(104, .aload 0, 1, []), (105, .getfield 10, 3, [7, 0, 3, 31]), (108, .getfield 116, 3, [6, 2, 3, 43]), (111, .iload 1, 1, []), (112, .aaload, 1, []), (113, .aload 0, 1, []), (114, .getfield 50, 3, [7, 6, 3, 37]), (117, .invokevirtual 149, 3, [53, 2, 6, 90]), (120, .aload 0, 1, []), (121, .getfield 50, 3, [7, 6, 3, 37]), (124, .invokevirtual 99, 3, [67, 1, 6, 77]), (127, .ireturn, 1, [0])]
noncomputable def cod_93 : List (List En) := [b_93_0, b_93_1, b_93_2, b_93_3, b_93_4, b_93_5]
/-- unpack, block 0 -/
noncomputable def b_94_0 : List En := [(0, .iload 1, 1, []), (1, .invokestatic 124, 3, [134, 1, 0, 84]), (4, .iload 2, 1, []), (5, .invokestatic 192, 3, [135, 1, 0, 100]), (8, .aload 0, 1, []), (9, .getfield 19, 3, [7, 1, 3, 32]), (12, .aload 0, 1, []), (13, .getfield 10, 3, [7, 0, 3, 31]), (16, .invokevirtual 74, 3, [47, 2, 5, 72]), (19, .aload 0, 1, []), (20, .getfield 10, 3, [7, 0, 3, 31]), (23, .getfield 116, 3, [6, 2, 3, 43]), (26, .iload 1, 1, []), (27, .aaload, 1, []), (28, .aload 0, 1, []), (29, .getfield 10, 3, [7, 0, 3, 31]), (32, .getfield 195, 3, [6, 3, 3, 46]), (35, .iload 2, 1, []), (36, .aaload, 1, []), (37, .invokevirtual 149, 3, [53, 2, 6, 90]), (40, .aload 0, 1, []), (41, .getfield 10, 3, [7, 0, 3, 31]), (44, .getfield 116, 3, [6, 2, 3, 43]), (47, .iload 1, 1, []), (48, .aaload, 1, []), (49, .aload 0, 1, []), (50, .getfield 10, 3, [7, 0, 3, 31]), (53, .getfield 96, 3, [6, 0, 3, 42]), (56, .invokevirtual 189, 3, [57, 2, 6, 99]), (59, .aload 0, 1, []), (60, .getfield 10, 3, [7, 0, 3, 31]), (63, .getfield 116, 3, [6, 2, 3, 43]), (66, .iload 1, 1, []), (67, .aaload, 1, []), (68, .invokevirtual 99, 3, [67, 1, 6, 77]), (71, .ireturn, 1, [0])]
noncomputable def cod_94 : List (List En) := [b_94_0]
/-- pack, block 0 -/
noncomputable def b_95_0 : List En := [(0, .iload 1, 1, []), (1, .invokestatic 192, 3, [135, 1, 0, 100]), (4, .iload 2, 1, []), (5, .invokestatic 124, 3, [134, 1, 0, 84]), (8, .aload 0, 1, []), (9, .getfield 19, 3, [7, 1, 3, 32]), (12, .aload 0, 1, []), (13, .getfield 10, 3, [7, 0, 3, 31]), (16, .invokevirtual 74, 3, [47, 2, 5, 72]), (19, .aload 0, 1, []), (20, .getfield 10, 3, [7, 0, 3, 31]), (23, .getfield 195, 3, [6, 3, 3, 46]), (26, .iload 1, 1, []), (27, .aaload, 1, []), (28, .aload 0, 1, []), (29, .getfield 10, 3, [7, 0, 3, 31]), (32, .getfield 116, 3, [6, 2, 3, 43]), (35, .iload 2, 1, []), (36, .aaload, 1, []), (37, .invokevirtual 149, 3, [53, 2, 6, 90]), (40, .aload 0, 1, []), (41, .iload 1, 1, []), (42, .invokevirtual 198, 3, [149, 2, 8, 101]), (45, .ireturn, 1, [0])]
noncomputable def cod_95 : List (List En) := [b_95_0]
/-- combinePacked, block 0 -/
noncomputable def b_96_0 : List En := [(0, .iload 1, 1, []), (1, .invokestatic 192, 3, [135, 1, 0, 100]), (4, .iload 3, 1, []), (5, .invokestatic 192, 3, [135, 1, 0, 100]), (8, .iload 2, 1, []), (9, .iconst 0, 1, []), (10, .iconst 3, 1, []), (11, .invokestatic 86, 3, [140, 3, 0, 70]), (14, .aload 0, 1, []), (15, .getfield 19, 3, [7, 1, 3, 32]), (18, .aload 0, 1, []), (19, .getfield 10, 3, [7, 0, 3, 31]), (22, .invokevirtual 74, 3, [47, 2, 5, 72]), (25, .aload 0, 1, []), (26, .getfield 10, 3, [7, 0, 3, 31]), (29, .getfield 195, 3, [6, 3, 3, 46]), (32, .iload 1, 1, []), (33, .aaload, 1, []), (34, .iload 2, 1, []), (35, .aload 0, 1, []), (36, .getfield 10, 3, [7, 0, 3, 31]), (39, .getfield 195, 3, [6, 3, 3, 46]), (42, .iload 3, 1, []), (43, .aaload, 1, []), (44, .invokevirtual 145, 3, [61, 3, 6, 89]), (47, .aload 0, 1, []), (48, .iload 1, 1, []), (49, .invokevirtual 198, 3, [149, 2, 8, 101]), (52, .ireturn, 1, [0])]
noncomputable def cod_96 : List (List En) := [b_96_0]
/-- contraryPacked, block 0 -/
noncomputable def b_97_0 : List En := [(0, .iload 1, 1, []), (1, .invokestatic 192, 3, [135, 1, 0, 100]), (4, .aload 0, 1, []), (5, .getfield 19, 3, [7, 1, 3, 32]), (8, .aload 0, 1, []), (9, .getfield 10, 3, [7, 0, 3, 31]), (12, .invokevirtual 74, 3, [47, 2, 5, 72]), (15, .aload 0, 1, []), (16, .getfield 50, 3, [7, 6, 3, 37]), (19, .invokevirtual 201, 3, [52, 1, 6, 102]), (22, .aload 0, 1, []), (23, .getfield 50, 3, [7, 6, 3, 37]), (26, .aload 0, 1, []), (27, .getfield 10, 3, [7, 0, 3, 31]), (30, .getfield 195, 3, [6, 3, 3, 46]), (33, .iload 1, 1, []), (34, .aaload, 1, []), (35, .invokevirtual 153, 3, [59, 2, 6, 91]), (38, .aload 0, 1, []), (39, .getfield 10, 3, [7, 0, 3, 31]), (42, .getfield 195, 3, [6, 3, 3, 46]), (45, .iload 1, 1, []), (46, .aaload, 1, []), (47, .aload 0, 1, []), (48, .getfield 50, 3, [7, 6, 3, 37]), (51, .invokevirtual 149, 3, [53, 2, 6, 90]), (54, .aload 0, 1, []), (55, .iload 1, 1, []), (56, .invokevirtual 198, 3, [149, 2, 8, 101]), (59, .ireturn, 1, [0])]
noncomputable def cod_97 : List (List En) := [b_97_0]
/-- addCondition, block 0 -/
noncomputable def b_98_0 : List En := [(0, .iload 1, 1, []), (1, .invokestatic 105, 3, [133, 1, 0, 79]), (4, .iload 2, 1, []), (5, .iconst 0, 1, []), (6, .iconst 7, 2, []), (8, .invokestatic 86, 3, [140, 3, 0, 70]), (11, .iload 3, 1, []), (12, .invokestatic 127, 3, [141, 1, 0, 85]), (15, .aload 0, 1, []), (16, .invokevirtual 204, 3, [144, 1, 8, 103]), (19, .aload 0, 1, []), (20, .getfield 19, 3, [7, 1, 3, 32]), (23, .aload 0, 1, []), (24, .getfield 10, 3, [7, 0, 3, 31]), (27, .invokevirtual 74, 3, [47, 2, 5, 72]), (30, .aload 0, 1, []), (31, .getfield 10, 3, [7, 0, 3, 31]), (34, .getfield 174, 3, [6, 5, 1, 44]), (37, .istore 4, 2, []), (39, .aload 0, 1, []), (40, .getfield 10, 3, [7, 0, 3, 31]), (43, .getfield 181, 3, [6, 4, 3, 45]), (46, .iload 4, 2, []), (48, .aaload, 1, []), (49, .iload 1, 1, []), (50, .iload 2, 1, []), (51, .iload 3, 1, []), (52, .invokevirtual 207, 3, [31, 4, 2, 104]), (55, .aload 0, 1, []), (56, .getfield 10, 3, [7, 0, 3, 31]), (59, .dup, 1, []), (60, .getfield 174, 3, [6, 5, 1, 44]), (63, .iconst 1, 1, []), (64, .iadd, 1, []), (65, .putfield 174, 3, [6, 5, 1, 44]), (68, .iload 4, 2, []), (70, .ireturn, 1, [0])]
noncomputable def cod_98 : List (List En) := [b_98_0]
/-- dropCondition, block 0 -/
noncomputable def b_99_0 : List En := [(0, .aload 0, 1, []), (1, .iload 1, 1, []), (2, .invokevirtual 212, 3, [136, 2, 8, 105]), (5, .aload 0, 1, []), (6, .getfield 19, 3, [7, 1, 3, 32]), (9, .aload 0, 1, []), (10, .getfield 10, 3, [7, 0, 3, 31]), (13, .invokevirtual 74, 3, [47, 2, 5, 72]), (16, .iload 1, 1, []), (17, .iconst 1, 1, []), (18, .iadd, 1, []), (19, .istore 2, 1, []), (20, .nop, 0, [1])]
/-- dropCondition, block 1 -/
noncomputable def b_99_1 : List En := [(20, .iload 2, 1, []), (21, .aload 0, 1, []), (22, .getfield 10, 3, [7, 0, 3, 31]), (25, .getfield 174, 3, [6, 5, 1, 44]), (28, .if_icmp .ge 32, 3, [2]), (31, .aload 0, 1, []), (32, .getfield 10, 3, [7, 0, 3, 31]), (35, .getfield 181, 3, [6, 4, 3, 45]), (38, .iload 2, 1, []), (39, .iconst 1, 1, []), (40, .isub, 1, []), (41, .aaload, 1, []), (42, .aload 0, 1, []), (43, .getfield 10, 3, [7, 0, 3, 31]), (46, .getfield 181, 3, [6, 4, 3, 45]), (49, .iload 2, 1, []), (50, .aaload, 1, []), (51, .invokevirtual 215, 3, [32, 2, 2, 106]), (54, .iinc 2 1, 3, []), (57, .goto (-37), 3, [1])]
/-- dropCondition, block 2 -/
noncomputable def b_99_2 : List En := [(60, .aload 0, 1, []), (61, .getfield 10, 3, [7, 0, 3, 31]), (64, .dup, 1, []), (65, .getfield 174, 3, [6, 5, 1, 44]), (68, .iconst 1, 1, []), (69, .isub, 1, []), (70, .putfield 174, 3, [6, 5, 1, 44]), (73, .aload 0, 1, []), (74, .getfield 10, 3, [7, 0, 3, 31]), (77, .getfield 174, 3, [6, 5, 1, 44]), (80, .ireturn, 1, [0])]
noncomputable def cod_99 : List (List En) := [b_99_0, b_99_1, b_99_2]
/-- undo, block 0 -/
noncomputable def b_100_0 : List En := [(0, .aload 0, 1, []), (1, .invokevirtual 217, 3, [145, 1, 8, 107]), (4, .aload 0, 1, []), (5, .aload 0, 1, []), (6, .getfield 19, 3, [7, 1, 3, 32]), (9, .invokevirtual 220, 3, [48, 1, 5, 108]), (12, .invokevirtual 224, 3, [148, 2, 8, 109]), (15, .aload 0, 1, []), (16, .getfield 19, 3, [7, 1, 3, 32]), (19, .invokevirtual 227, 3, [46, 1, 5, 110]), (22, .ireturn, 1, [0])]
noncomputable def cod_100 : List (List En) := [b_100_0]
/-- rows, block 0 -/
noncomputable def b_101_0 : List En := [(0, .aload 0, 1, []), (1, .getfield 10, 3, [7, 0, 3, 31]), (4, .getfield 96, 3, [6, 0, 3, 42]), (7, .invokevirtual 99, 3, [67, 1, 6, 77]), (10, .ireturn, 1, [0])]
noncomputable def cod_101 : List (List En) := [b_101_0]
/-- nextRow, block 0 -/
noncomputable def b_102_0 : List En := [(0, .iload 1, 1, []), (1, .invokestatic 228, 3, [139, 1, 0, 111]), (4, .aload 0, 1, []), (5, .getfield 10, 3, [7, 0, 3, 31]), (8, .getfield 96, 3, [6, 0, 3, 42]), (11, .iload 1, 1, []), (12, .invokevirtual 231, 3, [71, 2, 6, 112]), (15, .ireturn, 1, [0])]
noncomputable def cod_102 : List (List En) := [b_102_0]
/-- valueAt, block 0 -/
noncomputable def b_103_0 : List En := [(0, .aload 0, 1, []), (1, .iload 1, 1, []), (2, .invokevirtual 102, 3, [138, 2, 8, 78]), (5, .iload 2, 1, []), (6, .invokestatic 105, 3, [133, 1, 0, 79]), (9, .aload 0, 1, []), (10, .getfield 10, 3, [7, 0, 3, 31]), (13, .iload 1, 1, []), (14, .iload 2, 1, []), (15, .invokevirtual 108, 3, [76, 3, 7, 81]), (18, .ireturn, 1, [0])]
noncomputable def cod_103 : List (List En) := [b_103_0]
/-- values, block 0 -/
noncomputable def b_104_0 : List En := [(0, .iload 1, 1, []), (1, .invokestatic 105, 3, [133, 1, 0, 79]), (4, .aload 0, 1, []), (5, .getfield 25, 3, [7, 2, 3, 33]), (8, .iload 1, 1, []), (9, .aaload, 1, []), (10, .iconst (-64), 2, []), (12, .iconst 63, 2, []), (14, .invokevirtual 234, 3, [8, 3, 1, 113]), (17, .ireturn, 1, [0])]
noncomputable def cod_104 : List (List En) := [b_104_0]
/-- kept, block 0 -/
noncomputable def b_107_0 : List En := [(0, .iload 1, 1, []), (1, .invokestatic 105, 3, [133, 1, 0, 79]), (4, .iload 2, 1, []), (5, .iconst 0, 1, []), (6, .iconst 2, 1, []), (7, .invokestatic 86, 3, [140, 3, 0, 70]), (10, .iload 2, 1, []), (11, .ifCond .ne 21, 3, [1]), (14, .iload 3, 1, []), (15, .invokestatic 127, 3, [141, 1, 0, 85]), (18, .aload 0, 1, []), (19, .getfield 25, 3, [7, 2, 3, 33]), (22, .iload 1, 1, []), (23, .aaload, 1, []), (24, .iload 3, 1, []), (25, .invokevirtual 250, 3, [7, 2, 1, 114]), (28, .invokevirtual 99, 3, [67, 1, 6, 77]), (31, .ireturn, 1, [0])]
/-- kept, block 1 -/
noncomputable def b_107_1 : List En := [(32, .iload 2, 1, []), (33, .iconst 1, 1, []), (34, .if_icmp .ne 25, 3, [2]), (37, .iload 3, 1, []), (38, .iconst 0, 1, []), (39, .iconst 7, 2, []), (41, .invokestatic 86, 3, [140, 3, 0, 70]), (44, .aload 0, 1, []), (45, .getfield 25, 3, [7, 2, 3, 33]), (48, .iload 1, 1, []), (49, .aaload, 1, []), (50, .getfield 254, 3, [0, 1, 3, 47]), (53, .iload 3, 1, []), (54, .aaload, 1, []), (55, .invokevirtual 99, 3, [67, 1, 6, 77]), (58, .ireturn, 1, [0])]
/-- kept, block 2 -/
noncomputable def b_107_2 : List En := [(59, .iload 3, 1, []), (60, .iconst 0, 1, []), (61, .iconst 7, 2, []), (63, .invokestatic 86, 3, [140, 3, 0, 70]), (66, .iload 3, 1, []), (67, .iconst 7, 2, []), (69, .if_icmp .ge 20, 3, [3]), (72, .aload 0, 1, []), (73, .getfield 25, 3, [7, 2, 3, 33]), (76, .iload 1, 1, []), (77, .aaload, 1, []), (78, .getfield 257, 3, [0, 2, 3, 48]), (81, .iload 3, 1, []), (82, .aaload, 1, []), (83, .invokevirtual 99, 3, [67, 1, 6, 77]), (86, .goto 15, 3, [4])]
/-- kept, block 3 -/
noncomputable def b_107_3 : List En := [(89, .aload 0, 1, []), (90, .getfield 25, 3, [7, 2, 3, 33]), (93, .iload 1, 1, []), (94, .aaload, 1, []), (95, .getfield 260, 3, [0, 3, 3, 49]), (98, .invokevirtual 99, 3, [67, 1, 6, 77]), (101, .nop, 0, [4])]
/-- kept, block 4 -/
noncomputable def b_107_4 : List En := [(101, .ireturn, 1, [0])]
noncomputable def cod_107 : List (List En) := [b_107_0, b_107_1, b_107_2, b_107_3, b_107_4]
/-- count, block 0 -/
noncomputable def b_108_0 : List En := [(0, .iload 1, 1, []), (1, .invokestatic 124, 3, [134, 1, 0, 84]), (4, .aload 0, 1, []), (5, .getfield 10, 3, [7, 0, 3, 31]), (8, .getfield 116, 3, [6, 2, 3, 43]), (11, .iload 1, 1, []), (12, .aaload, 1, []), (13, .invokevirtual 99, 3, [67, 1, 6, 77]), (16, .ireturn, 1, [0])]
noncomputable def cod_108 : List (List En) := [b_108_0]
/-- has, block 0 -/
noncomputable def b_110_0 : List En := [(0, .iload 1, 1, []), (1, .invokestatic 124, 3, [134, 1, 0, 84]), (4, .iload 2, 1, []), (5, .invokestatic 228, 3, [139, 1, 0, 111]), (8, .aload 0, 1, []), (9, .getfield 10, 3, [7, 0, 3, 31]), (12, .getfield 116, 3, [6, 2, 3, 43]), (15, .iload 1, 1, []), (16, .aaload, 1, []), (17, .iload 2, 1, []), (18, .invokevirtual 120, 3, [62, 2, 6, 83]), (21, .ireturn, 1, [1])]
noncomputable def cod_110 : List (List En) := [b_110_0]
/-- relation, block 0 -/
noncomputable def b_112_0 : List En := [(0, .iload 1, 1, []), (1, .invokestatic 124, 3, [134, 1, 0, 84]), (4, .iload 2, 1, []), (5, .invokestatic 124, 3, [134, 1, 0, 84]), (8, .aload 0, 1, []), (9, .getfield 10, 3, [7, 0, 3, 31]), (12, .getfield 116, 3, [6, 2, 3, 43]), (15, .iload 1, 1, []), (16, .aaload, 1, []), (17, .astore 3, 1, []), (18, .aload 0, 1, []), (19, .getfield 10, 3, [7, 0, 3, 31]), (22, .getfield 116, 3, [6, 2, 3, 43]), (25, .iload 2, 1, []), (26, .aaload, 1, []), (27, .astore 4, 2, []), (29, .aload 3, 1, []), (30, .aload 4, 2, []), (32, .invokevirtual 274, 3, [64, 2, 6, 115]), (35, .ifCond .eq 7, 3, [1]), (38, .iconst 1, 1, []), (39, .goto 4, 3, [2])]
/-- relation, block 1 -/
noncomputable def b_112_1 : List En := [(42, .iconst 0, 1, []), (43, .nop, 0, [2])]
/-- relation, block 2 -/
noncomputable def b_112_2 : List En := [(43, .aload 3, 1, []), (44, .aload 4, 2, []), (46, .invokevirtual 278, 3, [65, 2, 6, 116]), (49, .ifCond .eq 7, 3, [3]), (52, .iconst 2, 1, []), (53, .goto 4, 3, [4])]
/-- relation, block 3 -/
noncomputable def b_112_3 : List En := [(56, .iconst 0, 1, []), (57, .nop, 0, [4])]
/-- relation, block 4 -/
noncomputable def b_112_4 : List En := [(57, .iadd, 1, []), (58, .aload 3, 1, []), (59, .aload 4, 2, []), (61, .invokevirtual 281, 3, [66, 2, 6, 117]), (64, .ifCond .eq 7, 3, [5]), (67, .iconst 4, 1, []), (68, .goto 4, 3, [6])]
/-- relation, block 5 -/
noncomputable def b_112_5 : List En := [(71, .iconst 0, 1, []), (72, .nop, 0, [6])]
/-- relation, block 6 -/
noncomputable def b_112_6 : List En := [(72, .iadd, 1, []), (73, .ireturn, 1, [0])]
noncomputable def cod_112 : List (List En) := [b_112_0, b_112_1, b_112_2, b_112_3, b_112_4, b_112_5, b_112_6]
/-- union, block 0 -/
noncomputable def b_113_0 : List En := [(0, .iload 1, 1, []), (1, .invokestatic 124, 3, [134, 1, 0, 84]), (4, .iload 2, 1, []), (5, .invokestatic 124, 3, [134, 1, 0, 84]), (8, .iload 3, 1, []), (9, .invokestatic 124, 3, [134, 1, 0, 84]), (12, .aload 0, 1, []), (13, .getfield 10, 3, [7, 0, 3, 31]), (16, .getfield 116, 3, [6, 2, 3, 43]), (19, .iload 1, 1, []), (20, .aaload, 1, []), (21, .astore 4, 2, []), (23, .aload 0, 1, []), (24, .getfield 10, 3, [7, 0, 3, 31]), (27, .getfield 116, 3, [6, 2, 3, 43]), (30, .iload 2, 1, []), (31, .aaload, 1, []), (32, .astore 5, 2, []), (34, .aload 0, 1, []), (35, .getfield 10, 3, [7, 0, 3, 31]), (38, .getfield 116, 3, [6, 2, 3, 43]), (41, .iload 3, 1, []), (42, .aaload, 1, []), (43, .astore 6, 2, []), (45, .aload 0, 1, []), (46, .getfield 50, 3, [7, 6, 3, 37]), (49, .aload 4, 2, []), (51, .invokevirtual 149, 3, [53, 2, 6, 90]), (54, .aload 0, 1, []), (55, .getfield 50, 3, [7, 6, 3, 37]), (58, .aload 5, 2, []), (60, .invokevirtual 189, 3, [57, 2, 6, 99]), (63, .aload 4, 2, []), (65, .invokevirtual 99, 3, [67, 1, 6, 77]), (68, .aload 5, 2, []), (70, .invokevirtual 99, 3, [67, 1, 6, 77]), (73, .iadd, 1, []), (74, .aload 6, 2, []), (76, .invokevirtual 99, 3, [67, 1, 6, 77]), (79, .iadd, 1, []), (80, .aload 0, 1, []), (81, .getfield 50, 3, [7, 6, 3, 37]), (84, .invokevirtual 99, 3, [67, 1, 6, 77]), (87, .isub, 1, []), (88, .aload 4, 2, []), (90, .aload 6, 2, []), (92, .invokevirtual 284, 3, [68, 2, 6, 118]), (95, .isub, 1, []), (96, .aload 5, 2, []), (98, .aload 6, 2, []), (100, .invokevirtual 284, 3, [68, 2, 6, 118]), (103, .isub, 1, []), (104, .aload 0, 1, []), (105, .getfield 50, 3, [7, 6, 3, 37]), (108, .aload 6, 2, []), (110, .invokevirtual 284, 3, [68, 2, 6, 118]), (113, .iadd, 1, []), (114, .ireturn, 1, [0])]
noncomputable def cod_113 : List (List En) := [b_113_0]
/-- sum, block 0 -/
noncomputable def b_114_0 : List En := [(0, .iload 1, 1, []), (1, .invokestatic 124, 3, [134, 1, 0, 84]), (4, .iload 2, 1, []), (5, .invokestatic 105, 3, [133, 1, 0, 79]), (8, .aload 0, 1, []), (9, .getfield 25, 3, [7, 2, 3, 33]), (12, .iload 2, 1, []), (13, .aaload, 1, []), (14, .aload 0, 1, []), (15, .getfield 10, 3, [7, 0, 3, 31]), (18, .getfield 116, 3, [6, 2, 3, 43]), (21, .iload 1, 1, []), (22, .aaload, 1, []), (23, .invokevirtual 288, 3, [18, 2, 1, 119]), (26, .ireturn, 1, [0])]
noncomputable def cod_114 : List (List En) := [b_114_0]
/-- least, block 0 -/
noncomputable def b_115_0 : List En := [(0, .iload 1, 1, []), (1, .invokestatic 124, 3, [134, 1, 0, 84]), (4, .iload 2, 1, []), (5, .invokestatic 105, 3, [133, 1, 0, 79]), (8, .aload 0, 1, []), (9, .getfield 25, 3, [7, 2, 3, 33]), (12, .iload 2, 1, []), (13, .aaload, 1, []), (14, .aload 0, 1, []), (15, .getfield 10, 3, [7, 0, 3, 31]), (18, .getfield 116, 3, [6, 2, 3, 43]), (21, .iload 1, 1, []), (22, .aaload, 1, []), (23, .iload 3, 1, []), (24, .invokevirtual 291, 3, [20, 3, 1, 120]), (27, .ireturn, 1, [0])]
noncomputable def cod_115 : List (List En) := [b_115_0]
/-- middle, block 0 -/
noncomputable def b_116_0 : List En := [(0, .iload 1, 1, []), (1, .invokestatic 124, 3, [134, 1, 0, 84]), (4, .iload 2, 1, []), (5, .invokestatic 105, 3, [133, 1, 0, 79]), (8, .aload 0, 1, []), (9, .getfield 25, 3, [7, 2, 3, 33]), (12, .iload 2, 1, []), (13, .aaload, 1, []), (14, .getfield 260, 3, [0, 3, 3, 49]), (17, .aload 0, 1, []), (18, .getfield 10, 3, [7, 0, 3, 31]), (21, .getfield 116, 3, [6, 2, 3, 43]), (24, .iload 1, 1, []), (25, .aaload, 1, []), (26, .invokevirtual 284, 3, [68, 2, 6, 118]), (29, .istore 3, 1, []), (30, .iload 3, 1, []), (31, .ifCond .ne 8, 3, [1]), (34, .iconst 100, 2, []), (36, .goto 26, 3, [2])]
/-- middle, block 1 -/
noncomputable def b_116_1 : List En := [(39, .aload 0, 1, []), (40, .getfield 25, 3, [7, 2, 3, 33]), (43, .iload 2, 1, []), (44, .aaload, 1, []), (45, .aload 0, 1, []), (46, .getfield 10, 3, [7, 0, 3, 31]), (49, .getfield 116, 3, [6, 2, 3, 43]), (52, .iload 1, 1, []), (53, .aaload, 1, []), (54, .iload 3, 1, []), (55, .iconst 1, 1, []), (56, .isub, 1, []), (57, .iconst 2, 1, []), (58, .idiv, 1, []), (59, .invokevirtual 291, 3, [20, 3, 1, 120]), (62, .nop, 0, [2])]
/-- middle, block 2 -/
noncomputable def b_116_2 : List En := [(62, .ireturn, 1, [0])]
noncomputable def cod_116 : List (List En) := [b_116_0, b_116_1, b_116_2]
/-- top, block 0 -/
noncomputable def b_117_0 : List En := [(0, .iload 1, 1, []), (1, .invokestatic 124, 3, [134, 1, 0, 84]), (4, .iload 2, 1, []), (5, .invokestatic 105, 3, [133, 1, 0, 79]), (8, .aload 0, 1, []), (9, .getfield 25, 3, [7, 2, 3, 33]), (12, .iload 2, 1, []), (13, .aaload, 1, []), (14, .aload 0, 1, []), (15, .getfield 10, 3, [7, 0, 3, 31]), (18, .getfield 116, 3, [6, 2, 3, 43]), (21, .iload 1, 1, []), (22, .aaload, 1, []), (23, .iload 3, 1, []), (24, .invokevirtual 295, 3, [21, 3, 1, 121]), (27, .ireturn, 1, [0])]
noncomputable def cod_117 : List (List En) := [b_117_0]
/-- unlike, block 0 -/
noncomputable def b_118_0 : List En := [(0, .iload 1, 1, []), (1, .invokestatic 124, 3, [134, 1, 0, 84]), (4, .iload 2, 1, []), (5, .invokestatic 105, 3, [133, 1, 0, 79]), (8, .aload 0, 1, []), (9, .getfield 25, 3, [7, 2, 3, 33]), (12, .iload 2, 1, []), (13, .aaload, 1, []), (14, .aload 0, 1, []), (15, .getfield 10, 3, [7, 0, 3, 31]), (18, .getfield 116, 3, [6, 2, 3, 43]), (21, .iload 1, 1, []), (22, .aaload, 1, []), (23, .invokevirtual 298, 3, [22, 2, 1, 122]), (26, .ireturn, 1, [0])]
noncomputable def cod_118 : List (List En) := [b_118_0]
/-- join, block 0 -/
noncomputable def b_119_0 : List En := [(0, .iload 1, 1, []), (1, .iload 2, 1, []), (2, .iload 3, 1, []), (3, .iload 4, 2, []), (5, .invokestatic 163, 3, [137, 4, 0, 94]), (8, .aload 0, 1, []), (9, .getfield 25, 3, [7, 2, 3, 33]), (12, .iload 1, 1, []), (13, .aaload, 1, []), (14, .aload 0, 1, []), (15, .getfield 10, 3, [7, 0, 3, 31]), (18, .getfield 116, 3, [6, 2, 3, 43]), (21, .iload 2, 1, []), (22, .aaload, 1, []), (23, .aload 0, 1, []), (24, .getfield 25, 3, [7, 2, 3, 33]), (27, .iload 3, 1, []), (28, .aaload, 1, []), (29, .aload 0, 1, []), (30, .getfield 10, 3, [7, 0, 3, 31]), (33, .getfield 116, 3, [6, 2, 3, 43]), (36, .iload 4, 2, []), (38, .aaload, 1, []), (39, .invokevirtual 301, 3, [23, 4, 1, 123]), (42, .ireturn, 1, [0])]
noncomputable def cod_119 : List (List En) := [b_119_0]
/-- rollup, block 0 -/
noncomputable def b_120_0 : List En := [(0, .iload 1, 1, []), (1, .invokestatic 124, 3, [134, 1, 0, 84]), (4, .iload 2, 1, []), (5, .iconst 1, 1, []), (6, .iconst 15, 2, []), (8, .invokestatic 86, 3, [140, 3, 0, 70]), (11, .aload 0, 1, []), (12, .getfield 32, 3, [7, 3, 3, 34]), (15, .aload 0, 1, []), (16, .getfield 10, 3, [7, 0, 3, 31]), (19, .getfield 116, 3, [6, 2, 3, 43]), (22, .iload 1, 1, []), (23, .aaload, 1, []), (24, .aload 0, 1, []), (25, .getfield 25, 3, [7, 2, 3, 33]), (28, .iload 2, 1, []), (29, .invokevirtual 305, 3, [38, 4, 4, 124]), (32, .aload 0, 1, []), (33, .getfield 32, 3, [7, 3, 3, 34]), (36, .getfield 309, 3, [3, 6, 1, 50]), (39, .ireturn, 1, [0])]
noncomputable def cod_120 : List (List En) := [b_120_0]
/-- groupAt, block 0 -/
noncomputable def b_121_0 : List En := [(0, .iload 1, 1, []), (1, .aload 0, 1, []), (2, .getfield 32, 3, [7, 3, 3, 34]), (5, .getfield 309, 3, [3, 6, 1, 50]), (8, .invokestatic 312, 3, [132, 2, 0, 125]), (11, .iload 2, 1, []), (12, .iconst 0, 1, []), (13, .iconst 4, 1, []), (14, .invokestatic 86, 3, [140, 3, 0, 70]), (17, .aload 0, 1, []), (18, .getfield 32, 3, [7, 3, 3, 34]), (21, .iload 1, 1, []), (22, .iload 2, 1, []), (23, .invokevirtual 316, 3, [37, 3, 4, 126]), (26, .ireturn, 1, [0])]
noncomputable def cod_121 : List (List En) := [b_121_0]
/-- runAt, block 0 -/
noncomputable def b_123_0 : List En := [(0, .iload 1, 1, []), (1, .invokestatic 192, 3, [135, 1, 0, 100]), (4, .iload 2, 1, []), (5, .aload 0, 1, []), (6, .iload 1, 1, []), (7, .invokevirtual 198, 3, [149, 2, 8, 101]), (10, .invokestatic 312, 3, [132, 2, 0, 125]), (13, .aload 0, 1, []), (14, .getfield 50, 3, [7, 6, 3, 37]), (17, .aload 0, 1, []), (18, .getfield 10, 3, [7, 0, 3, 31]), (21, .getfield 195, 3, [6, 3, 3, 46]), (24, .iload 1, 1, []), (25, .aaload, 1, []), (26, .invokevirtual 317, 3, [54, 2, 6, 127]), (29, .aload 0, 1, []), (30, .getfield 50, 3, [7, 6, 3, 37]), (33, .iload 2, 1, []), (34, .invokevirtual 160, 3, [70, 2, 6, 93]), (37, .istore 4, 2, []), (39, .iload 3, 1, []), (40, .ifCond .ne 6, 3, [1]), (43, .iload 4, 2, []), (45, .ireturn, 1, [0])]
/-- runAt, block 1 -/
noncomputable def b_123_1 : List En := [(46, .aload 0, 1, []), (47, .getfield 50, 3, [7, 6, 3, 37]), (50, .aload 0, 1, []), (51, .getfield 10, 3, [7, 0, 3, 31]), (54, .getfield 195, 3, [6, 3, 3, 46]), (57, .iload 1, 1, []), (58, .aaload, 1, []), (59, .invokevirtual 320, 3, [55, 2, 6, 128]), (62, .aload 0, 1, []), (63, .getfield 50, 3, [7, 6, 3, 37]), (66, .iload 2, 1, []), (67, .invokevirtual 160, 3, [70, 2, 6, 93]), (70, .iload 4, 2, []), (72, .isub, 1, []), (73, .iconst 1, 1, []), (74, .iadd, 1, []), (75, .ireturn, 1, [0])]
noncomputable def cod_123 : List (List En) := [b_123_0, b_123_1]
/-- hasPacked, block 0 -/
noncomputable def b_124_0 : List En := [(0, .iload 1, 1, []), (1, .invokestatic 192, 3, [135, 1, 0, 100]), (4, .aload 0, 1, []), (5, .getfield 10, 3, [7, 0, 3, 31]), (8, .getfield 195, 3, [6, 3, 3, 46]), (11, .iload 1, 1, []), (12, .aaload, 1, []), (13, .iload 2, 1, []), (14, .invokevirtual 120, 3, [62, 2, 6, 83]), (17, .ireturn, 1, [1])]
noncomputable def cod_124 : List (List En) := [b_124_0]
/-- conditionAt, block 0 -/
noncomputable def b_126_0 : List En := [(0, .aload 0, 1, []), (1, .iload 1, 1, []), (2, .invokevirtual 212, 3, [136, 2, 8, 105]), (5, .iload 2, 1, []), (6, .iconst 0, 1, []), (7, .iconst 5, 1, []), (8, .invokestatic 86, 3, [140, 3, 0, 70]), (11, .aload 0, 1, []), (12, .getfield 10, 3, [7, 0, 3, 31]), (15, .getfield 181, 3, [6, 4, 3, 45]), (18, .iload 1, 1, []), (19, .aaload, 1, []), (20, .astore 3, 1, []), (21, .iload 2, 1, []), (22, .tableswitch 83 0 4 #[34, 39, 44, 49, 62], 34, [6, 1, 2, 3, 4, 5])]
/-- conditionAt, block 1 -/
noncomputable def b_126_1 : List En := [(56, .aload 3, 1, []), (57, .getfield 323, 3, [1, 0, 1, 51]), (60, .ireturn, 1, [0])]
/-- conditionAt, block 2 -/
noncomputable def b_126_2 : List En := [(61, .aload 3, 1, []), (62, .getfield 326, 3, [1, 1, 1, 52]), (65, .ireturn, 1, [0])]
/-- conditionAt, block 3 -/
noncomputable def b_126_3 : List En := [(66, .aload 3, 1, []), (67, .getfield 329, 3, [1, 2, 1, 53]), (70, .ireturn, 1, [0])]
/-- conditionAt, block 4 -/
noncomputable def b_126_4 : List En := [(71, .aload 0, 1, []), (72, .aload 3, 1, []), (73, .invokevirtual 185, 3, [150, 2, 8, 98]), (76, .aload 0, 1, []), (77, .getfield 54, 3, [7, 7, 3, 38]), (80, .invokevirtual 99, 3, [67, 1, 6, 77]), (83, .ireturn, 1, [0])]
/-- conditionAt, block 5 -/
noncomputable def b_126_5 : List En := [(84, .aload 0, 1, []), (85, .getfield 25, 3, [7, 2, 3, 33]), (88, .aload 3, 1, []), (89, .getfield 323, 3, [1, 0, 1, 51]), (92, .aaload, 1, []), (93, .aload 3, 1, []), (94, .getfield 326, 3, [1, 1, 1, 52]), (97, .aload 3, 1, []), (98, .getfield 329, 3, [1, 2, 1, 53]), (101, .invokevirtual 332, 3, [26, 3, 1, 129]), (104, .ireturn, 1, [0])]
/-- conditionAt, block 6 -/
noncomputable def b_126_6 : List En := [(105, .aload 0, 1, []), (106, .invokevirtual 171, 3, [151, 1, 8, 96]), (109, .aload 0, 1, []), (110, .iload 1, 1, []), (111, .invokevirtual 178, 3, [152, 2, 8, 97]), (114, .ireturn, 1, [0])]
noncomputable def cod_126 : List (List En) := [b_126_0, b_126_1, b_126_2, b_126_3, b_126_4, b_126_5, b_126_6]
/-- cost, block 0 -/
noncomputable def b_127_0 : List En := [(0, .aload 0, 1, []), (1, .iload 1, 1, []), (2, .invokevirtual 212, 3, [136, 2, 8, 105]), (5, .iload 2, 1, []), (6, .iconst 0, 1, []), (7, .iconst 2, 1, []), (8, .invokestatic 86, 3, [140, 3, 0, 70]), (11, .aload 0, 1, []), (12, .getfield 10, 3, [7, 0, 3, 31]), (15, .getfield 181, 3, [6, 4, 3, 45]), (18, .iload 1, 1, []), (19, .aaload, 1, []), (20, .astore 3, 1, []), (21, .aload 0, 1, []), (22, .getfield 25, 3, [7, 2, 3, 33]), (25, .aload 3, 1, []), (26, .getfield 323, 3, [1, 0, 1, 51]), (29, .aaload, 1, []), (30, .aload 3, 1, []), (31, .getfield 326, 3, [1, 1, 1, 52]), (34, .aload 3, 1, []), (35, .getfield 329, 3, [1, 2, 1, 53]), (38, .iload 2, 1, []), (39, .invokevirtual 335, 3, [25, 4, 1, 130]), (42, .ireturn, 1, [0])]
noncomputable def cod_127 : List (List En) := [b_127_0]
/-- planCost, block 0 -/
noncomputable def b_128_0 : List En := [(0, .iconst 0, 1, []), (1, .istore 1, 1, []), (2, .iconst 0, 1, []), (3, .istore 2, 1, []), (4, .nop, 0, [1])]
/-- planCost, block 1 -/
noncomputable def b_128_1 : List En := [(4, .iload 2, 1, []), (5, .aload 0, 1, []), (6, .getfield 10, 3, [7, 0, 3, 31]), (9, .getfield 174, 3, [6, 5, 1, 44]), (12, .if_icmp .ge 63, 3, [2]), (15, .aload 0, 1, []), (16, .getfield 10, 3, [7, 0, 3, 31]), (19, .getfield 181, 3, [6, 4, 3, 45]), (22, .iload 2, 1, []), (23, .aaload, 1, []), (24, .astore 3, 1, []), (25, .aload 0, 1, []), (26, .getfield 25, 3, [7, 2, 3, 33]), (29, .aload 3, 1, []), (30, .getfield 323, 3, [1, 0, 1, 51]), (33, .aaload, 1, []), (34, .astore 4, 2, []), (36, .aload 4, 2, []), (38, .aload 3, 1, []), (39, .getfield 326, 3, [1, 1, 1, 52]), (42, .aload 3, 1, []), (43, .getfield 329, 3, [1, 2, 1, 53]), (46, .invokevirtual 332, 3, [26, 3, 1, 129]), (49, .istore 5, 2, []), (51, .iload 1, 1, []), (52, .aload 4, 2, []), (54, .aload 3, 1, []), (55, .getfield 326, 3, [1, 1, 1, 52]), (58, .aload 3, 1, []), (59, .getfield 329, 3, [1, 2, 1, 53]), (62, .iload 5, 2, []), (64, .invokevirtual 335, 3, [25, 4, 1, 130]), (67, .iadd, 1, []), (68, .istore 1, 1, []), (69, .iinc 2 1, 3, []), (72, .goto (-68), 3, [1])]
/-- planCost, block 2 -/
noncomputable def b_128_2 : List En := [(75, .aload 0, 1, []), (76, .getfield 10, 3, [7, 0, 3, 31]), (79, .getfield 174, 3, [6, 5, 1, 44]), (82, .ifCond .ne 7, 3, [3]), (85, .iconst 0, 1, []), (86, .goto 14, 3, [4])]
/-- planCost, block 3 -/
noncomputable def b_128_3 : List En := [(89, .iload 1, 1, []), (90, .aload 0, 1, []), (91, .getfield 10, 3, [7, 0, 3, 31]), (94, .getfield 174, 3, [6, 5, 1, 44]), (97, .iadd, 1, []), (98, .iconst 1, 1, []), (99, .isub, 1, []), (100, .nop, 0, [4])]
/-- planCost, block 4 -/
noncomputable def b_128_4 : List En := [(100, .ireturn, 1, [0])]
noncomputable def cod_128 : List (List En) := [b_128_0, b_128_1, b_128_2, b_128_3, b_128_4]
/-- mean, block 0 -/
noncomputable def b_129_0 : List En := [(0, .iload 1, 1, []), (1, .invokestatic 124, 3, [134, 1, 0, 84]), (4, .iload 2, 1, []), (5, .invokestatic 105, 3, [133, 1, 0, 79]), (8, .aload 0, 1, []), (9, .getfield 25, 3, [7, 2, 3, 33]), (12, .iload 2, 1, []), (13, .aaload, 1, []), (14, .getfield 260, 3, [0, 3, 3, 49]), (17, .aload 0, 1, []), (18, .getfield 10, 3, [7, 0, 3, 31]), (21, .getfield 116, 3, [6, 2, 3, 43]), (24, .iload 1, 1, []), (25, .aaload, 1, []), (26, .invokevirtual 284, 3, [68, 2, 6, 118]), (29, .istore 3, 1, []), (30, .iload 3, 1, []), (31, .ifCond .ne 5, 3, [1]), (34, .dconst 0, 1, []), (35, .dreturn, 1, [])]
/-- mean, block 1 -/
noncomputable def b_129_1 : List En := [(36, .aload 0, 1, []), (37, .getfield 25, 3, [7, 2, 3, 33]), (40, .iload 2, 1, []), (41, .aaload, 1, []), (42, .aload 0, 1, []), (43, .getfield 10, 3, [7, 0, 3, 31]), (46, .getfield 116, 3, [6, 2, 3, 43]), (49, .iload 1, 1, []), (50, .aaload, 1, []), (51, .invokevirtual 288, 3, [18, 2, 1, 119]), (54, .i2d, 1, []), (55, .iload 3, 1, []), (56, .i2d, 1, []), (57, .ddiv, 1, []), (58, .dreturn, 1, [])]
noncomputable def cod_129 : List (List En) := [b_129_0, b_129_1]
/-- errors, block 0 -/
noncomputable def b_131_0 : List En := [(0, .iconst 0, 1, []), (1, .istore 1, 1, []), (2, .iconst 0, 1, []), (3, .istore 2, 1, []), (4, .nop, 0, [1])]
/-- errors, block 1 -/
noncomputable def b_131_1 : List En := [(4, .iload 2, 1, []), (5, .iconst 4, 1, []), (6, .if_icmp .ge 76, 3, [7]), (9, .getstatic 339, 3, []), (12, .astore 3, 1, []), (13, .aload 3, 1, []), (14, .arraylength, 1, []), (15, .istore 4, 2, []), (17, .iconst 0, 1, []), (18, .istore 5, 2, []), (20, .nop, 0, [2])]
/-- errors, block 2 -/
noncomputable def b_131_2 : List En := [(20, .iload 5, 2, []), (22, .iload 4, 2, []), (24, .if_icmp .ge 52, 3, [6]), (27, .aload 3, 1, []), (28, .iload 5, 2, []), (30, .iaload, 1, []), (31, .istore 6, 2, []), (33, .aload 0, 1, []), (34, .iload 2, 1, []), (35, .iload 6, 2, []), (37, .invokevirtual 342, 3, [153, 3, 8, 131]), (40, .iconst 0, 1, []), (41, .istore 7, 2, []), (43, .nop, 0, [3])]
/-- errors, block 3 -/
noncomputable def b_131_3 : List En := [(43, .iload 7, 2, []), (45, .iconst 5, 1, []), (46, .if_icmp .gt 24, 3, [5]), (49, .aload 0, 1, []), (50, .iload 2, 1, []), (51, .iload 7, 2, []), (53, .iload 6, 2, []), (55, .invokevirtual 345, 3, [154, 4, 8, 132]), (58, .ifCond .eq 6, 3, [4]), (61, .iinc 1 1, 3, []), (64, .nop, 0, [4])]
/-- errors, block 4 -/
noncomputable def b_131_4 : List En := [(64, .iinc 7 1, 3, []), (67, .goto (-24), 3, [3])]
/-- errors, block 5 -/
noncomputable def b_131_5 : List En := [(70, .iinc 5 1, 3, []), (73, .goto (-53), 3, [2])]
/-- errors, block 6 -/
noncomputable def b_131_6 : List En := [(76, .iinc 2 1, 3, []), (79, .goto (-75), 3, [1])]
/-- errors, block 7 -/
noncomputable def b_131_7 : List En := [(82, .iload 1, 1, []), (83, .ireturn, 1, [0])]
noncomputable def cod_131 : List (List En) := [b_131_0, b_131_1, b_131_2, b_131_3, b_131_4, b_131_5, b_131_6, b_131_7]
/-- needIndex, block 0 -/
noncomputable def b_132_0 : List En := [(0, .iload 0, 1, []), (1, .ifCond .lt 8, 3, [1]), (4, .iload 0, 1, []), (5, .iload 1, 1, []), (6, .if_icmp .lt 14, 3, [2]), (9, .nop, 0, [1])]
/-- needIndex, block 1 -/
noncomputable def b_132_1 : List En := [(9, .athrow, 0, [1, 0])]
/-- needIndex, block 2 -/
noncomputable def b_132_2 : List En := [(20, .return_, 1, [])]
noncomputable def cod_132 : List (List En) := [b_132_0, b_132_1, b_132_2]
/-- needColumn, block 0 -/
noncomputable def b_133_0 : List En := [(0, .iload 0, 1, []), (1, .iconst 4, 1, []), (2, .invokestatic 312, 3, [132, 2, 0, 125]), (5, .return_, 1, [])]
noncomputable def cod_133 : List (List En) := [b_133_0]
/-- needFilter, block 0 -/
noncomputable def b_134_0 : List En := [(0, .iload 0, 1, []), (1, .iconst 8, 2, []), (3, .invokestatic 312, 3, [132, 2, 0, 125]), (6, .return_, 1, [])]
noncomputable def cod_134 : List (List En) := [b_134_0]
/-- needPacked, block 0 -/
noncomputable def b_135_0 : List En := [(0, .iload 0, 1, []), (1, .iconst 4, 1, []), (2, .invokestatic 312, 3, [132, 2, 0, 125]), (5, .return_, 1, [])]
noncomputable def cod_135 : List (List En) := [b_135_0]
/-- needCondition, block 0 -/
noncomputable def b_136_0 : List En := [(0, .iload 1, 1, []), (1, .aload 0, 1, []), (2, .getfield 10, 3, [7, 0, 3, 31]), (5, .getfield 174, 3, [6, 5, 1, 44]), (8, .invokestatic 312, 3, [132, 2, 0, 125]), (11, .return_, 1, [])]
noncomputable def cod_136 : List (List En) := [b_136_0]
/-- needJoin, block 0 -/
noncomputable def b_137_0 : List En := [(0, .iload 0, 1, []), (1, .invokestatic 105, 3, [133, 1, 0, 79]), (4, .iload 1, 1, []), (5, .invokestatic 124, 3, [134, 1, 0, 84]), (8, .iload 2, 1, []), (9, .invokestatic 105, 3, [133, 1, 0, 79]), (12, .iload 3, 1, []), (13, .invokestatic 124, 3, [134, 1, 0, 84]), (16, .return_, 1, [])]
noncomputable def cod_137 : List (List En) := [b_137_0]
/-- needRow, block 0 -/
noncomputable def b_138_0 : List En := [(0, .aload 0, 1, []), (1, .getfield 10, 3, [7, 0, 3, 31]), (4, .getfield 96, 3, [6, 0, 3, 42]), (7, .iload 1, 1, []), (8, .invokevirtual 120, 3, [62, 2, 6, 83]), (11, .ifCond .ne 14, 3, [1]), (14, .athrow, 0, [1, 1])]
/-- needRow, block 1 -/
noncomputable def b_138_1 : List En := [(25, .return_, 1, [])]
noncomputable def cod_138 : List (List En) := [b_138_0, b_138_1]
/-- needNotBelowZero, block 0 -/
noncomputable def b_139_0 : List En := [(0, .iload 0, 1, []), (1, .ifCond .ge 14, 3, [1]), (4, .athrow, 0, [1, 2])]
/-- needNotBelowZero, block 1 -/
noncomputable def b_139_1 : List En := [(15, .return_, 1, [])]
noncomputable def cod_139 : List (List En) := [b_139_0, b_139_1]
/-- needArgument, block 0 -/
noncomputable def b_140_0 : List En := [(0, .iload 0, 1, []), (1, .iload 1, 1, []), (2, .if_icmp .lt 8, 3, [1]), (5, .iload 0, 1, []), (6, .iload 2, 1, []), (7, .if_icmp .le 14, 3, [2]), (10, .nop, 0, [1])]
/-- needArgument, block 1 -/
noncomputable def b_140_1 : List En := [(10, .athrow, 0, [2, 3])]
/-- needArgument, block 2 -/
noncomputable def b_140_2 : List En := [(21, .return_, 1, [])]
noncomputable def cod_140 : List (List En) := [b_140_0, b_140_1, b_140_2]
/-- needValue, block 0 -/
noncomputable def b_141_0 : List En := [(0, .iload 0, 1, []), (1, .iconst (-64), 2, []), (3, .iconst 63, 2, []), (5, .invokestatic 86, 3, [140, 3, 0, 70]), (8, .return_, 1, [])]
noncomputable def cod_141 : List (List En) := [b_141_0]
/-- needCell, block 0 -/
noncomputable def b_142_0 : List En := [(0, .iload 0, 1, []), (1, .iconst 100, 2, []), (3, .if_icmp .eq 7, 3, [1]), (6, .iload 0, 1, []), (7, .invokestatic 127, 3, [141, 1, 0, 85]), (10, .nop, 0, [1])]
/-- needCell, block 1 -/
noncomputable def b_142_1 : List En := [(10, .return_, 1, [])]
noncomputable def cod_142 : List (List En) := [b_142_0, b_142_1]
/-- needFreeRows, block 0 -/
noncomputable def b_143_0 : List En := [(0, .aload 0, 1, []), (1, .getfield 10, 3, [7, 0, 3, 31]), (4, .getfield 96, 3, [6, 0, 3, 42]), (7, .invokevirtual 99, 3, [67, 1, 6, 77]), (10, .iload 1, 1, []), (11, .iadd, 1, []), (12, .iconst 120, 2, []), (14, .if_icmp .le 14, 3, [1]), (17, .athrow, 0, [3, 4])]
/-- needFreeRows, block 1 -/
noncomputable def b_143_1 : List En := [(28, .return_, 1, [])]
noncomputable def cod_143 : List (List En) := [b_143_0, b_143_1]
/-- needFreeCondition, block 0 -/
noncomputable def b_144_0 : List En := [(0, .aload 0, 1, []), (1, .getfield 10, 3, [7, 0, 3, 31]), (4, .getfield 174, 3, [6, 5, 1, 44]), (7, .iconst 4, 1, []), (8, .if_icmp .lt 14, 3, [1]), (11, .athrow, 0, [3, 5])]
/-- needFreeCondition, block 1 -/
noncomputable def b_144_1 : List En := [(22, .return_, 1, [])]
noncomputable def cod_144 : List (List En) := [b_144_0, b_144_1]
/-- needChange, block 0 -/
noncomputable def b_145_0 : List En := [(0, .aload 0, 1, []), (1, .getfield 19, 3, [7, 1, 3, 32]), (4, .invokevirtual 227, 3, [46, 1, 5, 110]), (7, .ifCond .ne 14, 3, [1]), (10, .athrow, 0, [3, 6])]
/-- needChange, block 1 -/
noncomputable def b_145_1 : List En := [(21, .return_, 1, [])]
noncomputable def cod_145 : List (List En) := [b_145_0, b_145_1]
/-- newRow, block 0 -/
noncomputable def b_146_0 : List En := [(0, .aload 0, 1, []), (1, .getfield 50, 3, [7, 6, 3, 37]), (4, .invokevirtual 201, 3, [52, 1, 6, 102]), (7, .aload 0, 1, []), (8, .getfield 50, 3, [7, 6, 3, 37]), (11, .aload 0, 1, []), (12, .getfield 10, 3, [7, 0, 3, 31]), (15, .getfield 96, 3, [6, 0, 3, 42]), (18, .invokevirtual 153, 3, [59, 2, 6, 91]), (21, .aload 0, 1, []), (22, .getfield 50, 3, [7, 6, 3, 37]), (25, .iconst 0, 1, []), (26, .invokevirtual 231, 3, [71, 2, 6, 112]), (29, .istore 1, 1, []), (30, .aload 0, 1, []), (31, .getfield 10, 3, [7, 0, 3, 31]), (34, .getfield 96, 3, [6, 0, 3, 42]), (37, .iload 1, 1, []), (38, .iconst 1, 1, []), (39, .invokevirtual 112, 3, [56, 3, 6, 82]), (42, .iload 1, 1, []), (43, .ireturn, 1, [0])]
noncomputable def cod_146 : List (List En) := [b_146_0]
/-- setCell, block 0 -/
noncomputable def b_147_0 : List En := [(0, .aload 0, 1, []), (1, .getfield 25, 3, [7, 2, 3, 33]), (4, .iload 2, 1, []), (5, .aaload, 1, []), (6, .iload 1, 1, []), (7, .aload 0, 1, []), (8, .getfield 10, 3, [7, 0, 3, 31]), (11, .iload 1, 1, []), (12, .iload 2, 1, []), (13, .invokevirtual 108, 3, [76, 3, 7, 81]), (16, .iload 3, 1, []), (17, .invokevirtual 369, 3, [1, 4, 1, 133]), (20, .aload 0, 1, []), (21, .getfield 10, 3, [7, 0, 3, 31]), (24, .iload 1, 1, []), (25, .iload 2, 1, []), (26, .iload 3, 1, []), (27, .invokevirtual 372, 3, [77, 4, 7, 134]), (30, .return_, 1, [])]
noncomputable def cod_147 : List (List En) := [b_147_0]
/-- bringBack, block 0 -/
noncomputable def b_148_0 : List En := [(0, .iconst 0, 1, []), (1, .istore 2, 1, []), (2, .nop, 0, [1])]
/-- bringBack, block 1 -/
noncomputable def b_148_1 : List En := [(2, .iload 2, 1, []), (3, .iconst 120, 2, []), (5, .if_icmp .ge 52, 3, [5]), (8, .iconst 0, 1, []), (9, .istore 3, 1, []), (10, .nop, 0, [2])]
/-- bringBack, block 2 -/
noncomputable def b_148_2 : List En := [(10, .iload 3, 1, []), (11, .iconst 4, 1, []), (12, .if_icmp .ge 39, 3, [4]), (15, .aload 1, 1, []), (16, .iload 2, 1, []), (17, .iload 3, 1, []), (18, .invokevirtual 108, 3, [76, 3, 7, 81]), (21, .istore 4, 2, []), (23, .iload 4, 2, []), (25, .aload 0, 1, []), (26, .getfield 10, 3, [7, 0, 3, 31]), (29, .iload 2, 1, []), (30, .iload 3, 1, []), (31, .invokevirtual 108, 3, [76, 3, 7, 81]), (34, .if_icmp .eq 11, 3, [3]), (37, .aload 0, 1, []), (38, .iload 2, 1, []), (39, .iload 3, 1, []), (40, .iload 4, 2, []), (42, .invokevirtual 82, 3, [147, 4, 8, 76]), (45, .nop, 0, [3])]
/-- bringBack, block 3 -/
noncomputable def b_148_3 : List En := [(45, .iinc 3 1, 3, []), (48, .goto (-38), 3, [2])]
/-- bringBack, block 4 -/
noncomputable def b_148_4 : List En := [(51, .iinc 2 1, 3, []), (54, .goto (-52), 3, [1])]
/-- bringBack, block 5 -/
noncomputable def b_148_5 : List En := [(57, .aload 0, 1, []), (58, .getfield 10, 3, [7, 0, 3, 31]), (61, .aload 1, 1, []), (62, .invokevirtual 373, 3, [78, 2, 7, 135]), (65, .return_, 1, [])]
noncomputable def cod_148 : List (List En) := [b_148_0, b_148_1, b_148_2, b_148_3, b_148_4, b_148_5]
/-- runsOf, block 0 -/
noncomputable def b_149_0 : List En := [(0, .aload 0, 1, []), (1, .getfield 50, 3, [7, 6, 3, 37]), (4, .aload 0, 1, []), (5, .getfield 10, 3, [7, 0, 3, 31]), (8, .getfield 195, 3, [6, 3, 3, 46]), (11, .iload 1, 1, []), (12, .aaload, 1, []), (13, .invokevirtual 317, 3, [54, 2, 6, 127]), (16, .aload 0, 1, []), (17, .getfield 50, 3, [7, 6, 3, 37]), (20, .invokevirtual 99, 3, [67, 1, 6, 77]), (23, .ireturn, 1, [0])]
noncomputable def cod_149 : List (List En) := [b_149_0]
/-- tellCondition, block 0 -/
noncomputable def b_150_0 : List En := [(0, .aload 0, 1, []), (1, .getfield 25, 3, [7, 2, 3, 33]), (4, .aload 1, 1, []), (5, .getfield 323, 3, [1, 0, 1, 51]), (8, .aaload, 1, []), (9, .astore 2, 1, []), (10, .aload 2, 1, []), (11, .aload 1, 1, []), (12, .getfield 326, 3, [1, 1, 1, 52]), (15, .aload 1, 1, []), (16, .getfield 329, 3, [1, 2, 1, 53]), (19, .invokevirtual 332, 3, [26, 3, 1, 129]), (22, .istore 3, 1, []), (23, .aload 2, 1, []), (24, .aload 1, 1, []), (25, .getfield 326, 3, [1, 1, 1, 52]), (28, .aload 1, 1, []), (29, .getfield 329, 3, [1, 2, 1, 53]), (32, .iload 3, 1, []), (33, .aload 0, 1, []), (34, .getfield 10, 3, [7, 0, 3, 31]), (37, .getfield 96, 3, [6, 0, 3, 42]), (40, .aload 0, 1, []), (41, .getfield 54, 3, [7, 7, 3, 38]), (44, .invokevirtual 130, 3, [12, 6, 1, 86]), (47, .return_, 1, [])]
noncomputable def cod_150 : List (List En) := [b_150_0]
/-- countSatisfying, block 0 -/
noncomputable def b_151_0 : List En := [(0, .iconst 0, 1, []), (1, .istore 1, 1, []), (2, .nop, 0, [1])]
/-- countSatisfying, block 1 -/
noncomputable def b_151_1 : List En := [(2, .iload 1, 1, []), (3, .aload 0, 1, []), (4, .getfield 10, 3, [7, 0, 3, 31]), (7, .getfield 174, 3, [6, 5, 1, 44]), (10, .if_icmp .ge 35, 3, [2]), (13, .aload 0, 1, []), (14, .aload 0, 1, []), (15, .getfield 10, 3, [7, 0, 3, 31]), (18, .getfield 181, 3, [6, 4, 3, 45]), (21, .iload 1, 1, []), (22, .aaload, 1, []), (23, .invokevirtual 185, 3, [150, 2, 8, 98]), (26, .aload 0, 1, []), (27, .getfield 43, 3, [7, 5, 3, 36]), (30, .iload 1, 1, []), (31, .aload 0, 1, []), (32, .getfield 54, 3, [7, 7, 3, 38]), (35, .invokevirtual 99, 3, [67, 1, 6, 77]), (38, .iastore, 1, []), (39, .iinc 1 1, 3, []), (42, .goto (-40), 3, [1])]
/-- countSatisfying, block 2 -/
noncomputable def b_151_2 : List En := [(45, .return_, 1, [])]
noncomputable def cod_151 : List (List En) := [b_151_0, b_151_1, b_151_2]
/-- placeOf, block 0 -/
noncomputable def b_152_0 : List En := [(0, .iconst 0, 1, []), (1, .istore 2, 1, []), (2, .iconst 0, 1, []), (3, .istore 3, 1, []), (4, .nop, 0, [1])]
/-- placeOf, block 1 -/
noncomputable def b_152_1 : List En := [(4, .iload 3, 1, []), (5, .aload 0, 1, []), (6, .getfield 10, 3, [7, 0, 3, 31]), (9, .getfield 174, 3, [6, 5, 1, 44]), (12, .if_icmp .ge 71, 3, [8]), (15, .aload 0, 1, []), (16, .getfield 43, 3, [7, 5, 3, 36]), (19, .iload 3, 1, []), (20, .iaload, 1, []), (21, .aload 0, 1, []), (22, .getfield 43, 3, [7, 5, 3, 36]), (25, .iload 1, 1, []), (26, .iaload, 1, []), (27, .if_icmp .ge 7, 3, [2]), (30, .iconst 1, 1, []), (31, .goto 4, 3, [3])]
/-- placeOf, block 2 -/
noncomputable def b_152_2 : List En := [(34, .iconst 0, 1, []), (35, .nop, 0, [3])]
/-- placeOf, block 3 -/
noncomputable def b_152_3 : List En := [(35, .istore 4, 2, []), (37, .aload 0, 1, []), (38, .getfield 43, 3, [7, 5, 3, 36]), (41, .iload 3, 1, []), (42, .iaload, 1, []), (43, .aload 0, 1, []), (44, .getfield 43, 3, [7, 5, 3, 36]), (47, .iload 1, 1, []), (48, .iaload, 1, []), (49, .if_icmp .ne 7, 3, [4]), (52, .iconst 1, 1, []), (53, .goto 4, 3, [5])]
/-- placeOf, block 4 -/
noncomputable def b_152_4 : List En := [(56, .iconst 0, 1, []), (57, .nop, 0, [5])]
/-- placeOf, block 5 -/
noncomputable def b_152_5 : List En := [(57, .istore 5, 2, []), (59, .iload 4, 2, []), (61, .ifCond .ne 13, 3, [6]), (64, .iload 5, 2, []), (66, .ifCond .eq 11, 3, [7]), (69, .iload 3, 1, []), (70, .iload 1, 1, []), (71, .if_icmp .ge 6, 3, [7]), (74, .nop, 0, [6])]
/-- placeOf, block 6 -/
noncomputable def b_152_6 : List En := [(74, .iinc 2 1, 3, []), (77, .nop, 0, [7])]
/-- placeOf, block 7 -/
noncomputable def b_152_7 : List En := [(77, .iinc 3 1, 3, []), (80, .goto (-76), 3, [1])]
/-- placeOf, block 8 -/
noncomputable def b_152_8 : List En := [(83, .iload 2, 1, []), (84, .ireturn, 1, [0])]
noncomputable def cod_152 : List (List En) := [b_152_0, b_152_1, b_152_2, b_152_3, b_152_4, b_152_5, b_152_6, b_152_7, b_152_8]
/-- lookAtRows, block 0 -/
noncomputable def b_153_0 : List En := [(0, .aload 0, 1, []), (1, .getfield 57, 3, [7, 8, 3, 39]), (4, .invokevirtual 134, 3, [51, 1, 6, 87]), (7, .aload 0, 1, []), (8, .getfield 60, 3, [7, 9, 3, 40]), (11, .invokevirtual 134, 3, [51, 1, 6, 87]), (14, .aload 0, 1, []), (15, .getfield 63, 3, [7, 10, 3, 41]), (18, .invokevirtual 134, 3, [51, 1, 6, 87]), (21, .iconst 0, 1, []), (22, .istore 3, 1, []), (23, .nop, 0, [1])]
/-- lookAtRows, block 1 -/
noncomputable def b_153_1 : List En := [(23, .iload 3, 1, []), (24, .iconst 120, 2, []), (26, .if_icmp .ge 84, 3, [9]), (29, .aload 0, 1, []), (30, .getfield 10, 3, [7, 0, 3, 31]), (33, .iload 3, 1, []), (34, .iload 1, 1, []), (35, .invokevirtual 108, 3, [76, 3, 7, 81]), (38, .istore 4, 2, []), (40, .iload 4, 2, []), (42, .iconst 100, 2, []), (44, .if_icmp .eq 60, 3, [8]), (47, .aload 0, 1, []), (48, .getfield 57, 3, [7, 8, 3, 39]), (51, .iload 3, 1, []), (52, .iload 4, 2, []), (54, .iload 2, 1, []), (55, .if_icmp .ge 7, 3, [2]), (58, .iconst 1, 1, []), (59, .goto 4, 3, [3])]
/-- lookAtRows, block 2 -/
noncomputable def b_153_2 : List En := [(62, .iconst 0, 1, []), (63, .nop, 0, [3])]
/-- lookAtRows, block 3 -/
noncomputable def b_153_3 : List En := [(63, .invokevirtual 112, 3, [56, 3, 6, 82]), (66, .aload 0, 1, []), (67, .getfield 60, 3, [7, 9, 3, 40]), (70, .iload 3, 1, []), (71, .iload 4, 2, []), (73, .iload 2, 1, []), (74, .if_icmp .ne 7, 3, [4]), (77, .iconst 1, 1, []), (78, .goto 4, 3, [5])]
/-- lookAtRows, block 4 -/
noncomputable def b_153_4 : List En := [(81, .iconst 0, 1, []), (82, .nop, 0, [5])]
/-- lookAtRows, block 5 -/
noncomputable def b_153_5 : List En := [(82, .invokevirtual 112, 3, [56, 3, 6, 82]), (85, .aload 0, 1, []), (86, .getfield 63, 3, [7, 10, 3, 41]), (89, .iload 3, 1, []), (90, .iload 4, 2, []), (92, .iload 2, 1, []), (93, .if_icmp .le 7, 3, [6]), (96, .iconst 1, 1, []), (97, .goto 4, 3, [7])]
/-- lookAtRows, block 6 -/
noncomputable def b_153_6 : List En := [(100, .iconst 0, 1, []), (101, .nop, 0, [7])]
/-- lookAtRows, block 7 -/
noncomputable def b_153_7 : List En := [(101, .invokevirtual 112, 3, [56, 3, 6, 82]), (104, .nop, 0, [8])]
/-- lookAtRows, block 8 -/
noncomputable def b_153_8 : List En := [(104, .iinc 3 1, 3, []), (107, .goto (-84), 3, [1])]
/-- lookAtRows, block 9 -/
noncomputable def b_153_9 : List En := [(110, .return_, 1, [])]
noncomputable def cod_153 : List (List En) := [b_153_0, b_153_1, b_153_2, b_153_3, b_153_4, b_153_5, b_153_6, b_153_7, b_153_8, b_153_9]
/-- isToldWrongly, block 0 -/
noncomputable def b_154_0 : List En := [(0, .aload 0, 1, []), (1, .getfield 50, 3, [7, 6, 3, 37]), (4, .invokevirtual 134, 3, [51, 1, 6, 87]), (7, .iload 2, 1, []), (8, .ifCond .eq 13, 3, [1]), (11, .iload 2, 1, []), (12, .iconst 1, 1, []), (13, .if_icmp .eq 8, 3, [1]), (16, .iload 2, 1, []), (17, .iconst 5, 1, []), (18, .if_icmp .ne 14, 3, [2]), (21, .nop, 0, [1])]
/-- isToldWrongly, block 1 -/
noncomputable def b_154_1 : List En := [(21, .aload 0, 1, []), (22, .getfield 50, 3, [7, 6, 3, 37]), (25, .aload 0, 1, []), (26, .getfield 57, 3, [7, 8, 3, 39]), (29, .invokevirtual 375, 3, [58, 2, 6, 136]), (32, .nop, 0, [2])]
/-- isToldWrongly, block 2 -/
noncomputable def b_154_2 : List En := [(32, .iload 2, 1, []), (33, .iconst 1, 1, []), (34, .if_icmp .eq 13, 3, [3]), (37, .iload 2, 1, []), (38, .iconst 2, 1, []), (39, .if_icmp .eq 8, 3, [3]), (42, .iload 2, 1, []), (43, .iconst 3, 1, []), (44, .if_icmp .ne 14, 3, [4]), (47, .nop, 0, [3])]
/-- isToldWrongly, block 3 -/
noncomputable def b_154_3 : List En := [(47, .aload 0, 1, []), (48, .getfield 50, 3, [7, 6, 3, 37]), (51, .aload 0, 1, []), (52, .getfield 60, 3, [7, 9, 3, 40]), (55, .invokevirtual 375, 3, [58, 2, 6, 136]), (58, .nop, 0, [4])]
/-- isToldWrongly, block 4 -/
noncomputable def b_154_4 : List En := [(58, .iload 2, 1, []), (59, .iconst 3, 1, []), (60, .if_icmp .eq 13, 3, [5]), (63, .iload 2, 1, []), (64, .iconst 4, 1, []), (65, .if_icmp .eq 8, 3, [5]), (68, .iload 2, 1, []), (69, .iconst 5, 1, []), (70, .if_icmp .ne 14, 3, [6]), (73, .nop, 0, [5])]
/-- isToldWrongly, block 5 -/
noncomputable def b_154_5 : List En := [(73, .aload 0, 1, []), (74, .getfield 50, 3, [7, 6, 3, 37]), (77, .aload 0, 1, []), (78, .getfield 63, 3, [7, 10, 3, 41]), (81, .invokevirtual 375, 3, [58, 2, 6, 136]), (84, .nop, 0, [6])]
/-- isToldWrongly, block 6 -/
noncomputable def b_154_6 : List En := [(84, .iconst 0, 1, []), (85, .istore 4, 2, []), (87, .nop, 0, [7])]
/-- isToldWrongly, block 7 -/
noncomputable def b_154_7 : List En := [(87, .iload 4, 2, []), (89, .iconst 2, 1, []), (90, .if_icmp .gt 49, 3, [9]), (93, .aload 0, 1, []), (94, .getfield 25, 3, [7, 2, 3, 33]), (97, .iload 1, 1, []), (98, .aaload, 1, []), (99, .iload 2, 1, []), (100, .iload 3, 1, []), (101, .iload 4, 2, []), (103, .aload 0, 1, []), (104, .getfield 10, 3, [7, 0, 3, 31]), (107, .getfield 96, 3, [6, 0, 3, 42]), (110, .aload 0, 1, []), (111, .getfield 54, 3, [7, 7, 3, 38]), (114, .invokevirtual 130, 3, [12, 6, 1, 86]), (117, .aload 0, 1, []), (118, .getfield 54, 3, [7, 7, 3, 38]), (121, .aload 0, 1, []), (122, .getfield 50, 3, [7, 6, 3, 37]), (125, .invokevirtual 281, 3, [66, 2, 6, 117]), (128, .ifCond .ne 5, 3, [8]), (131, .iconst 1, 1, []), (132, .ireturn, 1, [1])]
/-- isToldWrongly, block 8 -/
noncomputable def b_154_8 : List En := [(133, .iinc 4 1, 3, []), (136, .goto (-49), 3, [7])]
/-- isToldWrongly, block 9 -/
noncomputable def b_154_9 : List En := [(139, .iconst 0, 1, []), (140, .ireturn, 1, [1])]
noncomputable def cod_154 : List (List En) := [b_154_0, b_154_1, b_154_2, b_154_3, b_154_4, b_154_5, b_154_6, b_154_7, b_154_8, b_154_9]
/-- compare, block 0 -/
noncomputable def b_163_0 : List En := [(0, .iload 0, 1, []), (1, .iload 1, 1, []), (2, .if_icmp .ge 7, 3, [1]), (5, .iconst (-1), 1, []), (6, .goto 13, 3, [3])]
/-- compare, block 1 -/
noncomputable def b_163_1 : List En := [(9, .iload 0, 1, []), (10, .iload 1, 1, []), (11, .if_icmp .ne 7, 3, [2]), (14, .iconst 0, 1, []), (15, .goto 4, 3, [3])]
/-- compare, block 2 -/
noncomputable def b_163_2 : List En := [(18, .iconst 1, 1, []), (19, .nop, 0, [3])]
/-- compare, block 3 -/
noncomputable def b_163_3 : List En := [(19, .ireturn, 1, [0])]
noncomputable def cod_163 : List (List En) := [b_163_0, b_163_1, b_163_2, b_163_3]
/-- bitCount, block 0 -/
noncomputable def b_164_0 : List En := [(0, .iload 0, 1, []), (1, .iload 0, 1, []), (2, .iconst 1, 1, []), (3, .iushr, 1, []), (4, .iconst 1431655765, 3, [2]), (7, .iand, 1, []), (8, .isub, 1, []), (9, .istore 0, 1, []), (10, .iload 0, 1, []), (11, .iconst 858993459, 3, [3]), (14, .iand, 1, []), (15, .iload 0, 1, []), (16, .iconst 2, 1, []), (17, .iushr, 1, []), (18, .iconst 858993459, 3, [3]), (21, .iand, 1, []), (22, .iadd, 1, []), (23, .istore 0, 1, []), (24, .iload 0, 1, []), (25, .iload 0, 1, []), (26, .iconst 4, 1, []), (27, .iushr, 1, []), (28, .iadd, 1, []), (29, .iconst 252645135, 3, [4]), (32, .iand, 1, []), (33, .istore 0, 1, []), (34, .iload 0, 1, []), (35, .iload 0, 1, []), (36, .iconst 8, 2, []), (38, .iushr, 1, []), (39, .iadd, 1, []), (40, .istore 0, 1, []), (41, .iload 0, 1, []), (42, .iload 0, 1, []), (43, .iconst 16, 2, []), (45, .iushr, 1, []), (46, .iadd, 1, []), (47, .istore 0, 1, []), (48, .iload 0, 1, []), (49, .iconst 63, 2, []), (51, .iand, 1, []), (52, .ireturn, 1, [0])]
noncomputable def cod_164 : List (List En) := [b_164_0]
/-- bitCount, block 0 -/
noncomputable def b_252_0 : List En := [(0, .lload 0, 1, []), (1, .lload 0, 1, []), (2, .iconst 1, 1, []), (3, .lushr, 1, []), (4, .bipush 6148914691236517205, 3, [5]), (7, .land, 1, []), (8, .lsub, 1, []), (9, .lstore 0, 1, []), (10, .lload 0, 1, []), (11, .bipush 3689348814741910323, 3, [6]), (14, .land, 1, []), (15, .lload 0, 1, []), (16, .iconst 2, 1, []), (17, .lushr, 1, []), (18, .bipush 3689348814741910323, 3, [6]), (21, .land, 1, []), (22, .ladd, 1, []), (23, .lstore 0, 1, []), (24, .lload 0, 1, []), (25, .lload 0, 1, []), (26, .iconst 4, 1, []), (27, .lushr, 1, []), (28, .ladd, 1, []), (29, .bipush 1085102592571150095, 3, [7]), (32, .land, 1, []), (33, .lstore 0, 1, []), (34, .lload 0, 1, []), (35, .lload 0, 1, []), (36, .iconst 8, 2, []), (38, .lushr, 1, []), (39, .ladd, 1, []), (40, .lstore 0, 1, []), (41, .lload 0, 1, []), (42, .lload 0, 1, []), (43, .iconst 16, 2, []), (45, .lushr, 1, []), (46, .ladd, 1, []), (47, .lstore 0, 1, []), (48, .lload 0, 1, []), (49, .lload 0, 1, []), (50, .iconst 32, 2, []), (52, .lushr, 1, []), (53, .ladd, 1, []), (54, .lstore 0, 1, []), (55, .lload 0, 1, []), (56, .l2i, 1, []), (57, .iconst 127, 2, []), (59, .iand, 1, []), (60, .ireturn, 1, [0])]
noncomputable def cod_252 : List (List En) := [b_252_0]
