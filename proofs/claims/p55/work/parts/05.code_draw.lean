/-! the entries of the law's two small classes -/
/-- init, block 0 -/
noncomputable def b_155_0 : List En := [(0, .aload 0, 1, []), (1, .invokespecial 1, 3, [3027]), (4, .aload 0, 1, []), (5, .bipush 11, 3, [2]), (8, .putfield 9, 3, [8, 0, 2, 54]), (11, .aload 1, 1, []), (12, .astore 2, 1, []), (13, .aload 2, 1, []), (14, .arraylength, 1, []), (15, .istore 3, 1, []), (16, .iconst 0, 1, []), (17, .istore 4, 2, []), (19, .nop, 0, [1])]
/-- init, block 1 -/
noncomputable def b_155_1 : List En := [(19, .iload 4, 2, []), (21, .iload 3, 1, []), (22, .if_icmp .ge 35, 3, [2]), (25, .aload 2, 1, []), (26, .iload 4, 2, []), (28, .iaload, 1, []), (29, .istore 5, 2, []), (31, .aload 0, 1, []), (32, .aload 0, 1, []), (33, .getfield 9, 3, [8, 0, 2, 54]), (36, .iload 5, 2, []), (38, .i2l, 1, []), (39, .ladd, 1, []), (40, .bipush 6364136223846793005, 3, [3]), (43, .lmul, 1, []), (44, .bipush 1442695040888963407, 3, [4]), (47, .ladd, 1, []), (48, .putfield 9, 3, [8, 0, 2, 54]), (51, .iinc 4 1, 3, []), (54, .goto (-35), 3, [1])]
/-- init, block 2 -/
noncomputable def b_155_2 : List En := [(57, .return_, 1, [])]
noncomputable def cod_155 : List (List En) := [b_155_0, b_155_1, b_155_2]
/-- n, block 0 -/
noncomputable def b_156_0 : List En := [(0, .aload 0, 1, []), (1, .aload 0, 1, []), (2, .getfield 9, 3, [8, 0, 2, 54]), (5, .bipush 6364136223846793005, 3, [3]), (8, .lmul, 1, []), (9, .bipush 1442695040888963407, 3, [4]), (12, .ladd, 1, []), (13, .putfield 9, 3, [8, 0, 2, 54]), (16, .aload 0, 1, []), (17, .getfield 9, 3, [8, 0, 2, 54]), (20, .iconst 33, 2, []), (22, .lushr, 1, []), (23, .iload 1, 1, []), (24, .i2l, 1, []), (25, .lrem, 1, []), (26, .l2i, 1, []), (27, .ireturn, 1, [0])]
noncomputable def cod_156 : List (List En) := [b_156_0]
/-- number, block 0 -/
noncomputable def b_157_0 : List En := [(0, .aload 0, 1, []), (1, .iconst 4, 1, []), (2, .invokevirtual 19, 3, [156, 2, 9, 137]), (5, .istore 1, 1, []), (6, .iload 1, 1, []), (7, .ifCond .ne 14, 3, [1]), (10, .aload 0, 1, []), (11, .iconst 128, 3, []), (14, .invokevirtual 19, 3, [156, 2, 9, 137]), (17, .iconst 64, 2, []), (19, .isub, 1, []), (20, .ireturn, 1, [0])]
/-- number, block 1 -/
noncomputable def b_157_1 : List En := [(21, .iload 1, 1, []), (22, .iconst 1, 1, []), (23, .if_icmp .ne 12, 3, [2]), (26, .aload 0, 1, []), (27, .iconst 9, 2, []), (29, .invokevirtual 19, 3, [156, 2, 9, 137]), (32, .iconst 4, 1, []), (33, .isub, 1, []), (34, .ireturn, 1, [0])]
/-- number, block 2 -/
noncomputable def b_157_2 : List En := [(35, .iconst 63, 2, []), (37, .iconst (-64), 2, []), (39, .iconst 16, 2, []), (41, .aload 0, 1, []), (42, .iconst 9, 2, []), (44, .invokevirtual 19, 3, [156, 2, 9, 137]), (47, .imul, 1, []), (48, .iconst 64, 2, []), (50, .isub, 1, []), (51, .aload 0, 1, []), (52, .iconst 3, 1, []), (53, .invokevirtual 19, 3, [156, 2, 9, 137]), (56, .iadd, 1, []), (57, .iconst 1, 1, []), (58, .isub, 1, []), (59, .invokestatic 23, 3, [3044, 0]), (62, .invokestatic 29, 3, [3045, 1]), (65, .ireturn, 1, [0])]
noncomputable def cod_157 : List (List En) := [b_157_0, b_157_1, b_157_2]
/-- init, block 0 -/
noncomputable def b_158_0 : List En := [(0, .aload 0, 1, []), (1, .invokespecial 3, 3, [3051]), (4, .aload 0, 1, []), (5, .iconst 120, 2, []), (7, .newarray .boolean, 2, [11]), (9, .putfield 9, 3, [9, 0, 3, 55]), (12, .aload 0, 1, []), (13, .iconst 120, 2, []), (15, .iconst 4, 1, []), (16, .multianewarray 15 2, 4, [3052]), (20, .putfield 17, 3, [9, 1, 3, 56]), (23, .return_, 1, [])]
noncomputable def cod_158 : List (List En) := [b_158_0]
/-- free, block 0 -/
noncomputable def b_159_0 : List En := [(0, .iconst 0, 1, []), (1, .istore 1, 1, []), (2, .nop, 0, [1])]
/-- free, block 1 -/
noncomputable def b_159_1 : List En := [(2, .aload 0, 1, []), (3, .getfield 9, 3, [9, 0, 3, 55]), (6, .iload 1, 1, []), (7, .baload, 1, []), (8, .ifCond .eq 9, 3, [2]), (11, .iinc 1 1, 3, []), (14, .goto (-12), 3, [1])]
/-- free, block 2 -/
noncomputable def b_159_2 : List En := [(17, .iload 1, 1, []), (18, .ireturn, 1, [0])]
noncomputable def cod_159 : List (List En) := [b_159_0, b_159_1, b_159_2]
/-- fills, block 0 -/
noncomputable def b_160_0 : List En := [(0, .iload 2, 1, []), (1, .istore 5, 2, []), (3, .iconst 0, 1, []), (4, .istore 6, 2, []), (6, .nop, 0, [1])]
/-- fills, block 1 -/
noncomputable def b_160_1 : List En := [(6, .iload 6, 2, []), (8, .iload 3, 1, []), (9, .if_icmp .ge 119, 3, [6]), (12, .aload 0, 1, []), (13, .invokevirtual 20, 3, [159, 1, 10, 138]), (16, .istore 7, 2, []), (18, .aload 0, 1, []), (19, .getfield 9, 3, [9, 0, 3, 55]), (22, .iload 7, 2, []), (24, .iconst 1, 1, []), (25, .bastore, 1, []), (26, .aload 0, 1, []), (27, .dup, 1, []), (28, .getfield 24, 3, [9, 2, 1, 57]), (31, .iconst 1, 1, []), (32, .iadd, 1, []), (33, .putfield 24, 3, [9, 2, 1, 57]), (36, .iconst 0, 1, []), (37, .istore 8, 2, []), (39, .nop, 0, [2])]
/-- fills, block 2 -/
noncomputable def b_160_2 : List En := [(39, .iload 8, 2, []), (41, .iconst 4, 1, []), (42, .if_icmp .ge 80, 3, [5]), (45, .iload 5, 2, []), (47, .iconst 1103515245, 2, [1]), (49, .imul, 1, []), (50, .iconst 12345, 3, []), (53, .iadd, 1, []), (54, .istore 5, 2, []), (56, .aload 0, 1, []), (57, .getfield 17, 3, [9, 1, 3, 56]), (60, .iload 7, 2, []), (62, .aaload, 1, []), (63, .iload 8, 2, []), (65, .iconst 100, 2, []), (67, .iastore, 1, []), (68, .iload 5, 2, []), (70, .iconst 16, 2, []), (72, .iushr, 1, []), (73, .iconst 8, 2, []), (75, .irem, 1, []), (76, .ifCond .ne 6, 3, [3]), (79, .goto 37, 3, [4])]
/-- fills, block 3 -/
noncomputable def b_160_3 : List En := [(82, .iload 5, 2, []), (84, .iconst 1103515245, 2, [1]), (86, .imul, 1, []), (87, .iconst 12345, 3, []), (90, .iadd, 1, []), (91, .istore 5, 2, []), (93, .aload 0, 1, []), (94, .getfield 17, 3, [9, 1, 3, 56]), (97, .iload 7, 2, []), (99, .aaload, 1, []), (100, .iload 8, 2, []), (102, .iload 5, 2, []), (104, .iconst 16, 2, []), (106, .iushr, 1, []), (107, .iconst 2, 1, []), (108, .iload 4, 2, []), (110, .imul, 1, []), (111, .irem, 1, []), (112, .iload 4, 2, []), (114, .isub, 1, []), (115, .iastore, 1, []), (116, .nop, 0, [4])]
/-- fills, block 4 -/
noncomputable def b_160_4 : List En := [(116, .iinc 8 1, 3, []), (119, .goto (-80), 3, [2])]
/-- fills, block 5 -/
noncomputable def b_160_5 : List En := [(122, .iinc 6 1, 3, []), (125, .goto (-119), 3, [1])]
/-- fills, block 6 -/
noncomputable def b_160_6 : List En := [(128, .aload 1, 1, []), (129, .iload 2, 1, []), (130, .iload 3, 1, []), (131, .iload 4, 2, []), (133, .invokevirtual 29, 3, [81, 4, 8, 139]), (136, .aload 0, 1, []), (137, .getfield 24, 3, [9, 2, 1, 57]), (140, .if_icmp .ne 7, 3, [7]), (143, .iconst 1, 1, []), (144, .goto 4, 3, [8])]
/-- fills, block 7 -/
noncomputable def b_160_7 : List En := [(147, .iconst 0, 1, []), (148, .nop, 0, [8])]
/-- fills, block 8 -/
noncomputable def b_160_8 : List En := [(148, .ireturn, 1, [1])]
noncomputable def cod_160 : List (List En) := [b_160_0, b_160_1, b_160_2, b_160_3, b_160_4, b_160_5, b_160_6, b_160_7, b_160_8]
/-- satisfies, block 0 -/
noncomputable def b_161_0 : List En := [(0, .aload 0, 1, []), (1, .getfield 17, 3, [9, 1, 3, 56]), (4, .iload 1, 1, []), (5, .aaload, 1, []), (6, .iload 2, 1, []), (7, .iaload, 1, []), (8, .istore 5, 2, []), (10, .iload 3, 1, []), (11, .iconst 6, 2, []), (13, .if_icmp .eq 9, 3, [1]), (16, .iload 3, 1, []), (17, .iconst 7, 2, []), (19, .if_icmp .ne 35, 3, [8]), (22, .nop, 0, [1])]
/-- satisfies, block 1 -/
noncomputable def b_161_1 : List En := [(22, .iload 5, 2, []), (24, .iconst 100, 2, []), (26, .if_icmp .ne 7, 3, [2]), (29, .iconst 1, 1, []), (30, .goto 4, 3, [3])]
/-- satisfies, block 2 -/
noncomputable def b_161_2 : List En := [(33, .iconst 0, 1, []), (34, .nop, 0, [3])]
/-- satisfies, block 3 -/
noncomputable def b_161_3 : List En := [(34, .iload 3, 1, []), (35, .iconst 6, 2, []), (37, .if_icmp .ne 7, 3, [4]), (40, .iconst 1, 1, []), (41, .goto 4, 3, [5])]
/-- satisfies, block 4 -/
noncomputable def b_161_4 : List En := [(44, .iconst 0, 1, []), (45, .nop, 0, [5])]
/-- satisfies, block 5 -/
noncomputable def b_161_5 : List En := [(45, .if_icmp .ne 7, 3, [6]), (48, .iconst 1, 1, []), (49, .goto 4, 3, [7])]
/-- satisfies, block 6 -/
noncomputable def b_161_6 : List En := [(52, .iconst 0, 1, []), (53, .nop, 0, [7])]
/-- satisfies, block 7 -/
noncomputable def b_161_7 : List En := [(53, .ireturn, 1, [1])]
/-- satisfies, block 8 -/
noncomputable def b_161_8 : List En := [(54, .iload 5, 2, []), (56, .iload 4, 2, []), (58, .invokestatic 35, 3, [163, 2, 0, 140]), (61, .istore 6, 2, []), (63, .iload 5, 2, []), (65, .iconst 100, 2, []), (67, .if_icmp .eq 76, 3, [15]), (70, .iload 3, 1, []), (71, .ifCond .ne 11, 3, [9]), (74, .iload 6, 2, []), (76, .ifCond .ge 67, 3, [15]), (79, .goto 60, 3, [14])]
/-- satisfies, block 9 -/
noncomputable def b_161_9 : List En := [(82, .iload 3, 1, []), (83, .iconst 1, 1, []), (84, .if_icmp .ne 11, 3, [10]), (87, .iload 6, 2, []), (89, .ifCond .gt 54, 3, [15]), (92, .goto 47, 3, [14])]
/-- satisfies, block 10 -/
noncomputable def b_161_10 : List En := [(95, .iload 3, 1, []), (96, .iconst 2, 1, []), (97, .if_icmp .ne 11, 3, [11]), (100, .iload 6, 2, []), (102, .ifCond .ne 41, 3, [15]), (105, .goto 34, 3, [14])]
/-- satisfies, block 11 -/
noncomputable def b_161_11 : List En := [(108, .iload 3, 1, []), (109, .iconst 3, 1, []), (110, .if_icmp .ne 11, 3, [12]), (113, .iload 6, 2, []), (115, .ifCond .lt 28, 3, [15]), (118, .goto 21, 3, [14])]
/-- satisfies, block 12 -/
noncomputable def b_161_12 : List En := [(121, .iload 3, 1, []), (122, .iconst 4, 1, []), (123, .if_icmp .ne 11, 3, [13]), (126, .iload 6, 2, []), (128, .ifCond .le 15, 3, [15]), (131, .goto 8, 3, [14])]
/-- satisfies, block 13 -/
noncomputable def b_161_13 : List En := [(134, .iload 6, 2, []), (136, .ifCond .eq 7, 3, [15]), (139, .nop, 0, [14])]
/-- satisfies, block 14 -/
noncomputable def b_161_14 : List En := [(139, .iconst 1, 1, []), (140, .goto 4, 3, [16])]
/-- satisfies, block 15 -/
noncomputable def b_161_15 : List En := [(143, .iconst 0, 1, []), (144, .nop, 0, [16])]
/-- satisfies, block 16 -/
noncomputable def b_161_16 : List En := [(144, .ireturn, 1, [1])]
noncomputable def cod_161 : List (List En) := [b_161_0, b_161_1, b_161_2, b_161_3, b_161_4, b_161_5, b_161_6, b_161_7, b_161_8, b_161_9, b_161_10, b_161_11, b_161_12, b_161_13, b_161_14, b_161_15, b_161_16]
/-- those, block 0 -/
noncomputable def b_162_0 : List En := [(0, .iconst 120, 2, []), (2, .newarray .boolean, 2, [11]), (4, .astore 4, 2, []), (6, .iconst 0, 1, []), (7, .istore 5, 2, []), (9, .nop, 0, [1])]
/-- those, block 1 -/
noncomputable def b_162_1 : List En := [(9, .iload 5, 2, []), (11, .iconst 120, 2, []), (13, .if_icmp .ge 41, 3, [4]), (16, .aload 4, 2, []), (18, .iload 5, 2, []), (20, .aload 0, 1, []), (21, .getfield 9, 3, [9, 0, 3, 55]), (24, .iload 5, 2, []), (26, .baload, 1, []), (27, .ifCond .eq 19, 3, [2]), (30, .aload 0, 1, []), (31, .iload 5, 2, []), (33, .iload 1, 1, []), (34, .iload 2, 1, []), (35, .iload 3, 1, []), (36, .invokevirtual 41, 3, [161, 5, 10, 141]), (39, .ifCond .eq 7, 3, [2]), (42, .iconst 1, 1, []), (43, .goto 4, 3, [3])]
/-- those, block 2 -/
noncomputable def b_162_2 : List En := [(46, .iconst 0, 1, []), (47, .nop, 0, [3])]
/-- those, block 3 -/
noncomputable def b_162_3 : List En := [(47, .bastore, 1, []), (48, .iinc 5 1, 3, []), (51, .goto (-42), 3, [1])]
/-- those, block 4 -/
noncomputable def b_162_4 : List En := [(54, .aload 4, 2, []), (56, .areturn, 1, [])]
noncomputable def cod_162 : List (List En) := [b_162_0, b_162_1, b_162_2, b_162_3, b_162_4]
