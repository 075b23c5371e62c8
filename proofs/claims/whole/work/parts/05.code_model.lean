/-! the reference's entries -/
/-- init, block 0 -/
noncomputable def b_155_0 : List En := [(0, .aload 0, 1, []), (1, .invokespecial 1, 3, [5158]), (4, .aload 0, 1, []), (5, .iconst 2053, 3, []), (8, .newarray .int, 2, [10]), (10, .putfield 9, 3, [8, 1, 3, 54]), (13, .aload 0, 1, []), (14, .iconst 8, 2, []), (16, .iconst 2053, 3, []), (19, .multianewarray 13 2, 4, [5159]), (23, .putfield 15, 3, [8, 2, 3, 55]), (26, .aload 0, 1, []), (27, .iconst 120, 2, []), (29, .newarray .boolean, 2, [11]), (31, .putfield 18, 3, [8, 5, 3, 56]), (34, .aload 0, 1, []), (35, .iconst 482, 3, []), (38, .iconst 5, 1, []), (39, .multianewarray 13 2, 4, [5159]), (43, .putfield 22, 3, [8, 6, 3, 57]), (46, .return_, 1, [])]
noncomputable def cod_155 : List (List En) := [b_155_0]
/-- thrown, block 0 -/
noncomputable def b_156_0 : List En := [(0, .aload 0, 1, []), (1, .getfield 25, 3, [8, 0, 1, 58]), (4, .ireturn, 1, [0])]
noncomputable def cod_156 : List (List En) := [b_156_0]
/-- no, block 0 -/
noncomputable def b_157_0 : List En := [(0, .iload 1, 1, []), (1, .ifCond .ne 8, 3, [1]), (4, .aload 0, 1, []), (5, .iload 2, 1, []), (6, .putfield 25, 3, [8, 0, 1, 58]), (9, .nop, 0, [1])]
/-- no, block 1 -/
noncomputable def b_157_1 : List En := [(9, .iload 1, 1, []), (10, .ifCond .ne 7, 3, [2]), (13, .iconst 1, 1, []), (14, .goto 4, 3, [3])]
/-- no, block 2 -/
noncomputable def b_157_2 : List En := [(17, .iconst 0, 1, []), (18, .nop, 0, [3])]
/-- no, block 3 -/
noncomputable def b_157_3 : List En := [(18, .ireturn, 1, [1])]
noncomputable def cod_157 : List (List En) := [b_157_0, b_157_1, b_157_2, b_157_3]
/-- in, block 0 -/
noncomputable def b_158_0 : List En := [(0, .iload 0, 1, []), (1, .iload 1, 1, []), (2, .if_icmp .lt 12, 3, [1]), (5, .iload 0, 1, []), (6, .iload 2, 1, []), (7, .if_icmp .gt 7, 3, [1]), (10, .iconst 1, 1, []), (11, .goto 4, 3, [2])]
/-- in, block 1 -/
noncomputable def b_158_1 : List En := [(14, .iconst 0, 1, []), (15, .nop, 0, [2])]
/-- in, block 2 -/
noncomputable def b_158_2 : List En := [(15, .ireturn, 1, [1])]
noncomputable def cod_158 : List (List En) := [b_158_0, b_158_1, b_158_2]
/-- isColumn, block 0 -/
noncomputable def b_159_0 : List En := [(0, .iload 0, 1, []), (1, .iconst 0, 1, []), (2, .iconst 3, 1, []), (3, .invokestatic 29, 3, [158, 3, 0, 143]), (6, .ireturn, 1, [1])]
noncomputable def cod_159 : List (List En) := [b_159_0]
/-- isFilter, block 0 -/
noncomputable def b_160_0 : List En := [(0, .iload 0, 1, []), (1, .iconst 0, 1, []), (2, .iconst 7, 2, []), (4, .invokestatic 29, 3, [158, 3, 0, 143]), (7, .ireturn, 1, [1])]
noncomputable def cod_160 : List (List En) := [b_160_0]
/-- isPacked, block 0 -/
noncomputable def b_161_0 : List En := [(0, .iload 0, 1, []), (1, .iconst 0, 1, []), (2, .iconst 3, 1, []), (3, .invokestatic 29, 3, [158, 3, 0, 143]), (6, .ireturn, 1, [1])]
noncomputable def cod_161 : List (List En) := [b_161_0]
/-- isNumber, block 0 -/
noncomputable def b_162_0 : List En := [(0, .iload 0, 1, []), (1, .iconst (-64), 2, []), (3, .iconst 63, 2, []), (5, .invokestatic 29, 3, [158, 3, 0, 143]), (8, .ireturn, 1, [1])]
noncomputable def cod_162 : List (List En) := [b_162_0]
/-- isValue, block 0 -/
noncomputable def b_163_0 : List En := [(0, .iload 0, 1, []), (1, .iconst 100, 2, []), (3, .if_icmp .eq 10, 3, [1]), (6, .iload 0, 1, []), (7, .invokestatic 33, 3, [162, 1, 0, 144]), (10, .ifCond .eq 7, 3, [2]), (13, .nop, 0, [1])]
/-- isValue, block 1 -/
noncomputable def b_163_1 : List En := [(13, .iconst 1, 1, []), (14, .goto 4, 3, [3])]
/-- isValue, block 2 -/
noncomputable def b_163_2 : List En := [(17, .iconst 0, 1, []), (18, .nop, 0, [3])]
/-- isValue, block 3 -/
noncomputable def b_163_3 : List En := [(18, .ireturn, 1, [1])]
noncomputable def cod_163 : List (List En) := [b_163_0, b_163_1, b_163_2, b_163_3]
/-- isRow, block 0 -/
noncomputable def b_164_0 : List En := [(0, .iload 1, 1, []), (1, .iconst 0, 1, []), (2, .iconst 119, 2, []), (4, .invokestatic 29, 3, [158, 3, 0, 143]), (7, .ifCond .eq 21, 3, [1]), (10, .aload 0, 1, []), (11, .getfield 9, 3, [8, 1, 3, 54]), (14, .iconst 480, 3, []), (17, .iload 1, 1, []), (18, .iadd, 1, []), (19, .iaload, 1, []), (20, .iconst 1, 1, []), (21, .if_icmp .ne 7, 3, [1]), (24, .iconst 1, 1, []), (25, .goto 4, 3, [2])]
/-- isRow, block 1 -/
noncomputable def b_164_1 : List En := [(28, .iconst 0, 1, []), (29, .nop, 0, [2])]
/-- isRow, block 2 -/
noncomputable def b_164_2 : List En := [(29, .ireturn, 1, [1])]
noncomputable def cod_164 : List (List En) := [b_164_0, b_164_1, b_164_2]
/-- lacks, block 0 -/
noncomputable def b_165_0 : List En := [(0, .aload 0, 1, []), (1, .iconst 0, 1, []), (2, .putfield 25, 3, [8, 0, 1, 58]), (5, .aload 0, 1, []), (6, .iload 1, 1, []), (7, .iconst 1, 1, []), (8, .invokevirtual 37, 3, [157, 3, 9, 145]), (11, .ireturn, 1, [1])]
noncomputable def cod_165 : List (List En) := [b_165_0]
/-- value, block 0 -/
noncomputable def b_166_0 : List En := [(0, .aload 0, 1, []), (1, .getfield 9, 3, [8, 1, 3, 54]), (4, .iconst 0, 1, []), (5, .iconst 4, 1, []), (6, .iload 1, 1, []), (7, .imul, 1, []), (8, .iadd, 1, []), (9, .iload 2, 1, []), (10, .iadd, 1, []), (11, .iaload, 1, []), (12, .ireturn, 1, [0])]
noncomputable def cod_166 : List (List En) := [b_166_0]
/-- isIn, block 0 -/
noncomputable def b_167_0 : List En := [(0, .aload 0, 1, []), (1, .getfield 9, 3, [8, 1, 3, 54]), (4, .iconst 600, 3, []), (7, .iconst 120, 2, []), (9, .iload 1, 1, []), (10, .imul, 1, []), (11, .iadd, 1, []), (12, .iload 2, 1, []), (13, .iadd, 1, []), (14, .iaload, 1, []), (15, .iconst 1, 1, []), (16, .if_icmp .ne 7, 3, [1]), (19, .iconst 1, 1, []), (20, .goto 4, 3, [2])]
/-- isIn, block 1 -/
noncomputable def b_167_1 : List En := [(23, .iconst 0, 1, []), (24, .nop, 0, [2])]
/-- isIn, block 2 -/
noncomputable def b_167_2 : List En := [(24, .ireturn, 1, [1])]
noncomputable def cod_167 : List (List En) := [b_167_0, b_167_1, b_167_2]
/-- isPackedIn, block 0 -/
noncomputable def b_168_0 : List En := [(0, .aload 0, 1, []), (1, .getfield 9, 3, [8, 1, 3, 54]), (4, .iconst 1560, 3, []), (7, .iconst 120, 2, []), (9, .iload 1, 1, []), (10, .imul, 1, []), (11, .iadd, 1, []), (12, .iload 2, 1, []), (13, .iadd, 1, []), (14, .iaload, 1, []), (15, .iconst 1, 1, []), (16, .if_icmp .ne 7, 3, [1]), (19, .iconst 1, 1, []), (20, .goto 4, 3, [2])]
/-- isPackedIn, block 1 -/
noncomputable def b_168_1 : List En := [(23, .iconst 0, 1, []), (24, .nop, 0, [2])]
/-- isPackedIn, block 2 -/
noncomputable def b_168_2 : List En := [(24, .ireturn, 1, [1])]
noncomputable def cod_168 : List (List En) := [b_168_0, b_168_1, b_168_2]
/-- satisfies, block 0 -/
noncomputable def b_169_0 : List En := [(0, .iload 1, 1, []), (1, .iconst 5, 1, []), (2, .if_icmp .le 34, 3, [7]), (5, .iload 0, 1, []), (6, .iconst 100, 2, []), (8, .if_icmp .ne 7, 3, [1]), (11, .iconst 1, 1, []), (12, .goto 4, 3, [2])]
/-- satisfies, block 1 -/
noncomputable def b_169_1 : List En := [(15, .iconst 0, 1, []), (16, .nop, 0, [2])]
/-- satisfies, block 2 -/
noncomputable def b_169_2 : List En := [(16, .iload 1, 1, []), (17, .iconst 6, 2, []), (19, .if_icmp .ne 7, 3, [3]), (22, .iconst 1, 1, []), (23, .goto 4, 3, [4])]
/-- satisfies, block 3 -/
noncomputable def b_169_3 : List En := [(26, .iconst 0, 1, []), (27, .nop, 0, [4])]
/-- satisfies, block 4 -/
noncomputable def b_169_4 : List En := [(27, .if_icmp .ne 7, 3, [5]), (30, .iconst 1, 1, []), (31, .goto 4, 3, [6])]
/-- satisfies, block 5 -/
noncomputable def b_169_5 : List En := [(34, .iconst 0, 1, []), (35, .nop, 0, [6])]
/-- satisfies, block 6 -/
noncomputable def b_169_6 : List En := [(35, .ireturn, 1, [1])]
/-- satisfies, block 7 -/
noncomputable def b_169_7 : List En := [(36, .iload 0, 1, []), (37, .iconst 100, 2, []), (39, .if_icmp .ne 5, 3, [8]), (42, .iconst 0, 1, []), (43, .ireturn, 1, [1])]
/-- satisfies, block 8 -/
noncomputable def b_169_8 : List En := [(44, .iload 1, 1, []), (45, .tableswitch 90 0 4 #[35, 46, 57, 68, 79], 35, [24, 9, 12, 15, 18, 21])]
/-- satisfies, block 9 -/
noncomputable def b_169_9 : List En := [(80, .iload 0, 1, []), (81, .iload 2, 1, []), (82, .if_icmp .ge 7, 3, [10]), (85, .iconst 1, 1, []), (86, .goto 4, 3, [11])]
/-- satisfies, block 10 -/
noncomputable def b_169_10 : List En := [(89, .iconst 0, 1, []), (90, .nop, 0, [11])]
/-- satisfies, block 11 -/
noncomputable def b_169_11 : List En := [(90, .ireturn, 1, [1])]
/-- satisfies, block 12 -/
noncomputable def b_169_12 : List En := [(91, .iload 0, 1, []), (92, .iload 2, 1, []), (93, .if_icmp .gt 7, 3, [13]), (96, .iconst 1, 1, []), (97, .goto 4, 3, [14])]
/-- satisfies, block 13 -/
noncomputable def b_169_13 : List En := [(100, .iconst 0, 1, []), (101, .nop, 0, [14])]
/-- satisfies, block 14 -/
noncomputable def b_169_14 : List En := [(101, .ireturn, 1, [1])]
/-- satisfies, block 15 -/
noncomputable def b_169_15 : List En := [(102, .iload 0, 1, []), (103, .iload 2, 1, []), (104, .if_icmp .ne 7, 3, [16]), (107, .iconst 1, 1, []), (108, .goto 4, 3, [17])]
/-- satisfies, block 16 -/
noncomputable def b_169_16 : List En := [(111, .iconst 0, 1, []), (112, .nop, 0, [17])]
/-- satisfies, block 17 -/
noncomputable def b_169_17 : List En := [(112, .ireturn, 1, [1])]
/-- satisfies, block 18 -/
noncomputable def b_169_18 : List En := [(113, .iload 0, 1, []), (114, .iload 2, 1, []), (115, .if_icmp .lt 7, 3, [19]), (118, .iconst 1, 1, []), (119, .goto 4, 3, [20])]
/-- satisfies, block 19 -/
noncomputable def b_169_19 : List En := [(122, .iconst 0, 1, []), (123, .nop, 0, [20])]
/-- satisfies, block 20 -/
noncomputable def b_169_20 : List En := [(123, .ireturn, 1, [1])]
/-- satisfies, block 21 -/
noncomputable def b_169_21 : List En := [(124, .iload 0, 1, []), (125, .iload 2, 1, []), (126, .if_icmp .le 7, 3, [22]), (129, .iconst 1, 1, []), (130, .goto 4, 3, [23])]
/-- satisfies, block 22 -/
noncomputable def b_169_22 : List En := [(133, .iconst 0, 1, []), (134, .nop, 0, [23])]
/-- satisfies, block 23 -/
noncomputable def b_169_23 : List En := [(134, .ireturn, 1, [1])]
/-- satisfies, block 24 -/
noncomputable def b_169_24 : List En := [(135, .iload 0, 1, []), (136, .iload 2, 1, []), (137, .if_icmp .eq 7, 3, [25]), (140, .iconst 1, 1, []), (141, .goto 4, 3, [26])]
/-- satisfies, block 25 -/
noncomputable def b_169_25 : List En := [(144, .iconst 0, 1, []), (145, .nop, 0, [26])]
/-- satisfies, block 26 -/
noncomputable def b_169_26 : List En := [(145, .ireturn, 1, [1])]
noncomputable def cod_169 : List (List En) := [b_169_0, b_169_1, b_169_2, b_169_3, b_169_4, b_169_5, b_169_6, b_169_7, b_169_8, b_169_9, b_169_10, b_169_11, b_169_12, b_169_13, b_169_14, b_169_15, b_169_16, b_169_17, b_169_18, b_169_19, b_169_20, b_169_21, b_169_22, b_169_23, b_169_24, b_169_25, b_169_26]
/-- isOfCondition, block 0 -/
noncomputable def b_170_0 : List En := [(0, .iconst 2041, 3, []), (3, .iconst 3, 1, []), (4, .iload 1, 1, []), (5, .imul, 1, []), (6, .iadd, 1, []), (7, .istore 3, 1, []), (8, .aload 0, 1, []), (9, .getfield 9, 3, [8, 1, 3, 54]), (12, .iconst 480, 3, []), (15, .iload 2, 1, []), (16, .iadd, 1, []), (17, .iaload, 1, []), (18, .iconst 1, 1, []), (19, .if_icmp .ne 40, 3, [1]), (22, .aload 0, 1, []), (23, .iload 2, 1, []), (24, .aload 0, 1, []), (25, .getfield 9, 3, [8, 1, 3, 54]), (28, .iload 3, 1, []), (29, .iaload, 1, []), (30, .invokevirtual 41, 3, [166, 3, 9, 146]), (33, .aload 0, 1, []), (34, .getfield 9, 3, [8, 1, 3, 54]), (37, .iload 3, 1, []), (38, .iconst 1, 1, []), (39, .iadd, 1, []), (40, .iaload, 1, []), (41, .aload 0, 1, []), (42, .getfield 9, 3, [8, 1, 3, 54]), (45, .iload 3, 1, []), (46, .iconst 2, 1, []), (47, .iadd, 1, []), (48, .iaload, 1, []), (49, .invokestatic 45, 3, [169, 3, 0, 147]), (52, .ifCond .eq 7, 3, [1]), (55, .iconst 1, 1, []), (56, .goto 4, 3, [2])]
/-- isOfCondition, block 1 -/
noncomputable def b_170_1 : List En := [(59, .iconst 0, 1, []), (60, .nop, 0, [2])]
/-- isOfCondition, block 2 -/
noncomputable def b_170_2 : List En := [(60, .ireturn, 1, [1])]
noncomputable def cod_170 : List (List En) := [b_170_0, b_170_1, b_170_2]
/-- isOfPlan, block 0 -/
noncomputable def b_171_0 : List En := [(0, .aload 0, 1, []), (1, .getfield 9, 3, [8, 1, 3, 54]), (4, .iconst 480, 3, []), (7, .iload 1, 1, []), (8, .iadd, 1, []), (9, .iaload, 1, []), (10, .iconst 1, 1, []), (11, .if_icmp .ne 7, 3, [1]), (14, .iconst 1, 1, []), (15, .goto 4, 3, [2])]
/-- isOfPlan, block 1 -/
noncomputable def b_171_1 : List En := [(18, .iconst 0, 1, []), (19, .nop, 0, [2])]
/-- isOfPlan, block 2 -/
noncomputable def b_171_2 : List En := [(19, .istore 2, 1, []), (20, .iconst 0, 1, []), (21, .istore 3, 1, []), (22, .nop, 0, [3])]
/-- isOfPlan, block 3 -/
noncomputable def b_171_3 : List En := [(22, .iload 3, 1, []), (23, .aload 0, 1, []), (24, .getfield 9, 3, [8, 1, 3, 54]), (27, .iconst 2040, 3, []), (30, .iaload, 1, []), (31, .if_icmp .ge 28, 3, [6]), (34, .iload 2, 1, []), (35, .ifCond .eq 16, 3, [4]), (38, .aload 0, 1, []), (39, .iload 3, 1, []), (40, .iload 1, 1, []), (41, .invokevirtual 48, 3, [170, 3, 9, 148]), (44, .ifCond .eq 7, 3, [4]), (47, .iconst 1, 1, []), (48, .goto 4, 3, [5])]
/-- isOfPlan, block 4 -/
noncomputable def b_171_4 : List En := [(51, .iconst 0, 1, []), (52, .nop, 0, [5])]
/-- isOfPlan, block 5 -/
noncomputable def b_171_5 : List En := [(52, .istore 2, 1, []), (53, .iinc 3 1, 3, []), (56, .goto (-34), 3, [3])]
/-- isOfPlan, block 6 -/
noncomputable def b_171_6 : List En := [(59, .iload 2, 1, []), (60, .ireturn, 1, [1])]
noncomputable def cod_171 : List (List En) := [b_171_0, b_171_1, b_171_2, b_171_3, b_171_4, b_171_5, b_171_6]
/-- rowsNow, block 0 -/
noncomputable def b_172_0 : List En := [(0, .iconst 0, 1, []), (1, .istore 1, 1, []), (2, .iconst 0, 1, []), (3, .istore 2, 1, []), (4, .nop, 0, [1])]
/-- rowsNow, block 1 -/
noncomputable def b_172_1 : List En := [(4, .iload 2, 1, []), (5, .iconst 120, 2, []), (7, .if_icmp .ge 22, 3, [2]), (10, .iload 1, 1, []), (11, .aload 0, 1, []), (12, .getfield 9, 3, [8, 1, 3, 54]), (15, .iconst 480, 3, []), (18, .iload 2, 1, []), (19, .iadd, 1, []), (20, .iaload, 1, []), (21, .iadd, 1, []), (22, .istore 1, 1, []), (23, .iinc 2 1, 3, []), (26, .goto (-22), 3, [1])]
/-- rowsNow, block 2 -/
noncomputable def b_172_2 : List En := [(29, .iload 1, 1, []), (30, .ireturn, 1, [0])]
noncomputable def cod_172 : List (List En) := [b_172_0, b_172_1, b_172_2]
/-- countOf, block 0 -/
noncomputable def b_173_0 : List En := [(0, .iconst 0, 1, []), (1, .istore 2, 1, []), (2, .iconst 0, 1, []), (3, .istore 3, 1, []), (4, .nop, 0, [1])]
/-- countOf, block 1 -/
noncomputable def b_173_1 : List En := [(4, .iload 3, 1, []), (5, .iconst 120, 2, []), (7, .if_icmp .ge 26, 3, [4]), (10, .iload 2, 1, []), (11, .aload 0, 1, []), (12, .iload 1, 1, []), (13, .iload 3, 1, []), (14, .invokevirtual 52, 3, [167, 3, 9, 149]), (17, .ifCond .eq 7, 3, [2]), (20, .iconst 1, 1, []), (21, .goto 4, 3, [3])]
/-- countOf, block 2 -/
noncomputable def b_173_2 : List En := [(24, .iconst 0, 1, []), (25, .nop, 0, [3])]
/-- countOf, block 3 -/
noncomputable def b_173_3 : List En := [(25, .iadd, 1, []), (26, .istore 2, 1, []), (27, .iinc 3 1, 3, []), (30, .goto (-26), 3, [1])]
/-- countOf, block 4 -/
noncomputable def b_173_4 : List En := [(33, .iload 2, 1, []), (34, .ireturn, 1, [0])]
noncomputable def cod_173 : List (List En) := [b_173_0, b_173_1, b_173_2, b_173_3, b_173_4]
/-- rowsWith, block 0 -/
noncomputable def b_174_0 : List En := [(0, .iconst 0, 1, []), (1, .istore 4, 2, []), (3, .iconst 0, 1, []), (4, .istore 5, 2, []), (6, .nop, 0, [1])]
/-- rowsWith, block 1 -/
noncomputable def b_174_1 : List En := [(6, .iload 5, 2, []), (8, .iconst 120, 2, []), (10, .if_icmp .ge 60, 3, [5]), (13, .iload 4, 2, []), (15, .aload 0, 1, []), (16, .getfield 9, 3, [8, 1, 3, 54]), (19, .iconst 480, 3, []), (22, .iload 5, 2, []), (24, .iadd, 1, []), (25, .iaload, 1, []), (26, .iconst 1, 1, []), (27, .if_icmp .ne 33, 3, [3]), (30, .iload 1, 1, []), (31, .iconst (-1), 1, []), (32, .if_icmp .eq 13, 3, [2]), (35, .aload 0, 1, []), (36, .iload 1, 1, []), (37, .iload 5, 2, []), (39, .invokevirtual 52, 3, [167, 3, 9, 149]), (42, .ifCond .eq 18, 3, [3]), (45, .nop, 0, [2])]
/-- rowsWith, block 2 -/
noncomputable def b_174_2 : List En := [(45, .aload 0, 1, []), (46, .iload 5, 2, []), (48, .iload 2, 1, []), (49, .invokevirtual 41, 3, [166, 3, 9, 146]), (52, .iload 3, 1, []), (53, .if_icmp .ne 7, 3, [3]), (56, .iconst 1, 1, []), (57, .goto 4, 3, [4])]
/-- rowsWith, block 3 -/
noncomputable def b_174_3 : List En := [(60, .iconst 0, 1, []), (61, .nop, 0, [4])]
/-- rowsWith, block 4 -/
noncomputable def b_174_4 : List En := [(61, .iadd, 1, []), (62, .istore 4, 2, []), (64, .iinc 5 1, 3, []), (67, .goto (-61), 3, [1])]
/-- rowsWith, block 5 -/
noncomputable def b_174_5 : List En := [(70, .iload 4, 2, []), (72, .ireturn, 1, [0])]
noncomputable def cod_174 : List (List En) := [b_174_0, b_174_1, b_174_2, b_174_3, b_174_4, b_174_5]
/-- unlikeOf, block 0 -/
noncomputable def b_175_0 : List En := [(0, .iconst 0, 1, []), (1, .istore 5, 2, []), (3, .iload 3, 1, []), (4, .istore 6, 2, []), (6, .nop, 0, [1])]
/-- unlikeOf, block 1 -/
noncomputable def b_175_1 : List En := [(6, .iload 6, 2, []), (8, .iload 4, 2, []), (10, .if_icmp .ge 30, 3, [4]), (13, .iload 5, 2, []), (15, .aload 0, 1, []), (16, .iload 1, 1, []), (17, .iload 2, 1, []), (18, .iload 6, 2, []), (20, .invokevirtual 55, 3, [174, 4, 9, 150]), (23, .ifCond .le 7, 3, [2]), (26, .iconst 1, 1, []), (27, .goto 4, 3, [3])]
/-- unlikeOf, block 2 -/
noncomputable def b_175_2 : List En := [(30, .iconst 0, 1, []), (31, .nop, 0, [3])]
/-- unlikeOf, block 3 -/
noncomputable def b_175_3 : List En := [(31, .iadd, 1, []), (32, .istore 5, 2, []), (34, .iinc 6 1, 3, []), (37, .goto (-31), 3, [1])]
/-- unlikeOf, block 4 -/
noncomputable def b_175_4 : List En := [(40, .iload 5, 2, []), (42, .ireturn, 1, [0])]
noncomputable def cod_175 : List (List En) := [b_175_0, b_175_1, b_175_2, b_175_3, b_175_4]
/-- begins, block 0 -/
noncomputable def b_176_0 : List En := [(0, .aload 0, 1, []), (1, .getfield 59, 3, [8, 3, 1, 59]), (4, .iconst 8, 2, []), (6, .if_icmp .ne 56, 3, [3]), (9, .aload 0, 1, []), (10, .getfield 15, 3, [8, 2, 3, 55]), (13, .iconst 0, 1, []), (14, .aaload, 1, []), (15, .astore 1, 1, []), (16, .iconst 1, 1, []), (17, .istore 2, 1, []), (18, .nop, 0, [1])]
/-- begins, block 1 -/
noncomputable def b_176_1 : List En := [(18, .iload 2, 1, []), (19, .iconst 8, 2, []), (21, .if_icmp .ge 23, 3, [2]), (24, .aload 0, 1, []), (25, .getfield 15, 3, [8, 2, 3, 55]), (28, .iload 2, 1, []), (29, .iconst 1, 1, []), (30, .isub, 1, []), (31, .aload 0, 1, []), (32, .getfield 15, 3, [8, 2, 3, 55]), (35, .iload 2, 1, []), (36, .aaload, 1, []), (37, .aastore, 1, []), (38, .iinc 2 1, 3, []), (41, .goto (-23), 3, [1])]
/-- begins, block 2 -/
noncomputable def b_176_2 : List En := [(44, .aload 0, 1, []), (45, .getfield 15, 3, [8, 2, 3, 55]), (48, .iconst 7, 2, []), (50, .aload 1, 1, []), (51, .aastore, 1, []), (52, .aload 0, 1, []), (53, .dup, 1, []), (54, .getfield 59, 3, [8, 3, 1, 59]), (57, .iconst 1, 1, []), (58, .isub, 1, []), (59, .putfield 59, 3, [8, 3, 1, 59]), (62, .nop, 0, [3])]
/-- begins, block 3 -/
noncomputable def b_176_3 : List En := [(62, .aload 0, 1, []), (63, .getfield 9, 3, [8, 1, 3, 54]), (66, .iconst 0, 1, []), (67, .aload 0, 1, []), (68, .getfield 15, 3, [8, 2, 3, 55]), (71, .aload 0, 1, []), (72, .getfield 59, 3, [8, 3, 1, 59]), (75, .aaload, 1, []), (76, .iconst 0, 1, []), (77, .iconst 2053, 3, []), (80, .invokestatic 62, 3, [5220]), (83, .aload 0, 1, []), (84, .dup, 1, []), (85, .getfield 59, 3, [8, 3, 1, 59]), (88, .iconst 1, 1, []), (89, .iadd, 1, []), (90, .putfield 59, 3, [8, 3, 1, 59]), (93, .return_, 1, [])]
noncomputable def cod_176 : List (List En) := [b_176_0, b_176_1, b_176_2, b_176_3]
/-- comes, block 0 -/
noncomputable def b_177_0 : List En := [(0, .iconst 0, 1, []), (1, .istore 5, 2, []), (3, .nop, 0, [1])]
/-- comes, block 1 -/
noncomputable def b_177_1 : List En := [(3, .aload 0, 1, []), (4, .getfield 9, 3, [8, 1, 3, 54]), (7, .iconst 480, 3, []), (10, .iload 5, 2, []), (12, .iadd, 1, []), (13, .iaload, 1, []), (14, .iconst 1, 1, []), (15, .if_icmp .ne 9, 3, [2]), (18, .iinc 5 1, 3, []), (21, .goto (-18), 3, [1])]
/-- comes, block 2 -/
noncomputable def b_177_2 : List En := [(24, .aload 0, 1, []), (25, .getfield 9, 3, [8, 1, 3, 54]), (28, .iconst 480, 3, []), (31, .iload 5, 2, []), (33, .iadd, 1, []), (34, .iconst 1, 1, []), (35, .iastore, 1, []), (36, .aload 0, 1, []), (37, .getfield 9, 3, [8, 1, 3, 54]), (40, .iconst 0, 1, []), (41, .iconst 4, 1, []), (42, .iload 5, 2, []), (44, .imul, 1, []), (45, .iadd, 1, []), (46, .iload 1, 1, []), (47, .iastore, 1, []), (48, .aload 0, 1, []), (49, .getfield 9, 3, [8, 1, 3, 54]), (52, .iconst 0, 1, []), (53, .iconst 4, 1, []), (54, .iload 5, 2, []), (56, .imul, 1, []), (57, .iadd, 1, []), (58, .iconst 1, 1, []), (59, .iadd, 1, []), (60, .iload 2, 1, []), (61, .iastore, 1, []), (62, .aload 0, 1, []), (63, .getfield 9, 3, [8, 1, 3, 54]), (66, .iconst 0, 1, []), (67, .iconst 4, 1, []), (68, .iload 5, 2, []), (70, .imul, 1, []), (71, .iadd, 1, []), (72, .iconst 2, 1, []), (73, .iadd, 1, []), (74, .iload 3, 1, []), (75, .iastore, 1, []), (76, .aload 0, 1, []), (77, .getfield 9, 3, [8, 1, 3, 54]), (80, .iconst 0, 1, []), (81, .iconst 4, 1, []), (82, .iload 5, 2, []), (84, .imul, 1, []), (85, .iadd, 1, []), (86, .iconst 3, 1, []), (87, .iadd, 1, []), (88, .iload 4, 2, []), (90, .iastore, 1, []), (91, .iload 5, 2, []), (93, .ireturn, 1, [0])]
noncomputable def cod_177 : List (List En) := [b_177_0, b_177_1, b_177_2]
/-- addRow, block 0 -/
noncomputable def b_178_0 : List En := [(0, .aload 0, 1, []), (1, .iload 1, 1, []), (2, .invokestatic 68, 3, [163, 1, 0, 151]), (5, .ifCond .eq 29, 3, [1]), (8, .iload 2, 1, []), (9, .invokestatic 68, 3, [163, 1, 0, 151]), (12, .ifCond .eq 22, 3, [1]), (15, .iload 3, 1, []), (16, .invokestatic 68, 3, [163, 1, 0, 151]), (19, .ifCond .eq 15, 3, [1]), (22, .iload 4, 2, []), (24, .invokestatic 68, 3, [163, 1, 0, 151]), (27, .ifCond .eq 7, 3, [1]), (30, .iconst 1, 1, []), (31, .goto 4, 3, [2])]
/-- addRow, block 1 -/
noncomputable def b_178_1 : List En := [(34, .iconst 0, 1, []), (35, .nop, 0, [2])]
/-- addRow, block 2 -/
noncomputable def b_178_2 : List En := [(35, .invokevirtual 71, 3, [165, 2, 9, 152]), (38, .ifCond .ne 25, 3, [5]), (41, .aload 0, 1, []), (42, .aload 0, 1, []), (43, .invokevirtual 75, 3, [172, 1, 9, 153]), (46, .iconst 120, 2, []), (48, .if_icmp .ge 7, 3, [3]), (51, .iconst 1, 1, []), (52, .goto 4, 3, [4])]
/-- addRow, block 3 -/
noncomputable def b_178_3 : List En := [(55, .iconst 0, 1, []), (56, .nop, 0, [4])]
/-- addRow, block 4 -/
noncomputable def b_178_4 : List En := [(56, .iconst 2, 1, []), (57, .invokevirtual 37, 3, [157, 3, 9, 145]), (60, .ifCond .eq 5, 3, [6]), (63, .nop, 0, [5])]
/-- addRow, block 5 -/
noncomputable def b_178_5 : List En := [(63, .iconst 0, 1, []), (64, .ireturn, 1, [0])]
/-- addRow, block 6 -/
noncomputable def b_178_6 : List En := [(65, .aload 0, 1, []), (66, .invokevirtual 79, 3, [176, 1, 9, 154]), (69, .aload 0, 1, []), (70, .iload 1, 1, []), (71, .iload 2, 1, []), (72, .iload 3, 1, []), (73, .iload 4, 2, []), (75, .invokevirtual 82, 3, [177, 5, 9, 155]), (78, .ireturn, 1, [0])]
noncomputable def cod_178 : List (List En) := [b_178_0, b_178_1, b_178_2, b_178_3, b_178_4, b_178_5, b_178_6]
/-- draws, block 0 -/
noncomputable def b_179_0 : List En := [(0, .aload 0, 1, []), (1, .aload 0, 1, []), (2, .getfield 86, 3, [8, 4, 1, 60]), (5, .iconst 1103515245, 2, [1]), (7, .imul, 1, []), (8, .iconst 12345, 3, []), (11, .iadd, 1, []), (12, .putfield 86, 3, [8, 4, 1, 60]), (15, .aload 0, 1, []), (16, .getfield 86, 3, [8, 4, 1, 60]), (19, .iconst 16, 2, []), (21, .iushr, 1, []), (22, .iload 1, 1, []), (23, .irem, 1, []), (24, .ireturn, 1, [0])]
noncomputable def cod_179 : List (List En) := [b_179_0]
/-- drawsValue, block 0 -/
noncomputable def b_180_0 : List En := [(0, .aload 0, 1, []), (1, .iconst 8, 2, []), (3, .invokevirtual 90, 3, [179, 2, 9, 156]), (6, .ifCond .ne 8, 3, [1]), (9, .iconst 100, 2, []), (11, .goto 12, 3, [2])]
/-- drawsValue, block 1 -/
noncomputable def b_180_1 : List En := [(14, .aload 0, 1, []), (15, .iconst 2, 1, []), (16, .iload 1, 1, []), (17, .imul, 1, []), (18, .invokevirtual 90, 3, [179, 2, 9, 156]), (21, .iload 1, 1, []), (22, .isub, 1, []), (23, .nop, 0, [2])]
/-- drawsValue, block 2 -/
noncomputable def b_180_2 : List En := [(23, .ireturn, 1, [0])]
noncomputable def cod_180 : List (List En) := [b_180_0, b_180_1, b_180_2]
/-- fill, block 0 -/
noncomputable def b_181_0 : List En := [(0, .aload 0, 1, []), (1, .iload 2, 1, []), (2, .iconst 1, 1, []), (3, .iconst 20, 2, []), (5, .invokestatic 29, 3, [158, 3, 0, 143]), (8, .ifCond .eq 17, 3, [1]), (11, .iload 3, 1, []), (12, .iconst 1, 1, []), (13, .iconst 64, 2, []), (15, .invokestatic 29, 3, [158, 3, 0, 143]), (18, .ifCond .eq 7, 3, [1]), (21, .iconst 1, 1, []), (22, .goto 4, 3, [2])]
/-- fill, block 1 -/
noncomputable def b_181_1 : List En := [(25, .iconst 0, 1, []), (26, .nop, 0, [2])]
/-- fill, block 2 -/
noncomputable def b_181_2 : List En := [(26, .invokevirtual 71, 3, [165, 2, 9, 152]), (29, .ifCond .ne 27, 3, [5]), (32, .aload 0, 1, []), (33, .aload 0, 1, []), (34, .invokevirtual 75, 3, [172, 1, 9, 153]), (37, .iload 2, 1, []), (38, .iadd, 1, []), (39, .iconst 120, 2, []), (41, .if_icmp .gt 7, 3, [3]), (44, .iconst 1, 1, []), (45, .goto 4, 3, [4])]
/-- fill, block 3 -/
noncomputable def b_181_3 : List En := [(48, .iconst 0, 1, []), (49, .nop, 0, [4])]
/-- fill, block 4 -/
noncomputable def b_181_4 : List En := [(49, .iconst 2, 1, []), (50, .invokevirtual 37, 3, [157, 3, 9, 145]), (53, .ifCond .eq 5, 3, [6]), (56, .nop, 0, [5])]
/-- fill, block 5 -/
noncomputable def b_181_5 : List En := [(56, .iconst 0, 1, []), (57, .ireturn, 1, [0])]
/-- fill, block 6 -/
noncomputable def b_181_6 : List En := [(58, .aload 0, 1, []), (59, .invokevirtual 79, 3, [176, 1, 9, 154]), (62, .aload 0, 1, []), (63, .iload 1, 1, []), (64, .putfield 86, 3, [8, 4, 1, 60]), (67, .iconst 0, 1, []), (68, .istore 4, 2, []), (70, .nop, 0, [7])]
/-- fill, block 7 -/
noncomputable def b_181_7 : List En := [(70, .iload 4, 2, []), (72, .iload 2, 1, []), (73, .if_icmp .ge 46, 3, [8]), (76, .aload 0, 1, []), (77, .iload 3, 1, []), (78, .invokevirtual 94, 3, [180, 2, 9, 157]), (81, .istore 5, 2, []), (83, .aload 0, 1, []), (84, .iload 3, 1, []), (85, .invokevirtual 94, 3, [180, 2, 9, 157]), (88, .istore 6, 2, []), (90, .aload 0, 1, []), (91, .iload 3, 1, []), (92, .invokevirtual 94, 3, [180, 2, 9, 157]), (95, .istore 7, 2, []), (97, .aload 0, 1, []), (98, .iload 5, 2, []), (100, .iload 6, 2, []), (102, .iload 7, 2, []), (104, .aload 0, 1, []), (105, .iload 3, 1, []), (106, .invokevirtual 94, 3, [180, 2, 9, 157]), (109, .invokevirtual 82, 3, [177, 5, 9, 155]), (112, .pop, 1, []), (113, .iinc 4 1, 3, []), (116, .goto (-46), 3, [7])]
/-- fill, block 8 -/
noncomputable def b_181_8 : List En := [(119, .aload 0, 1, []), (120, .invokevirtual 75, 3, [172, 1, 9, 153]), (123, .ireturn, 1, [0])]
noncomputable def cod_181 : List (List En) := [b_181_0, b_181_1, b_181_2, b_181_3, b_181_4, b_181_5, b_181_6, b_181_7, b_181_8]
/-- setValue, block 0 -/
noncomputable def b_182_0 : List En := [(0, .aload 0, 1, []), (1, .aload 0, 1, []), (2, .iload 1, 1, []), (3, .invokevirtual 97, 3, [164, 2, 9, 158]), (6, .ifCond .eq 14, 3, [1]), (9, .iload 2, 1, []), (10, .invokestatic 100, 3, [159, 1, 0, 159]), (13, .ifCond .eq 7, 3, [1]), (16, .iconst 1, 1, []), (17, .goto 4, 3, [2])]
/-- setValue, block 1 -/
noncomputable def b_182_1 : List En := [(20, .iconst 0, 1, []), (21, .nop, 0, [2])]
/-- setValue, block 2 -/
noncomputable def b_182_2 : List En := [(21, .invokevirtual 71, 3, [165, 2, 9, 152]), (24, .ifCond .ne 15, 3, [3]), (27, .aload 0, 1, []), (28, .iload 3, 1, []), (29, .invokestatic 68, 3, [163, 1, 0, 151]), (32, .iconst 2, 1, []), (33, .invokevirtual 37, 3, [157, 3, 9, 145]), (36, .ifCond .eq 5, 3, [4]), (39, .nop, 0, [3])]
/-- setValue, block 3 -/
noncomputable def b_182_3 : List En := [(39, .iconst 0, 1, []), (40, .ireturn, 1, [0])]
/-- setValue, block 4 -/
noncomputable def b_182_4 : List En := [(41, .aload 0, 1, []), (42, .invokevirtual 79, 3, [176, 1, 9, 154]), (45, .aload 0, 1, []), (46, .iload 1, 1, []), (47, .iload 2, 1, []), (48, .invokevirtual 41, 3, [166, 3, 9, 146]), (51, .istore 4, 2, []), (53, .aload 0, 1, []), (54, .getfield 9, 3, [8, 1, 3, 54]), (57, .iconst 0, 1, []), (58, .iconst 4, 1, []), (59, .iload 1, 1, []), (60, .imul, 1, []), (61, .iadd, 1, []), (62, .iload 2, 1, []), (63, .iadd, 1, []), (64, .iload 3, 1, []), (65, .iastore, 1, []), (66, .iload 4, 2, []), (68, .ireturn, 1, [0])]
noncomputable def cod_182 : List (List En) := [b_182_0, b_182_1, b_182_2, b_182_3, b_182_4]
/-- strike, block 0 -/
noncomputable def b_183_0 : List En := [(0, .aload 0, 1, []), (1, .aload 0, 1, []), (2, .iload 1, 1, []), (3, .invokevirtual 97, 3, [164, 2, 9, 158]), (6, .invokevirtual 71, 3, [165, 2, 9, 152]), (9, .ifCond .eq 5, 3, [1]), (12, .iconst 0, 1, []), (13, .ireturn, 1, [0])]
/-- strike, block 1 -/
noncomputable def b_183_1 : List En := [(14, .aload 0, 1, []), (15, .invokevirtual 79, 3, [176, 1, 9, 154]), (18, .iconst 0, 1, []), (19, .istore 2, 1, []), (20, .iconst 0, 1, []), (21, .istore 3, 1, []), (22, .nop, 0, [2])]
/-- strike, block 2 -/
noncomputable def b_183_2 : List En := [(22, .iload 3, 1, []), (23, .iconst 8, 2, []), (25, .if_icmp .ge 42, 3, [5]), (28, .iload 2, 1, []), (29, .aload 0, 1, []), (30, .iload 3, 1, []), (31, .iload 1, 1, []), (32, .invokevirtual 52, 3, [167, 3, 9, 149]), (35, .ifCond .eq 7, 3, [3]), (38, .iconst 1, 1, []), (39, .goto 4, 3, [4])]
/-- strike, block 3 -/
noncomputable def b_183_3 : List En := [(42, .iconst 0, 1, []), (43, .nop, 0, [4])]
/-- strike, block 4 -/
noncomputable def b_183_4 : List En := [(43, .iadd, 1, []), (44, .istore 2, 1, []), (45, .aload 0, 1, []), (46, .getfield 9, 3, [8, 1, 3, 54]), (49, .iconst 600, 3, []), (52, .iconst 120, 2, []), (54, .iload 3, 1, []), (55, .imul, 1, []), (56, .iadd, 1, []), (57, .iload 1, 1, []), (58, .iadd, 1, []), (59, .iconst 0, 1, []), (60, .iastore, 1, []), (61, .iinc 3 1, 3, []), (64, .goto (-42), 3, [2])]
/-- strike, block 5 -/
noncomputable def b_183_5 : List En := [(67, .aload 0, 1, []), (68, .getfield 9, 3, [8, 1, 3, 54]), (71, .iconst 480, 3, []), (74, .iload 1, 1, []), (75, .iadd, 1, []), (76, .iconst 0, 1, []), (77, .iastore, 1, []), (78, .iload 2, 1, []), (79, .ireturn, 1, [0])]
noncomputable def cod_183 : List (List En) := [b_183_0, b_183_1, b_183_2, b_183_3, b_183_4, b_183_5]
/-- keeps, block 0 -/
noncomputable def b_184_0 : List En := [(0, .aload 0, 1, []), (1, .invokevirtual 79, 3, [176, 1, 9, 154]), (4, .iconst 0, 1, []), (5, .istore 2, 1, []), (6, .nop, 0, [1])]
/-- keeps, block 1 -/
noncomputable def b_184_1 : List En := [(6, .iload 2, 1, []), (7, .iconst 120, 2, []), (9, .if_icmp .ge 38, 3, [4]), (12, .aload 0, 1, []), (13, .getfield 9, 3, [8, 1, 3, 54]), (16, .iconst 600, 3, []), (19, .iconst 120, 2, []), (21, .iload 1, 1, []), (22, .imul, 1, []), (23, .iadd, 1, []), (24, .iload 2, 1, []), (25, .iadd, 1, []), (26, .aload 0, 1, []), (27, .getfield 18, 3, [8, 5, 3, 56]), (30, .iload 2, 1, []), (31, .baload, 1, []), (32, .ifCond .eq 7, 3, [2]), (35, .iconst 1, 1, []), (36, .goto 4, 3, [3])]
/-- keeps, block 2 -/
noncomputable def b_184_2 : List En := [(39, .iconst 0, 1, []), (40, .nop, 0, [3])]
/-- keeps, block 3 -/
noncomputable def b_184_3 : List En := [(40, .iastore, 1, []), (41, .iinc 2 1, 3, []), (44, .goto (-38), 3, [1])]
/-- keeps, block 4 -/
noncomputable def b_184_4 : List En := [(47, .aload 0, 1, []), (48, .iload 1, 1, []), (49, .invokevirtual 103, 3, [173, 2, 9, 160]), (52, .ireturn, 1, [0])]
noncomputable def cod_184 : List (List En) := [b_184_0, b_184_1, b_184_2, b_184_3, b_184_4]
/-- select, block 0 -/
noncomputable def b_185_0 : List En := [(0, .aload 0, 1, []), (1, .iload 1, 1, []), (2, .invokestatic 106, 3, [160, 1, 0, 161]), (5, .ifCond .eq 14, 3, [1]), (8, .iload 2, 1, []), (9, .invokestatic 100, 3, [159, 1, 0, 159]), (12, .ifCond .eq 7, 3, [1]), (15, .iconst 1, 1, []), (16, .goto 4, 3, [2])]
/-- select, block 1 -/
noncomputable def b_185_1 : List En := [(19, .iconst 0, 1, []), (20, .nop, 0, [2])]
/-- select, block 2 -/
noncomputable def b_185_2 : List En := [(20, .invokevirtual 71, 3, [165, 2, 9, 152]), (23, .ifCond .ne 44, 3, [5]), (26, .aload 0, 1, []), (27, .iload 3, 1, []), (28, .iconst 0, 1, []), (29, .iconst 7, 2, []), (31, .invokestatic 29, 3, [158, 3, 0, 143]), (34, .ifCond .eq 25, 3, [3]), (37, .iload 4, 2, []), (39, .invokestatic 33, 3, [162, 1, 0, 144]), (42, .ifCond .eq 17, 3, [3]), (45, .iload 5, 2, []), (47, .iconst 0, 1, []), (48, .iconst 2, 1, []), (49, .invokestatic 29, 3, [158, 3, 0, 143]), (52, .ifCond .eq 7, 3, [3]), (55, .iconst 1, 1, []), (56, .goto 4, 3, [4])]
/-- select, block 3 -/
noncomputable def b_185_3 : List En := [(59, .iconst 0, 1, []), (60, .nop, 0, [4])]
/-- select, block 4 -/
noncomputable def b_185_4 : List En := [(60, .iconst 2, 1, []), (61, .invokevirtual 37, 3, [157, 3, 9, 145]), (64, .ifCond .eq 5, 3, [6]), (67, .nop, 0, [5])]
/-- select, block 5 -/
noncomputable def b_185_5 : List En := [(67, .iconst 0, 1, []), (68, .ireturn, 1, [0])]
/-- select, block 6 -/
noncomputable def b_185_6 : List En := [(69, .iconst 0, 1, []), (70, .istore 6, 2, []), (72, .nop, 0, [7])]
/-- select, block 7 -/
noncomputable def b_185_7 : List En := [(72, .iload 6, 2, []), (74, .iconst 120, 2, []), (76, .if_icmp .ge 52, 3, [10]), (79, .aload 0, 1, []), (80, .getfield 18, 3, [8, 5, 3, 56]), (83, .iload 6, 2, []), (85, .aload 0, 1, []), (86, .getfield 9, 3, [8, 1, 3, 54]), (89, .iconst 480, 3, []), (92, .iload 6, 2, []), (94, .iadd, 1, []), (95, .iaload, 1, []), (96, .iconst 1, 1, []), (97, .if_icmp .ne 23, 3, [8]), (100, .aload 0, 1, []), (101, .iload 6, 2, []), (103, .iload 2, 1, []), (104, .invokevirtual 41, 3, [166, 3, 9, 146]), (107, .iload 3, 1, []), (108, .iload 4, 2, []), (110, .invokestatic 45, 3, [169, 3, 0, 147]), (113, .ifCond .eq 7, 3, [8]), (116, .iconst 1, 1, []), (117, .goto 4, 3, [9])]
/-- select, block 8 -/
noncomputable def b_185_8 : List En := [(120, .iconst 0, 1, []), (121, .nop, 0, [9])]
/-- select, block 9 -/
noncomputable def b_185_9 : List En := [(121, .bastore, 1, []), (122, .iinc 6 1, 3, []), (125, .goto (-53), 3, [7])]
/-- select, block 10 -/
noncomputable def b_185_10 : List En := [(128, .aload 0, 1, []), (129, .iload 1, 1, []), (130, .invokevirtual 109, 3, [184, 2, 9, 162]), (133, .ireturn, 1, [0])]
noncomputable def cod_185 : List (List En) := [b_185_0, b_185_1, b_185_2, b_185_3, b_185_4, b_185_5, b_185_6, b_185_7, b_185_8, b_185_9, b_185_10]
/-- between, block 0 -/
noncomputable def b_186_0 : List En := [(0, .aload 0, 1, []), (1, .iload 1, 1, []), (2, .invokestatic 106, 3, [160, 1, 0, 161]), (5, .ifCond .eq 14, 3, [1]), (8, .iload 2, 1, []), (9, .invokestatic 100, 3, [159, 1, 0, 159]), (12, .ifCond .eq 7, 3, [1]), (15, .iconst 1, 1, []), (16, .goto 4, 3, [2])]
/-- between, block 1 -/
noncomputable def b_186_1 : List En := [(19, .iconst 0, 1, []), (20, .nop, 0, [2])]
/-- between, block 2 -/
noncomputable def b_186_2 : List En := [(20, .invokevirtual 71, 3, [165, 2, 9, 152]), (23, .ifCond .ne 31, 3, [5]), (26, .aload 0, 1, []), (27, .iload 3, 1, []), (28, .invokestatic 33, 3, [162, 1, 0, 144]), (31, .ifCond .eq 15, 3, [3]), (34, .iload 4, 2, []), (36, .invokestatic 33, 3, [162, 1, 0, 144]), (39, .ifCond .eq 7, 3, [3]), (42, .iconst 1, 1, []), (43, .goto 4, 3, [4])]
/-- between, block 3 -/
noncomputable def b_186_3 : List En := [(46, .iconst 0, 1, []), (47, .nop, 0, [4])]
/-- between, block 4 -/
noncomputable def b_186_4 : List En := [(47, .iconst 2, 1, []), (48, .invokevirtual 37, 3, [157, 3, 9, 145]), (51, .ifCond .eq 5, 3, [6]), (54, .nop, 0, [5])]
/-- between, block 5 -/
noncomputable def b_186_5 : List En := [(54, .iconst 0, 1, []), (55, .ireturn, 1, [0])]
/-- between, block 6 -/
noncomputable def b_186_6 : List En := [(56, .iconst 0, 1, []), (57, .istore 5, 2, []), (59, .nop, 0, [7])]
/-- between, block 7 -/
noncomputable def b_186_7 : List En := [(59, .iload 5, 2, []), (61, .iconst 120, 2, []), (63, .if_icmp .ge 52, 3, [10]), (66, .aload 0, 1, []), (67, .getfield 18, 3, [8, 5, 3, 56]), (70, .iload 5, 2, []), (72, .aload 0, 1, []), (73, .getfield 9, 3, [8, 1, 3, 54]), (76, .iconst 480, 3, []), (79, .iload 5, 2, []), (81, .iadd, 1, []), (82, .iaload, 1, []), (83, .iconst 1, 1, []), (84, .if_icmp .ne 23, 3, [8]), (87, .aload 0, 1, []), (88, .iload 5, 2, []), (90, .iload 2, 1, []), (91, .invokevirtual 41, 3, [166, 3, 9, 146]), (94, .iload 3, 1, []), (95, .iload 4, 2, []), (97, .invokestatic 29, 3, [158, 3, 0, 143]), (100, .ifCond .eq 7, 3, [8]), (103, .iconst 1, 1, []), (104, .goto 4, 3, [9])]
/-- between, block 8 -/
noncomputable def b_186_8 : List En := [(107, .iconst 0, 1, []), (108, .nop, 0, [9])]
/-- between, block 9 -/
noncomputable def b_186_9 : List En := [(108, .bastore, 1, []), (109, .iinc 5 1, 3, []), (112, .goto (-53), 3, [7])]
/-- between, block 10 -/
noncomputable def b_186_10 : List En := [(115, .aload 0, 1, []), (116, .iload 1, 1, []), (117, .invokevirtual 109, 3, [184, 2, 9, 162]), (120, .ireturn, 1, [0])]
noncomputable def cod_186 : List (List En) := [b_186_0, b_186_1, b_186_2, b_186_3, b_186_4, b_186_5, b_186_6, b_186_7, b_186_8, b_186_9, b_186_10]
/-- compare, block 0 -/
noncomputable def b_187_0 : List En := [(0, .aload 0, 1, []), (1, .iload 1, 1, []), (2, .invokestatic 106, 3, [160, 1, 0, 161]), (5, .ifCond .eq 22, 3, [1]), (8, .iload 2, 1, []), (9, .invokestatic 100, 3, [159, 1, 0, 159]), (12, .ifCond .eq 15, 3, [1]), (15, .iload 4, 2, []), (17, .invokestatic 100, 3, [159, 1, 0, 159]), (20, .ifCond .eq 7, 3, [1]), (23, .iconst 1, 1, []), (24, .goto 4, 3, [2])]
/-- compare, block 1 -/
noncomputable def b_187_1 : List En := [(27, .iconst 0, 1, []), (28, .nop, 0, [2])]
/-- compare, block 2 -/
noncomputable def b_187_2 : List En := [(28, .invokevirtual 71, 3, [165, 2, 9, 152]), (31, .ifCond .ne 17, 3, [3]), (34, .aload 0, 1, []), (35, .iload 3, 1, []), (36, .iconst 0, 1, []), (37, .iconst 5, 1, []), (38, .invokestatic 29, 3, [158, 3, 0, 143]), (41, .iconst 2, 1, []), (42, .invokevirtual 37, 3, [157, 3, 9, 145]), (45, .ifCond .eq 5, 3, [4]), (48, .nop, 0, [3])]
/-- compare, block 3 -/
noncomputable def b_187_3 : List En := [(48, .iconst 0, 1, []), (49, .ireturn, 1, [0])]
/-- compare, block 4 -/
noncomputable def b_187_4 : List En := [(50, .iconst 0, 1, []), (51, .istore 5, 2, []), (53, .nop, 0, [5])]
/-- compare, block 5 -/
noncomputable def b_187_5 : List En := [(53, .iload 5, 2, []), (55, .iconst 120, 2, []), (57, .if_icmp .ge 71, 3, [8]), (60, .aload 0, 1, []), (61, .getfield 18, 3, [8, 5, 3, 56]), (64, .iload 5, 2, []), (66, .aload 0, 1, []), (67, .getfield 9, 3, [8, 1, 3, 54]), (70, .iconst 480, 3, []), (73, .iload 5, 2, []), (75, .iadd, 1, []), (76, .iaload, 1, []), (77, .iconst 1, 1, []), (78, .if_icmp .ne 42, 3, [6]), (81, .aload 0, 1, []), (82, .iload 5, 2, []), (84, .iload 4, 2, []), (86, .invokevirtual 41, 3, [166, 3, 9, 146]), (89, .iconst 100, 2, []), (91, .if_icmp .eq 29, 3, [6]), (94, .aload 0, 1, []), (95, .iload 5, 2, []), (97, .iload 2, 1, []), (98, .invokevirtual 41, 3, [166, 3, 9, 146]), (101, .iload 3, 1, []), (102, .aload 0, 1, []), (103, .iload 5, 2, []), (105, .iload 4, 2, []), (107, .invokevirtual 41, 3, [166, 3, 9, 146]), (110, .invokestatic 45, 3, [169, 3, 0, 147]), (113, .ifCond .eq 7, 3, [6]), (116, .iconst 1, 1, []), (117, .goto 4, 3, [7])]
/-- compare, block 6 -/
noncomputable def b_187_6 : List En := [(120, .iconst 0, 1, []), (121, .nop, 0, [7])]
/-- compare, block 7 -/
noncomputable def b_187_7 : List En := [(121, .bastore, 1, []), (122, .iinc 5 1, 3, []), (125, .goto (-72), 3, [5])]
/-- compare, block 8 -/
noncomputable def b_187_8 : List En := [(128, .aload 0, 1, []), (129, .iload 1, 1, []), (130, .invokevirtual 109, 3, [184, 2, 9, 162]), (133, .ireturn, 1, [0])]
noncomputable def cod_187 : List (List En) := [b_187_0, b_187_1, b_187_2, b_187_3, b_187_4, b_187_5, b_187_6, b_187_7, b_187_8]
/-- combined, block 0 -/
noncomputable def b_188_0 : List En := [(0, .iload 1, 1, []), (1, .tableswitch 66 0 2 #[27, 41, 55], 27, [11, 1, 4, 8])]
/-- combined, block 1 -/
noncomputable def b_188_1 : List En := [(28, .iload 0, 1, []), (29, .ifCond .eq 11, 3, [2]), (32, .iload 2, 1, []), (33, .ifCond .eq 7, 3, [2]), (36, .iconst 1, 1, []), (37, .goto 4, 3, [3])]
/-- combined, block 2 -/
noncomputable def b_188_2 : List En := [(40, .iconst 0, 1, []), (41, .nop, 0, [3])]
/-- combined, block 3 -/
noncomputable def b_188_3 : List En := [(41, .ireturn, 1, [1])]
/-- combined, block 4 -/
noncomputable def b_188_4 : List En := [(42, .iload 0, 1, []), (43, .ifCond .ne 7, 3, [5]), (46, .iload 2, 1, []), (47, .ifCond .eq 7, 3, [6]), (50, .nop, 0, [5])]
/-- combined, block 5 -/
noncomputable def b_188_5 : List En := [(50, .iconst 1, 1, []), (51, .goto 4, 3, [7])]
/-- combined, block 6 -/
noncomputable def b_188_6 : List En := [(54, .iconst 0, 1, []), (55, .nop, 0, [7])]
/-- combined, block 7 -/
noncomputable def b_188_7 : List En := [(55, .ireturn, 1, [1])]
/-- combined, block 8 -/
noncomputable def b_188_8 : List En := [(56, .iload 0, 1, []), (57, .iload 2, 1, []), (58, .if_icmp .eq 7, 3, [9]), (61, .iconst 1, 1, []), (62, .goto 4, 3, [10])]
/-- combined, block 9 -/
noncomputable def b_188_9 : List En := [(65, .iconst 0, 1, []), (66, .nop, 0, [10])]
/-- combined, block 10 -/
noncomputable def b_188_10 : List En := [(66, .ireturn, 1, [1])]
/-- combined, block 11 -/
noncomputable def b_188_11 : List En := [(67, .iload 0, 1, []), (68, .ifCond .eq 11, 3, [12]), (71, .iload 2, 1, []), (72, .ifCond .ne 7, 3, [12]), (75, .iconst 1, 1, []), (76, .goto 4, 3, [13])]
/-- combined, block 12 -/
noncomputable def b_188_12 : List En := [(79, .iconst 0, 1, []), (80, .nop, 0, [13])]
/-- combined, block 13 -/
noncomputable def b_188_13 : List En := [(80, .ireturn, 1, [1])]
noncomputable def cod_188 : List (List En) := [b_188_0, b_188_1, b_188_2, b_188_3, b_188_4, b_188_5, b_188_6, b_188_7, b_188_8, b_188_9, b_188_10, b_188_11, b_188_12, b_188_13]
/-- combine, block 0 -/
noncomputable def b_189_0 : List En := [(0, .aload 0, 1, []), (1, .iload 1, 1, []), (2, .invokestatic 106, 3, [160, 1, 0, 161]), (5, .ifCond .eq 14, 3, [1]), (8, .iload 3, 1, []), (9, .invokestatic 106, 3, [160, 1, 0, 161]), (12, .ifCond .eq 7, 3, [1]), (15, .iconst 1, 1, []), (16, .goto 4, 3, [2])]
/-- combine, block 1 -/
noncomputable def b_189_1 : List En := [(19, .iconst 0, 1, []), (20, .nop, 0, [2])]
/-- combine, block 2 -/
noncomputable def b_189_2 : List En := [(20, .invokevirtual 71, 3, [165, 2, 9, 152]), (23, .ifCond .ne 17, 3, [3]), (26, .aload 0, 1, []), (27, .iload 2, 1, []), (28, .iconst 0, 1, []), (29, .iconst 3, 1, []), (30, .invokestatic 29, 3, [158, 3, 0, 143]), (33, .iconst 2, 1, []), (34, .invokevirtual 37, 3, [157, 3, 9, 145]), (37, .ifCond .eq 5, 3, [4]), (40, .nop, 0, [3])]
/-- combine, block 3 -/
noncomputable def b_189_3 : List En := [(40, .iconst 0, 1, []), (41, .ireturn, 1, [0])]
/-- combine, block 4 -/
noncomputable def b_189_4 : List En := [(42, .iconst 0, 1, []), (43, .istore 4, 2, []), (45, .nop, 0, [5])]
/-- combine, block 5 -/
noncomputable def b_189_5 : List En := [(45, .iload 4, 2, []), (47, .iconst 120, 2, []), (49, .if_icmp .ge 34, 3, [6]), (52, .aload 0, 1, []), (53, .getfield 18, 3, [8, 5, 3, 56]), (56, .iload 4, 2, []), (58, .aload 0, 1, []), (59, .iload 1, 1, []), (60, .iload 4, 2, []), (62, .invokevirtual 52, 3, [167, 3, 9, 149]), (65, .iload 2, 1, []), (66, .aload 0, 1, []), (67, .iload 3, 1, []), (68, .iload 4, 2, []), (70, .invokevirtual 52, 3, [167, 3, 9, 149]), (73, .invokestatic 112, 3, [188, 3, 0, 163]), (76, .bastore, 1, []), (77, .iinc 4 1, 3, []), (80, .goto (-35), 3, [5])]
/-- combine, block 6 -/
noncomputable def b_189_6 : List En := [(83, .aload 0, 1, []), (84, .iload 1, 1, []), (85, .invokevirtual 109, 3, [184, 2, 9, 162]), (88, .ireturn, 1, [0])]
noncomputable def cod_189 : List (List En) := [b_189_0, b_189_1, b_189_2, b_189_3, b_189_4, b_189_5, b_189_6]
/-- contrary, block 0 -/
noncomputable def b_190_0 : List En := [(0, .aload 0, 1, []), (1, .iload 1, 1, []), (2, .invokestatic 106, 3, [160, 1, 0, 161]), (5, .invokevirtual 71, 3, [165, 2, 9, 152]), (8, .ifCond .eq 5, 3, [1]), (11, .iconst 0, 1, []), (12, .ireturn, 1, [0])]
/-- contrary, block 1 -/
noncomputable def b_190_1 : List En := [(13, .iconst 0, 1, []), (14, .istore 2, 1, []), (15, .nop, 0, [2])]
/-- contrary, block 2 -/
noncomputable def b_190_2 : List En := [(15, .iload 2, 1, []), (16, .iconst 120, 2, []), (18, .if_icmp .ge 43, 3, [5]), (21, .aload 0, 1, []), (22, .getfield 18, 3, [8, 5, 3, 56]), (25, .iload 2, 1, []), (26, .aload 0, 1, []), (27, .getfield 9, 3, [8, 1, 3, 54]), (30, .iconst 480, 3, []), (33, .iload 2, 1, []), (34, .iadd, 1, []), (35, .iaload, 1, []), (36, .iconst 1, 1, []), (37, .if_icmp .ne 16, 3, [3]), (40, .aload 0, 1, []), (41, .iload 1, 1, []), (42, .iload 2, 1, []), (43, .invokevirtual 52, 3, [167, 3, 9, 149]), (46, .ifCond .ne 7, 3, [3]), (49, .iconst 1, 1, []), (50, .goto 4, 3, [4])]
/-- contrary, block 3 -/
noncomputable def b_190_3 : List En := [(53, .iconst 0, 1, []), (54, .nop, 0, [4])]
/-- contrary, block 4 -/
noncomputable def b_190_4 : List En := [(54, .bastore, 1, []), (55, .iinc 2 1, 3, []), (58, .goto (-43), 3, [2])]
/-- contrary, block 5 -/
noncomputable def b_190_5 : List En := [(61, .aload 0, 1, []), (62, .iload 1, 1, []), (63, .invokevirtual 109, 3, [184, 2, 9, 162]), (66, .ireturn, 1, [0])]
noncomputable def cod_190 : List (List En) := [b_190_0, b_190_1, b_190_2, b_190_3, b_190_4, b_190_5]
/-- copyOf, block 0 -/
noncomputable def b_191_0 : List En := [(0, .aload 0, 1, []), (1, .iload 1, 1, []), (2, .invokestatic 106, 3, [160, 1, 0, 161]), (5, .ifCond .eq 14, 3, [1]), (8, .iload 2, 1, []), (9, .invokestatic 106, 3, [160, 1, 0, 161]), (12, .ifCond .eq 7, 3, [1]), (15, .iconst 1, 1, []), (16, .goto 4, 3, [2])]
/-- copyOf, block 1 -/
noncomputable def b_191_1 : List En := [(19, .iconst 0, 1, []), (20, .nop, 0, [2])]
/-- copyOf, block 2 -/
noncomputable def b_191_2 : List En := [(20, .invokevirtual 71, 3, [165, 2, 9, 152]), (23, .ifCond .eq 5, 3, [3]), (26, .iconst 0, 1, []), (27, .ireturn, 1, [0])]
/-- copyOf, block 3 -/
noncomputable def b_191_3 : List En := [(28, .iconst 0, 1, []), (29, .istore 3, 1, []), (30, .nop, 0, [4])]
/-- copyOf, block 4 -/
noncomputable def b_191_4 : List En := [(30, .iload 3, 1, []), (31, .iconst 120, 2, []), (33, .if_icmp .ge 21, 3, [5]), (36, .aload 0, 1, []), (37, .getfield 18, 3, [8, 5, 3, 56]), (40, .iload 3, 1, []), (41, .aload 0, 1, []), (42, .iload 2, 1, []), (43, .iload 3, 1, []), (44, .invokevirtual 52, 3, [167, 3, 9, 149]), (47, .bastore, 1, []), (48, .iinc 3 1, 3, []), (51, .goto (-21), 3, [4])]
/-- copyOf, block 5 -/
noncomputable def b_191_5 : List En := [(54, .aload 0, 1, []), (55, .iload 1, 1, []), (56, .invokevirtual 109, 3, [184, 2, 9, 162]), (59, .ireturn, 1, [0])]
noncomputable def cod_191 : List (List En) := [b_191_0, b_191_1, b_191_2, b_191_3, b_191_4, b_191_5]
/-- put, block 0 -/
noncomputable def b_192_0 : List En := [(0, .aload 0, 1, []), (1, .iload 1, 1, []), (2, .invokestatic 106, 3, [160, 1, 0, 161]), (5, .ifCond .eq 15, 3, [1]), (8, .aload 0, 1, []), (9, .iload 2, 1, []), (10, .invokevirtual 97, 3, [164, 2, 9, 158]), (13, .ifCond .eq 7, 3, [1]), (16, .iconst 1, 1, []), (17, .goto 4, 3, [2])]
/-- put, block 1 -/
noncomputable def b_192_1 : List En := [(20, .iconst 0, 1, []), (21, .nop, 0, [2])]
/-- put, block 2 -/
noncomputable def b_192_2 : List En := [(21, .invokevirtual 71, 3, [165, 2, 9, 152]), (24, .ifCond .eq 5, 3, [3]), (27, .iconst 0, 1, []), (28, .ireturn, 1, [1])]
/-- put, block 3 -/
noncomputable def b_192_3 : List En := [(29, .aload 0, 1, []), (30, .invokevirtual 79, 3, [176, 1, 9, 154]), (33, .aload 0, 1, []), (34, .iload 1, 1, []), (35, .iload 2, 1, []), (36, .invokevirtual 52, 3, [167, 3, 9, 149]), (39, .istore 4, 2, []), (41, .aload 0, 1, []), (42, .getfield 9, 3, [8, 1, 3, 54]), (45, .iconst 600, 3, []), (48, .iconst 120, 2, []), (50, .iload 1, 1, []), (51, .imul, 1, []), (52, .iadd, 1, []), (53, .iload 2, 1, []), (54, .iadd, 1, []), (55, .iload 3, 1, []), (56, .ifCond .eq 7, 3, [4]), (59, .iconst 1, 1, []), (60, .goto 4, 3, [5])]
/-- put, block 4 -/
noncomputable def b_192_4 : List En := [(63, .iconst 0, 1, []), (64, .nop, 0, [5])]
/-- put, block 5 -/
noncomputable def b_192_5 : List En := [(64, .iastore, 1, []), (65, .iload 4, 2, []), (67, .ireturn, 1, [1])]
noncomputable def cod_192 : List (List En) := [b_192_0, b_192_1, b_192_2, b_192_3, b_192_4, b_192_5]
/-- sample, block 0 -/
noncomputable def b_193_0 : List En := [(0, .aload 0, 1, []), (1, .iload 1, 1, []), (2, .invokestatic 106, 3, [160, 1, 0, 161]), (5, .invokevirtual 71, 3, [165, 2, 9, 152]), (8, .ifCond .ne 18, 3, [1]), (11, .aload 0, 1, []), (12, .iload 3, 1, []), (13, .iconst 0, 1, []), (14, .iconst 120, 2, []), (16, .invokestatic 29, 3, [158, 3, 0, 143]), (19, .iconst 2, 1, []), (20, .invokevirtual 37, 3, [157, 3, 9, 145]), (23, .ifCond .eq 5, 3, [2]), (26, .nop, 0, [1])]
/-- sample, block 1 -/
noncomputable def b_193_1 : List En := [(26, .iconst 0, 1, []), (27, .ireturn, 1, [0])]
/-- sample, block 2 -/
noncomputable def b_193_2 : List En := [(28, .aload 0, 1, []), (29, .iload 2, 1, []), (30, .putfield 86, 3, [8, 4, 1, 60]), (33, .aload 0, 1, []), (34, .iload 1, 1, []), (35, .invokevirtual 103, 3, [173, 2, 9, 160]), (38, .istore 4, 2, []), (40, .iconst 0, 1, []), (41, .istore 5, 2, []), (43, .nop, 0, [3])]
/-- sample, block 3 -/
noncomputable def b_193_3 : List En := [(43, .iload 5, 2, []), (45, .iconst 120, 2, []), (47, .if_icmp .ge 17, 3, [4]), (50, .aload 0, 1, []), (51, .getfield 18, 3, [8, 5, 3, 56]), (54, .iload 5, 2, []), (56, .iconst 0, 1, []), (57, .bastore, 1, []), (58, .iinc 5 1, 3, []), (61, .goto (-18), 3, [3])]
/-- sample, block 4 -/
noncomputable def b_193_4 : List En := [(64, .iconst 0, 1, []), (65, .istore 5, 2, []), (67, .nop, 0, [5])]
/-- sample, block 5 -/
noncomputable def b_193_5 : List En := [(67, .iload 5, 2, []), (69, .iload 3, 1, []), (70, .if_icmp .ge 77, 3, [10]), (73, .iload 4, 2, []), (75, .ifCond .le 72, 3, [10]), (78, .aload 0, 1, []), (79, .iload 4, 2, []), (81, .invokevirtual 90, 3, [179, 2, 9, 156]), (84, .istore 6, 2, []), (86, .iconst (-1), 1, []), (87, .istore 7, 2, []), (89, .nop, 0, [6])]
/-- sample, block 6 -/
noncomputable def b_193_6 : List En := [(89, .iload 6, 2, []), (91, .ifCond .lt 39, 3, [9]), (94, .iinc 7 1, 3, []), (97, .iload 6, 2, []), (99, .aload 0, 1, []), (100, .iload 1, 1, []), (101, .iload 7, 2, []), (103, .invokevirtual 52, 3, [167, 3, 9, 149]), (106, .ifCond .eq 17, 3, [7]), (109, .aload 0, 1, []), (110, .getfield 18, 3, [8, 5, 3, 56]), (113, .iload 7, 2, []), (115, .baload, 1, []), (116, .ifCond .ne 7, 3, [7]), (119, .iconst 1, 1, []), (120, .goto 4, 3, [8])]
/-- sample, block 7 -/
noncomputable def b_193_7 : List En := [(123, .iconst 0, 1, []), (124, .nop, 0, [8])]
/-- sample, block 8 -/
noncomputable def b_193_8 : List En := [(124, .isub, 1, []), (125, .istore 6, 2, []), (127, .goto (-38), 3, [6])]
/-- sample, block 9 -/
noncomputable def b_193_9 : List En := [(130, .aload 0, 1, []), (131, .getfield 18, 3, [8, 5, 3, 56]), (134, .iload 7, 2, []), (136, .iconst 1, 1, []), (137, .bastore, 1, []), (138, .iinc 4 (-1), 3, []), (141, .iinc 5 1, 3, []), (144, .goto (-77), 3, [5])]
/-- sample, block 10 -/
noncomputable def b_193_10 : List En := [(147, .aload 0, 1, []), (148, .iload 1, 1, []), (149, .invokevirtual 109, 3, [184, 2, 9, 162]), (152, .ireturn, 1, [0])]
noncomputable def cod_193 : List (List En) := [b_193_0, b_193_1, b_193_2, b_193_3, b_193_4, b_193_5, b_193_6, b_193_7, b_193_8, b_193_9, b_193_10]
/-- partners, block 0 -/
noncomputable def b_194_0 : List En := [(0, .aload 0, 1, []), (1, .iload 1, 1, []), (2, .invokestatic 106, 3, [160, 1, 0, 161]), (5, .ifCond .eq 37, 3, [1]), (8, .iload 2, 1, []), (9, .invokestatic 100, 3, [159, 1, 0, 159]), (12, .ifCond .eq 30, 3, [1]), (15, .iload 3, 1, []), (16, .invokestatic 106, 3, [160, 1, 0, 161]), (19, .ifCond .eq 23, 3, [1]), (22, .iload 4, 2, []), (24, .invokestatic 100, 3, [159, 1, 0, 159]), (27, .ifCond .eq 15, 3, [1]), (30, .iload 5, 2, []), (32, .invokestatic 106, 3, [160, 1, 0, 161]), (35, .ifCond .eq 7, 3, [1]), (38, .iconst 1, 1, []), (39, .goto 4, 3, [2])]
/-- partners, block 1 -/
noncomputable def b_194_1 : List En := [(42, .iconst 0, 1, []), (43, .nop, 0, [2])]
/-- partners, block 2 -/
noncomputable def b_194_2 : List En := [(43, .invokevirtual 71, 3, [165, 2, 9, 152]), (46, .ifCond .eq 5, 3, [3]), (49, .iconst 0, 1, []), (50, .ireturn, 1, [0])]
/-- partners, block 3 -/
noncomputable def b_194_3 : List En := [(51, .iconst 0, 1, []), (52, .istore 6, 2, []), (54, .nop, 0, [4])]
/-- partners, block 4 -/
noncomputable def b_194_4 : List En := [(54, .iload 6, 2, []), (56, .iconst 120, 2, []), (58, .if_icmp .ge 60, 3, [7]), (61, .aload 0, 1, []), (62, .iload 6, 2, []), (64, .iload 2, 1, []), (65, .invokevirtual 41, 3, [166, 3, 9, 146]), (68, .istore 7, 2, []), (70, .aload 0, 1, []), (71, .getfield 18, 3, [8, 5, 3, 56]), (74, .iload 6, 2, []), (76, .aload 0, 1, []), (77, .iload 3, 1, []), (78, .iload 6, 2, []), (80, .invokevirtual 52, 3, [167, 3, 9, 149]), (83, .ifCond .eq 27, 3, [5]), (86, .iload 7, 2, []), (88, .iconst 100, 2, []), (90, .if_icmp .eq 20, 3, [5]), (93, .aload 0, 1, []), (94, .iload 5, 2, []), (96, .iload 4, 2, []), (98, .iload 7, 2, []), (100, .invokevirtual 55, 3, [174, 4, 9, 150]), (103, .ifCond .le 7, 3, [5]), (106, .iconst 1, 1, []), (107, .goto 4, 3, [6])]
/-- partners, block 5 -/
noncomputable def b_194_5 : List En := [(110, .iconst 0, 1, []), (111, .nop, 0, [6])]
/-- partners, block 6 -/
noncomputable def b_194_6 : List En := [(111, .bastore, 1, []), (112, .iinc 6 1, 3, []), (115, .goto (-61), 3, [4])]
/-- partners, block 7 -/
noncomputable def b_194_7 : List En := [(118, .aload 0, 1, []), (119, .iload 1, 1, []), (120, .invokevirtual 109, 3, [184, 2, 9, 162]), (123, .ireturn, 1, [0])]
noncomputable def cod_194 : List (List En) := [b_194_0, b_194_1, b_194_2, b_194_3, b_194_4, b_194_5, b_194_6, b_194_7]
/-- runPlan, block 0 -/
noncomputable def b_195_0 : List En := [(0, .aload 0, 1, []), (1, .iload 1, 1, []), (2, .invokestatic 106, 3, [160, 1, 0, 161]), (5, .invokevirtual 71, 3, [165, 2, 9, 152]), (8, .ifCond .eq 5, 3, [1]), (11, .iconst 0, 1, []), (12, .ireturn, 1, [0])]
/-- runPlan, block 1 -/
noncomputable def b_195_1 : List En := [(13, .iconst 0, 1, []), (14, .istore 2, 1, []), (15, .nop, 0, [2])]
/-- runPlan, block 2 -/
noncomputable def b_195_2 : List En := [(15, .iload 2, 1, []), (16, .iconst 120, 2, []), (18, .if_icmp .ge 20, 3, [3]), (21, .aload 0, 1, []), (22, .getfield 18, 3, [8, 5, 3, 56]), (25, .iload 2, 1, []), (26, .aload 0, 1, []), (27, .iload 2, 1, []), (28, .invokevirtual 116, 3, [171, 2, 9, 164]), (31, .bastore, 1, []), (32, .iinc 2 1, 3, []), (35, .goto (-20), 3, [2])]
/-- runPlan, block 3 -/
noncomputable def b_195_3 : List En := [(38, .aload 0, 1, []), (39, .iload 1, 1, []), (40, .invokevirtual 109, 3, [184, 2, 9, 162]), (43, .ireturn, 1, [0])]
noncomputable def cod_195 : List (List En) := [b_195_0, b_195_1, b_195_2, b_195_3]
/-- unpack, block 0 -/
noncomputable def b_196_0 : List En := [(0, .aload 0, 1, []), (1, .iload 1, 1, []), (2, .invokestatic 106, 3, [160, 1, 0, 161]), (5, .ifCond .eq 14, 3, [1]), (8, .iload 2, 1, []), (9, .invokestatic 119, 3, [161, 1, 0, 165]), (12, .ifCond .eq 7, 3, [1]), (15, .iconst 1, 1, []), (16, .goto 4, 3, [2])]
/-- unpack, block 1 -/
noncomputable def b_196_1 : List En := [(19, .iconst 0, 1, []), (20, .nop, 0, [2])]
/-- unpack, block 2 -/
noncomputable def b_196_2 : List En := [(20, .invokevirtual 71, 3, [165, 2, 9, 152]), (23, .ifCond .eq 5, 3, [3]), (26, .iconst 0, 1, []), (27, .ireturn, 1, [0])]
/-- unpack, block 3 -/
noncomputable def b_196_3 : List En := [(28, .iconst 0, 1, []), (29, .istore 3, 1, []), (30, .nop, 0, [4])]
/-- unpack, block 4 -/
noncomputable def b_196_4 : List En := [(30, .iload 3, 1, []), (31, .iconst 120, 2, []), (33, .if_icmp .ge 43, 3, [7]), (36, .aload 0, 1, []), (37, .getfield 18, 3, [8, 5, 3, 56]), (40, .iload 3, 1, []), (41, .aload 0, 1, []), (42, .getfield 9, 3, [8, 1, 3, 54]), (45, .iconst 480, 3, []), (48, .iload 3, 1, []), (49, .iadd, 1, []), (50, .iaload, 1, []), (51, .iconst 1, 1, []), (52, .if_icmp .ne 16, 3, [5]), (55, .aload 0, 1, []), (56, .iload 2, 1, []), (57, .iload 3, 1, []), (58, .invokevirtual 122, 3, [168, 3, 9, 166]), (61, .ifCond .eq 7, 3, [5]), (64, .iconst 1, 1, []), (65, .goto 4, 3, [6])]
/-- unpack, block 5 -/
noncomputable def b_196_5 : List En := [(68, .iconst 0, 1, []), (69, .nop, 0, [6])]
/-- unpack, block 6 -/
noncomputable def b_196_6 : List En := [(69, .bastore, 1, []), (70, .iinc 3 1, 3, []), (73, .goto (-43), 3, [4])]
/-- unpack, block 7 -/
noncomputable def b_196_7 : List En := [(76, .aload 0, 1, []), (77, .iload 1, 1, []), (78, .invokevirtual 109, 3, [184, 2, 9, 162]), (81, .ireturn, 1, [0])]
noncomputable def cod_196 : List (List En) := [b_196_0, b_196_1, b_196_2, b_196_3, b_196_4, b_196_5, b_196_6, b_196_7]
/-- packs, block 0 -/
noncomputable def b_197_0 : List En := [(0, .aload 0, 1, []), (1, .invokevirtual 79, 3, [176, 1, 9, 154]), (4, .iconst 0, 1, []), (5, .istore 2, 1, []), (6, .nop, 0, [1])]
/-- packs, block 1 -/
noncomputable def b_197_1 : List En := [(6, .iload 2, 1, []), (7, .iconst 120, 2, []), (9, .if_icmp .ge 38, 3, [4]), (12, .aload 0, 1, []), (13, .getfield 9, 3, [8, 1, 3, 54]), (16, .iconst 1560, 3, []), (19, .iconst 120, 2, []), (21, .iload 1, 1, []), (22, .imul, 1, []), (23, .iadd, 1, []), (24, .iload 2, 1, []), (25, .iadd, 1, []), (26, .aload 0, 1, []), (27, .getfield 18, 3, [8, 5, 3, 56]), (30, .iload 2, 1, []), (31, .baload, 1, []), (32, .ifCond .eq 7, 3, [2]), (35, .iconst 1, 1, []), (36, .goto 4, 3, [3])]
/-- packs, block 2 -/
noncomputable def b_197_2 : List En := [(39, .iconst 0, 1, []), (40, .nop, 0, [3])]
/-- packs, block 3 -/
noncomputable def b_197_3 : List En := [(40, .iastore, 1, []), (41, .iinc 2 1, 3, []), (44, .goto (-38), 3, [1])]
/-- packs, block 4 -/
noncomputable def b_197_4 : List En := [(47, .aload 0, 1, []), (48, .iload 1, 1, []), (49, .invokevirtual 125, 3, [233, 2, 9, 167]), (52, .ireturn, 1, [0])]
noncomputable def cod_197 : List (List En) := [b_197_0, b_197_1, b_197_2, b_197_3, b_197_4]
/-- pack, block 0 -/
noncomputable def b_198_0 : List En := [(0, .aload 0, 1, []), (1, .iload 1, 1, []), (2, .invokestatic 119, 3, [161, 1, 0, 165]), (5, .ifCond .eq 14, 3, [1]), (8, .iload 2, 1, []), (9, .invokestatic 106, 3, [160, 1, 0, 161]), (12, .ifCond .eq 7, 3, [1]), (15, .iconst 1, 1, []), (16, .goto 4, 3, [2])]
/-- pack, block 1 -/
noncomputable def b_198_1 : List En := [(19, .iconst 0, 1, []), (20, .nop, 0, [2])]
/-- pack, block 2 -/
noncomputable def b_198_2 : List En := [(20, .invokevirtual 71, 3, [165, 2, 9, 152]), (23, .ifCond .eq 5, 3, [3]), (26, .iconst 0, 1, []), (27, .ireturn, 1, [0])]
/-- pack, block 3 -/
noncomputable def b_198_3 : List En := [(28, .iconst 0, 1, []), (29, .istore 3, 1, []), (30, .nop, 0, [4])]
/-- pack, block 4 -/
noncomputable def b_198_4 : List En := [(30, .iload 3, 1, []), (31, .iconst 120, 2, []), (33, .if_icmp .ge 21, 3, [5]), (36, .aload 0, 1, []), (37, .getfield 18, 3, [8, 5, 3, 56]), (40, .iload 3, 1, []), (41, .aload 0, 1, []), (42, .iload 2, 1, []), (43, .iload 3, 1, []), (44, .invokevirtual 52, 3, [167, 3, 9, 149]), (47, .bastore, 1, []), (48, .iinc 3 1, 3, []), (51, .goto (-21), 3, [4])]
/-- pack, block 5 -/
noncomputable def b_198_5 : List En := [(54, .aload 0, 1, []), (55, .iload 1, 1, []), (56, .invokevirtual 128, 3, [197, 2, 9, 168]), (59, .ireturn, 1, [0])]
noncomputable def cod_198 : List (List En) := [b_198_0, b_198_1, b_198_2, b_198_3, b_198_4, b_198_5]
/-- combinePacked, block 0 -/
noncomputable def b_199_0 : List En := [(0, .aload 0, 1, []), (1, .iload 1, 1, []), (2, .invokestatic 119, 3, [161, 1, 0, 165]), (5, .ifCond .eq 14, 3, [1]), (8, .iload 3, 1, []), (9, .invokestatic 119, 3, [161, 1, 0, 165]), (12, .ifCond .eq 7, 3, [1]), (15, .iconst 1, 1, []), (16, .goto 4, 3, [2])]
/-- combinePacked, block 1 -/
noncomputable def b_199_1 : List En := [(19, .iconst 0, 1, []), (20, .nop, 0, [2])]
/-- combinePacked, block 2 -/
noncomputable def b_199_2 : List En := [(20, .invokevirtual 71, 3, [165, 2, 9, 152]), (23, .ifCond .ne 17, 3, [3]), (26, .aload 0, 1, []), (27, .iload 2, 1, []), (28, .iconst 0, 1, []), (29, .iconst 3, 1, []), (30, .invokestatic 29, 3, [158, 3, 0, 143]), (33, .iconst 2, 1, []), (34, .invokevirtual 37, 3, [157, 3, 9, 145]), (37, .ifCond .eq 5, 3, [4]), (40, .nop, 0, [3])]
/-- combinePacked, block 3 -/
noncomputable def b_199_3 : List En := [(40, .iconst 0, 1, []), (41, .ireturn, 1, [0])]
/-- combinePacked, block 4 -/
noncomputable def b_199_4 : List En := [(42, .iconst 0, 1, []), (43, .istore 4, 2, []), (45, .nop, 0, [5])]
/-- combinePacked, block 5 -/
noncomputable def b_199_5 : List En := [(45, .iload 4, 2, []), (47, .iconst 120, 2, []), (49, .if_icmp .ge 34, 3, [6]), (52, .aload 0, 1, []), (53, .getfield 18, 3, [8, 5, 3, 56]), (56, .iload 4, 2, []), (58, .aload 0, 1, []), (59, .iload 1, 1, []), (60, .iload 4, 2, []), (62, .invokevirtual 122, 3, [168, 3, 9, 166]), (65, .iload 2, 1, []), (66, .aload 0, 1, []), (67, .iload 3, 1, []), (68, .iload 4, 2, []), (70, .invokevirtual 122, 3, [168, 3, 9, 166]), (73, .invokestatic 112, 3, [188, 3, 0, 163]), (76, .bastore, 1, []), (77, .iinc 4 1, 3, []), (80, .goto (-35), 3, [5])]
/-- combinePacked, block 6 -/
noncomputable def b_199_6 : List En := [(83, .aload 0, 1, []), (84, .iload 1, 1, []), (85, .invokevirtual 128, 3, [197, 2, 9, 168]), (88, .ireturn, 1, [0])]
noncomputable def cod_199 : List (List En) := [b_199_0, b_199_1, b_199_2, b_199_3, b_199_4, b_199_5, b_199_6]
/-- contraryPacked, block 0 -/
noncomputable def b_200_0 : List En := [(0, .aload 0, 1, []), (1, .iload 1, 1, []), (2, .invokestatic 119, 3, [161, 1, 0, 165]), (5, .invokevirtual 71, 3, [165, 2, 9, 152]), (8, .ifCond .eq 5, 3, [1]), (11, .iconst 0, 1, []), (12, .ireturn, 1, [0])]
/-- contraryPacked, block 1 -/
noncomputable def b_200_1 : List En := [(13, .iconst 0, 1, []), (14, .istore 2, 1, []), (15, .nop, 0, [2])]
/-- contraryPacked, block 2 -/
noncomputable def b_200_2 : List En := [(15, .iload 2, 1, []), (16, .iconst 120, 2, []), (18, .if_icmp .ge 29, 3, [5]), (21, .aload 0, 1, []), (22, .getfield 18, 3, [8, 5, 3, 56]), (25, .iload 2, 1, []), (26, .aload 0, 1, []), (27, .iload 1, 1, []), (28, .iload 2, 1, []), (29, .invokevirtual 122, 3, [168, 3, 9, 166]), (32, .ifCond .ne 7, 3, [3]), (35, .iconst 1, 1, []), (36, .goto 4, 3, [4])]
/-- contraryPacked, block 3 -/
noncomputable def b_200_3 : List En := [(39, .iconst 0, 1, []), (40, .nop, 0, [4])]
/-- contraryPacked, block 4 -/
noncomputable def b_200_4 : List En := [(40, .bastore, 1, []), (41, .iinc 2 1, 3, []), (44, .goto (-29), 3, [2])]
/-- contraryPacked, block 5 -/
noncomputable def b_200_5 : List En := [(47, .aload 0, 1, []), (48, .iload 1, 1, []), (49, .invokevirtual 128, 3, [197, 2, 9, 168]), (52, .ireturn, 1, [0])]
noncomputable def cod_200 : List (List En) := [b_200_0, b_200_1, b_200_2, b_200_3, b_200_4, b_200_5]
/-- addCondition, block 0 -/
noncomputable def b_201_0 : List En := [(0, .aload 0, 1, []), (1, .iload 1, 1, []), (2, .invokestatic 100, 3, [159, 1, 0, 159]), (5, .invokevirtual 71, 3, [165, 2, 9, 152]), (8, .ifCond .ne 58, 3, [5]), (11, .aload 0, 1, []), (12, .iload 2, 1, []), (13, .iconst 0, 1, []), (14, .iconst 7, 2, []), (16, .invokestatic 29, 3, [158, 3, 0, 143]), (19, .ifCond .eq 14, 3, [1]), (22, .iload 3, 1, []), (23, .invokestatic 33, 3, [162, 1, 0, 144]), (26, .ifCond .eq 7, 3, [1]), (29, .iconst 1, 1, []), (30, .goto 4, 3, [2])]
/-- addCondition, block 1 -/
noncomputable def b_201_1 : List En := [(33, .iconst 0, 1, []), (34, .nop, 0, [2])]
/-- addCondition, block 2 -/
noncomputable def b_201_2 : List En := [(34, .iconst 2, 1, []), (35, .invokevirtual 37, 3, [157, 3, 9, 145]), (38, .ifCond .ne 28, 3, [5]), (41, .aload 0, 1, []), (42, .aload 0, 1, []), (43, .getfield 9, 3, [8, 1, 3, 54]), (46, .iconst 2040, 3, []), (49, .iaload, 1, []), (50, .iconst 4, 1, []), (51, .if_icmp .ge 7, 3, [3]), (54, .iconst 1, 1, []), (55, .goto 4, 3, [4])]
/-- addCondition, block 3 -/
noncomputable def b_201_3 : List En := [(58, .iconst 0, 1, []), (59, .nop, 0, [4])]
/-- addCondition, block 4 -/
noncomputable def b_201_4 : List En := [(59, .iconst 3, 1, []), (60, .invokevirtual 37, 3, [157, 3, 9, 145]), (63, .ifCond .eq 5, 3, [6]), (66, .nop, 0, [5])]
/-- addCondition, block 5 -/
noncomputable def b_201_5 : List En := [(66, .iconst 0, 1, []), (67, .ireturn, 1, [0])]
/-- addCondition, block 6 -/
noncomputable def b_201_6 : List En := [(68, .aload 0, 1, []), (69, .invokevirtual 79, 3, [176, 1, 9, 154]), (72, .iconst 2041, 3, []), (75, .iconst 3, 1, []), (76, .aload 0, 1, []), (77, .getfield 9, 3, [8, 1, 3, 54]), (80, .iconst 2040, 3, []), (83, .iaload, 1, []), (84, .imul, 1, []), (85, .iadd, 1, []), (86, .istore 4, 2, []), (88, .aload 0, 1, []), (89, .getfield 9, 3, [8, 1, 3, 54]), (92, .iload 4, 2, []), (94, .iload 1, 1, []), (95, .iastore, 1, []), (96, .aload 0, 1, []), (97, .getfield 9, 3, [8, 1, 3, 54]), (100, .iload 4, 2, []), (102, .iconst 1, 1, []), (103, .iadd, 1, []), (104, .iload 2, 1, []), (105, .iastore, 1, []), (106, .aload 0, 1, []), (107, .getfield 9, 3, [8, 1, 3, 54]), (110, .iload 4, 2, []), (112, .iconst 2, 1, []), (113, .iadd, 1, []), (114, .iload 3, 1, []), (115, .iastore, 1, []), (116, .aload 0, 1, []), (117, .getfield 9, 3, [8, 1, 3, 54]), (120, .iconst 2040, 3, []), (123, .dup2, 1, []), (124, .iaload, 1, []), (125, .iconst 1, 1, []), (126, .iadd, 1, []), (127, .iastore, 1, []), (128, .aload 0, 1, []), (129, .getfield 9, 3, [8, 1, 3, 54]), (132, .iconst 2040, 3, []), (135, .iaload, 1, []), (136, .iconst 1, 1, []), (137, .isub, 1, []), (138, .ireturn, 1, [0])]
noncomputable def cod_201 : List (List En) := [b_201_0, b_201_1, b_201_2, b_201_3, b_201_4, b_201_5, b_201_6]
/-- isCondition, block 0 -/
noncomputable def b_202_0 : List En := [(0, .iload 1, 1, []), (1, .iconst 0, 1, []), (2, .aload 0, 1, []), (3, .getfield 9, 3, [8, 1, 3, 54]), (6, .iconst 2040, 3, []), (9, .iaload, 1, []), (10, .iconst 1, 1, []), (11, .isub, 1, []), (12, .invokestatic 29, 3, [158, 3, 0, 143]), (15, .ireturn, 1, [1])]
noncomputable def cod_202 : List (List En) := [b_202_0]
/-- dropCondition, block 0 -/
noncomputable def b_203_0 : List En := [(0, .aload 0, 1, []), (1, .aload 0, 1, []), (2, .iload 1, 1, []), (3, .invokevirtual 131, 3, [202, 2, 9, 169]), (6, .invokevirtual 71, 3, [165, 2, 9, 152]), (9, .ifCond .eq 5, 3, [1]), (12, .iconst 0, 1, []), (13, .ireturn, 1, [0])]
/-- dropCondition, block 1 -/
noncomputable def b_203_1 : List En := [(14, .aload 0, 1, []), (15, .invokevirtual 79, 3, [176, 1, 9, 154]), (18, .iconst 2041, 3, []), (21, .iconst 3, 1, []), (22, .iload 1, 1, []), (23, .imul, 1, []), (24, .iadd, 1, []), (25, .istore 2, 1, []), (26, .nop, 0, [2])]
/-- dropCondition, block 2 -/
noncomputable def b_203_2 : List En := [(26, .iload 2, 1, []), (27, .iconst 2050, 3, []), (30, .if_icmp .ge 23, 3, [3]), (33, .aload 0, 1, []), (34, .getfield 9, 3, [8, 1, 3, 54]), (37, .iload 2, 1, []), (38, .aload 0, 1, []), (39, .getfield 9, 3, [8, 1, 3, 54]), (42, .iload 2, 1, []), (43, .iconst 3, 1, []), (44, .iadd, 1, []), (45, .iaload, 1, []), (46, .iastore, 1, []), (47, .iinc 2 1, 3, []), (50, .goto (-24), 3, [2])]
/-- dropCondition, block 3 -/
noncomputable def b_203_3 : List En := [(53, .aload 0, 1, []), (54, .getfield 9, 3, [8, 1, 3, 54]), (57, .iconst 2040, 3, []), (60, .dup2, 1, []), (61, .iaload, 1, []), (62, .iconst 1, 1, []), (63, .isub, 1, []), (64, .iastore, 1, []), (65, .aload 0, 1, []), (66, .getfield 9, 3, [8, 1, 3, 54]), (69, .iconst 2040, 3, []), (72, .iaload, 1, []), (73, .ireturn, 1, [0])]
noncomputable def cod_203 : List (List En) := [b_203_0, b_203_1, b_203_2, b_203_3]
/-- undo, block 0 -/
noncomputable def b_204_0 : List En := [(0, .aload 0, 1, []), (1, .aload 0, 1, []), (2, .getfield 59, 3, [8, 3, 1, 59]), (5, .ifCond .le 7, 3, [1]), (8, .iconst 1, 1, []), (9, .goto 4, 3, [2])]
/-- undo, block 1 -/
noncomputable def b_204_1 : List En := [(12, .iconst 0, 1, []), (13, .nop, 0, [2])]
/-- undo, block 2 -/
noncomputable def b_204_2 : List En := [(13, .invokevirtual 71, 3, [165, 2, 9, 152]), (16, .ifCond .eq 5, 3, [3]), (19, .iconst 0, 1, []), (20, .ireturn, 1, [0])]
/-- undo, block 3 -/
noncomputable def b_204_3 : List En := [(21, .aload 0, 1, []), (22, .dup, 1, []), (23, .getfield 59, 3, [8, 3, 1, 59]), (26, .iconst 1, 1, []), (27, .isub, 1, []), (28, .putfield 59, 3, [8, 3, 1, 59]), (31, .aload 0, 1, []), (32, .getfield 15, 3, [8, 2, 3, 55]), (35, .aload 0, 1, []), (36, .getfield 59, 3, [8, 3, 1, 59]), (39, .aaload, 1, []), (40, .iconst 0, 1, []), (41, .aload 0, 1, []), (42, .getfield 9, 3, [8, 1, 3, 54]), (45, .iconst 0, 1, []), (46, .iconst 2053, 3, []), (49, .invokestatic 62, 3, [5220]), (52, .aload 0, 1, []), (53, .getfield 59, 3, [8, 3, 1, 59]), (56, .ireturn, 1, [0])]
noncomputable def cod_204 : List (List En) := [b_204_0, b_204_1, b_204_2, b_204_3]
/-- rows, block 0 -/
noncomputable def b_205_0 : List En := [(0, .aload 0, 1, []), (1, .iconst 0, 1, []), (2, .putfield 25, 3, [8, 0, 1, 58]), (5, .aload 0, 1, []), (6, .invokevirtual 75, 3, [172, 1, 9, 153]), (9, .ireturn, 1, [0])]
noncomputable def cod_205 : List (List En) := [b_205_0]
/-- nextRow, block 0 -/
noncomputable def b_206_0 : List En := [(0, .aload 0, 1, []), (1, .iload 1, 1, []), (2, .ifCond .lt 7, 3, [1]), (5, .iconst 1, 1, []), (6, .goto 4, 3, [2])]
/-- nextRow, block 1 -/
noncomputable def b_206_1 : List En := [(9, .iconst 0, 1, []), (10, .nop, 0, [2])]
/-- nextRow, block 2 -/
noncomputable def b_206_2 : List En := [(10, .invokevirtual 71, 3, [165, 2, 9, 152]), (13, .ifCond .eq 5, 3, [3]), (16, .iconst 0, 1, []), (17, .ireturn, 1, [0])]
/-- nextRow, block 3 -/
noncomputable def b_206_3 : List En := [(18, .iload 1, 1, []), (19, .istore 2, 1, []), (20, .nop, 0, [4])]
/-- nextRow, block 4 -/
noncomputable def b_206_4 : List En := [(20, .iload 2, 1, []), (21, .iconst 120, 2, []), (23, .if_icmp .ge 25, 3, [6]), (26, .aload 0, 1, []), (27, .getfield 9, 3, [8, 1, 3, 54]), (30, .iconst 480, 3, []), (33, .iload 2, 1, []), (34, .iadd, 1, []), (35, .iaload, 1, []), (36, .iconst 1, 1, []), (37, .if_icmp .ne 5, 3, [5]), (40, .iload 2, 1, []), (41, .ireturn, 1, [0])]
/-- nextRow, block 5 -/
noncomputable def b_206_5 : List En := [(42, .iinc 2 1, 3, []), (45, .goto (-25), 3, [4])]
/-- nextRow, block 6 -/
noncomputable def b_206_6 : List En := [(48, .iconst (-1), 1, []), (49, .ireturn, 1, [0])]
noncomputable def cod_206 : List (List En) := [b_206_0, b_206_1, b_206_2, b_206_3, b_206_4, b_206_5, b_206_6]
/-- valueAt, block 0 -/
noncomputable def b_207_0 : List En := [(0, .aload 0, 1, []), (1, .aload 0, 1, []), (2, .iload 1, 1, []), (3, .invokevirtual 97, 3, [164, 2, 9, 158]), (6, .ifCond .eq 14, 3, [1]), (9, .iload 2, 1, []), (10, .invokestatic 100, 3, [159, 1, 0, 159]), (13, .ifCond .eq 7, 3, [1]), (16, .iconst 1, 1, []), (17, .goto 4, 3, [2])]
/-- valueAt, block 1 -/
noncomputable def b_207_1 : List En := [(20, .iconst 0, 1, []), (21, .nop, 0, [2])]
/-- valueAt, block 2 -/
noncomputable def b_207_2 : List En := [(21, .invokevirtual 71, 3, [165, 2, 9, 152]), (24, .ifCond .eq 7, 3, [3]), (27, .iconst 0, 1, []), (28, .goto 9, 3, [4])]
/-- valueAt, block 3 -/
noncomputable def b_207_3 : List En := [(31, .aload 0, 1, []), (32, .iload 1, 1, []), (33, .iload 2, 1, []), (34, .invokevirtual 41, 3, [166, 3, 9, 146]), (37, .nop, 0, [4])]
/-- valueAt, block 4 -/
noncomputable def b_207_4 : List En := [(37, .ireturn, 1, [0])]
noncomputable def cod_207 : List (List En) := [b_207_0, b_207_1, b_207_2, b_207_3, b_207_4]
/-- values, block 0 -/
noncomputable def b_208_0 : List En := [(0, .aload 0, 1, []), (1, .iload 1, 1, []), (2, .invokestatic 100, 3, [159, 1, 0, 159]), (5, .invokevirtual 71, 3, [165, 2, 9, 152]), (8, .ifCond .eq 7, 3, [1]), (11, .iconst 0, 1, []), (12, .goto 13, 3, [2])]
/-- values, block 1 -/
noncomputable def b_208_1 : List En := [(15, .aload 0, 1, []), (16, .iconst (-1), 1, []), (17, .iload 1, 1, []), (18, .iconst (-64), 2, []), (20, .iconst 100, 2, []), (22, .invokevirtual 134, 3, [175, 5, 9, 170]), (25, .nop, 0, [2])]
/-- values, block 2 -/
noncomputable def b_208_2 : List En := [(25, .ireturn, 1, [0])]
noncomputable def cod_208 : List (List En) := [b_208_0, b_208_1, b_208_2]
/-- outermost, block 0 -/
noncomputable def b_209_0 : List En := [(0, .aload 0, 1, []), (1, .iload 1, 1, []), (2, .invokestatic 100, 3, [159, 1, 0, 159]), (5, .invokevirtual 71, 3, [165, 2, 9, 152]), (8, .ifCond .eq 5, 3, [1]), (11, .iconst 0, 1, []), (12, .ireturn, 1, [0])]
/-- outermost, block 1 -/
noncomputable def b_209_1 : List En := [(13, .iconst 100, 2, []), (15, .istore 3, 1, []), (16, .iconst 0, 1, []), (17, .istore 4, 2, []), (19, .nop, 0, [2])]
/-- outermost, block 2 -/
noncomputable def b_209_2 : List En := [(19, .iload 4, 2, []), (21, .iconst 120, 2, []), (23, .if_icmp .ge 70, 3, [7]), (26, .aload 0, 1, []), (27, .iload 4, 2, []), (29, .iload 1, 1, []), (30, .invokevirtual 41, 3, [166, 3, 9, 146]), (33, .istore 5, 2, []), (35, .aload 0, 1, []), (36, .getfield 9, 3, [8, 1, 3, 54]), (39, .iconst 480, 3, []), (42, .iload 4, 2, []), (44, .iadd, 1, []), (45, .iaload, 1, []), (46, .ifCond .eq 41, 3, [6]), (49, .iload 5, 2, []), (51, .iconst 100, 2, []), (53, .if_icmp .ne 6, 3, [3]), (56, .goto 31, 3, [6])]
/-- outermost, block 3 -/
noncomputable def b_209_3 : List En := [(59, .iload 3, 1, []), (60, .iconst 100, 2, []), (62, .if_icmp .eq 22, 3, [5]), (65, .iload 2, 1, []), (66, .ifCond .eq 12, 3, [4]), (69, .iload 5, 2, []), (71, .iload 3, 1, []), (72, .if_icmp .le 15, 3, [6]), (75, .goto 9, 3, [5])]
/-- outermost, block 4 -/
noncomputable def b_209_4 : List En := [(78, .iload 5, 2, []), (80, .iload 3, 1, []), (81, .if_icmp .ge 6, 3, [6]), (84, .nop, 0, [5])]
/-- outermost, block 5 -/
noncomputable def b_209_5 : List En := [(84, .iload 5, 2, []), (86, .istore 3, 1, []), (87, .nop, 0, [6])]
/-- outermost, block 6 -/
noncomputable def b_209_6 : List En := [(87, .iinc 4 1, 3, []), (90, .goto (-71), 3, [2])]
/-- outermost, block 7 -/
noncomputable def b_209_7 : List En := [(93, .aload 0, 1, []), (94, .iload 3, 1, []), (95, .iconst 100, 2, []), (97, .if_icmp .eq 7, 3, [8]), (100, .iconst 1, 1, []), (101, .goto 4, 3, [9])]
/-- outermost, block 8 -/
noncomputable def b_209_8 : List En := [(104, .iconst 0, 1, []), (105, .nop, 0, [9])]
/-- outermost, block 9 -/
noncomputable def b_209_9 : List En := [(105, .iconst 2, 1, []), (106, .invokevirtual 37, 3, [157, 3, 9, 145]), (109, .ifCond .eq 7, 3, [10]), (112, .iconst 0, 1, []), (113, .goto 4, 3, [11])]
/-- outermost, block 10 -/
noncomputable def b_209_10 : List En := [(116, .iload 3, 1, []), (117, .nop, 0, [11])]
/-- outermost, block 11 -/
noncomputable def b_209_11 : List En := [(117, .ireturn, 1, [0])]
noncomputable def cod_209 : List (List En) := [b_209_0, b_209_1, b_209_2, b_209_3, b_209_4, b_209_5, b_209_6, b_209_7, b_209_8, b_209_9, b_209_10, b_209_11]
/-- beside, block 0 -/
noncomputable def b_210_0 : List En := [(0, .aload 0, 1, []), (1, .iload 1, 1, []), (2, .invokestatic 100, 3, [159, 1, 0, 159]), (5, .invokevirtual 71, 3, [165, 2, 9, 152]), (8, .ifCond .eq 5, 3, [1]), (11, .iconst 0, 1, []), (12, .ireturn, 1, [0])]
/-- beside, block 1 -/
noncomputable def b_210_1 : List En := [(13, .iconst 100, 2, []), (15, .istore 4, 2, []), (17, .iconst 0, 1, []), (18, .istore 5, 2, []), (20, .nop, 0, [2])]
/-- beside, block 2 -/
noncomputable def b_210_2 : List En := [(20, .iload 5, 2, []), (22, .iconst 120, 2, []), (24, .if_icmp .ge 93, 3, [8]), (27, .aload 0, 1, []), (28, .iload 5, 2, []), (30, .iload 1, 1, []), (31, .invokevirtual 41, 3, [166, 3, 9, 146]), (34, .istore 6, 2, []), (36, .aload 0, 1, []), (37, .getfield 9, 3, [8, 1, 3, 54]), (40, .iconst 480, 3, []), (43, .iload 5, 2, []), (45, .iadd, 1, []), (46, .iaload, 1, []), (47, .ifCond .eq 64, 3, [7]), (50, .iload 6, 2, []), (52, .iconst 100, 2, []), (54, .if_icmp .eq 57, 3, [7]), (57, .iload 3, 1, []), (58, .ifCond .eq 12, 3, [3]), (61, .iload 6, 2, []), (63, .iload 2, 1, []), (64, .if_icmp .gt 15, 3, [4]), (67, .goto 44, 3, [7])]
/-- beside, block 3 -/
noncomputable def b_210_3 : List En := [(70, .iload 6, 2, []), (72, .iload 2, 1, []), (73, .if_icmp .lt 6, 3, [4]), (76, .goto 35, 3, [7])]
/-- beside, block 4 -/
noncomputable def b_210_4 : List En := [(79, .iload 4, 2, []), (81, .iconst 100, 2, []), (83, .if_icmp .eq 24, 3, [6]), (86, .iload 3, 1, []), (87, .ifCond .eq 13, 3, [5]), (90, .iload 6, 2, []), (92, .iload 4, 2, []), (94, .if_icmp .ge 17, 3, [7]), (97, .goto 10, 3, [6])]
/-- beside, block 5 -/
noncomputable def b_210_5 : List En := [(100, .iload 6, 2, []), (102, .iload 4, 2, []), (104, .if_icmp .le 7, 3, [7]), (107, .nop, 0, [6])]
/-- beside, block 6 -/
noncomputable def b_210_6 : List En := [(107, .iload 6, 2, []), (109, .istore 4, 2, []), (111, .nop, 0, [7])]
/-- beside, block 7 -/
noncomputable def b_210_7 : List En := [(111, .iinc 5 1, 3, []), (114, .goto (-94), 3, [2])]
/-- beside, block 8 -/
noncomputable def b_210_8 : List En := [(117, .iload 4, 2, []), (119, .ireturn, 1, [0])]
noncomputable def cod_210 : List (List En) := [b_210_0, b_210_1, b_210_2, b_210_3, b_210_4, b_210_5, b_210_6, b_210_7, b_210_8]
/-- kept, block 0 -/
noncomputable def b_211_0 : List En := [(0, .iload 2, 1, []), (1, .ifCond .ne 10, 3, [1]), (4, .iload 3, 1, []), (5, .invokestatic 33, 3, [162, 1, 0, 144]), (8, .goto 28, 3, [4])]
/-- kept, block 1 -/
noncomputable def b_211_1 : List En := [(11, .iload 2, 1, []), (12, .iconst 1, 1, []), (13, .if_icmp .eq 8, 3, [2]), (16, .iload 2, 1, []), (17, .iconst 2, 1, []), (18, .if_icmp .ne 17, 3, [3]), (21, .nop, 0, [2])]
/-- kept, block 2 -/
noncomputable def b_211_2 : List En := [(21, .iload 3, 1, []), (22, .iconst 0, 1, []), (23, .iconst 7, 2, []), (25, .invokestatic 29, 3, [158, 3, 0, 143]), (28, .ifCond .eq 7, 3, [3]), (31, .iconst 1, 1, []), (32, .goto 4, 3, [4])]
/-- kept, block 3 -/
noncomputable def b_211_3 : List En := [(35, .iconst 0, 1, []), (36, .nop, 0, [4])]
/-- kept, block 4 -/
noncomputable def b_211_4 : List En := [(36, .istore 4, 2, []), (38, .aload 0, 1, []), (39, .iload 1, 1, []), (40, .invokestatic 100, 3, [159, 1, 0, 159]), (43, .invokevirtual 71, 3, [165, 2, 9, 152]), (46, .ifCond .ne 13, 3, [5]), (49, .aload 0, 1, []), (50, .iload 4, 2, []), (52, .iconst 2, 1, []), (53, .invokevirtual 37, 3, [157, 3, 9, 145]), (56, .ifCond .eq 5, 3, [6]), (59, .nop, 0, [5])]
/-- kept, block 5 -/
noncomputable def b_211_5 : List En := [(59, .iconst 0, 1, []), (60, .ireturn, 1, [0])]
/-- kept, block 6 -/
noncomputable def b_211_6 : List En := [(61, .iload 2, 1, []), (62, .ifCond .ne 11, 3, [7]), (65, .aload 0, 1, []), (66, .iconst (-1), 1, []), (67, .iload 1, 1, []), (68, .iload 3, 1, []), (69, .invokevirtual 55, 3, [174, 4, 9, 150]), (72, .ireturn, 1, [0])]
/-- kept, block 7 -/
noncomputable def b_211_7 : List En := [(73, .iconst 0, 1, []), (74, .istore 5, 2, []), (76, .iconst 0, 1, []), (77, .istore 6, 2, []), (79, .nop, 0, [8])]
/-- kept, block 8 -/
noncomputable def b_211_8 : List En := [(79, .iload 6, 2, []), (81, .iconst 120, 2, []), (83, .if_icmp .ge 93, 3, [16]), (86, .aload 0, 1, []), (87, .iload 6, 2, []), (89, .iload 1, 1, []), (90, .invokevirtual 41, 3, [166, 3, 9, 146]), (93, .istore 7, 2, []), (95, .aload 0, 1, []), (96, .getfield 9, 3, [8, 1, 3, 54]), (99, .iconst 480, 3, []), (102, .iload 6, 2, []), (104, .iadd, 1, []), (105, .iaload, 1, []), (106, .ifCond .eq 64, 3, [15]), (109, .iload 7, 2, []), (111, .iconst 100, 2, []), (113, .if_icmp .ne 6, 3, [9]), (116, .goto 54, 3, [15])]
/-- kept, block 9 -/
noncomputable def b_211_9 : List En := [(119, .iload 2, 1, []), (120, .iconst 1, 1, []), (121, .if_icmp .ne 28, 3, [12]), (124, .iload 5, 2, []), (126, .iload 7, 2, []), (128, .iconst (-64), 2, []), (130, .iconst 16, 2, []), (132, .iload 3, 1, []), (133, .imul, 1, []), (134, .iadd, 1, []), (135, .if_icmp .ge 7, 3, [10]), (138, .iconst 1, 1, []), (139, .goto 4, 3, [11])]
/-- kept, block 10 -/
noncomputable def b_211_10 : List En := [(142, .iconst 0, 1, []), (143, .nop, 0, [11])]
/-- kept, block 11 -/
noncomputable def b_211_11 : List En := [(143, .iadd, 1, []), (144, .istore 5, 2, []), (146, .goto 24, 3, [15])]
/-- kept, block 12 -/
noncomputable def b_211_12 : List En := [(149, .iload 5, 2, []), (151, .iload 3, 1, []), (152, .iconst 7, 2, []), (154, .if_icmp .ne 7, 3, [13]), (157, .iconst 1, 1, []), (158, .goto 9, 3, [14])]
/-- kept, block 13 -/
noncomputable def b_211_13 : List En := [(161, .iload 7, 2, []), (163, .iload 3, 1, []), (164, .ishr, 1, []), (165, .iconst 1, 1, []), (166, .iand, 1, []), (167, .nop, 0, [14])]
/-- kept, block 14 -/
noncomputable def b_211_14 : List En := [(167, .iadd, 1, []), (168, .istore 5, 2, []), (170, .nop, 0, [15])]
/-- kept, block 15 -/
noncomputable def b_211_15 : List En := [(170, .iinc 6 1, 3, []), (173, .goto (-94), 3, [8])]
/-- kept, block 16 -/
noncomputable def b_211_16 : List En := [(176, .iload 5, 2, []), (178, .ireturn, 1, [0])]
noncomputable def cod_211 : List (List En) := [b_211_0, b_211_1, b_211_2, b_211_3, b_211_4, b_211_5, b_211_6, b_211_7, b_211_8, b_211_9, b_211_10, b_211_11, b_211_12, b_211_13, b_211_14, b_211_15, b_211_16]
/-- count, block 0 -/
noncomputable def b_212_0 : List En := [(0, .aload 0, 1, []), (1, .iload 1, 1, []), (2, .invokestatic 106, 3, [160, 1, 0, 161]), (5, .invokevirtual 71, 3, [165, 2, 9, 152]), (8, .ifCond .eq 7, 3, [1]), (11, .iconst 0, 1, []), (12, .goto 8, 3, [2])]
/-- count, block 1 -/
noncomputable def b_212_1 : List En := [(15, .aload 0, 1, []), (16, .iload 1, 1, []), (17, .invokevirtual 103, 3, [173, 2, 9, 160]), (20, .nop, 0, [2])]
/-- count, block 2 -/
noncomputable def b_212_2 : List En := [(20, .ireturn, 1, [0])]
noncomputable def cod_212 : List (List En) := [b_212_0, b_212_1, b_212_2]
/-- countIn, block 0 -/
noncomputable def b_213_0 : List En := [(0, .aload 0, 1, []), (1, .iload 1, 1, []), (2, .invokestatic 106, 3, [160, 1, 0, 161]), (5, .ifCond .eq 16, 3, [1]), (8, .iload 2, 1, []), (9, .ifCond .lt 12, 3, [1]), (12, .iload 3, 1, []), (13, .iload 2, 1, []), (14, .if_icmp .lt 7, 3, [1]), (17, .iconst 1, 1, []), (18, .goto 4, 3, [2])]
/-- countIn, block 1 -/
noncomputable def b_213_1 : List En := [(21, .iconst 0, 1, []), (22, .nop, 0, [2])]
/-- countIn, block 2 -/
noncomputable def b_213_2 : List En := [(22, .invokevirtual 71, 3, [165, 2, 9, 152]), (25, .ifCond .eq 5, 3, [3]), (28, .iconst 0, 1, []), (29, .ireturn, 1, [0])]
/-- countIn, block 3 -/
noncomputable def b_213_3 : List En := [(30, .iconst 0, 1, []), (31, .istore 4, 2, []), (33, .iload 2, 1, []), (34, .istore 5, 2, []), (36, .nop, 0, [4])]
/-- countIn, block 4 -/
noncomputable def b_213_4 : List En := [(36, .iload 5, 2, []), (38, .iload 3, 1, []), (39, .if_icmp .ge 36, 3, [7]), (42, .iload 5, 2, []), (44, .iconst 120, 2, []), (46, .if_icmp .ge 29, 3, [7]), (49, .iload 4, 2, []), (51, .aload 0, 1, []), (52, .iload 1, 1, []), (53, .iload 5, 2, []), (55, .invokevirtual 52, 3, [167, 3, 9, 149]), (58, .ifCond .eq 7, 3, [5]), (61, .iconst 1, 1, []), (62, .goto 4, 3, [6])]
/-- countIn, block 5 -/
noncomputable def b_213_5 : List En := [(65, .iconst 0, 1, []), (66, .nop, 0, [6])]
/-- countIn, block 6 -/
noncomputable def b_213_6 : List En := [(66, .iadd, 1, []), (67, .istore 4, 2, []), (69, .iinc 5 1, 3, []), (72, .goto (-36), 3, [4])]
/-- countIn, block 7 -/
noncomputable def b_213_7 : List En := [(75, .iload 4, 2, []), (77, .ireturn, 1, [0])]
noncomputable def cod_213 : List (List En) := [b_213_0, b_213_1, b_213_2, b_213_3, b_213_4, b_213_5, b_213_6, b_213_7]
/-- has, block 0 -/
noncomputable def b_214_0 : List En := [(0, .aload 0, 1, []), (1, .iload 1, 1, []), (2, .invokestatic 106, 3, [160, 1, 0, 161]), (5, .ifCond .eq 11, 3, [1]), (8, .iload 2, 1, []), (9, .ifCond .lt 7, 3, [1]), (12, .iconst 1, 1, []), (13, .goto 4, 3, [2])]
/-- has, block 1 -/
noncomputable def b_214_1 : List En := [(16, .iconst 0, 1, []), (17, .nop, 0, [2])]
/-- has, block 2 -/
noncomputable def b_214_2 : List En := [(17, .invokevirtual 71, 3, [165, 2, 9, 152]), (20, .ifCond .ne 22, 3, [3]), (23, .iload 2, 1, []), (24, .iconst 120, 2, []), (26, .if_icmp .ge 16, 3, [3]), (29, .aload 0, 1, []), (30, .iload 1, 1, []), (31, .iload 2, 1, []), (32, .invokevirtual 52, 3, [167, 3, 9, 149]), (35, .ifCond .eq 7, 3, [3]), (38, .iconst 1, 1, []), (39, .goto 4, 3, [4])]
/-- has, block 3 -/
noncomputable def b_214_3 : List En := [(42, .iconst 0, 1, []), (43, .nop, 0, [4])]
/-- has, block 4 -/
noncomputable def b_214_4 : List En := [(43, .ireturn, 1, [1])]
noncomputable def cod_214 : List (List En) := [b_214_0, b_214_1, b_214_2, b_214_3, b_214_4]
/-- next, block 0 -/
noncomputable def b_215_0 : List En := [(0, .aload 0, 1, []), (1, .iload 1, 1, []), (2, .invokestatic 106, 3, [160, 1, 0, 161]), (5, .ifCond .eq 11, 3, [1]), (8, .iload 2, 1, []), (9, .ifCond .lt 7, 3, [1]), (12, .iconst 1, 1, []), (13, .goto 4, 3, [2])]
/-- next, block 1 -/
noncomputable def b_215_1 : List En := [(16, .iconst 0, 1, []), (17, .nop, 0, [2])]
/-- next, block 2 -/
noncomputable def b_215_2 : List En := [(17, .invokevirtual 71, 3, [165, 2, 9, 152]), (20, .ifCond .eq 5, 3, [3]), (23, .iconst 0, 1, []), (24, .ireturn, 1, [0])]
/-- next, block 3 -/
noncomputable def b_215_3 : List En := [(25, .iconst (-1), 1, []), (26, .istore 4, 2, []), (28, .iconst 0, 1, []), (29, .istore 5, 2, []), (31, .nop, 0, [4])]
/-- next, block 4 -/
noncomputable def b_215_4 : List En := [(31, .iload 5, 2, []), (33, .iconst 120, 2, []), (35, .if_icmp .ge 55, 3, [9]), (38, .aload 0, 1, []), (39, .iload 1, 1, []), (40, .iload 5, 2, []), (42, .invokevirtual 52, 3, [167, 3, 9, 149]), (45, .ifCond .eq 39, 3, [8]), (48, .iload 3, 1, []), (49, .ifCond .eq 12, 3, [5]), (52, .iload 5, 2, []), (54, .iload 2, 1, []), (55, .if_icmp .ge 15, 3, [6]), (58, .goto 26, 3, [8])]
/-- next, block 5 -/
noncomputable def b_215_5 : List En := [(61, .iload 5, 2, []), (63, .iload 2, 1, []), (64, .if_icmp .le 6, 3, [6]), (67, .goto 17, 3, [8])]
/-- next, block 6 -/
noncomputable def b_215_6 : List En := [(70, .iload 4, 2, []), (72, .iconst (-1), 1, []), (73, .if_icmp .eq 7, 3, [7]), (76, .iload 3, 1, []), (77, .ifCond .ne 7, 3, [8]), (80, .nop, 0, [7])]
/-- next, block 7 -/
noncomputable def b_215_7 : List En := [(80, .iload 5, 2, []), (82, .istore 4, 2, []), (84, .nop, 0, [8])]
/-- next, block 8 -/
noncomputable def b_215_8 : List En := [(84, .iinc 5 1, 3, []), (87, .goto (-56), 3, [4])]
/-- next, block 9 -/
noncomputable def b_215_9 : List En := [(90, .iload 4, 2, []), (92, .ireturn, 1, [0])]
noncomputable def cod_215 : List (List En) := [b_215_0, b_215_1, b_215_2, b_215_3, b_215_4, b_215_5, b_215_6, b_215_7, b_215_8, b_215_9]
/-- relation, block 0 -/
noncomputable def b_216_0 : List En := [(0, .aload 0, 1, []), (1, .iload 1, 1, []), (2, .invokestatic 106, 3, [160, 1, 0, 161]), (5, .ifCond .eq 14, 3, [1]), (8, .iload 2, 1, []), (9, .invokestatic 106, 3, [160, 1, 0, 161]), (12, .ifCond .eq 7, 3, [1]), (15, .iconst 1, 1, []), (16, .goto 4, 3, [2])]
/-- relation, block 1 -/
noncomputable def b_216_1 : List En := [(19, .iconst 0, 1, []), (20, .nop, 0, [2])]
/-- relation, block 2 -/
noncomputable def b_216_2 : List En := [(20, .invokevirtual 71, 3, [165, 2, 9, 152]), (23, .ifCond .eq 5, 3, [3]), (26, .iconst 0, 1, []), (27, .ireturn, 1, [0])]
/-- relation, block 3 -/
noncomputable def b_216_3 : List En := [(28, .iconst 0, 1, []), (29, .istore 3, 1, []), (30, .iconst 1, 1, []), (31, .istore 4, 2, []), (33, .iconst 1, 1, []), (34, .istore 5, 2, []), (36, .iconst 0, 1, []), (37, .istore 6, 2, []), (39, .nop, 0, [4])]
/-- relation, block 4 -/
noncomputable def b_216_4 : List En := [(39, .iload 6, 2, []), (41, .iconst 120, 2, []), (43, .if_icmp .ge 94, 3, [12]), (46, .iload 3, 1, []), (47, .aload 0, 1, []), (48, .iload 1, 1, []), (49, .iload 6, 2, []), (51, .invokevirtual 52, 3, [167, 3, 9, 149]), (54, .ifCond .eq 17, 3, [5]), (57, .aload 0, 1, []), (58, .iload 2, 1, []), (59, .iload 6, 2, []), (61, .invokevirtual 52, 3, [167, 3, 9, 149]), (64, .ifCond .eq 7, 3, [5]), (67, .iconst 1, 1, []), (68, .goto 4, 3, [6])]
/-- relation, block 5 -/
noncomputable def b_216_5 : List En := [(71, .iconst 0, 1, []), (72, .nop, 0, [6])]
/-- relation, block 6 -/
noncomputable def b_216_6 : List En := [(72, .ior, 1, []), (73, .istore 3, 1, []), (74, .iload 4, 2, []), (76, .aload 0, 1, []), (77, .iload 1, 1, []), (78, .iload 6, 2, []), (80, .invokevirtual 52, 3, [167, 3, 9, 149]), (83, .ifCond .eq 13, 3, [7]), (86, .aload 0, 1, []), (87, .iload 2, 1, []), (88, .iload 6, 2, []), (90, .invokevirtual 52, 3, [167, 3, 9, 149]), (93, .ifCond .eq 7, 3, [8]), (96, .nop, 0, [7])]
/-- relation, block 7 -/
noncomputable def b_216_7 : List En := [(96, .iconst 1, 1, []), (97, .goto 4, 3, [9])]
/-- relation, block 8 -/
noncomputable def b_216_8 : List En := [(100, .iconst 0, 1, []), (101, .nop, 0, [9])]
/-- relation, block 9 -/
noncomputable def b_216_9 : List En := [(101, .iand, 1, []), (102, .istore 4, 2, []), (104, .iload 5, 2, []), (106, .aload 0, 1, []), (107, .iload 1, 1, []), (108, .iload 6, 2, []), (110, .invokevirtual 52, 3, [167, 3, 9, 149]), (113, .aload 0, 1, []), (114, .iload 2, 1, []), (115, .iload 6, 2, []), (117, .invokevirtual 52, 3, [167, 3, 9, 149]), (120, .if_icmp .ne 7, 3, [10]), (123, .iconst 1, 1, []), (124, .goto 4, 3, [11])]
/-- relation, block 10 -/
noncomputable def b_216_10 : List En := [(127, .iconst 0, 1, []), (128, .nop, 0, [11])]
/-- relation, block 11 -/
noncomputable def b_216_11 : List En := [(128, .iand, 1, []), (129, .istore 5, 2, []), (131, .iinc 6 1, 3, []), (134, .goto (-95), 3, [4])]
/-- relation, block 12 -/
noncomputable def b_216_12 : List En := [(137, .iload 3, 1, []), (138, .ifCond .eq 7, 3, [13]), (141, .iconst 1, 1, []), (142, .goto 4, 3, [14])]
/-- relation, block 13 -/
noncomputable def b_216_13 : List En := [(145, .iconst 0, 1, []), (146, .nop, 0, [14])]
/-- relation, block 14 -/
noncomputable def b_216_14 : List En := [(146, .iload 4, 2, []), (148, .ifCond .eq 7, 3, [15]), (151, .iconst 2, 1, []), (152, .goto 4, 3, [16])]
/-- relation, block 15 -/
noncomputable def b_216_15 : List En := [(155, .iconst 0, 1, []), (156, .nop, 0, [16])]
/-- relation, block 16 -/
noncomputable def b_216_16 : List En := [(156, .iadd, 1, []), (157, .iload 5, 2, []), (159, .ifCond .eq 7, 3, [17]), (162, .iconst 4, 1, []), (163, .goto 4, 3, [18])]
/-- relation, block 17 -/
noncomputable def b_216_17 : List En := [(166, .iconst 0, 1, []), (167, .nop, 0, [18])]
/-- relation, block 18 -/
noncomputable def b_216_18 : List En := [(167, .iadd, 1, []), (168, .ireturn, 1, [0])]
noncomputable def cod_216 : List (List En) := [b_216_0, b_216_1, b_216_2, b_216_3, b_216_4, b_216_5, b_216_6, b_216_7, b_216_8, b_216_9, b_216_10, b_216_11, b_216_12, b_216_13, b_216_14, b_216_15, b_216_16, b_216_17, b_216_18]
/-- union, block 0 -/
noncomputable def b_217_0 : List En := [(0, .aload 0, 1, []), (1, .iload 1, 1, []), (2, .invokestatic 106, 3, [160, 1, 0, 161]), (5, .ifCond .eq 21, 3, [1]), (8, .iload 2, 1, []), (9, .invokestatic 106, 3, [160, 1, 0, 161]), (12, .ifCond .eq 14, 3, [1]), (15, .iload 3, 1, []), (16, .invokestatic 106, 3, [160, 1, 0, 161]), (19, .ifCond .eq 7, 3, [1]), (22, .iconst 1, 1, []), (23, .goto 4, 3, [2])]
/-- union, block 1 -/
noncomputable def b_217_1 : List En := [(26, .iconst 0, 1, []), (27, .nop, 0, [2])]
/-- union, block 2 -/
noncomputable def b_217_2 : List En := [(27, .invokevirtual 71, 3, [165, 2, 9, 152]), (30, .ifCond .eq 5, 3, [3]), (33, .iconst 0, 1, []), (34, .ireturn, 1, [0])]
/-- union, block 3 -/
noncomputable def b_217_3 : List En := [(35, .iconst 0, 1, []), (36, .istore 4, 2, []), (38, .iconst 0, 1, []), (39, .istore 5, 2, []), (41, .nop, 0, [4])]
/-- union, block 4 -/
noncomputable def b_217_4 : List En := [(41, .iload 5, 2, []), (43, .iconst 120, 2, []), (45, .if_icmp .ge 49, 3, [8]), (48, .iload 4, 2, []), (50, .aload 0, 1, []), (51, .iload 1, 1, []), (52, .iload 5, 2, []), (54, .invokevirtual 52, 3, [167, 3, 9, 149]), (57, .ifCond .ne 23, 3, [5]), (60, .aload 0, 1, []), (61, .iload 2, 1, []), (62, .iload 5, 2, []), (64, .invokevirtual 52, 3, [167, 3, 9, 149]), (67, .ifCond .ne 13, 3, [5]), (70, .aload 0, 1, []), (71, .iload 3, 1, []), (72, .iload 5, 2, []), (74, .invokevirtual 52, 3, [167, 3, 9, 149]), (77, .ifCond .eq 7, 3, [6]), (80, .nop, 0, [5])]
/-- union, block 5 -/
noncomputable def b_217_5 : List En := [(80, .iconst 1, 1, []), (81, .goto 4, 3, [7])]
/-- union, block 6 -/
noncomputable def b_217_6 : List En := [(84, .iconst 0, 1, []), (85, .nop, 0, [7])]
/-- union, block 7 -/
noncomputable def b_217_7 : List En := [(85, .iadd, 1, []), (86, .istore 4, 2, []), (88, .iinc 5 1, 3, []), (91, .goto (-50), 3, [4])]
/-- union, block 8 -/
noncomputable def b_217_8 : List En := [(94, .iload 4, 2, []), (96, .ireturn, 1, [0])]
noncomputable def cod_217 : List (List En) := [b_217_0, b_217_1, b_217_2, b_217_3, b_217_4, b_217_5, b_217_6, b_217_7, b_217_8]
/-- lacksOver, block 0 -/
noncomputable def b_218_0 : List En := [(0, .aload 0, 1, []), (1, .iload 1, 1, []), (2, .invokestatic 106, 3, [160, 1, 0, 161]), (5, .ifCond .eq 14, 3, [1]), (8, .iload 2, 1, []), (9, .invokestatic 100, 3, [159, 1, 0, 159]), (12, .ifCond .eq 7, 3, [1]), (15, .iconst 1, 1, []), (16, .goto 4, 3, [2])]
/-- lacksOver, block 1 -/
noncomputable def b_218_1 : List En := [(19, .iconst 0, 1, []), (20, .nop, 0, [2])]
/-- lacksOver, block 2 -/
noncomputable def b_218_2 : List En := [(20, .invokevirtual 71, 3, [165, 2, 9, 152]), (23, .ireturn, 1, [1])]
noncomputable def cod_218 : List (List En) := [b_218_0, b_218_1, b_218_2]
/-- sumOf, block 0 -/
noncomputable def b_219_0 : List En := [(0, .iconst 0, 1, []), (1, .istore 3, 1, []), (2, .iconst 0, 1, []), (3, .istore 4, 2, []), (5, .nop, 0, [1])]
/-- sumOf, block 1 -/
noncomputable def b_219_1 : List En := [(5, .iload 4, 2, []), (7, .iconst 120, 2, []), (9, .if_icmp .ge 45, 3, [4]), (12, .iload 3, 1, []), (13, .aload 0, 1, []), (14, .iload 1, 1, []), (15, .iload 4, 2, []), (17, .invokevirtual 52, 3, [167, 3, 9, 149]), (20, .ifCond .eq 25, 3, [2]), (23, .aload 0, 1, []), (24, .iload 4, 2, []), (26, .iload 2, 1, []), (27, .invokevirtual 41, 3, [166, 3, 9, 146]), (30, .iconst 100, 2, []), (32, .if_icmp .eq 13, 3, [2]), (35, .aload 0, 1, []), (36, .iload 4, 2, []), (38, .iload 2, 1, []), (39, .invokevirtual 41, 3, [166, 3, 9, 146]), (42, .goto 4, 3, [3])]
/-- sumOf, block 2 -/
noncomputable def b_219_2 : List En := [(45, .iconst 0, 1, []), (46, .nop, 0, [3])]
/-- sumOf, block 3 -/
noncomputable def b_219_3 : List En := [(46, .iadd, 1, []), (47, .istore 3, 1, []), (48, .iinc 4 1, 3, []), (51, .goto (-46), 3, [1])]
/-- sumOf, block 4 -/
noncomputable def b_219_4 : List En := [(54, .iload 3, 1, []), (55, .ireturn, 1, [0])]
noncomputable def cod_219 : List (List En) := [b_219_0, b_219_1, b_219_2, b_219_3, b_219_4]
/-- told, block 0 -/
noncomputable def b_220_0 : List En := [(0, .iconst 0, 1, []), (1, .istore 3, 1, []), (2, .iconst 0, 1, []), (3, .istore 4, 2, []), (5, .nop, 0, [1])]
/-- told, block 1 -/
noncomputable def b_220_1 : List En := [(5, .iload 4, 2, []), (7, .iconst 120, 2, []), (9, .if_icmp .ge 39, 3, [4]), (12, .iload 3, 1, []), (13, .aload 0, 1, []), (14, .iload 1, 1, []), (15, .iload 4, 2, []), (17, .invokevirtual 52, 3, [167, 3, 9, 149]), (20, .ifCond .eq 19, 3, [2]), (23, .aload 0, 1, []), (24, .iload 4, 2, []), (26, .iload 2, 1, []), (27, .invokevirtual 41, 3, [166, 3, 9, 146]), (30, .iconst 100, 2, []), (32, .if_icmp .eq 7, 3, [2]), (35, .iconst 1, 1, []), (36, .goto 4, 3, [3])]
/-- told, block 2 -/
noncomputable def b_220_2 : List En := [(39, .iconst 0, 1, []), (40, .nop, 0, [3])]
/-- told, block 3 -/
noncomputable def b_220_3 : List En := [(40, .iadd, 1, []), (41, .istore 3, 1, []), (42, .iinc 4 1, 3, []), (45, .goto (-40), 3, [1])]
/-- told, block 4 -/
noncomputable def b_220_4 : List En := [(48, .iload 3, 1, []), (49, .ireturn, 1, [0])]
noncomputable def cod_220 : List (List En) := [b_220_0, b_220_1, b_220_2, b_220_3, b_220_4]
/-- leastOf, block 0 -/
noncomputable def b_221_0 : List En := [(0, .iload 3, 1, []), (1, .iconst 0, 1, []), (2, .aload 0, 1, []), (3, .iload 1, 1, []), (4, .iload 2, 1, []), (5, .invokevirtual 137, 3, [220, 3, 9, 171]), (8, .iconst 1, 1, []), (9, .isub, 1, []), (10, .invokestatic 29, 3, [158, 3, 0, 143]), (13, .ifCond .ne 6, 3, [1]), (16, .iconst 100, 2, []), (18, .ireturn, 1, [0])]
/-- leastOf, block 1 -/
noncomputable def b_221_1 : List En := [(19, .iload 3, 1, []), (20, .istore 4, 2, []), (22, .iconst (-64), 2, []), (24, .istore 5, 2, []), (26, .nop, 0, [2])]
/-- leastOf, block 2 -/
noncomputable def b_221_2 : List En := [(26, .aload 0, 1, []), (27, .iload 1, 1, []), (28, .iload 2, 1, []), (29, .iload 5, 2, []), (31, .invokevirtual 55, 3, [174, 4, 9, 150]), (34, .iload 4, 2, []), (36, .if_icmp .gt 22, 3, [3]), (39, .iload 4, 2, []), (41, .aload 0, 1, []), (42, .iload 1, 1, []), (43, .iload 2, 1, []), (44, .iload 5, 2, []), (46, .invokevirtual 55, 3, [174, 4, 9, 150]), (49, .isub, 1, []), (50, .istore 4, 2, []), (52, .iinc 5 1, 3, []), (55, .goto (-29), 3, [2])]
/-- leastOf, block 3 -/
noncomputable def b_221_3 : List En := [(58, .iload 5, 2, []), (60, .ireturn, 1, [0])]
noncomputable def cod_221 : List (List En) := [b_221_0, b_221_1, b_221_2, b_221_3]
/-- sum, block 0 -/
noncomputable def b_222_0 : List En := [(0, .aload 0, 1, []), (1, .iload 1, 1, []), (2, .iload 2, 1, []), (3, .invokevirtual 140, 3, [218, 3, 9, 172]), (6, .ifCond .eq 7, 3, [1]), (9, .iconst 0, 1, []), (10, .goto 9, 3, [2])]
/-- sum, block 1 -/
noncomputable def b_222_1 : List En := [(13, .aload 0, 1, []), (14, .iload 1, 1, []), (15, .iload 2, 1, []), (16, .invokevirtual 143, 3, [219, 3, 9, 173]), (19, .nop, 0, [2])]
/-- sum, block 2 -/
noncomputable def b_222_2 : List En := [(19, .ireturn, 1, [0])]
noncomputable def cod_222 : List (List En) := [b_222_0, b_222_1, b_222_2]
/-- least, block 0 -/
noncomputable def b_223_0 : List En := [(0, .aload 0, 1, []), (1, .iload 1, 1, []), (2, .iload 2, 1, []), (3, .invokevirtual 140, 3, [218, 3, 9, 172]), (6, .ifCond .eq 7, 3, [1]), (9, .iconst 0, 1, []), (10, .goto 10, 3, [2])]
/-- least, block 1 -/
noncomputable def b_223_1 : List En := [(13, .aload 0, 1, []), (14, .iload 1, 1, []), (15, .iload 2, 1, []), (16, .iload 3, 1, []), (17, .invokevirtual 146, 3, [221, 4, 9, 174]), (20, .nop, 0, [2])]
/-- least, block 2 -/
noncomputable def b_223_2 : List En := [(20, .ireturn, 1, [0])]
noncomputable def cod_223 : List (List En) := [b_223_0, b_223_1, b_223_2]
/-- middle, block 0 -/
noncomputable def b_224_0 : List En := [(0, .aload 0, 1, []), (1, .iload 1, 1, []), (2, .iload 2, 1, []), (3, .invokevirtual 140, 3, [218, 3, 9, 172]), (6, .ifCond .eq 5, 3, [1]), (9, .iconst 0, 1, []), (10, .ireturn, 1, [0])]
/-- middle, block 1 -/
noncomputable def b_224_1 : List En := [(11, .aload 0, 1, []), (12, .iload 1, 1, []), (13, .iload 2, 1, []), (14, .invokevirtual 137, 3, [220, 3, 9, 171]), (17, .istore 3, 1, []), (18, .iload 3, 1, []), (19, .ifCond .ne 8, 3, [2]), (22, .iconst 100, 2, []), (24, .goto 14, 3, [3])]
/-- middle, block 2 -/
noncomputable def b_224_2 : List En := [(27, .aload 0, 1, []), (28, .iload 1, 1, []), (29, .iload 2, 1, []), (30, .iload 3, 1, []), (31, .iconst 1, 1, []), (32, .isub, 1, []), (33, .iconst 2, 1, []), (34, .idiv, 1, []), (35, .invokevirtual 146, 3, [221, 4, 9, 174]), (38, .nop, 0, [3])]
/-- middle, block 3 -/
noncomputable def b_224_3 : List En := [(38, .ireturn, 1, [0])]
noncomputable def cod_224 : List (List En) := [b_224_0, b_224_1, b_224_2, b_224_3]
/-- top, block 0 -/
noncomputable def b_225_0 : List En := [(0, .aload 0, 1, []), (1, .iload 1, 1, []), (2, .iload 2, 1, []), (3, .invokevirtual 140, 3, [218, 3, 9, 172]), (6, .ifCond .eq 5, 3, [1]), (9, .iconst 0, 1, []), (10, .ireturn, 1, [0])]
/-- top, block 1 -/
noncomputable def b_225_1 : List En := [(11, .iconst 0, 1, []), (12, .istore 4, 2, []), (14, .nop, 0, [2])]
/-- top, block 2 -/
noncomputable def b_225_2 : List En := [(14, .iload 4, 2, []), (16, .iconst 120, 2, []), (18, .if_icmp .ge 123, 3, [10]), (21, .aload 0, 1, []), (22, .iload 4, 2, []), (24, .iload 2, 1, []), (25, .invokevirtual 41, 3, [166, 3, 9, 146]), (28, .istore 5, 2, []), (30, .aload 0, 1, []), (31, .iload 1, 1, []), (32, .iload 4, 2, []), (34, .invokevirtual 52, 3, [167, 3, 9, 149]), (37, .ifCond .eq 98, 3, [9]), (40, .iload 5, 2, []), (42, .iconst 100, 2, []), (44, .if_icmp .ne 6, 3, [3]), (47, .goto 88, 3, [9])]
/-- top, block 3 -/
noncomputable def b_225_3 : List En := [(50, .iconst 0, 1, []), (51, .istore 6, 2, []), (53, .iconst 0, 1, []), (54, .istore 7, 2, []), (56, .nop, 0, [4])]
/-- top, block 4 -/
noncomputable def b_225_4 : List En := [(56, .iload 7, 2, []), (58, .iconst 120, 2, []), (60, .if_icmp .ge 66, 3, [8]), (63, .aload 0, 1, []), (64, .iload 7, 2, []), (66, .iload 2, 1, []), (67, .invokevirtual 41, 3, [166, 3, 9, 146]), (70, .istore 8, 2, []), (72, .iload 6, 2, []), (74, .aload 0, 1, []), (75, .iload 1, 1, []), (76, .iload 7, 2, []), (78, .invokevirtual 52, 3, [167, 3, 9, 149]), (81, .ifCond .eq 35, 3, [6]), (84, .iload 8, 2, []), (86, .iconst 100, 2, []), (88, .if_icmp .eq 28, 3, [6]), (91, .iload 8, 2, []), (93, .iload 5, 2, []), (95, .if_icmp .gt 17, 3, [5]), (98, .iload 8, 2, []), (100, .iload 5, 2, []), (102, .if_icmp .ne 14, 3, [6]), (105, .iload 7, 2, []), (107, .iload 4, 2, []), (109, .if_icmp .ge 7, 3, [6]), (112, .nop, 0, [5])]
/-- top, block 5 -/
noncomputable def b_225_5 : List En := [(112, .iconst 1, 1, []), (113, .goto 4, 3, [7])]
/-- top, block 6 -/
noncomputable def b_225_6 : List En := [(116, .iconst 0, 1, []), (117, .nop, 0, [7])]
/-- top, block 7 -/
noncomputable def b_225_7 : List En := [(117, .iadd, 1, []), (118, .istore 6, 2, []), (120, .iinc 7 1, 3, []), (123, .goto (-67), 3, [4])]
/-- top, block 8 -/
noncomputable def b_225_8 : List En := [(126, .iload 6, 2, []), (128, .iload 3, 1, []), (129, .if_icmp .ne 6, 3, [9]), (132, .iload 4, 2, []), (134, .ireturn, 1, [0])]
/-- top, block 9 -/
noncomputable def b_225_9 : List En := [(135, .iinc 4 1, 3, []), (138, .goto (-124), 3, [2])]
/-- top, block 10 -/
noncomputable def b_225_10 : List En := [(141, .iconst (-1), 1, []), (142, .ireturn, 1, [0])]
noncomputable def cod_225 : List (List En) := [b_225_0, b_225_1, b_225_2, b_225_3, b_225_4, b_225_5, b_225_6, b_225_7, b_225_8, b_225_9, b_225_10]
/-- unlike, block 0 -/
noncomputable def b_226_0 : List En := [(0, .aload 0, 1, []), (1, .iload 1, 1, []), (2, .iload 2, 1, []), (3, .invokevirtual 140, 3, [218, 3, 9, 172]), (6, .ifCond .eq 7, 3, [1]), (9, .iconst 0, 1, []), (10, .goto 13, 3, [2])]
/-- unlike, block 1 -/
noncomputable def b_226_1 : List En := [(13, .aload 0, 1, []), (14, .iload 1, 1, []), (15, .iload 2, 1, []), (16, .iconst (-64), 2, []), (18, .iconst 100, 2, []), (20, .invokevirtual 134, 3, [175, 5, 9, 170]), (23, .nop, 0, [2])]
/-- unlike, block 2 -/
noncomputable def b_226_2 : List En := [(23, .ireturn, 1, [0])]
noncomputable def cod_226 : List (List En) := [b_226_0, b_226_1, b_226_2]
/-- join, block 0 -/
noncomputable def b_227_0 : List En := [(0, .aload 0, 1, []), (1, .iload 1, 1, []), (2, .invokestatic 100, 3, [159, 1, 0, 159]), (5, .ifCond .eq 29, 3, [1]), (8, .iload 2, 1, []), (9, .invokestatic 106, 3, [160, 1, 0, 161]), (12, .ifCond .eq 22, 3, [1]), (15, .iload 3, 1, []), (16, .invokestatic 100, 3, [159, 1, 0, 159]), (19, .ifCond .eq 15, 3, [1]), (22, .iload 4, 2, []), (24, .invokestatic 106, 3, [160, 1, 0, 161]), (27, .ifCond .eq 7, 3, [1]), (30, .iconst 1, 1, []), (31, .goto 4, 3, [2])]
/-- join, block 1 -/
noncomputable def b_227_1 : List En := [(34, .iconst 0, 1, []), (35, .nop, 0, [2])]
/-- join, block 2 -/
noncomputable def b_227_2 : List En := [(35, .invokevirtual 71, 3, [165, 2, 9, 152]), (38, .ifCond .eq 5, 3, [3]), (41, .iconst 0, 1, []), (42, .ireturn, 1, [0])]
/-- join, block 3 -/
noncomputable def b_227_3 : List En := [(43, .iconst 0, 1, []), (44, .istore 5, 2, []), (46, .iconst 0, 1, []), (47, .istore 6, 2, []), (49, .nop, 0, [4])]
/-- join, block 4 -/
noncomputable def b_227_4 : List En := [(49, .iload 6, 2, []), (51, .iconst 120, 2, []), (53, .if_icmp .ge 54, 3, [7]), (56, .iload 5, 2, []), (58, .aload 0, 1, []), (59, .iload 2, 1, []), (60, .iload 6, 2, []), (62, .invokevirtual 52, 3, [167, 3, 9, 149]), (65, .ifCond .eq 32, 3, [5]), (68, .aload 0, 1, []), (69, .iload 6, 2, []), (71, .iload 1, 1, []), (72, .invokevirtual 41, 3, [166, 3, 9, 146]), (75, .iconst 100, 2, []), (77, .if_icmp .eq 20, 3, [5]), (80, .aload 0, 1, []), (81, .iload 4, 2, []), (83, .iload 3, 1, []), (84, .aload 0, 1, []), (85, .iload 6, 2, []), (87, .iload 1, 1, []), (88, .invokevirtual 41, 3, [166, 3, 9, 146]), (91, .invokevirtual 55, 3, [174, 4, 9, 150]), (94, .goto 4, 3, [6])]
/-- join, block 5 -/
noncomputable def b_227_5 : List En := [(97, .iconst 0, 1, []), (98, .nop, 0, [6])]
/-- join, block 6 -/
noncomputable def b_227_6 : List En := [(98, .iadd, 1, []), (99, .istore 5, 2, []), (101, .iinc 6 1, 3, []), (104, .goto (-55), 3, [4])]
/-- join, block 7 -/
noncomputable def b_227_7 : List En := [(107, .iload 5, 2, []), (109, .ireturn, 1, [0])]
noncomputable def cod_227 : List (List En) := [b_227_0, b_227_1, b_227_2, b_227_3, b_227_4, b_227_5, b_227_6, b_227_7]
/-- order, block 0 -/
noncomputable def b_228_0 : List En := [(0, .iconst 0, 1, []), (1, .istore 3, 1, []), (2, .nop, 0, [1])]
/-- order, block 1 -/
noncomputable def b_228_1 : List En := [(2, .iload 3, 1, []), (3, .iconst 4, 1, []), (4, .if_icmp .ge 46, 3, [3]), (7, .aload 0, 1, []), (8, .getfield 22, 3, [8, 6, 3, 57]), (11, .iload 1, 1, []), (12, .aaload, 1, []), (13, .iload 3, 1, []), (14, .iaload, 1, []), (15, .aload 0, 1, []), (16, .getfield 22, 3, [8, 6, 3, 57]), (19, .iload 2, 1, []), (20, .aaload, 1, []), (21, .iload 3, 1, []), (22, .iaload, 1, []), (23, .if_icmp .eq 21, 3, [2]), (26, .aload 0, 1, []), (27, .getfield 22, 3, [8, 6, 3, 57]), (30, .iload 1, 1, []), (31, .aaload, 1, []), (32, .iload 3, 1, []), (33, .iaload, 1, []), (34, .aload 0, 1, []), (35, .getfield 22, 3, [8, 6, 3, 57]), (38, .iload 2, 1, []), (39, .aaload, 1, []), (40, .iload 3, 1, []), (41, .iaload, 1, []), (42, .isub, 1, []), (43, .ireturn, 1, [0])]
/-- order, block 2 -/
noncomputable def b_228_2 : List En := [(44, .iinc 3 1, 3, []), (47, .goto (-45), 3, [1])]
/-- order, block 3 -/
noncomputable def b_228_3 : List En := [(50, .iconst 0, 1, []), (51, .ireturn, 1, [0])]
noncomputable def cod_228 : List (List En) := [b_228_0, b_228_1, b_228_2, b_228_3]
/-- counts, block 0 -/
noncomputable def b_229_0 : List En := [(0, .aload 0, 1, []), (1, .getfield 149, 3, [8, 7, 1, 61]), (4, .istore 1, 1, []), (5, .nop, 0, [1])]
/-- counts, block 1 -/
noncomputable def b_229_1 : List En := [(5, .iload 1, 1, []), (6, .ifCond .le 23, 3, [2]), (9, .aload 0, 1, []), (10, .aload 0, 1, []), (11, .getfield 149, 3, [8, 7, 1, 61]), (14, .iload 1, 1, []), (15, .iconst 1, 1, []), (16, .isub, 1, []), (17, .invokevirtual 152, 3, [228, 3, 9, 175]), (20, .ifCond .ge 9, 3, [2]), (23, .iinc 1 (-1), 3, []), (26, .goto (-21), 3, [1])]
/-- counts, block 2 -/
noncomputable def b_229_2 : List En := [(29, .iload 1, 1, []), (30, .ifCond .le 32, 3, [3]), (33, .aload 0, 1, []), (34, .aload 0, 1, []), (35, .getfield 149, 3, [8, 7, 1, 61]), (38, .iload 1, 1, []), (39, .iconst 1, 1, []), (40, .isub, 1, []), (41, .invokevirtual 152, 3, [228, 3, 9, 175]), (44, .ifCond .ne 18, 3, [3]), (47, .aload 0, 1, []), (48, .getfield 22, 3, [8, 6, 3, 57]), (51, .iload 1, 1, []), (52, .iconst 1, 1, []), (53, .isub, 1, []), (54, .aaload, 1, []), (55, .iconst 4, 1, []), (56, .dup2, 1, []), (57, .iaload, 1, []), (58, .iconst 1, 1, []), (59, .iadd, 1, []), (60, .iastore, 1, []), (61, .return_, 1, [])]
/-- counts, block 3 -/
noncomputable def b_229_3 : List En := [(62, .aload 0, 1, []), (63, .getfield 22, 3, [8, 6, 3, 57]), (66, .aload 0, 1, []), (67, .getfield 149, 3, [8, 7, 1, 61]), (70, .aaload, 1, []), (71, .astore 2, 1, []), (72, .aload 0, 1, []), (73, .getfield 149, 3, [8, 7, 1, 61]), (76, .istore 3, 1, []), (77, .nop, 0, [4])]
/-- counts, block 4 -/
noncomputable def b_229_4 : List En := [(77, .iload 3, 1, []), (78, .iload 1, 1, []), (79, .if_icmp .le 23, 3, [5]), (82, .aload 0, 1, []), (83, .getfield 22, 3, [8, 6, 3, 57]), (86, .iload 3, 1, []), (87, .aload 0, 1, []), (88, .getfield 22, 3, [8, 6, 3, 57]), (91, .iload 3, 1, []), (92, .iconst 1, 1, []), (93, .isub, 1, []), (94, .aaload, 1, []), (95, .aastore, 1, []), (96, .iinc 3 (-1), 3, []), (99, .goto (-22), 3, [4])]
/-- counts, block 5 -/
noncomputable def b_229_5 : List En := [(102, .aload 0, 1, []), (103, .getfield 22, 3, [8, 6, 3, 57]), (106, .iload 1, 1, []), (107, .aload 2, 1, []), (108, .aastore, 1, []), (109, .aload 2, 1, []), (110, .iconst 4, 1, []), (111, .iconst 1, 1, []), (112, .iastore, 1, []), (113, .aload 0, 1, []), (114, .dup, 1, []), (115, .getfield 149, 3, [8, 7, 1, 61]), (118, .iconst 1, 1, []), (119, .iadd, 1, []), (120, .putfield 149, 3, [8, 7, 1, 61]), (123, .return_, 1, [])]
noncomputable def cod_229 : List (List En) := [b_229_0, b_229_1, b_229_2, b_229_3, b_229_4, b_229_5]
/-- rollup, block 0 -/
noncomputable def b_230_0 : List En := [(0, .aload 0, 1, []), (1, .iload 1, 1, []), (2, .invokestatic 106, 3, [160, 1, 0, 161]), (5, .invokevirtual 71, 3, [165, 2, 9, 152]), (8, .ifCond .ne 18, 3, [1]), (11, .aload 0, 1, []), (12, .iload 2, 1, []), (13, .iconst 1, 1, []), (14, .iconst 15, 2, []), (16, .invokestatic 29, 3, [158, 3, 0, 143]), (19, .iconst 2, 1, []), (20, .invokevirtual 37, 3, [157, 3, 9, 145]), (23, .ifCond .eq 5, 3, [2]), (26, .nop, 0, [1])]
/-- rollup, block 1 -/
noncomputable def b_230_1 : List En := [(26, .iconst 0, 1, []), (27, .ireturn, 1, [0])]
/-- rollup, block 2 -/
noncomputable def b_230_2 : List En := [(28, .aload 0, 1, []), (29, .iconst 0, 1, []), (30, .putfield 149, 3, [8, 7, 1, 61]), (33, .iconst 0, 1, []), (34, .istore 3, 1, []), (35, .nop, 0, [3])]
/-- rollup, block 3 -/
noncomputable def b_230_3 : List En := [(35, .iload 3, 1, []), (36, .iconst 120, 2, []), (38, .if_icmp .ge 104, 3, [12]), (41, .iload 2, 1, []), (42, .istore 4, 2, []), (44, .aload 0, 1, []), (45, .iload 1, 1, []), (46, .iload 3, 1, []), (47, .invokevirtual 52, 3, [167, 3, 9, 149]), (50, .istore 5, 2, []), (52, .nop, 0, [4])]
/-- rollup, block 4 -/
noncomputable def b_230_4 : List En := [(52, .iload 5, 2, []), (54, .ifCond .eq 82, 3, [11]), (57, .iconst 0, 1, []), (58, .istore 6, 2, []), (60, .nop, 0, [5])]
/-- rollup, block 5 -/
noncomputable def b_230_5 : List En := [(60, .iload 6, 2, []), (62, .iconst 4, 1, []), (63, .if_icmp .ge 44, 3, [8]), (66, .aload 0, 1, []), (67, .getfield 22, 3, [8, 6, 3, 57]), (70, .aload 0, 1, []), (71, .getfield 149, 3, [8, 7, 1, 61]), (74, .aaload, 1, []), (75, .iload 6, 2, []), (77, .iload 4, 2, []), (79, .iload 6, 2, []), (81, .ishr, 1, []), (82, .iconst 1, 1, []), (83, .iand, 1, []), (84, .iconst 1, 1, []), (85, .if_icmp .ne 13, 3, [6]), (88, .aload 0, 1, []), (89, .iload 3, 1, []), (90, .iload 6, 2, []), (92, .invokevirtual 41, 3, [166, 3, 9, 146]), (95, .goto 5, 3, [7])]
/-- rollup, block 6 -/
noncomputable def b_230_6 : List En := [(98, .iconst 101, 2, []), (100, .nop, 0, [7])]
/-- rollup, block 7 -/
noncomputable def b_230_7 : List En := [(100, .iastore, 1, []), (101, .iinc 6 1, 3, []), (104, .goto (-44), 3, [5])]
/-- rollup, block 8 -/
noncomputable def b_230_8 : List En := [(107, .aload 0, 1, []), (108, .invokevirtual 155, 3, [229, 1, 9, 176]), (111, .iload 4, 2, []), (113, .ifCond .le 7, 3, [9]), (116, .iconst 1, 1, []), (117, .goto 4, 3, [10])]
/-- rollup, block 9 -/
noncomputable def b_230_9 : List En := [(120, .iconst 0, 1, []), (121, .nop, 0, [10])]
/-- rollup, block 10 -/
noncomputable def b_230_10 : List En := [(121, .istore 5, 2, []), (123, .iload 4, 2, []), (125, .iload 4, 2, []), (127, .invokestatic 158, 3, [250, 1, 0, 177]), (130, .ixor, 1, []), (131, .istore 4, 2, []), (133, .goto (-81), 3, [4])]
/-- rollup, block 11 -/
noncomputable def b_230_11 : List En := [(136, .iinc 3 1, 3, []), (139, .goto (-104), 3, [3])]
/-- rollup, block 12 -/
noncomputable def b_230_12 : List En := [(142, .aload 0, 1, []), (143, .getfield 149, 3, [8, 7, 1, 61]), (146, .ireturn, 1, [0])]
noncomputable def cod_230 : List (List En) := [b_230_0, b_230_1, b_230_2, b_230_3, b_230_4, b_230_5, b_230_6, b_230_7, b_230_8, b_230_9, b_230_10, b_230_11, b_230_12]
/-- groupAt, block 0 -/
noncomputable def b_231_0 : List En := [(0, .aload 0, 1, []), (1, .iload 1, 1, []), (2, .iconst 0, 1, []), (3, .aload 0, 1, []), (4, .getfield 149, 3, [8, 7, 1, 61]), (7, .iconst 1, 1, []), (8, .isub, 1, []), (9, .invokestatic 29, 3, [158, 3, 0, 143]), (12, .invokevirtual 71, 3, [165, 2, 9, 152]), (15, .ifCond .ne 17, 3, [1]), (18, .aload 0, 1, []), (19, .iload 2, 1, []), (20, .iconst 0, 1, []), (21, .iconst 4, 1, []), (22, .invokestatic 29, 3, [158, 3, 0, 143]), (25, .iconst 2, 1, []), (26, .invokevirtual 37, 3, [157, 3, 9, 145]), (29, .ifCond .eq 7, 3, [2]), (32, .nop, 0, [1])]
/-- groupAt, block 1 -/
noncomputable def b_231_1 : List En := [(32, .iconst 0, 1, []), (33, .goto 11, 3, [3])]
/-- groupAt, block 2 -/
noncomputable def b_231_2 : List En := [(36, .aload 0, 1, []), (37, .getfield 22, 3, [8, 6, 3, 57]), (40, .iload 1, 1, []), (41, .aaload, 1, []), (42, .iload 2, 1, []), (43, .iaload, 1, []), (44, .nop, 0, [3])]
/-- groupAt, block 3 -/
noncomputable def b_231_3 : List En := [(44, .ireturn, 1, [0])]
noncomputable def cod_231 : List (List En) := [b_231_0, b_231_1, b_231_2, b_231_3]
/-- beginsRun, block 0 -/
noncomputable def b_232_0 : List En := [(0, .aload 0, 1, []), (1, .iload 1, 1, []), (2, .iload 2, 1, []), (3, .invokevirtual 122, 3, [168, 3, 9, 166]), (6, .ifCond .eq 22, 3, [2]), (9, .iload 2, 1, []), (10, .ifCond .eq 14, 3, [1]), (13, .aload 0, 1, []), (14, .iload 1, 1, []), (15, .iload 2, 1, []), (16, .iconst 1, 1, []), (17, .isub, 1, []), (18, .invokevirtual 122, 3, [168, 3, 9, 166]), (21, .ifCond .ne 7, 3, [2]), (24, .nop, 0, [1])]
/-- beginsRun, block 1 -/
noncomputable def b_232_1 : List En := [(24, .iconst 1, 1, []), (25, .goto 4, 3, [3])]
/-- beginsRun, block 2 -/
noncomputable def b_232_2 : List En := [(28, .iconst 0, 1, []), (29, .nop, 0, [3])]
/-- beginsRun, block 3 -/
noncomputable def b_232_3 : List En := [(29, .ireturn, 1, [1])]
noncomputable def cod_232 : List (List En) := [b_232_0, b_232_1, b_232_2, b_232_3]
/-- runsOf, block 0 -/
noncomputable def b_233_0 : List En := [(0, .iconst 0, 1, []), (1, .istore 2, 1, []), (2, .iconst 0, 1, []), (3, .istore 3, 1, []), (4, .nop, 0, [1])]
/-- runsOf, block 1 -/
noncomputable def b_233_1 : List En := [(4, .iload 3, 1, []), (5, .iconst 120, 2, []), (7, .if_icmp .ge 26, 3, [4]), (10, .iload 2, 1, []), (11, .aload 0, 1, []), (12, .iload 1, 1, []), (13, .iload 3, 1, []), (14, .invokevirtual 163, 3, [232, 3, 9, 178]), (17, .ifCond .eq 7, 3, [2]), (20, .iconst 1, 1, []), (21, .goto 4, 3, [3])]
/-- runsOf, block 2 -/
noncomputable def b_233_2 : List En := [(24, .iconst 0, 1, []), (25, .nop, 0, [3])]
/-- runsOf, block 3 -/
noncomputable def b_233_3 : List En := [(25, .iadd, 1, []), (26, .istore 2, 1, []), (27, .iinc 3 1, 3, []), (30, .goto (-26), 3, [1])]
/-- runsOf, block 4 -/
noncomputable def b_233_4 : List En := [(33, .iload 2, 1, []), (34, .ireturn, 1, [0])]
noncomputable def cod_233 : List (List En) := [b_233_0, b_233_1, b_233_2, b_233_3, b_233_4]
/-- runs, block 0 -/
noncomputable def b_234_0 : List En := [(0, .aload 0, 1, []), (1, .iload 1, 1, []), (2, .invokestatic 119, 3, [161, 1, 0, 165]), (5, .invokevirtual 71, 3, [165, 2, 9, 152]), (8, .ifCond .eq 7, 3, [1]), (11, .iconst 0, 1, []), (12, .goto 8, 3, [2])]
/-- runs, block 1 -/
noncomputable def b_234_1 : List En := [(15, .aload 0, 1, []), (16, .iload 1, 1, []), (17, .invokevirtual 125, 3, [233, 2, 9, 167]), (20, .nop, 0, [2])]
/-- runs, block 2 -/
noncomputable def b_234_2 : List En := [(20, .ireturn, 1, [0])]
noncomputable def cod_234 : List (List En) := [b_234_0, b_234_1, b_234_2]
/-- runAt, block 0 -/
noncomputable def b_235_0 : List En := [(0, .aload 0, 1, []), (1, .iload 1, 1, []), (2, .invokestatic 119, 3, [161, 1, 0, 165]), (5, .invokevirtual 71, 3, [165, 2, 9, 152]), (8, .ifCond .ne 23, 3, [1]), (11, .aload 0, 1, []), (12, .iload 2, 1, []), (13, .iconst 0, 1, []), (14, .aload 0, 1, []), (15, .iload 1, 1, []), (16, .invokevirtual 125, 3, [233, 2, 9, 167]), (19, .iconst 1, 1, []), (20, .isub, 1, []), (21, .invokestatic 29, 3, [158, 3, 0, 143]), (24, .iconst 1, 1, []), (25, .invokevirtual 37, 3, [157, 3, 9, 145]), (28, .ifCond .eq 5, 3, [2]), (31, .nop, 0, [1])]
/-- runAt, block 1 -/
noncomputable def b_235_1 : List En := [(31, .iconst 0, 1, []), (32, .ireturn, 1, [0])]
/-- runAt, block 2 -/
noncomputable def b_235_2 : List En := [(33, .iconst (-1), 1, []), (34, .istore 4, 2, []), (36, .iload 2, 1, []), (37, .istore 5, 2, []), (39, .nop, 0, [3])]
/-- runAt, block 3 -/
noncomputable def b_235_3 : List En := [(39, .iload 5, 2, []), (41, .ifCond .lt 29, 3, [6]), (44, .iinc 4 1, 3, []), (47, .iload 5, 2, []), (49, .aload 0, 1, []), (50, .iload 1, 1, []), (51, .iload 4, 2, []), (53, .invokevirtual 163, 3, [232, 3, 9, 178]), (56, .ifCond .eq 7, 3, [4]), (59, .iconst 1, 1, []), (60, .goto 4, 3, [5])]
/-- runAt, block 4 -/
noncomputable def b_235_4 : List En := [(63, .iconst 0, 1, []), (64, .nop, 0, [5])]
/-- runAt, block 5 -/
noncomputable def b_235_5 : List En := [(64, .isub, 1, []), (65, .istore 5, 2, []), (67, .goto (-28), 3, [3])]
/-- runAt, block 6 -/
noncomputable def b_235_6 : List En := [(70, .iload 4, 2, []), (72, .istore 6, 2, []), (74, .nop, 0, [7])]
/-- runAt, block 7 -/
noncomputable def b_235_7 : List En := [(74, .iload 6, 2, []), (76, .iconst 120, 2, []), (78, .if_icmp .ge 19, 3, [8]), (81, .aload 0, 1, []), (82, .iload 1, 1, []), (83, .iload 6, 2, []), (85, .invokevirtual 122, 3, [168, 3, 9, 166]), (88, .ifCond .eq 9, 3, [8]), (91, .iinc 6 1, 3, []), (94, .goto (-20), 3, [7])]
/-- runAt, block 8 -/
noncomputable def b_235_8 : List En := [(97, .iload 3, 1, []), (98, .ifCond .eq 11, 3, [9]), (101, .iload 6, 2, []), (103, .iload 4, 2, []), (105, .isub, 1, []), (106, .goto 5, 3, [10])]
/-- runAt, block 9 -/
noncomputable def b_235_9 : List En := [(109, .iload 4, 2, []), (111, .nop, 0, [10])]
/-- runAt, block 10 -/
noncomputable def b_235_10 : List En := [(111, .ireturn, 1, [0])]
noncomputable def cod_235 : List (List En) := [b_235_0, b_235_1, b_235_2, b_235_3, b_235_4, b_235_5, b_235_6, b_235_7, b_235_8, b_235_9, b_235_10]
/-- hasPacked, block 0 -/
noncomputable def b_236_0 : List En := [(0, .aload 0, 1, []), (1, .iload 1, 1, []), (2, .invokestatic 119, 3, [161, 1, 0, 165]), (5, .invokevirtual 71, 3, [165, 2, 9, 152]), (8, .ifCond .ne 26, 3, [1]), (11, .iload 2, 1, []), (12, .iconst 0, 1, []), (13, .iconst 119, 2, []), (15, .invokestatic 29, 3, [158, 3, 0, 143]), (18, .ifCond .eq 16, 3, [1]), (21, .aload 0, 1, []), (22, .iload 1, 1, []), (23, .iload 2, 1, []), (24, .invokevirtual 122, 3, [168, 3, 9, 166]), (27, .ifCond .eq 7, 3, [1]), (30, .iconst 1, 1, []), (31, .goto 4, 3, [2])]
/-- hasPacked, block 1 -/
noncomputable def b_236_1 : List En := [(34, .iconst 0, 1, []), (35, .nop, 0, [2])]
/-- hasPacked, block 2 -/
noncomputable def b_236_2 : List En := [(35, .ireturn, 1, [1])]
noncomputable def cod_236 : List (List En) := [b_236_0, b_236_1, b_236_2]
/-- rowsOf, block 0 -/
noncomputable def b_237_0 : List En := [(0, .iconst 0, 1, []), (1, .istore 2, 1, []), (2, .iconst 0, 1, []), (3, .istore 3, 1, []), (4, .nop, 0, [1])]
/-- rowsOf, block 1 -/
noncomputable def b_237_1 : List En := [(4, .iload 3, 1, []), (5, .iconst 120, 2, []), (7, .if_icmp .ge 26, 3, [4]), (10, .iload 2, 1, []), (11, .aload 0, 1, []), (12, .iload 1, 1, []), (13, .iload 3, 1, []), (14, .invokevirtual 48, 3, [170, 3, 9, 148]), (17, .ifCond .eq 7, 3, [2]), (20, .iconst 1, 1, []), (21, .goto 4, 3, [3])]
/-- rowsOf, block 2 -/
noncomputable def b_237_2 : List En := [(24, .iconst 0, 1, []), (25, .nop, 0, [3])]
/-- rowsOf, block 3 -/
noncomputable def b_237_3 : List En := [(25, .iadd, 1, []), (26, .istore 2, 1, []), (27, .iinc 3 1, 3, []), (30, .goto (-26), 3, [1])]
/-- rowsOf, block 4 -/
noncomputable def b_237_4 : List En := [(33, .iload 2, 1, []), (34, .ireturn, 1, [0])]
noncomputable def cod_237 : List (List En) := [b_237_0, b_237_1, b_237_2, b_237_3, b_237_4]
/-- costOf, block 0 -/
noncomputable def b_238_0 : List En := [(0, .aload 0, 1, []), (1, .getfield 9, 3, [8, 1, 3, 54]), (4, .iconst 2041, 3, []), (7, .iconst 3, 1, []), (8, .iload 1, 1, []), (9, .imul, 1, []), (10, .iadd, 1, []), (11, .iaload, 1, []), (12, .istore 3, 1, []), (13, .aload 0, 1, []), (14, .getfield 9, 3, [8, 1, 3, 54]), (17, .iconst 2041, 3, []), (20, .iconst 3, 1, []), (21, .iload 1, 1, []), (22, .imul, 1, []), (23, .iadd, 1, []), (24, .iconst 1, 1, []), (25, .iadd, 1, []), (26, .iaload, 1, []), (27, .istore 4, 2, []), (29, .aload 0, 1, []), (30, .getfield 9, 3, [8, 1, 3, 54]), (33, .iconst 2041, 3, []), (36, .iconst 3, 1, []), (37, .iload 1, 1, []), (38, .imul, 1, []), (39, .iadd, 1, []), (40, .iconst 2, 1, []), (41, .iadd, 1, []), (42, .iaload, 1, []), (43, .istore 5, 2, []), (45, .iload 4, 2, []), (47, .iconst 5, 1, []), (48, .if_icmp .le 5, 3, [1]), (51, .iconst 1, 1, []), (52, .ireturn, 1, [0])]
/-- costOf, block 1 -/
noncomputable def b_238_1 : List En := [(53, .iload 2, 1, []), (54, .iconst 2, 1, []), (55, .if_icmp .ne 39, 3, [6]), (58, .iload 4, 2, []), (60, .iconst 2, 1, []), (61, .if_icmp .ge 8, 3, [2]), (64, .iconst 14, 2, []), (66, .goto 27, 3, [5])]
/-- costOf, block 2 -/
noncomputable def b_238_2 : List En := [(69, .iload 4, 2, []), (71, .iconst 2, 1, []), (72, .if_icmp .ne 8, 3, [3]), (75, .iconst 7, 2, []), (77, .goto 16, 3, [5])]
/-- costOf, block 3 -/
noncomputable def b_238_3 : List En := [(80, .iload 4, 2, []), (82, .iconst 5, 1, []), (83, .if_icmp .ne 8, 3, [4]), (86, .iconst 8, 2, []), (88, .goto 5, 3, [5])]
/-- costOf, block 4 -/
noncomputable def b_238_4 : List En := [(91, .iconst 15, 2, []), (93, .nop, 0, [5])]
/-- costOf, block 5 -/
noncomputable def b_238_5 : List En := [(93, .ireturn, 1, [0])]
/-- costOf, block 6 -/
noncomputable def b_238_6 : List En := [(94, .iload 2, 1, []), (95, .ifCond .ne 59, 3, [11]), (98, .iconst 0, 1, []), (99, .istore 6, 2, []), (101, .iconst (-64), 2, []), (103, .istore 7, 2, []), (105, .nop, 0, [7])]
/-- costOf, block 7 -/
noncomputable def b_238_7 : List En := [(105, .iload 7, 2, []), (107, .iconst 63, 2, []), (109, .if_icmp .gt 42, 3, [10]), (112, .iload 6, 2, []), (114, .iload 7, 2, []), (116, .iload 4, 2, []), (118, .iload 5, 2, []), (120, .invokestatic 45, 3, [169, 3, 0, 147]), (123, .ifCond .eq 18, 3, [8]), (126, .aload 0, 1, []), (127, .iconst (-1), 1, []), (128, .iload 3, 1, []), (129, .iload 7, 2, []), (131, .invokevirtual 55, 3, [174, 4, 9, 150]), (134, .ifCond .le 7, 3, [8]), (137, .iconst 1, 1, []), (138, .goto 4, 3, [9])]
/-- costOf, block 8 -/
noncomputable def b_238_8 : List En := [(141, .iconst 0, 1, []), (142, .nop, 0, [9])]
/-- costOf, block 9 -/
noncomputable def b_238_9 : List En := [(142, .iadd, 1, []), (143, .istore 6, 2, []), (145, .iinc 7 1, 3, []), (148, .goto (-43), 3, [7])]
/-- costOf, block 10 -/
noncomputable def b_238_10 : List En := [(151, .iload 6, 2, []), (153, .ireturn, 1, [0])]
/-- costOf, block 11 -/
noncomputable def b_238_11 : List En := [(154, .iload 5, 2, []), (156, .istore 6, 2, []), (158, .nop, 0, [12])]
/-- costOf, block 12 -/
noncomputable def b_238_12 : List En := [(158, .iload 6, 2, []), (160, .iconst (-64), 2, []), (162, .isub, 1, []), (163, .iconst 16, 2, []), (165, .irem, 1, []), (166, .ifCond .eq 9, 3, [13]), (169, .iinc 6 (-1), 3, []), (172, .goto (-14), 3, [12])]
/-- costOf, block 13 -/
noncomputable def b_238_13 : List En := [(175, .aload 0, 1, []), (176, .iconst (-1), 1, []), (177, .iload 3, 1, []), (178, .iload 6, 2, []), (180, .iload 5, 2, []), (182, .invokevirtual 134, 3, [175, 5, 9, 170]), (185, .istore 7, 2, []), (187, .aload 0, 1, []), (188, .iconst (-1), 1, []), (189, .iload 3, 1, []), (190, .iload 5, 2, []), (192, .invokevirtual 55, 3, [174, 4, 9, 150]), (195, .ifCond .le 7, 3, [14]), (198, .iconst 1, 1, []), (199, .goto 4, 3, [15])]
/-- costOf, block 14 -/
noncomputable def b_238_14 : List En := [(202, .iconst 0, 1, []), (203, .nop, 0, [15])]
/-- costOf, block 15 -/
noncomputable def b_238_15 : List En := [(203, .istore 8, 2, []), (205, .iload 4, 2, []), (207, .tableswitch 69 0 4 #[33, 38, 46, 56, 61], 33, [21, 16, 17, 18, 19, 20])]
/-- costOf, block 16 -/
noncomputable def b_238_16 : List En := [(240, .iconst 1, 1, []), (241, .iload 7, 2, []), (243, .iadd, 1, []), (244, .ireturn, 1, [0])]
/-- costOf, block 17 -/
noncomputable def b_238_17 : List En := [(245, .iconst 1, 1, []), (246, .iload 7, 2, []), (248, .iadd, 1, []), (249, .iload 8, 2, []), (251, .iadd, 1, []), (252, .ireturn, 1, [0])]
/-- costOf, block 18 -/
noncomputable def b_238_18 : List En := [(253, .iconst 3, 1, []), (254, .iconst 2, 1, []), (255, .iload 7, 2, []), (257, .imul, 1, []), (258, .iadd, 1, []), (259, .iload 8, 2, []), (261, .iadd, 1, []), (262, .ireturn, 1, [0])]
/-- costOf, block 19 -/
noncomputable def b_238_19 : List En := [(263, .iconst 2, 1, []), (264, .iload 7, 2, []), (266, .iadd, 1, []), (267, .ireturn, 1, [0])]
/-- costOf, block 20 -/
noncomputable def b_238_20 : List En := [(268, .iconst 2, 1, []), (269, .iload 7, 2, []), (271, .iadd, 1, []), (272, .iload 8, 2, []), (274, .iadd, 1, []), (275, .ireturn, 1, [0])]
/-- costOf, block 21 -/
noncomputable def b_238_21 : List En := [(276, .iconst 4, 1, []), (277, .iconst 2, 1, []), (278, .iload 7, 2, []), (280, .imul, 1, []), (281, .iadd, 1, []), (282, .iload 8, 2, []), (284, .iadd, 1, []), (285, .ireturn, 1, [0])]
noncomputable def cod_238 : List (List En) := [b_238_0, b_238_1, b_238_2, b_238_3, b_238_4, b_238_5, b_238_6, b_238_7, b_238_8, b_238_9, b_238_10, b_238_11, b_238_12, b_238_13, b_238_14, b_238_15, b_238_16, b_238_17, b_238_18, b_238_19, b_238_20, b_238_21]
/-- bestWay, block 0 -/
noncomputable def b_239_0 : List En := [(0, .iconst 0, 1, []), (1, .istore 2, 1, []), (2, .iconst 1, 1, []), (3, .istore 3, 1, []), (4, .nop, 0, [1])]
/-- bestWay, block 1 -/
noncomputable def b_239_1 : List En := [(4, .iload 3, 1, []), (5, .iconst 2, 1, []), (6, .if_icmp .gt 26, 3, [3]), (9, .aload 0, 1, []), (10, .iload 1, 1, []), (11, .iload 3, 1, []), (12, .invokevirtual 166, 3, [238, 3, 9, 179]), (15, .aload 0, 1, []), (16, .iload 1, 1, []), (17, .iload 2, 1, []), (18, .invokevirtual 166, 3, [238, 3, 9, 179]), (21, .if_icmp .ge 5, 3, [2]), (24, .iload 3, 1, []), (25, .istore 2, 1, []), (26, .nop, 0, [2])]
/-- bestWay, block 2 -/
noncomputable def b_239_2 : List En := [(26, .iinc 3 1, 3, []), (29, .goto (-25), 3, [1])]
/-- bestWay, block 3 -/
noncomputable def b_239_3 : List En := [(32, .iload 2, 1, []), (33, .ireturn, 1, [0])]
noncomputable def cod_239 : List (List En) := [b_239_0, b_239_1, b_239_2, b_239_3]
/-- placeOf, block 0 -/
noncomputable def b_240_0 : List En := [(0, .aload 0, 1, []), (1, .iload 1, 1, []), (2, .invokevirtual 169, 3, [237, 2, 9, 180]), (5, .istore 2, 1, []), (6, .iconst 0, 1, []), (7, .istore 3, 1, []), (8, .iconst 0, 1, []), (9, .istore 4, 2, []), (11, .nop, 0, [1])]
/-- placeOf, block 1 -/
noncomputable def b_240_1 : List En := [(11, .iload 4, 2, []), (13, .aload 0, 1, []), (14, .getfield 9, 3, [8, 1, 3, 54]), (17, .iconst 2040, 3, []), (20, .iaload, 1, []), (21, .if_icmp .ge 43, 3, [5]), (24, .iload 3, 1, []), (25, .aload 0, 1, []), (26, .iload 4, 2, []), (28, .invokevirtual 169, 3, [237, 2, 9, 180]), (31, .iload 2, 1, []), (32, .if_icmp .lt 19, 3, [2]), (35, .aload 0, 1, []), (36, .iload 4, 2, []), (38, .invokevirtual 169, 3, [237, 2, 9, 180]), (41, .iload 2, 1, []), (42, .if_icmp .ne 13, 3, [3]), (45, .iload 4, 2, []), (47, .iload 1, 1, []), (48, .if_icmp .ge 7, 3, [3]), (51, .nop, 0, [2])]
/-- placeOf, block 2 -/
noncomputable def b_240_2 : List En := [(51, .iconst 1, 1, []), (52, .goto 4, 3, [4])]
/-- placeOf, block 3 -/
noncomputable def b_240_3 : List En := [(55, .iconst 0, 1, []), (56, .nop, 0, [4])]
/-- placeOf, block 4 -/
noncomputable def b_240_4 : List En := [(56, .iadd, 1, []), (57, .istore 3, 1, []), (58, .iinc 4 1, 3, []), (61, .goto (-50), 3, [1])]
/-- placeOf, block 5 -/
noncomputable def b_240_5 : List En := [(64, .iload 3, 1, []), (65, .ireturn, 1, [0])]
noncomputable def cod_240 : List (List En) := [b_240_0, b_240_1, b_240_2, b_240_3, b_240_4, b_240_5]
/-- conditions, block 0 -/
noncomputable def b_241_0 : List En := [(0, .aload 0, 1, []), (1, .iconst 0, 1, []), (2, .putfield 25, 3, [8, 0, 1, 58]), (5, .aload 0, 1, []), (6, .getfield 9, 3, [8, 1, 3, 54]), (9, .iconst 2040, 3, []), (12, .iaload, 1, []), (13, .ireturn, 1, [0])]
noncomputable def cod_241 : List (List En) := [b_241_0]
/-- conditionAt, block 0 -/
noncomputable def b_242_0 : List En := [(0, .aload 0, 1, []), (1, .aload 0, 1, []), (2, .iload 1, 1, []), (3, .invokevirtual 131, 3, [202, 2, 9, 169]), (6, .invokevirtual 71, 3, [165, 2, 9, 152]), (9, .ifCond .ne 17, 3, [1]), (12, .aload 0, 1, []), (13, .iload 2, 1, []), (14, .iconst 0, 1, []), (15, .iconst 5, 1, []), (16, .invokestatic 29, 3, [158, 3, 0, 143]), (19, .iconst 2, 1, []), (20, .invokevirtual 37, 3, [157, 3, 9, 145]), (23, .ifCond .eq 5, 3, [2]), (26, .nop, 0, [1])]
/-- conditionAt, block 1 -/
noncomputable def b_242_1 : List En := [(26, .iconst 0, 1, []), (27, .ireturn, 1, [0])]
/-- conditionAt, block 2 -/
noncomputable def b_242_2 : List En := [(28, .iload 2, 1, []), (29, .iconst 3, 1, []), (30, .if_icmp .ge 18, 3, [3]), (33, .aload 0, 1, []), (34, .getfield 9, 3, [8, 1, 3, 54]), (37, .iconst 2041, 3, []), (40, .iconst 3, 1, []), (41, .iload 1, 1, []), (42, .imul, 1, []), (43, .iadd, 1, []), (44, .iload 2, 1, []), (45, .iadd, 1, []), (46, .iaload, 1, []), (47, .ireturn, 1, [0])]
/-- conditionAt, block 3 -/
noncomputable def b_242_3 : List En := [(48, .iload 2, 1, []), (49, .iconst 3, 1, []), (50, .if_icmp .ne 11, 3, [4]), (53, .aload 0, 1, []), (54, .iload 1, 1, []), (55, .invokevirtual 169, 3, [237, 2, 9, 180]), (58, .goto 21, 3, [6])]
/-- conditionAt, block 4 -/
noncomputable def b_242_4 : List En := [(61, .iload 2, 1, []), (62, .iconst 4, 1, []), (63, .if_icmp .ne 11, 3, [5]), (66, .aload 0, 1, []), (67, .iload 1, 1, []), (68, .invokevirtual 172, 3, [239, 2, 9, 181]), (71, .goto 8, 3, [6])]
/-- conditionAt, block 5 -/
noncomputable def b_242_5 : List En := [(74, .aload 0, 1, []), (75, .iload 1, 1, []), (76, .invokevirtual 175, 3, [240, 2, 9, 182]), (79, .nop, 0, [6])]
/-- conditionAt, block 6 -/
noncomputable def b_242_6 : List En := [(79, .ireturn, 1, [0])]
noncomputable def cod_242 : List (List En) := [b_242_0, b_242_1, b_242_2, b_242_3, b_242_4, b_242_5, b_242_6]
/-- cost, block 0 -/
noncomputable def b_243_0 : List En := [(0, .aload 0, 1, []), (1, .aload 0, 1, []), (2, .iload 1, 1, []), (3, .invokevirtual 131, 3, [202, 2, 9, 169]), (6, .invokevirtual 71, 3, [165, 2, 9, 152]), (9, .ifCond .ne 17, 3, [1]), (12, .aload 0, 1, []), (13, .iload 2, 1, []), (14, .iconst 0, 1, []), (15, .iconst 2, 1, []), (16, .invokestatic 29, 3, [158, 3, 0, 143]), (19, .iconst 2, 1, []), (20, .invokevirtual 37, 3, [157, 3, 9, 145]), (23, .ifCond .eq 7, 3, [2]), (26, .nop, 0, [1])]
/-- cost, block 1 -/
noncomputable def b_243_1 : List En := [(26, .iconst 0, 1, []), (27, .goto 9, 3, [3])]
/-- cost, block 2 -/
noncomputable def b_243_2 : List En := [(30, .aload 0, 1, []), (31, .iload 1, 1, []), (32, .iload 2, 1, []), (33, .invokevirtual 166, 3, [238, 3, 9, 179]), (36, .nop, 0, [3])]
/-- cost, block 3 -/
noncomputable def b_243_3 : List En := [(36, .ireturn, 1, [0])]
noncomputable def cod_243 : List (List En) := [b_243_0, b_243_1, b_243_2, b_243_3]
/-- planCost, block 0 -/
noncomputable def b_244_0 : List En := [(0, .aload 0, 1, []), (1, .iconst 0, 1, []), (2, .putfield 25, 3, [8, 0, 1, 58]), (5, .iconst 0, 1, []), (6, .aload 0, 1, []), (7, .getfield 9, 3, [8, 1, 3, 54]), (10, .iconst 2040, 3, []), (13, .iaload, 1, []), (14, .iconst 1, 1, []), (15, .isub, 1, []), (16, .invokestatic 178, 3, [7065, 0]), (19, .istore 1, 1, []), (20, .iconst 0, 1, []), (21, .istore 2, 1, []), (22, .nop, 0, [1])]
/-- planCost, block 1 -/
noncomputable def b_244_1 : List En := [(22, .iload 2, 1, []), (23, .aload 0, 1, []), (24, .getfield 9, 3, [8, 1, 3, 54]), (27, .iconst 2040, 3, []), (30, .iaload, 1, []), (31, .if_icmp .ge 22, 3, [2]), (34, .iload 1, 1, []), (35, .aload 0, 1, []), (36, .iload 2, 1, []), (37, .aload 0, 1, []), (38, .iload 2, 1, []), (39, .invokevirtual 172, 3, [239, 2, 9, 181]), (42, .invokevirtual 166, 3, [238, 3, 9, 179]), (45, .iadd, 1, []), (46, .istore 1, 1, []), (47, .iinc 2 1, 3, []), (50, .goto (-28), 3, [1])]
/-- planCost, block 2 -/
noncomputable def b_244_2 : List En := [(53, .iload 1, 1, []), (54, .ireturn, 1, [0])]
noncomputable def cod_244 : List (List En) := [b_244_0, b_244_1, b_244_2]
/-- mean, block 0 -/
noncomputable def b_245_0 : List En := [(0, .aload 0, 1, []), (1, .iload 1, 1, []), (2, .iload 2, 1, []), (3, .invokevirtual 140, 3, [218, 3, 9, 172]), (6, .ifCond .eq 5, 3, [1]), (9, .dconst 0, 1, []), (10, .dreturn, 1, [])]
/-- mean, block 1 -/
noncomputable def b_245_1 : List En := [(11, .aload 0, 1, []), (12, .iload 1, 1, []), (13, .iload 2, 1, []), (14, .invokevirtual 137, 3, [220, 3, 9, 171]), (17, .istore 3, 1, []), (18, .iload 3, 1, []), (19, .ifCond .ne 7, 3, [2]), (22, .dconst 0, 1, []), (23, .goto 13, 3, [3])]
/-- mean, block 2 -/
noncomputable def b_245_2 : List En := [(26, .aload 0, 1, []), (27, .iload 1, 1, []), (28, .iload 2, 1, []), (29, .invokevirtual 143, 3, [219, 3, 9, 173]), (32, .i2d, 1, []), (33, .iload 3, 1, []), (34, .i2d, 1, []), (35, .ddiv, 1, []), (36, .nop, 0, [3])]
/-- mean, block 3 -/
noncomputable def b_245_3 : List En := [(36, .dreturn, 1, [])]
noncomputable def cod_245 : List (List En) := [b_245_0, b_245_1, b_245_2, b_245_3]
/-- share, block 0 -/
noncomputable def b_246_0 : List En := [(0, .aload 0, 1, []), (1, .iload 1, 1, []), (2, .invokestatic 106, 3, [160, 1, 0, 161]), (5, .invokevirtual 71, 3, [165, 2, 9, 152]), (8, .ifCond .eq 5, 3, [1]), (11, .fconst 0, 1, []), (12, .freturn, 1, [])]
/-- share, block 1 -/
noncomputable def b_246_1 : List En := [(13, .aload 0, 1, []), (14, .invokevirtual 75, 3, [172, 1, 9, 153]), (17, .istore 2, 1, []), (18, .iload 2, 1, []), (19, .ifCond .ne 7, 3, [2]), (22, .fconst 0, 1, []), (23, .goto 12, 3, [3])]
/-- share, block 2 -/
noncomputable def b_246_2 : List En := [(26, .aload 0, 1, []), (27, .iload 1, 1, []), (28, .invokevirtual 103, 3, [173, 2, 9, 160]), (31, .i2f, 1, []), (32, .iload 2, 1, []), (33, .i2f, 1, []), (34, .fdiv, 1, []), (35, .nop, 0, [3])]
/-- share, block 3 -/
noncomputable def b_246_3 : List En := [(35, .freturn, 1, [])]
noncomputable def cod_246 : List (List En) := [b_246_0, b_246_1, b_246_2, b_246_3]
/-- isBelow, block 0 -/
noncomputable def b_247_0 : List En := [(0, .iconst 6, 2, []), (2, .istore 2, 1, []), (3, .nop, 0, [1])]
/-- isBelow, block 1 -/
noncomputable def b_247_1 : List En := [(3, .iload 2, 1, []), (4, .ifCond .lt 53, 3, [7]), (7, .iload 0, 1, []), (8, .iload 2, 1, []), (9, .ishr, 1, []), (10, .iconst 1, 1, []), (11, .iand, 1, []), (12, .istore 3, 1, []), (13, .iload 3, 1, []), (14, .iload 1, 1, []), (15, .iload 2, 1, []), (16, .ishr, 1, []), (17, .iconst 1, 1, []), (18, .iand, 1, []), (19, .if_icmp .eq 32, 3, [6]), (22, .iload 2, 1, []), (23, .iconst 6, 2, []), (25, .if_icmp .ne 16, 3, [3]), (28, .iload 3, 1, []), (29, .iconst 1, 1, []), (30, .if_icmp .ne 7, 3, [2]), (33, .iconst 1, 1, []), (34, .goto 16, 3, [5])]
/-- isBelow, block 2 -/
noncomputable def b_247_2 : List En := [(37, .iconst 0, 1, []), (38, .goto 12, 3, [5])]
/-- isBelow, block 3 -/
noncomputable def b_247_3 : List En := [(41, .iload 3, 1, []), (42, .ifCond .ne 7, 3, [4]), (45, .iconst 1, 1, []), (46, .goto 4, 3, [5])]
/-- isBelow, block 4 -/
noncomputable def b_247_4 : List En := [(49, .iconst 0, 1, []), (50, .nop, 0, [5])]
/-- isBelow, block 5 -/
noncomputable def b_247_5 : List En := [(50, .ireturn, 1, [1])]
/-- isBelow, block 6 -/
noncomputable def b_247_6 : List En := [(51, .iinc 2 (-1), 3, []), (54, .goto (-51), 3, [1])]
/-- isBelow, block 7 -/
noncomputable def b_247_7 : List En := [(57, .iconst 0, 1, []), (58, .ireturn, 1, [1])]
noncomputable def cod_247 : List (List En) := [b_247_0, b_247_1, b_247_2, b_247_3, b_247_4, b_247_5, b_247_6, b_247_7]
/-- isTold, block 0 -/
noncomputable def b_248_0 : List En := [(0, .iload 1, 1, []), (1, .iload 3, 1, []), (2, .invokestatic 183, 3, [247, 2, 0, 183]), (5, .istore 4, 2, []), (7, .iload 3, 1, []), (8, .iload 1, 1, []), (9, .invokestatic 183, 3, [247, 2, 0, 183]), (12, .istore 5, 2, []), (14, .iload 2, 1, []), (15, .ifCond .ne 8, 3, [1]), (18, .iload 4, 2, []), (20, .goto 87, 3, [11])]
/-- isTold, block 1 -/
noncomputable def b_248_1 : List En := [(23, .iload 2, 1, []), (24, .iconst 1, 1, []), (25, .if_icmp .ne 16, 3, [3]), (28, .iload 5, 2, []), (30, .ifCond .ne 7, 3, [2]), (33, .iconst 1, 1, []), (34, .goto 73, 3, [11])]
/-- isTold, block 2 -/
noncomputable def b_248_2 : List En := [(37, .iconst 0, 1, []), (38, .goto 69, 3, [11])]
/-- isTold, block 3 -/
noncomputable def b_248_3 : List En := [(41, .iload 2, 1, []), (42, .iconst 2, 1, []), (43, .if_icmp .ne 21, 3, [5]), (46, .iload 4, 2, []), (48, .ifCond .ne 12, 3, [4]), (51, .iload 5, 2, []), (53, .ifCond .ne 7, 3, [4]), (56, .iconst 1, 1, []), (57, .goto 50, 3, [11])]
/-- isTold, block 4 -/
noncomputable def b_248_4 : List En := [(60, .iconst 0, 1, []), (61, .goto 46, 3, [11])]
/-- isTold, block 5 -/
noncomputable def b_248_5 : List En := [(64, .iload 2, 1, []), (65, .iconst 3, 1, []), (66, .if_icmp .ne 16, 3, [7]), (69, .iload 4, 2, []), (71, .ifCond .ne 7, 3, [6]), (74, .iconst 1, 1, []), (75, .goto 32, 3, [11])]
/-- isTold, block 6 -/
noncomputable def b_248_6 : List En := [(78, .iconst 0, 1, []), (79, .goto 28, 3, [11])]
/-- isTold, block 7 -/
noncomputable def b_248_7 : List En := [(82, .iload 2, 1, []), (83, .iconst 4, 1, []), (84, .if_icmp .ne 8, 3, [8]), (87, .iload 5, 2, []), (89, .goto 18, 3, [11])]
/-- isTold, block 8 -/
noncomputable def b_248_8 : List En := [(92, .iload 4, 2, []), (94, .ifCond .ne 8, 3, [9]), (97, .iload 5, 2, []), (99, .ifCond .eq 7, 3, [10]), (102, .nop, 0, [9])]
/-- isTold, block 9 -/
noncomputable def b_248_9 : List En := [(102, .iconst 1, 1, []), (103, .goto 4, 3, [11])]
/-- isTold, block 10 -/
noncomputable def b_248_10 : List En := [(106, .iconst 0, 1, []), (107, .nop, 0, [11])]
/-- isTold, block 11 -/
noncomputable def b_248_11 : List En := [(107, .istore 6, 2, []), (109, .iload 6, 2, []), (111, .iload 1, 1, []), (112, .iload 2, 1, []), (113, .iload 3, 1, []), (114, .invokestatic 45, 3, [169, 3, 0, 147]), (117, .if_icmp .ne 7, 3, [12]), (120, .iconst 1, 1, []), (121, .goto 4, 3, [13])]
/-- isTold, block 12 -/
noncomputable def b_248_12 : List En := [(124, .iconst 0, 1, []), (125, .nop, 0, [13])]
/-- isTold, block 13 -/
noncomputable def b_248_13 : List En := [(125, .ireturn, 1, [1])]
noncomputable def cod_248 : List (List En) := [b_248_0, b_248_1, b_248_2, b_248_3, b_248_4, b_248_5, b_248_6, b_248_7, b_248_8, b_248_9, b_248_10, b_248_11, b_248_12, b_248_13]
/-- errors, block 0 -/
noncomputable def b_249_0 : List En := [(0, .aload 0, 1, []), (1, .iconst 0, 1, []), (2, .putfield 25, 3, [8, 0, 1, 58]), (5, .iconst 0, 1, []), (6, .istore 1, 1, []), (7, .iconst 6, 2, []), (9, .newarray .int, 2, [10]), (11, .dup, 1, []), (12, .iconst 0, 1, []), (13, .iconst (-64), 2, []), (15, .iastore, 1, []), (16, .dup, 1, []), (17, .iconst 1, 1, []), (18, .iconst (-33), 2, []), (20, .iastore, 1, []), (21, .dup, 1, []), (22, .iconst 2, 1, []), (23, .iconst (-1), 1, []), (24, .iastore, 1, []), (25, .dup, 1, []), (26, .iconst 3, 1, []), (27, .iconst 0, 1, []), (28, .iastore, 1, []), (29, .dup, 1, []), (30, .iconst 4, 1, []), (31, .iconst 17, 2, []), (33, .iastore, 1, []), (34, .dup, 1, []), (35, .iconst 5, 1, []), (36, .iconst 63, 2, []), (38, .iastore, 1, []), (39, .astore 2, 1, []), (40, .iconst 0, 1, []), (41, .istore 3, 1, []), (42, .nop, 0, [1])]
/-- errors, block 1 -/
noncomputable def b_249_1 : List En := [(42, .iload 3, 1, []), (43, .iconst 4, 1, []), (44, .if_icmp .ge 131, 3, [13]), (47, .iconst 0, 1, []), (48, .istore 4, 2, []), (50, .nop, 0, [2])]
/-- errors, block 2 -/
noncomputable def b_249_2 : List En := [(50, .iload 4, 2, []), (52, .iconst 6, 2, []), (54, .if_icmp .ge 115, 3, [12]), (57, .iconst 0, 1, []), (58, .istore 5, 2, []), (60, .nop, 0, [3])]
/-- errors, block 3 -/
noncomputable def b_249_3 : List En := [(60, .iload 5, 2, []), (62, .iconst 6, 2, []), (64, .if_icmp .ge 99, 3, [11]), (67, .iconst 1, 1, []), (68, .istore 6, 2, []), (70, .iconst 0, 1, []), (71, .istore 7, 2, []), (73, .nop, 0, [4])]
/-- errors, block 4 -/
noncomputable def b_249_4 : List En := [(73, .iload 7, 2, []), (75, .iconst 120, 2, []), (77, .if_icmp .ge 67, 3, [8]), (80, .iload 6, 2, []), (82, .ifCond .eq 53, 3, [6]), (85, .aload 0, 1, []), (86, .getfield 9, 3, [8, 1, 3, 54]), (89, .iconst 480, 3, []), (92, .iload 7, 2, []), (94, .iadd, 1, []), (95, .iaload, 1, []), (96, .ifCond .eq 35, 3, [5]), (99, .aload 0, 1, []), (100, .iload 7, 2, []), (102, .iload 3, 1, []), (103, .invokevirtual 41, 3, [166, 3, 9, 146]), (106, .iconst 100, 2, []), (108, .if_icmp .eq 23, 3, [5]), (111, .aload 0, 1, []), (112, .aload 0, 1, []), (113, .iload 7, 2, []), (115, .iload 3, 1, []), (116, .invokevirtual 41, 3, [166, 3, 9, 146]), (119, .iload 4, 2, []), (121, .aload 2, 1, []), (122, .iload 5, 2, []), (124, .iaload, 1, []), (125, .invokevirtual 186, 3, [248, 4, 9, 184]), (128, .ifCond .eq 7, 3, [6]), (131, .nop, 0, [5])]
/-- errors, block 5 -/
noncomputable def b_249_5 : List En := [(131, .iconst 1, 1, []), (132, .goto 4, 3, [7])]
/-- errors, block 6 -/
noncomputable def b_249_6 : List En := [(135, .iconst 0, 1, []), (136, .nop, 0, [7])]
/-- errors, block 7 -/
noncomputable def b_249_7 : List En := [(136, .istore 6, 2, []), (138, .iinc 7 1, 3, []), (141, .goto (-68), 3, [4])]
/-- errors, block 8 -/
noncomputable def b_249_8 : List En := [(144, .iload 1, 1, []), (145, .iload 6, 2, []), (147, .ifCond .eq 7, 3, [9]), (150, .iconst 0, 1, []), (151, .goto 4, 3, [10])]
/-- errors, block 9 -/
noncomputable def b_249_9 : List En := [(154, .iconst 1, 1, []), (155, .nop, 0, [10])]
/-- errors, block 10 -/
noncomputable def b_249_10 : List En := [(155, .iadd, 1, []), (156, .istore 1, 1, []), (157, .iinc 5 1, 3, []), (160, .goto (-100), 3, [3])]
/-- errors, block 11 -/
noncomputable def b_249_11 : List En := [(163, .iinc 4 1, 3, []), (166, .goto (-116), 3, [2])]
/-- errors, block 12 -/
noncomputable def b_249_12 : List En := [(169, .iinc 3 1, 3, []), (172, .goto (-130), 3, [1])]
/-- errors, block 13 -/
noncomputable def b_249_13 : List En := [(175, .iload 1, 1, []), (176, .ireturn, 1, [0])]
noncomputable def cod_249 : List (List En) := [b_249_0, b_249_1, b_249_2, b_249_3, b_249_4, b_249_5, b_249_6, b_249_7, b_249_8, b_249_9, b_249_10, b_249_11, b_249_12, b_249_13]
