/-! the law's entries -/
/-- isSame, block 0 -/
noncomputable def b_165_0 : List En := [(0, .iconst 0, 1, []), (1, .istore 3, 1, []), (2, .iconst 0, 1, []), (3, .istore 4, 2, []), (5, .nop, 0, [1])]
/-- isSame, block 1 -/
noncomputable def b_165_1 : List En := [(5, .iload 4, 2, []), (7, .iconst 120, 2, []), (9, .if_icmp .ge 40, 3, [5]), (12, .aload 0, 1, []), (13, .iload 1, 1, []), (14, .iload 4, 2, []), (16, .invokevirtual 9, 3, [110, 3, 8, 142]), (19, .aload 2, 1, []), (20, .iload 4, 2, []), (22, .baload, 1, []), (23, .if_icmp .eq 5, 3, [2]), (26, .iconst 0, 1, []), (27, .ireturn, 1, [1])]
/-- isSame, block 2 -/
noncomputable def b_165_2 : List En := [(28, .iload 3, 1, []), (29, .aload 2, 1, []), (30, .iload 4, 2, []), (32, .baload, 1, []), (33, .ifCond .eq 7, 3, [3]), (36, .iconst 1, 1, []), (37, .goto 4, 3, [4])]
/-- isSame, block 3 -/
noncomputable def b_165_3 : List En := [(40, .iconst 0, 1, []), (41, .nop, 0, [4])]
/-- isSame, block 4 -/
noncomputable def b_165_4 : List En := [(41, .iadd, 1, []), (42, .istore 3, 1, []), (43, .iinc 4 1, 3, []), (46, .goto (-41), 3, [1])]
/-- isSame, block 5 -/
noncomputable def b_165_5 : List En := [(49, .aload 0, 1, []), (50, .iload 1, 1, []), (51, .invokevirtual 15, 3, [108, 2, 8, 143]), (54, .iload 3, 1, []), (55, .if_icmp .ne 7, 3, [6]), (58, .iconst 1, 1, []), (59, .goto 4, 3, [7])]
/-- isSame, block 6 -/
noncomputable def b_165_6 : List En := [(62, .iconst 0, 1, []), (63, .nop, 0, [7])]
/-- isSame, block 7 -/
noncomputable def b_165_7 : List En := [(63, .ireturn, 1, [1])]
noncomputable def cod_165 : List (List En) := [b_165_0, b_165_1, b_165_2, b_165_3, b_165_4, b_165_5, b_165_6, b_165_7]
/-- combined, block 0 -/
noncomputable def b_166_0 : List En := [(0, .iconst 120, 2, []), (2, .newarray .boolean, 2, [11]), (4, .astore 3, 1, []), (5, .iconst 0, 1, []), (6, .istore 4, 2, []), (8, .nop, 0, [1])]
/-- combined, block 1 -/
noncomputable def b_166_1 : List En := [(8, .iload 4, 2, []), (10, .iconst 120, 2, []), (12, .if_icmp .ge 109, 3, [11]), (15, .aload 3, 1, []), (16, .iload 4, 2, []), (18, .iload 1, 1, []), (19, .ifCond .ne 25, 3, [3]), (22, .aload 0, 1, []), (23, .iload 4, 2, []), (25, .baload, 1, []), (26, .ifCond .eq 14, 3, [2]), (29, .aload 2, 1, []), (30, .iload 4, 2, []), (32, .baload, 1, []), (33, .ifCond .eq 7, 3, [2]), (36, .iconst 1, 1, []), (37, .goto 77, 3, [10])]
/-- combined, block 2 -/
noncomputable def b_166_2 : List En := [(40, .iconst 0, 1, []), (41, .goto 73, 3, [10])]
/-- combined, block 3 -/
noncomputable def b_166_3 : List En := [(44, .iload 1, 1, []), (45, .iconst 1, 1, []), (46, .if_icmp .ne 25, 3, [6]), (49, .aload 0, 1, []), (50, .iload 4, 2, []), (52, .baload, 1, []), (53, .ifCond .ne 10, 3, [4]), (56, .aload 2, 1, []), (57, .iload 4, 2, []), (59, .baload, 1, []), (60, .ifCond .eq 7, 3, [5]), (63, .nop, 0, [4])]
/-- combined, block 4 -/
noncomputable def b_166_4 : List En := [(63, .iconst 1, 1, []), (64, .goto 50, 3, [10])]
/-- combined, block 5 -/
noncomputable def b_166_5 : List En := [(67, .iconst 0, 1, []), (68, .goto 46, 3, [10])]
/-- combined, block 6 -/
noncomputable def b_166_6 : List En := [(71, .iload 1, 1, []), (72, .iconst 2, 1, []), (73, .if_icmp .ne 22, 3, [8]), (76, .aload 0, 1, []), (77, .iload 4, 2, []), (79, .baload, 1, []), (80, .aload 2, 1, []), (81, .iload 4, 2, []), (83, .baload, 1, []), (84, .if_icmp .eq 7, 3, [7]), (87, .iconst 1, 1, []), (88, .goto 26, 3, [10])]
/-- combined, block 7 -/
noncomputable def b_166_7 : List En := [(91, .iconst 0, 1, []), (92, .goto 22, 3, [10])]
/-- combined, block 8 -/
noncomputable def b_166_8 : List En := [(95, .aload 0, 1, []), (96, .iload 4, 2, []), (98, .baload, 1, []), (99, .ifCond .eq 14, 3, [9]), (102, .aload 2, 1, []), (103, .iload 4, 2, []), (105, .baload, 1, []), (106, .ifCond .ne 7, 3, [9]), (109, .iconst 1, 1, []), (110, .goto 4, 3, [10])]
/-- combined, block 9 -/
noncomputable def b_166_9 : List En := [(113, .iconst 0, 1, []), (114, .nop, 0, [10])]
/-- combined, block 10 -/
noncomputable def b_166_10 : List En := [(114, .bastore, 1, []), (115, .iinc 4 1, 3, []), (118, .goto (-110), 3, [1])]
/-- combined, block 11 -/
noncomputable def b_166_11 : List En := [(121, .aload 3, 1, []), (122, .areturn, 1, [])]
noncomputable def cod_166 : List (List En) := [b_166_0, b_166_1, b_166_2, b_166_3, b_166_4, b_166_5, b_166_6, b_166_7, b_166_8, b_166_9, b_166_10, b_166_11]
/-- filters, block 0 -/
noncomputable def b_167_0 : List En := [(0, .iconst 3, 1, []), (1, .anewarray 19, 3, [19, 11]), (4, .astore 3, 1, []), (5, .iconst 0, 1, []), (6, .istore 4, 2, []), (8, .nop, 0, [1])]
/-- filters, block 1 -/
noncomputable def b_167_1 : List En := [(8, .iload 4, 2, []), (10, .iconst 3, 1, []), (11, .if_icmp .ge 88, 3, [5]), (14, .aload 2, 1, []), (15, .iconst 4, 1, []), (16, .invokevirtual 21, 3, [156, 2, 9, 144]), (19, .istore 5, 2, []), (21, .aload 2, 1, []), (22, .iconst 8, 2, []), (24, .invokevirtual 21, 3, [156, 2, 9, 144]), (27, .istore 6, 2, []), (29, .aload 2, 1, []), (30, .invokevirtual 26, 3, [157, 1, 9, 145]), (33, .istore 7, 2, []), (35, .aload 3, 1, []), (36, .iload 4, 2, []), (38, .aload 1, 1, []), (39, .iload 5, 2, []), (41, .iload 6, 2, []), (43, .iload 7, 2, []), (45, .invokevirtual 30, 3, [162, 4, 10, 146]), (48, .aastore, 1, []), (49, .iconst 2, 1, []), (50, .istore 8, 2, []), (52, .nop, 0, [2])]
/-- filters, block 2 -/
noncomputable def b_167_2 : List En := [(52, .iload 8, 2, []), (54, .ifCond .lt 39, 3, [4]), (57, .aload 0, 1, []), (58, .iload 4, 2, []), (60, .iload 5, 2, []), (62, .iload 6, 2, []), (64, .iload 7, 2, []), (66, .iload 8, 2, []), (68, .invokevirtual 36, 3, [84, 6, 8, 147]), (71, .pop, 1, []), (72, .aload 0, 1, []), (73, .iload 4, 2, []), (75, .aload 3, 1, []), (76, .iload 4, 2, []), (78, .aaload, 1, []), (79, .invokestatic 40, 3, [165, 3, 0, 148]), (82, .ifCond .ne 5, 3, [3]), (85, .aconst_null, 1, []), (86, .areturn, 1, [])]
/-- filters, block 3 -/
noncomputable def b_167_3 : List En := [(87, .iinc 8 (-1), 3, []), (90, .goto (-38), 3, [2])]
/-- filters, block 4 -/
noncomputable def b_167_4 : List En := [(93, .iinc 4 1, 3, []), (96, .goto (-88), 3, [1])]
/-- filters, block 5 -/
noncomputable def b_167_5 : List En := [(99, .aload 3, 1, []), (100, .areturn, 1, [])]
noncomputable def cod_167 : List (List En) := [b_167_0, b_167_1, b_167_2, b_167_3, b_167_4, b_167_5]
/-- isTold, block 0 -/
noncomputable def b_168_0 : List En := [(0, .iconst 120, 2, []), (2, .newarray .int, 2, [10]), (4, .astore 5, 2, []), (6, .iconst 0, 1, []), (7, .istore 6, 2, []), (9, .iconst 0, 1, []), (10, .istore 7, 2, []), (12, .iconst 0, 1, []), (13, .istore 8, 2, []), (15, .iconst 0, 1, []), (16, .istore 9, 2, []), (18, .nop, 0, [1])]
/-- isTold, block 1 -/
noncomputable def b_168_1 : List En := [(18, .iload 9, 2, []), (20, .iconst 120, 2, []), (22, .if_icmp .ge 233, 3, [19]), (25, .aload 1, 1, []), (26, .getfield 44, 3, [9, 1, 3, 58]), (29, .iload 9, 2, []), (31, .aaload, 1, []), (32, .iload 4, 2, []), (34, .iaload, 1, []), (35, .istore 10, 2, []), (37, .aload 2, 1, []), (38, .iload 9, 2, []), (40, .baload, 1, []), (41, .ifCond .eq 208, 3, [18]), (44, .iload 10, 2, []), (46, .iconst 100, 2, []), (48, .if_icmp .ne 6, 3, [2]), (51, .goto 198, 3, [18])]
/-- isTold, block 2 -/
noncomputable def b_168_2 : List En := [(54, .iconst 0, 1, []), (55, .istore 11, 2, []), (57, .iconst 1, 1, []), (58, .istore 12, 2, []), (60, .iconst 0, 1, []), (61, .istore 13, 2, []), (63, .nop, 0, [3])]
/-- isTold, block 3 -/
noncomputable def b_168_3 : List En := [(63, .iload 13, 2, []), (65, .iconst 120, 2, []), (67, .if_icmp .ge 95, 3, [12]), (70, .aload 1, 1, []), (71, .getfield 44, 3, [9, 1, 3, 58]), (74, .iload 13, 2, []), (76, .aaload, 1, []), (77, .iload 4, 2, []), (79, .iaload, 1, []), (80, .istore 14, 2, []), (82, .aload 2, 1, []), (83, .iload 13, 2, []), (85, .baload, 1, []), (86, .ifCond .eq 70, 3, [11]), (89, .iload 14, 2, []), (91, .iconst 100, 2, []), (93, .if_icmp .ne 6, 3, [4]), (96, .goto 60, 3, [11])]
/-- isTold, block 4 -/
noncomputable def b_168_4 : List En := [(99, .iload 11, 2, []), (101, .iload 14, 2, []), (103, .iload 10, 2, []), (105, .if_icmp .gt 17, 3, [5]), (108, .iload 14, 2, []), (110, .iload 10, 2, []), (112, .if_icmp .ne 14, 3, [6]), (115, .iload 13, 2, []), (117, .iload 9, 2, []), (119, .if_icmp .ge 7, 3, [6]), (122, .nop, 0, [5])]
/-- isTold, block 5 -/
noncomputable def b_168_5 : List En := [(122, .iconst 1, 1, []), (123, .goto 4, 3, [7])]
/-- isTold, block 6 -/
noncomputable def b_168_6 : List En := [(126, .iconst 0, 1, []), (127, .nop, 0, [7])]
/-- isTold, block 7 -/
noncomputable def b_168_7 : List En := [(127, .iadd, 1, []), (128, .istore 11, 2, []), (130, .iload 12, 2, []), (132, .ifCond .eq 21, 3, [9]), (135, .iload 14, 2, []), (137, .iload 10, 2, []), (139, .if_icmp .ne 10, 3, [8]), (142, .iload 13, 2, []), (144, .iload 9, 2, []), (146, .if_icmp .lt 7, 3, [9]), (149, .nop, 0, [8])]
/-- isTold, block 8 -/
noncomputable def b_168_8 : List En := [(149, .iconst 1, 1, []), (150, .goto 4, 3, [10])]
/-- isTold, block 9 -/
noncomputable def b_168_9 : List En := [(153, .iconst 0, 1, []), (154, .nop, 0, [10])]
/-- isTold, block 10 -/
noncomputable def b_168_10 : List En := [(154, .istore 12, 2, []), (156, .nop, 0, [11])]
/-- isTold, block 11 -/
noncomputable def b_168_11 : List En := [(156, .iinc 13 1, 3, []), (159, .goto (-96), 3, [3])]
/-- isTold, block 12 -/
noncomputable def b_168_12 : List En := [(162, .aload 0, 1, []), (163, .iload 3, 1, []), (164, .iload 4, 2, []), (166, .iload 11, 2, []), (168, .invokevirtual 48, 3, [117, 4, 8, 149]), (171, .iload 9, 2, []), (173, .if_icmp .eq 5, 3, [13]), (176, .iconst 0, 1, []), (177, .ireturn, 1, [1])]
/-- isTold, block 13 -/
noncomputable def b_168_13 : List En := [(178, .iload 8, 2, []), (180, .iload 12, 2, []), (182, .ifCond .eq 7, 3, [14]), (185, .iconst 1, 1, []), (186, .goto 4, 3, [15])]
/-- isTold, block 14 -/
noncomputable def b_168_14 : List En := [(189, .iconst 0, 1, []), (190, .nop, 0, [15])]
/-- isTold, block 15 -/
noncomputable def b_168_15 : List En := [(190, .iadd, 1, []), (191, .istore 8, 2, []), (193, .iload 6, 2, []), (195, .istore 13, 2, []), (197, .nop, 0, [16])]
/-- isTold, block 16 -/
noncomputable def b_168_16 : List En := [(197, .iload 13, 2, []), (199, .ifCond .le 33, 3, [17]), (202, .aload 5, 2, []), (204, .iload 13, 2, []), (206, .iconst 1, 1, []), (207, .isub, 1, []), (208, .iaload, 1, []), (209, .iload 10, 2, []), (211, .if_icmp .le 21, 3, [17]), (214, .aload 5, 2, []), (216, .iload 13, 2, []), (218, .aload 5, 2, []), (220, .iload 13, 2, []), (222, .iconst 1, 1, []), (223, .isub, 1, []), (224, .iaload, 1, []), (225, .iastore, 1, []), (226, .iinc 13 (-1), 3, []), (229, .goto (-32), 3, [16])]
/-- isTold, block 17 -/
noncomputable def b_168_17 : List En := [(232, .aload 5, 2, []), (234, .iload 13, 2, []), (236, .iload 10, 2, []), (238, .iastore, 1, []), (239, .iinc 6 1, 3, []), (242, .iload 7, 2, []), (244, .iload 10, 2, []), (246, .iadd, 1, []), (247, .istore 7, 2, []), (249, .nop, 0, [18])]
/-- isTold, block 18 -/
noncomputable def b_168_18 : List En := [(249, .iinc 9 1, 3, []), (252, .goto (-234), 3, [1])]
/-- isTold, block 19 -/
noncomputable def b_168_19 : List En := [(255, .iconst 0, 1, []), (256, .istore 9, 2, []), (258, .nop, 0, [20])]
/-- isTold, block 20 -/
noncomputable def b_168_20 : List En := [(258, .iload 9, 2, []), (260, .iload 6, 2, []), (262, .if_icmp .ge 28, 3, [22]), (265, .aload 0, 1, []), (266, .iload 3, 1, []), (267, .iload 4, 2, []), (269, .iload 9, 2, []), (271, .invokevirtual 52, 3, [115, 4, 8, 150]), (274, .aload 5, 2, []), (276, .iload 9, 2, []), (278, .iaload, 1, []), (279, .if_icmp .eq 5, 3, [21]), (282, .iconst 0, 1, []), (283, .ireturn, 1, [1])]
/-- isTold, block 21 -/
noncomputable def b_168_21 : List En := [(284, .iinc 9 1, 3, []), (287, .goto (-29), 3, [20])]
/-- isTold, block 22 -/
noncomputable def b_168_22 : List En := [(290, .aload 0, 1, []), (291, .iload 3, 1, []), (292, .iload 4, 2, []), (294, .iload 6, 2, []), (296, .invokevirtual 52, 3, [115, 4, 8, 150]), (299, .iconst 100, 2, []), (301, .if_icmp .ne 29, 3, [23]), (304, .aload 0, 1, []), (305, .iload 3, 1, []), (306, .iload 4, 2, []), (308, .iconst (-1), 1, []), (309, .invokevirtual 52, 3, [115, 4, 8, 150]), (312, .iconst 100, 2, []), (314, .if_icmp .ne 16, 3, [23]), (317, .aload 0, 1, []), (318, .iload 3, 1, []), (319, .iload 4, 2, []), (321, .iload 6, 2, []), (323, .invokevirtual 48, 3, [117, 4, 8, 149]), (326, .iconst (-1), 1, []), (327, .if_icmp .eq 5, 3, [24]), (330, .nop, 0, [23])]
/-- isTold, block 23 -/
noncomputable def b_168_23 : List En := [(330, .iconst 0, 1, []), (331, .ireturn, 1, [1])]
/-- isTold, block 24 -/
noncomputable def b_168_24 : List En := [(332, .aload 0, 1, []), (333, .iload 3, 1, []), (334, .iload 4, 2, []), (336, .invokevirtual 55, 3, [129, 3, 8, 151]), (339, .iload 6, 2, []), (341, .ifCond .ne 7, 3, [25]), (344, .dconst 0, 1, []), (345, .goto 10, 3, [26])]
/-- isTold, block 25 -/
noncomputable def b_168_25 : List En := [(348, .iload 7, 2, []), (350, .i2d, 1, []), (351, .iload 6, 2, []), (353, .i2d, 1, []), (354, .ddiv, 1, []), (355, .nop, 0, [26])]
/-- isTold, block 26 -/
noncomputable def b_168_26 : List En := [(355, .dcmp .l, 1, []), (356, .ifCond .eq 5, 3, [27]), (359, .iconst 0, 1, []), (360, .ireturn, 1, [1])]
/-- isTold, block 27 -/
noncomputable def b_168_27 : List En := [(361, .aload 0, 1, []), (362, .iload 3, 1, []), (363, .iload 4, 2, []), (365, .invokevirtual 59, 3, [114, 3, 8, 152]), (368, .iload 7, 2, []), (370, .if_icmp .ne 48, 3, [30]), (373, .aload 0, 1, []), (374, .iload 3, 1, []), (375, .iload 4, 2, []), (377, .invokevirtual 63, 3, [118, 3, 8, 153]), (380, .iload 8, 2, []), (382, .if_icmp .ne 36, 3, [30]), (385, .aload 0, 1, []), (386, .iload 3, 1, []), (387, .iload 4, 2, []), (389, .invokevirtual 66, 3, [116, 3, 8, 154]), (392, .iload 6, 2, []), (394, .ifCond .ne 8, 3, [28]), (397, .iconst 100, 2, []), (399, .goto 12, 3, [29])]
/-- isTold, block 28 -/
noncomputable def b_168_28 : List En := [(402, .aload 5, 2, []), (404, .iload 6, 2, []), (406, .iconst 1, 1, []), (407, .isub, 1, []), (408, .iconst 2, 1, []), (409, .idiv, 1, []), (410, .iaload, 1, []), (411, .nop, 0, [29])]
/-- isTold, block 29 -/
noncomputable def b_168_29 : List En := [(411, .if_icmp .ne 7, 3, [30]), (414, .iconst 1, 1, []), (415, .goto 4, 3, [31])]
/-- isTold, block 30 -/
noncomputable def b_168_30 : List En := [(418, .iconst 0, 1, []), (419, .nop, 0, [31])]
/-- isTold, block 31 -/
noncomputable def b_168_31 : List En := [(419, .ireturn, 1, [1])]
noncomputable def cod_168 : List (List En) := [b_168_0, b_168_1, b_168_2, b_168_3, b_168_4, b_168_5, b_168_6, b_168_7, b_168_8, b_168_9, b_168_10, b_168_11, b_168_12, b_168_13, b_168_14, b_168_15, b_168_16, b_168_17, b_168_18, b_168_19, b_168_20, b_168_21, b_168_22, b_168_23, b_168_24, b_168_25, b_168_26, b_168_27, b_168_28, b_168_29, b_168_30, b_168_31]
/-- isKept, block 0 -/
noncomputable def b_169_0 : List En := [(0, .iconst 0, 1, []), (1, .istore 3, 1, []), (2, .iconst 0, 1, []), (3, .istore 4, 2, []), (5, .iconst 0, 1, []), (6, .istore 5, 2, []), (8, .iconst 0, 1, []), (9, .istore 6, 2, []), (11, .iconst (-64), 2, []), (13, .istore 7, 2, []), (15, .nop, 0, [1])]
/-- isKept, block 1 -/
noncomputable def b_169_1 : List En := [(15, .iload 7, 2, []), (17, .iconst 64, 2, []), (19, .if_icmp .ge 143, 3, [10]), (22, .iload 7, 2, []), (24, .iconst 15, 2, []), (26, .iand, 1, []), (27, .ifCond .ne 24, 3, [2]), (30, .aload 0, 1, []), (31, .iload 2, 1, []), (32, .iconst 1, 1, []), (33, .iload 7, 2, []), (35, .iconst 64, 2, []), (37, .iadd, 1, []), (38, .iconst 16, 2, []), (40, .idiv, 1, []), (41, .invokevirtual 69, 3, [107, 4, 8, 155]), (44, .iload 5, 2, []), (46, .if_icmp .eq 5, 3, [2]), (49, .iconst 0, 1, []), (50, .ireturn, 1, [1])]
/-- isKept, block 2 -/
noncomputable def b_169_2 : List En := [(51, .iconst 0, 1, []), (52, .istore 8, 2, []), (54, .iconst 0, 1, []), (55, .istore 9, 2, []), (57, .nop, 0, [3])]
/-- isKept, block 3 -/
noncomputable def b_169_3 : List En := [(57, .iload 9, 2, []), (59, .iconst 120, 2, []), (61, .if_icmp .ge 43, 3, [6]), (64, .iload 8, 2, []), (66, .aload 1, 1, []), (67, .getfield 72, 3, [9, 0, 3, 59]), (70, .iload 9, 2, []), (72, .baload, 1, []), (73, .ifCond .eq 21, 3, [4]), (76, .aload 1, 1, []), (77, .getfield 44, 3, [9, 1, 3, 58]), (80, .iload 9, 2, []), (82, .aaload, 1, []), (83, .iload 2, 1, []), (84, .iaload, 1, []), (85, .iload 7, 2, []), (87, .if_icmp .ne 7, 3, [4]), (90, .iconst 1, 1, []), (91, .goto 4, 3, [5])]
/-- isKept, block 4 -/
noncomputable def b_169_4 : List En := [(94, .iconst 0, 1, []), (95, .nop, 0, [5])]
/-- isKept, block 5 -/
noncomputable def b_169_5 : List En := [(95, .iadd, 1, []), (96, .istore 8, 2, []), (98, .iinc 9 1, 3, []), (101, .goto (-44), 3, [3])]
/-- isKept, block 6 -/
noncomputable def b_169_6 : List En := [(104, .aload 0, 1, []), (105, .iload 2, 1, []), (106, .iconst 0, 1, []), (107, .iload 7, 2, []), (109, .invokevirtual 69, 3, [107, 4, 8, 155]), (112, .iload 8, 2, []), (114, .if_icmp .eq 5, 3, [7]), (117, .iconst 0, 1, []), (118, .ireturn, 1, [1])]
/-- isKept, block 7 -/
noncomputable def b_169_7 : List En := [(119, .iload 4, 2, []), (121, .iload 8, 2, []), (123, .ifCond .le 7, 3, [8]), (126, .iconst 1, 1, []), (127, .goto 4, 3, [9])]
/-- isKept, block 8 -/
noncomputable def b_169_8 : List En := [(130, .iconst 0, 1, []), (131, .nop, 0, [9])]
/-- isKept, block 9 -/
noncomputable def b_169_9 : List En := [(131, .iadd, 1, []), (132, .istore 4, 2, []), (134, .iload 3, 1, []), (135, .iload 8, 2, []), (137, .iadd, 1, []), (138, .istore 3, 1, []), (139, .iload 5, 2, []), (141, .iload 8, 2, []), (143, .iadd, 1, []), (144, .istore 5, 2, []), (146, .iload 6, 2, []), (148, .iload 8, 2, []), (150, .iload 7, 2, []), (152, .imul, 1, []), (153, .iadd, 1, []), (154, .istore 6, 2, []), (156, .iinc 7 1, 3, []), (159, .goto (-144), 3, [1])]
/-- isKept, block 10 -/
noncomputable def b_169_10 : List En := [(162, .iconst (-64), 2, []), (164, .aload 0, 1, []), (165, .iload 2, 1, []), (166, .iconst 2, 1, []), (167, .iconst 6, 2, []), (169, .invokevirtual 69, 3, [107, 4, 8, 155]), (172, .imul, 1, []), (173, .istore 7, 2, []), (175, .iconst 0, 1, []), (176, .istore 8, 2, []), (178, .nop, 0, [11])]
/-- isKept, block 11 -/
noncomputable def b_169_11 : List En := [(178, .iload 8, 2, []), (180, .iconst 6, 2, []), (182, .if_icmp .ge 27, 3, [12]), (185, .iload 7, 2, []), (187, .iconst 1, 1, []), (188, .iload 8, 2, []), (190, .ishl, 1, []), (191, .aload 0, 1, []), (192, .iload 2, 1, []), (193, .iconst 2, 1, []), (194, .iload 8, 2, []), (196, .invokevirtual 69, 3, [107, 4, 8, 155]), (199, .imul, 1, []), (200, .iadd, 1, []), (201, .istore 7, 2, []), (203, .iinc 8 1, 3, []), (206, .goto (-28), 3, [11])]
/-- isKept, block 12 -/
noncomputable def b_169_12 : List En := [(209, .aload 0, 1, []), (210, .iload 2, 1, []), (211, .invokevirtual 75, 3, [104, 2, 8, 156]), (214, .iload 4, 2, []), (216, .if_icmp .ne 26, 3, [13]), (219, .aload 0, 1, []), (220, .iload 2, 1, []), (221, .iconst 2, 1, []), (222, .iconst 7, 2, []), (224, .invokevirtual 69, 3, [107, 4, 8, 155]), (227, .iload 3, 1, []), (228, .if_icmp .ne 14, 3, [13]), (231, .iload 7, 2, []), (233, .iload 6, 2, []), (235, .if_icmp .ne 7, 3, [13]), (238, .iconst 1, 1, []), (239, .goto 4, 3, [14])]
/-- isKept, block 13 -/
noncomputable def b_169_13 : List En := [(242, .iconst 0, 1, []), (243, .nop, 0, [14])]
/-- isKept, block 14 -/
noncomputable def b_169_14 : List En := [(243, .ireturn, 1, [1])]
noncomputable def cod_169 : List (List En) := [b_169_0, b_169_1, b_169_2, b_169_3, b_169_4, b_169_5, b_169_6, b_169_7, b_169_8, b_169_9, b_169_10, b_169_11, b_169_12, b_169_13, b_169_14]
/-- isJoined, block 0 -/
noncomputable def b_170_0 : List En := [(0, .aload 3, 1, []), (1, .iconst 4, 1, []), (2, .invokevirtual 21, 3, [156, 2, 9, 144]), (5, .istore 4, 2, []), (7, .aload 3, 1, []), (8, .iconst 4, 1, []), (9, .invokevirtual 21, 3, [156, 2, 9, 144]), (12, .istore 5, 2, []), (14, .iconst 120, 2, []), (16, .newarray .boolean, 2, [11]), (18, .astore 6, 2, []), (20, .iconst 0, 1, []), (21, .istore 7, 2, []), (23, .iconst 0, 1, []), (24, .istore 8, 2, []), (26, .nop, 0, [1])]
/-- isJoined, block 1 -/
noncomputable def b_170_1 : List En := [(26, .iload 8, 2, []), (28, .iconst 120, 2, []), (30, .if_icmp .ge 93, 3, [6]), (33, .iconst 0, 1, []), (34, .istore 9, 2, []), (36, .nop, 0, [2])]
/-- isJoined, block 2 -/
noncomputable def b_170_2 : List En := [(36, .iload 9, 2, []), (38, .iconst 120, 2, []), (40, .if_icmp .ge 77, 3, [5]), (43, .aload 2, 1, []), (44, .iconst 0, 1, []), (45, .aaload, 1, []), (46, .iload 8, 2, []), (48, .baload, 1, []), (49, .ifCond .eq 62, 3, [4]), (52, .aload 2, 1, []), (53, .iconst 1, 1, []), (54, .aaload, 1, []), (55, .iload 9, 2, []), (57, .baload, 1, []), (58, .ifCond .eq 53, 3, [4]), (61, .aload 1, 1, []), (62, .getfield 44, 3, [9, 1, 3, 58]), (65, .iload 8, 2, []), (67, .aaload, 1, []), (68, .iload 4, 2, []), (70, .iaload, 1, []), (71, .iconst 100, 2, []), (73, .if_icmp .eq 38, 3, [4]), (76, .aload 1, 1, []), (77, .getfield 44, 3, [9, 1, 3, 58]), (80, .iload 8, 2, []), (82, .aaload, 1, []), (83, .iload 4, 2, []), (85, .iaload, 1, []), (86, .aload 1, 1, []), (87, .getfield 44, 3, [9, 1, 3, 58]), (90, .iload 9, 2, []), (92, .aaload, 1, []), (93, .iload 5, 2, []), (95, .iaload, 1, []), (96, .if_icmp .eq 6, 3, [3]), (99, .goto 12, 3, [4])]
/-- isJoined, block 3 -/
noncomputable def b_170_3 : List En := [(102, .iinc 7 1, 3, []), (105, .aload 6, 2, []), (107, .iload 8, 2, []), (109, .iconst 1, 1, []), (110, .bastore, 1, []), (111, .nop, 0, [4])]
/-- isJoined, block 4 -/
noncomputable def b_170_4 : List En := [(111, .iinc 9 1, 3, []), (114, .goto (-78), 3, [2])]
/-- isJoined, block 5 -/
noncomputable def b_170_5 : List En := [(117, .iinc 8 1, 3, []), (120, .goto (-94), 3, [1])]
/-- isJoined, block 6 -/
noncomputable def b_170_6 : List En := [(123, .aload 0, 1, []), (124, .iconst 4, 1, []), (125, .iload 4, 2, []), (127, .iconst 0, 1, []), (128, .iload 5, 2, []), (130, .iconst 1, 1, []), (131, .invokevirtual 78, 3, [92, 6, 8, 157]), (134, .pop, 1, []), (135, .aload 0, 1, []), (136, .iload 4, 2, []), (138, .iconst 0, 1, []), (139, .iload 5, 2, []), (141, .iconst 1, 1, []), (142, .invokevirtual 81, 3, [119, 5, 8, 158]), (145, .iload 7, 2, []), (147, .if_icmp .ne 17, 3, [7]), (150, .aload 0, 1, []), (151, .iconst 4, 1, []), (152, .aload 6, 2, []), (154, .invokestatic 40, 3, [165, 3, 0, 148]), (157, .ifCond .eq 7, 3, [7]), (160, .iconst 1, 1, []), (161, .goto 4, 3, [8])]
/-- isJoined, block 7 -/
noncomputable def b_170_7 : List En := [(164, .iconst 0, 1, []), (165, .nop, 0, [8])]
/-- isJoined, block 8 -/
noncomputable def b_170_8 : List En := [(165, .ireturn, 1, [1])]
noncomputable def cod_170 : List (List En) := [b_170_0, b_170_1, b_170_2, b_170_3, b_170_4, b_170_5, b_170_6, b_170_7, b_170_8]
/-- isRolled, block 0 -/
noncomputable def b_171_0 : List En := [(0, .aload 0, 1, []), (1, .iload 3, 1, []), (2, .iload 4, 2, []), (4, .invokevirtual 85, 3, [120, 3, 8, 159]), (7, .istore 5, 2, []), (9, .aload 0, 1, []), (10, .iload 3, 1, []), (11, .invokevirtual 15, 3, [108, 2, 8, 143]), (14, .istore 6, 2, []), (16, .iconst 5, 1, []), (17, .newarray .int, 2, [10]), (19, .astore 7, 2, []), (21, .iconst 0, 1, []), (22, .istore 8, 2, []), (24, .nop, 0, [1])]
/-- isRolled, block 1 -/
noncomputable def b_171_1 : List En := [(24, .iload 8, 2, []), (26, .iload 5, 2, []), (28, .if_icmp .ge 242, 3, [21]), (31, .iconst 0, 1, []), (32, .istore 9, 2, []), (34, .iload 8, 2, []), (36, .ifCond .ne 7, 3, [2]), (39, .iconst 1, 1, []), (40, .goto 4, 3, [3])]
/-- isRolled, block 2 -/
noncomputable def b_171_2 : List En := [(43, .iconst 0, 1, []), (44, .nop, 0, [3])]
/-- isRolled, block 3 -/
noncomputable def b_171_3 : List En := [(44, .istore 10, 2, []), (46, .iconst 0, 1, []), (47, .istore 11, 2, []), (49, .iconst 0, 1, []), (50, .istore 12, 2, []), (52, .nop, 0, [4])]
/-- isRolled, block 4 -/
noncomputable def b_171_4 : List En := [(52, .iload 12, 2, []), (54, .iconst 4, 1, []), (55, .if_icmp .ge 77, 3, [9]), (58, .aload 0, 1, []), (59, .iload 8, 2, []), (61, .iload 12, 2, []), (63, .invokevirtual 88, 3, [121, 3, 8, 160]), (66, .istore 13, 2, []), (68, .iload 9, 2, []), (70, .iload 13, 2, []), (72, .iconst 101, 2, []), (74, .if_icmp .ne 7, 3, [5]), (77, .iconst 1, 1, []), (78, .goto 4, 3, [6])]
/-- isRolled, block 5 -/
noncomputable def b_171_5 : List En := [(81, .iconst 0, 1, []), (82, .nop, 0, [6])]
/-- isRolled, block 6 -/
noncomputable def b_171_6 : List En := [(82, .iadd, 1, []), (83, .istore 9, 2, []), (85, .iload 13, 2, []), (87, .iconst 101, 2, []), (89, .if_icmp .eq 15, 3, [7]), (92, .iload 4, 2, []), (94, .iload 12, 2, []), (96, .ishr, 1, []), (97, .iconst 1, 1, []), (98, .iand, 1, []), (99, .ifCond .ne 5, 3, [7]), (102, .iconst 0, 1, []), (103, .ireturn, 1, [1])]
/-- isRolled, block 7 -/
noncomputable def b_171_7 : List En := [(104, .iload 10, 2, []), (106, .ifCond .ne 20, 3, [8]), (109, .iload 13, 2, []), (111, .aload 0, 1, []), (112, .iload 8, 2, []), (114, .iconst 1, 1, []), (115, .isub, 1, []), (116, .iload 12, 2, []), (118, .invokevirtual 88, 3, [121, 3, 8, 160]), (121, .invokestatic 91, 3, [163, 2, 0, 161]), (124, .istore 10, 2, []), (126, .nop, 0, [8])]
/-- isRolled, block 8 -/
noncomputable def b_171_8 : List En := [(126, .iinc 12 1, 3, []), (129, .goto (-77), 3, [4])]
/-- isRolled, block 9 -/
noncomputable def b_171_9 : List En := [(132, .iconst 0, 1, []), (133, .istore 12, 2, []), (135, .nop, 0, [10])]
/-- isRolled, block 10 -/
noncomputable def b_171_10 : List En := [(135, .iload 12, 2, []), (137, .iconst 120, 2, []), (139, .if_icmp .ge 91, 3, [18]), (142, .aload 2, 1, []), (143, .iload 12, 2, []), (145, .baload, 1, []), (146, .istore 13, 2, []), (148, .iconst 0, 1, []), (149, .istore 14, 2, []), (151, .nop, 0, [11])]
/-- isRolled, block 11 -/
noncomputable def b_171_11 : List En := [(151, .iload 14, 2, []), (153, .iconst 4, 1, []), (154, .if_icmp .ge 55, 3, [15]), (157, .iload 13, 2, []), (159, .ifCond .eq 41, 3, [13]), (162, .aload 0, 1, []), (163, .iload 8, 2, []), (165, .iload 14, 2, []), (167, .invokevirtual 88, 3, [121, 3, 8, 160]), (170, .iconst 101, 2, []), (172, .if_icmp .eq 24, 3, [12]), (175, .aload 0, 1, []), (176, .iload 8, 2, []), (178, .iload 14, 2, []), (180, .invokevirtual 88, 3, [121, 3, 8, 160]), (183, .aload 1, 1, []), (184, .getfield 44, 3, [9, 1, 3, 58]), (187, .iload 12, 2, []), (189, .aaload, 1, []), (190, .iload 14, 2, []), (192, .iaload, 1, []), (193, .if_icmp .ne 7, 3, [13]), (196, .nop, 0, [12])]
/-- isRolled, block 12 -/
noncomputable def b_171_12 : List En := [(196, .iconst 1, 1, []), (197, .goto 4, 3, [14])]
/-- isRolled, block 13 -/
noncomputable def b_171_13 : List En := [(200, .iconst 0, 1, []), (201, .nop, 0, [14])]
/-- isRolled, block 14 -/
noncomputable def b_171_14 : List En := [(201, .istore 13, 2, []), (203, .iinc 14 1, 3, []), (206, .goto (-55), 3, [11])]
/-- isRolled, block 15 -/
noncomputable def b_171_15 : List En := [(209, .iload 11, 2, []), (211, .iload 13, 2, []), (213, .ifCond .eq 7, 3, [16]), (216, .iconst 1, 1, []), (217, .goto 4, 3, [17])]
/-- isRolled, block 16 -/
noncomputable def b_171_16 : List En := [(220, .iconst 0, 1, []), (221, .nop, 0, [17])]
/-- isRolled, block 17 -/
noncomputable def b_171_17 : List En := [(221, .iadd, 1, []), (222, .istore 11, 2, []), (224, .iinc 12 1, 3, []), (227, .goto (-92), 3, [10])]
/-- isRolled, block 18 -/
noncomputable def b_171_18 : List En := [(230, .iload 10, 2, []), (232, .ifCond .le 20, 3, [19]), (235, .iload 11, 2, []), (237, .ifCond .eq 15, 3, [19]), (240, .aload 0, 1, []), (241, .iload 8, 2, []), (243, .iconst 4, 1, []), (244, .invokevirtual 88, 3, [121, 3, 8, 160]), (247, .iload 11, 2, []), (249, .if_icmp .eq 5, 3, [20]), (252, .nop, 0, [19])]
/-- isRolled, block 19 -/
noncomputable def b_171_19 : List En := [(252, .iconst 0, 1, []), (253, .ireturn, 1, [1])]
/-- isRolled, block 20 -/
noncomputable def b_171_20 : List En := [(254, .aload 7, 2, []), (256, .iload 9, 2, []), (258, .dup2, 1, []), (259, .iaload, 1, []), (260, .iload 11, 2, []), (262, .iadd, 1, []), (263, .iastore, 1, []), (264, .iinc 8 1, 3, []), (267, .goto (-243), 3, [1])]
/-- isRolled, block 21 -/
noncomputable def b_171_21 : List En := [(270, .iconst 4, 1, []), (271, .iload 4, 2, []), (273, .invokestatic 96, 3, [164, 1, 0, 162]), (276, .isub, 1, []), (277, .istore 8, 2, []), (279, .iconst 0, 1, []), (280, .istore 9, 2, []), (282, .nop, 0, [22])]
/-- isRolled, block 22 -/
noncomputable def b_171_22 : List En := [(282, .iload 9, 2, []), (284, .iconst 5, 1, []), (285, .if_icmp .ge 32, 3, [26]), (288, .aload 7, 2, []), (290, .iload 9, 2, []), (292, .iaload, 1, []), (293, .iload 9, 2, []), (295, .iload 8, 2, []), (297, .if_icmp .ge 7, 3, [23]), (300, .iconst 0, 1, []), (301, .goto 5, 3, [24])]
/-- isRolled, block 23 -/
noncomputable def b_171_23 : List En := [(304, .iload 6, 2, []), (306, .nop, 0, [24])]
/-- isRolled, block 24 -/
noncomputable def b_171_24 : List En := [(306, .if_icmp .eq 5, 3, [25]), (309, .iconst 0, 1, []), (310, .ireturn, 1, [1])]
/-- isRolled, block 25 -/
noncomputable def b_171_25 : List En := [(311, .iinc 9 1, 3, []), (314, .goto (-32), 3, [22])]
/-- isRolled, block 26 -/
noncomputable def b_171_26 : List En := [(317, .iconst 1, 1, []), (318, .ireturn, 1, [1])]
noncomputable def cod_171 : List (List En) := [b_171_0, b_171_1, b_171_2, b_171_3, b_171_4, b_171_5, b_171_6, b_171_7, b_171_8, b_171_9, b_171_10, b_171_11, b_171_12, b_171_13, b_171_14, b_171_15, b_171_16, b_171_17, b_171_18, b_171_19, b_171_20, b_171_21, b_171_22, b_171_23, b_171_24, b_171_25, b_171_26]
/-- isPlanned, block 0 -/
noncomputable def b_172_0 : List En := [(0, .aload 2, 1, []), (1, .iconst 5, 1, []), (2, .invokevirtual 21, 3, [156, 2, 9, 144]), (5, .istore 3, 1, []), (6, .iconst 120, 2, []), (8, .newarray .boolean, 2, [11]), (10, .astore 4, 2, []), (12, .iconst 0, 1, []), (13, .istore 5, 2, []), (15, .nop, 0, [1])]
/-- isPlanned, block 1 -/
noncomputable def b_172_1 : List En := [(15, .iload 5, 2, []), (17, .iconst 120, 2, []), (19, .if_icmp .ge 21, 3, [2]), (22, .aload 4, 2, []), (24, .iload 5, 2, []), (26, .aload 1, 1, []), (27, .getfield 72, 3, [9, 0, 3, 59]), (30, .iload 5, 2, []), (32, .baload, 1, []), (33, .bastore, 1, []), (34, .iinc 5 1, 3, []), (37, .goto (-22), 3, [1])]
/-- isPlanned, block 2 -/
noncomputable def b_172_2 : List En := [(40, .iconst 4, 1, []), (41, .newarray .int, 2, [10]), (43, .astore 5, 2, []), (45, .iconst 0, 1, []), (46, .iload 3, 1, []), (47, .iconst 1, 1, []), (48, .isub, 1, []), (49, .invokestatic 99, 3, [4079, 0]), (52, .istore 6, 2, []), (54, .iconst 0, 1, []), (55, .istore 7, 2, []), (57, .nop, 0, [3])]
/-- isPlanned, block 3 -/
noncomputable def b_172_3 : List En := [(57, .iload 7, 2, []), (59, .iload 3, 1, []), (60, .if_icmp .ge 407, 3, [35]), (63, .aload 2, 1, []), (64, .iconst 4, 1, []), (65, .invokevirtual 21, 3, [156, 2, 9, 144]), (68, .istore 8, 2, []), (70, .aload 2, 1, []), (71, .iconst 8, 2, []), (73, .invokevirtual 21, 3, [156, 2, 9, 144]), (76, .istore 9, 2, []), (78, .aload 2, 1, []), (79, .invokevirtual 26, 3, [157, 1, 9, 145]), (82, .istore 10, 2, []), (84, .aload 1, 1, []), (85, .iload 8, 2, []), (87, .iload 9, 2, []), (89, .iload 10, 2, []), (91, .invokevirtual 30, 3, [162, 4, 10, 146]), (94, .astore 11, 2, []), (96, .iconst 0, 1, []), (97, .istore 12, 2, []), (99, .nop, 0, [4])]
/-- isPlanned, block 4 -/
noncomputable def b_172_4 : List En := [(99, .iload 12, 2, []), (101, .iconst 120, 2, []), (103, .if_icmp .ge 56, 3, [9]), (106, .aload 4, 2, []), (108, .iload 12, 2, []), (110, .aload 4, 2, []), (112, .iload 12, 2, []), (114, .baload, 1, []), (115, .ifCond .eq 15, 3, [5]), (118, .aload 11, 2, []), (120, .iload 12, 2, []), (122, .baload, 1, []), (123, .ifCond .eq 7, 3, [5]), (126, .iconst 1, 1, []), (127, .goto 4, 3, [6])]
/-- isPlanned, block 5 -/
noncomputable def b_172_5 : List En := [(130, .iconst 0, 1, []), (131, .nop, 0, [6])]
/-- isPlanned, block 6 -/
noncomputable def b_172_6 : List En := [(131, .bastore, 1, []), (132, .aload 5, 2, []), (134, .iload 7, 2, []), (136, .dup2, 1, []), (137, .iaload, 1, []), (138, .aload 11, 2, []), (140, .iload 12, 2, []), (142, .baload, 1, []), (143, .ifCond .eq 7, 3, [7]), (146, .iconst 1, 1, []), (147, .goto 4, 3, [8])]
/-- isPlanned, block 7 -/
noncomputable def b_172_7 : List En := [(150, .iconst 0, 1, []), (151, .nop, 0, [8])]
/-- isPlanned, block 8 -/
noncomputable def b_172_8 : List En := [(151, .iadd, 1, []), (152, .iastore, 1, []), (153, .iinc 12 1, 3, []), (156, .goto (-57), 3, [4])]
/-- isPlanned, block 9 -/
noncomputable def b_172_9 : List En := [(159, .aload 0, 1, []), (160, .iload 8, 2, []), (162, .iload 9, 2, []), (164, .iload 10, 2, []), (166, .invokevirtual 104, 3, [98, 4, 8, 163]), (169, .iload 7, 2, []), (171, .if_icmp .ne 18, 3, [10]), (174, .aload 0, 1, []), (175, .iload 7, 2, []), (177, .iconst 3, 1, []), (178, .invokevirtual 107, 3, [126, 3, 8, 164]), (181, .aload 5, 2, []), (183, .iload 7, 2, []), (185, .iaload, 1, []), (186, .if_icmp .eq 5, 3, [11]), (189, .nop, 0, [10])]
/-- isPlanned, block 10 -/
noncomputable def b_172_10 : List En := [(189, .iconst 0, 1, []), (190, .ireturn, 1, [1])]
/-- isPlanned, block 11 -/
noncomputable def b_172_11 : List En := [(191, .aload 0, 1, []), (192, .iload 7, 2, []), (194, .iconst 4, 1, []), (195, .invokevirtual 107, 3, [126, 3, 8, 164]), (198, .istore 12, 2, []), (200, .iconst 0, 1, []), (201, .istore 13, 2, []), (203, .nop, 0, [12])]
/-- isPlanned, block 12 -/
noncomputable def b_172_12 : List En := [(203, .iload 13, 2, []), (205, .iconst 3, 1, []), (206, .if_icmp .ge 56, 3, [15]), (209, .aload 0, 1, []), (210, .iload 7, 2, []), (212, .iload 13, 2, []), (214, .invokevirtual 110, 3, [127, 3, 8, 165]), (217, .aload 0, 1, []), (218, .iload 7, 2, []), (220, .iload 12, 2, []), (222, .invokevirtual 110, 3, [127, 3, 8, 165]), (225, .if_icmp .lt 29, 3, [13]), (228, .aload 0, 1, []), (229, .iload 7, 2, []), (231, .iload 13, 2, []), (233, .invokevirtual 110, 3, [127, 3, 8, 165]), (236, .aload 0, 1, []), (237, .iload 7, 2, []), (239, .iload 12, 2, []), (241, .invokevirtual 110, 3, [127, 3, 8, 165]), (244, .if_icmp .ne 12, 3, [14]), (247, .iload 13, 2, []), (249, .iload 12, 2, []), (251, .if_icmp .ge 5, 3, [14]), (254, .nop, 0, [13])]
/-- isPlanned, block 13 -/
noncomputable def b_172_13 : List En := [(254, .iconst 0, 1, []), (255, .ireturn, 1, [1])]
/-- isPlanned, block 14 -/
noncomputable def b_172_14 : List En := [(256, .iinc 13 1, 3, []), (259, .goto (-56), 3, [12])]
/-- isPlanned, block 15 -/
noncomputable def b_172_15 : List En := [(262, .iconst 0, 1, []), (263, .istore 13, 2, []), (265, .iconst (-64), 2, []), (267, .istore 14, 2, []), (269, .nop, 0, [16])]
/-- isPlanned, block 16 -/
noncomputable def b_172_16 : List En := [(269, .iload 14, 2, []), (271, .iconst 64, 2, []), (273, .if_icmp .ge 151, 3, [31]), (276, .iload 14, 2, []), (278, .iload 10, 2, []), (280, .invokestatic 91, 3, [163, 2, 0, 161]), (283, .istore 15, 2, []), (285, .iload 9, 2, []), (287, .ifCond .ne 16, 3, [18]), (290, .iload 15, 2, []), (292, .ifCond .ge 7, 3, [17]), (295, .iconst 1, 1, []), (296, .goto 93, 3, [28])]
/-- isPlanned, block 17 -/
noncomputable def b_172_17 : List En := [(299, .iconst 0, 1, []), (300, .goto 89, 3, [28])]
/-- isPlanned, block 18 -/
noncomputable def b_172_18 : List En := [(303, .iload 9, 2, []), (305, .iconst 1, 1, []), (306, .if_icmp .ne 16, 3, [20]), (309, .iload 15, 2, []), (311, .ifCond .gt 7, 3, [19]), (314, .iconst 1, 1, []), (315, .goto 74, 3, [28])]
/-- isPlanned, block 19 -/
noncomputable def b_172_19 : List En := [(318, .iconst 0, 1, []), (319, .goto 70, 3, [28])]
/-- isPlanned, block 20 -/
noncomputable def b_172_20 : List En := [(322, .iload 9, 2, []), (324, .iconst 2, 1, []), (325, .if_icmp .ne 16, 3, [22]), (328, .iload 15, 2, []), (330, .ifCond .ne 7, 3, [21]), (333, .iconst 1, 1, []), (334, .goto 55, 3, [28])]
/-- isPlanned, block 21 -/
noncomputable def b_172_21 : List En := [(337, .iconst 0, 1, []), (338, .goto 51, 3, [28])]
/-- isPlanned, block 22 -/
noncomputable def b_172_22 : List En := [(341, .iload 9, 2, []), (343, .iconst 3, 1, []), (344, .if_icmp .ne 16, 3, [24]), (347, .iload 15, 2, []), (349, .ifCond .lt 7, 3, [23]), (352, .iconst 1, 1, []), (353, .goto 36, 3, [28])]
/-- isPlanned, block 23 -/
noncomputable def b_172_23 : List En := [(356, .iconst 0, 1, []), (357, .goto 32, 3, [28])]
/-- isPlanned, block 24 -/
noncomputable def b_172_24 : List En := [(360, .iload 9, 2, []), (362, .iconst 4, 1, []), (363, .if_icmp .ne 16, 3, [26]), (366, .iload 15, 2, []), (368, .ifCond .le 7, 3, [25]), (371, .iconst 1, 1, []), (372, .goto 17, 3, [28])]
/-- isPlanned, block 25 -/
noncomputable def b_172_25 : List En := [(375, .iconst 0, 1, []), (376, .goto 13, 3, [28])]
/-- isPlanned, block 26 -/
noncomputable def b_172_26 : List En := [(379, .iload 15, 2, []), (381, .ifCond .eq 7, 3, [27]), (384, .iconst 1, 1, []), (385, .goto 4, 3, [28])]
/-- isPlanned, block 27 -/
noncomputable def b_172_27 : List En := [(388, .iconst 0, 1, []), (389, .nop, 0, [28])]
/-- isPlanned, block 28 -/
noncomputable def b_172_28 : List En := [(389, .istore 16, 2, []), (391, .iload 13, 2, []), (393, .iload 16, 2, []), (395, .ifCond .eq 19, 3, [29]), (398, .aload 0, 1, []), (399, .iload 8, 2, []), (401, .iconst 0, 1, []), (402, .iload 14, 2, []), (404, .invokevirtual 69, 3, [107, 4, 8, 155]), (407, .ifCond .le 7, 3, [29]), (410, .iconst 1, 1, []), (411, .goto 4, 3, [30])]
/-- isPlanned, block 29 -/
noncomputable def b_172_29 : List En := [(414, .iconst 0, 1, []), (415, .nop, 0, [30])]
/-- isPlanned, block 30 -/
noncomputable def b_172_30 : List En := [(415, .iadd, 1, []), (416, .istore 13, 2, []), (418, .iinc 14 1, 3, []), (421, .goto (-152), 3, [16])]
/-- isPlanned, block 31 -/
noncomputable def b_172_31 : List En := [(424, .aload 0, 1, []), (425, .iload 7, 2, []), (427, .iconst 0, 1, []), (428, .invokevirtual 110, 3, [127, 3, 8, 165]), (431, .iload 9, 2, []), (433, .iconst 5, 1, []), (434, .if_icmp .le 7, 3, [32]), (437, .iconst 1, 1, []), (438, .goto 5, 3, [33])]
/-- isPlanned, block 32 -/
noncomputable def b_172_32 : List En := [(441, .iload 13, 2, []), (443, .nop, 0, [33])]
/-- isPlanned, block 33 -/
noncomputable def b_172_33 : List En := [(443, .if_icmp .eq 5, 3, [34]), (446, .iconst 0, 1, []), (447, .ireturn, 1, [1])]
/-- isPlanned, block 34 -/
noncomputable def b_172_34 : List En := [(448, .iload 6, 2, []), (450, .aload 0, 1, []), (451, .iload 7, 2, []), (453, .iload 12, 2, []), (455, .invokevirtual 110, 3, [127, 3, 8, 165]), (458, .iadd, 1, []), (459, .istore 6, 2, []), (461, .iinc 7 1, 3, []), (464, .goto (-407), 3, [3])]
/-- isPlanned, block 35 -/
noncomputable def b_172_35 : List En := [(467, .iconst 0, 1, []), (468, .istore 7, 2, []), (470, .iconst 0, 1, []), (471, .istore 8, 2, []), (473, .nop, 0, [36])]
/-- isPlanned, block 36 -/
noncomputable def b_172_36 : List En := [(473, .iload 8, 2, []), (475, .iload 3, 1, []), (476, .if_icmp .ge 93, 3, [43]), (479, .iconst 0, 1, []), (480, .istore 9, 2, []), (482, .iconst 0, 1, []), (483, .istore 10, 2, []), (485, .nop, 0, [37])]
/-- isPlanned, block 37 -/
noncomputable def b_172_37 : List En := [(485, .iload 10, 2, []), (487, .iload 3, 1, []), (488, .if_icmp .ge 52, 3, [41]), (491, .iload 9, 2, []), (493, .aload 5, 2, []), (495, .iload 10, 2, []), (497, .iaload, 1, []), (498, .aload 5, 2, []), (500, .iload 8, 2, []), (502, .iaload, 1, []), (503, .if_icmp .lt 23, 3, [38]), (506, .aload 5, 2, []), (508, .iload 10, 2, []), (510, .iaload, 1, []), (511, .aload 5, 2, []), (513, .iload 8, 2, []), (515, .iaload, 1, []), (516, .if_icmp .ne 14, 3, [39]), (519, .iload 10, 2, []), (521, .iload 8, 2, []), (523, .if_icmp .ge 7, 3, [39]), (526, .nop, 0, [38])]
/-- isPlanned, block 38 -/
noncomputable def b_172_38 : List En := [(526, .iconst 1, 1, []), (527, .goto 4, 3, [40])]
/-- isPlanned, block 39 -/
noncomputable def b_172_39 : List En := [(530, .iconst 0, 1, []), (531, .nop, 0, [40])]
/-- isPlanned, block 40 -/
noncomputable def b_172_40 : List En := [(531, .iadd, 1, []), (532, .istore 9, 2, []), (534, .iinc 10 1, 3, []), (537, .goto (-52), 3, [37])]
/-- isPlanned, block 41 -/
noncomputable def b_172_41 : List En := [(540, .aload 0, 1, []), (541, .iload 8, 2, []), (543, .iconst 5, 1, []), (544, .invokevirtual 107, 3, [126, 3, 8, 164]), (547, .iload 9, 2, []), (549, .if_icmp .eq 5, 3, [42]), (552, .iconst 0, 1, []), (553, .ireturn, 1, [1])]
/-- isPlanned, block 42 -/
noncomputable def b_172_42 : List En := [(554, .iload 7, 2, []), (556, .iconst 1, 1, []), (557, .iload 9, 2, []), (559, .ishl, 1, []), (560, .ior, 1, []), (561, .istore 7, 2, []), (563, .iinc 8 1, 3, []), (566, .goto (-93), 3, [36])]
/-- isPlanned, block 43 -/
noncomputable def b_172_43 : List En := [(569, .aload 0, 1, []), (570, .iconst 5, 1, []), (571, .invokevirtual 113, 3, [93, 2, 8, 166]), (574, .pop, 1, []), (575, .iload 7, 2, []), (577, .iconst 1, 1, []), (578, .iload 3, 1, []), (579, .ishl, 1, []), (580, .iconst 1, 1, []), (581, .isub, 1, []), (582, .if_icmp .ne 26, 3, [44]), (585, .aload 0, 1, []), (586, .invokevirtual 116, 3, [128, 1, 8, 167]), (589, .iload 6, 2, []), (591, .if_icmp .ne 17, 3, [44]), (594, .aload 0, 1, []), (595, .iconst 5, 1, []), (596, .aload 4, 2, []), (598, .invokestatic 40, 3, [165, 3, 0, 148]), (601, .ifCond .eq 7, 3, [44]), (604, .iconst 1, 1, []), (605, .goto 4, 3, [45])]
/-- isPlanned, block 44 -/
noncomputable def b_172_44 : List En := [(608, .iconst 0, 1, []), (609, .nop, 0, [45])]
/-- isPlanned, block 45 -/
noncomputable def b_172_45 : List En := [(609, .istore 8, 2, []), (611, .iload 3, 1, []), (612, .iconst 1, 1, []), (613, .isub, 1, []), (614, .istore 9, 2, []), (616, .nop, 0, [46])]
/-- isPlanned, block 46 -/
noncomputable def b_172_46 : List En := [(616, .iload 9, 2, []), (618, .ifCond .lt 38, 3, [49]), (621, .iload 8, 2, []), (623, .ifCond .eq 33, 3, [49]), (626, .aload 0, 1, []), (627, .aload 2, 1, []), (628, .iload 9, 2, []), (630, .iconst 1, 1, []), (631, .iadd, 1, []), (632, .invokevirtual 21, 3, [156, 2, 9, 144]), (635, .invokevirtual 119, 3, [99, 2, 8, 168]), (638, .iload 9, 2, []), (640, .if_icmp .ne 7, 3, [47]), (643, .iconst 1, 1, []), (644, .goto 4, 3, [48])]
/-- isPlanned, block 47 -/
noncomputable def b_172_47 : List En := [(647, .iconst 0, 1, []), (648, .nop, 0, [48])]
/-- isPlanned, block 48 -/
noncomputable def b_172_48 : List En := [(648, .istore 8, 2, []), (650, .iinc 9 (-1), 3, []), (653, .goto (-37), 3, [46])]
/-- isPlanned, block 49 -/
noncomputable def b_172_49 : List En := [(656, .iload 8, 2, []), (658, .ireturn, 1, [1])]
noncomputable def cod_172 : List (List En) := [b_172_0, b_172_1, b_172_2, b_172_3, b_172_4, b_172_5, b_172_6, b_172_7, b_172_8, b_172_9, b_172_10, b_172_11, b_172_12, b_172_13, b_172_14, b_172_15, b_172_16, b_172_17, b_172_18, b_172_19, b_172_20, b_172_21, b_172_22, b_172_23, b_172_24, b_172_25, b_172_26, b_172_27, b_172_28, b_172_29, b_172_30, b_172_31, b_172_32, b_172_33, b_172_34, b_172_35, b_172_36, b_172_37, b_172_38, b_172_39, b_172_40, b_172_41, b_172_42, b_172_43, b_172_44, b_172_45, b_172_46, b_172_47, b_172_48, b_172_49]
/-- isPacked, block 0 -/
noncomputable def b_173_0 : List En := [(0, .aload 3, 1, []), (1, .iconst 4, 1, []), (2, .invokevirtual 21, 3, [156, 2, 9, 144]), (5, .istore 4, 2, []), (7, .aload 2, 1, []), (8, .iconst 0, 1, []), (9, .aaload, 1, []), (10, .iload 4, 2, []), (12, .aload 2, 1, []), (13, .iconst 1, 1, []), (14, .aaload, 1, []), (15, .invokestatic 122, 3, [166, 3, 0, 169]), (18, .astore 5, 2, []), (20, .aload 0, 1, []), (21, .iconst 0, 1, []), (22, .iconst 0, 1, []), (23, .invokevirtual 126, 3, [95, 3, 8, 170]), (26, .aload 2, 1, []), (27, .iconst 0, 1, []), (28, .aaload, 1, []), (29, .invokestatic 129, 3, [174, 1, 0, 171]), (32, .if_icmp .ne 18, 3, [1]), (35, .aload 0, 1, []), (36, .iconst 1, 1, []), (37, .iconst 1, 1, []), (38, .invokevirtual 126, 3, [95, 3, 8, 170]), (41, .aload 2, 1, []), (42, .iconst 1, 1, []), (43, .aaload, 1, []), (44, .invokestatic 129, 3, [174, 1, 0, 171]), (47, .if_icmp .eq 5, 3, [2]), (50, .nop, 0, [1])]
/-- isPacked, block 1 -/
noncomputable def b_173_1 : List En := [(50, .iconst 0, 1, []), (51, .ireturn, 1, [1])]
/-- isPacked, block 2 -/
noncomputable def b_173_2 : List En := [(52, .aload 0, 1, []), (53, .iconst 6, 2, []), (55, .iconst 0, 1, []), (56, .invokevirtual 133, 3, [94, 3, 8, 172]), (59, .pop, 1, []), (60, .aload 0, 1, []), (61, .iconst 6, 2, []), (63, .iconst 0, 1, []), (64, .invokevirtual 136, 3, [112, 3, 8, 173]), (67, .iconst 6, 2, []), (69, .iand, 1, []), (70, .iconst 6, 2, []), (72, .if_icmp .eq 5, 3, [3]), (75, .iconst 0, 1, []), (76, .ireturn, 1, [1])]
/-- isPacked, block 3 -/
noncomputable def b_173_3 : List En := [(77, .aload 0, 1, []), (78, .iconst 0, 1, []), (79, .iload 4, 2, []), (81, .iconst 1, 1, []), (82, .invokevirtual 139, 3, [96, 4, 8, 174]), (85, .aload 5, 2, []), (87, .invokestatic 129, 3, [174, 1, 0, 171]), (90, .if_icmp .eq 5, 3, [4]), (93, .iconst 0, 1, []), (94, .ireturn, 1, [1])]
/-- isPacked, block 4 -/
noncomputable def b_173_4 : List En := [(95, .iconst (-1), 1, []), (96, .istore 6, 2, []), (98, .iconst 0, 1, []), (99, .istore 7, 2, []), (101, .iconst 0, 1, []), (102, .istore 8, 2, []), (104, .nop, 0, [5])]
/-- isPacked, block 5 -/
noncomputable def b_173_5 : List En := [(104, .iload 8, 2, []), (106, .aload 5, 2, []), (108, .invokestatic 129, 3, [174, 1, 0, 171]), (111, .if_icmp .ge 67, 3, [8]), (114, .aload 0, 1, []), (115, .iconst 0, 1, []), (116, .iload 8, 2, []), (118, .iconst 0, 1, []), (119, .invokevirtual 142, 3, [123, 4, 8, 175]), (122, .istore 9, 2, []), (124, .aload 0, 1, []), (125, .iconst 0, 1, []), (126, .iload 8, 2, []), (128, .iconst 1, 1, []), (129, .invokevirtual 142, 3, [123, 4, 8, 175]), (132, .istore 10, 2, []), (134, .iload 10, 2, []), (136, .iconst 1, 1, []), (137, .if_icmp .lt 17, 3, [6]), (140, .iload 8, 2, []), (142, .ifCond .le 14, 3, [7]), (145, .iload 9, 2, []), (147, .iload 6, 2, []), (149, .iconst 1, 1, []), (150, .iadd, 1, []), (151, .if_icmp .gt 5, 3, [7]), (154, .nop, 0, [6])]
/-- isPacked, block 6 -/
noncomputable def b_173_6 : List En := [(154, .iconst 0, 1, []), (155, .ireturn, 1, [1])]
/-- isPacked, block 7 -/
noncomputable def b_173_7 : List En := [(156, .iload 9, 2, []), (158, .iload 10, 2, []), (160, .iadd, 1, []), (161, .iconst 1, 1, []), (162, .isub, 1, []), (163, .istore 6, 2, []), (165, .iload 7, 2, []), (167, .iload 10, 2, []), (169, .iadd, 1, []), (170, .istore 7, 2, []), (172, .iinc 8 1, 3, []), (175, .goto (-71), 3, [5])]
/-- isPacked, block 8 -/
noncomputable def b_173_8 : List En := [(178, .iconst 0, 1, []), (179, .istore 8, 2, []), (181, .iconst 120, 2, []), (183, .newarray .boolean, 2, [11]), (185, .astore 9, 2, []), (187, .iconst 0, 1, []), (188, .istore 10, 2, []), (190, .nop, 0, [9])]
/-- isPacked, block 9 -/
noncomputable def b_173_9 : List En := [(190, .iload 10, 2, []), (192, .iconst 120, 2, []), (194, .if_icmp .ge 62, 3, [15]), (197, .aload 0, 1, []), (198, .iconst 0, 1, []), (199, .iload 10, 2, []), (201, .invokevirtual 146, 3, [124, 3, 8, 176]), (204, .aload 5, 2, []), (206, .iload 10, 2, []), (208, .baload, 1, []), (209, .if_icmp .eq 5, 3, [10]), (212, .iconst 0, 1, []), (213, .ireturn, 1, [1])]
/-- isPacked, block 10 -/
noncomputable def b_173_10 : List En := [(214, .iload 8, 2, []), (216, .aload 5, 2, []), (218, .iload 10, 2, []), (220, .baload, 1, []), (221, .ifCond .eq 7, 3, [11]), (224, .iconst 1, 1, []), (225, .goto 4, 3, [12])]
/-- isPacked, block 11 -/
noncomputable def b_173_11 : List En := [(228, .iconst 0, 1, []), (229, .nop, 0, [12])]
/-- isPacked, block 12 -/
noncomputable def b_173_12 : List En := [(229, .iadd, 1, []), (230, .istore 8, 2, []), (232, .aload 9, 2, []), (234, .iload 10, 2, []), (236, .aload 5, 2, []), (238, .iload 10, 2, []), (240, .baload, 1, []), (241, .ifCond .ne 7, 3, [13]), (244, .iconst 1, 1, []), (245, .goto 4, 3, [14])]
/-- isPacked, block 13 -/
noncomputable def b_173_13 : List En := [(248, .iconst 0, 1, []), (249, .nop, 0, [14])]
/-- isPacked, block 14 -/
noncomputable def b_173_14 : List En := [(249, .bastore, 1, []), (250, .iinc 10 1, 3, []), (253, .goto (-63), 3, [9])]
/-- isPacked, block 15 -/
noncomputable def b_173_15 : List En := [(256, .aload 0, 1, []), (257, .iconst 0, 1, []), (258, .iload 4, 2, []), (260, .iconst 1, 1, []), (261, .invokevirtual 149, 3, [87, 4, 8, 177]), (264, .pop, 1, []), (265, .iload 8, 2, []), (267, .iload 7, 2, []), (269, .if_icmp .ne 26, 3, [16]), (272, .aload 0, 1, []), (273, .iconst 0, 1, []), (274, .aload 5, 2, []), (276, .invokestatic 40, 3, [165, 3, 0, 148]), (279, .ifCond .eq 16, 3, [16]), (282, .aload 0, 1, []), (283, .iconst 0, 1, []), (284, .invokevirtual 152, 3, [97, 2, 8, 178]), (287, .aload 9, 2, []), (289, .invokestatic 129, 3, [174, 1, 0, 171]), (292, .if_icmp .eq 5, 3, [17]), (295, .nop, 0, [16])]
/-- isPacked, block 16 -/
noncomputable def b_173_16 : List En := [(295, .iconst 0, 1, []), (296, .ireturn, 1, [1])]
/-- isPacked, block 17 -/
noncomputable def b_173_17 : List En := [(297, .aload 0, 1, []), (298, .iconst 6, 2, []), (300, .iconst 0, 1, []), (301, .invokevirtual 133, 3, [94, 3, 8, 172]), (304, .pop, 1, []), (305, .aload 0, 1, []), (306, .iconst 0, 1, []), (307, .invokevirtual 155, 3, [88, 2, 8, 179]), (310, .pop, 1, []), (311, .aload 0, 1, []), (312, .iconst 6, 2, []), (314, .iconst 0, 1, []), (315, .invokevirtual 136, 3, [112, 3, 8, 173]), (318, .iconst 6, 2, []), (320, .iand, 1, []), (321, .iconst 6, 2, []), (323, .if_icmp .ne 22, 3, [18]), (326, .aload 0, 1, []), (327, .iconst 0, 1, []), (328, .invokevirtual 15, 3, [108, 2, 8, 143]), (331, .iload 8, 2, []), (333, .iadd, 1, []), (334, .aload 1, 1, []), (335, .getfield 158, 3, [9, 2, 1, 60]), (338, .if_icmp .ne 7, 3, [18]), (341, .iconst 1, 1, []), (342, .goto 4, 3, [19])]
/-- isPacked, block 18 -/
noncomputable def b_173_18 : List En := [(345, .iconst 0, 1, []), (346, .nop, 0, [19])]
/-- isPacked, block 19 -/
noncomputable def b_173_19 : List En := [(346, .ireturn, 1, [1])]
noncomputable def cod_173 : List (List En) := [b_173_0, b_173_1, b_173_2, b_173_3, b_173_4, b_173_5, b_173_6, b_173_7, b_173_8, b_173_9, b_173_10, b_173_11, b_173_12, b_173_13, b_173_14, b_173_15, b_173_16, b_173_17, b_173_18, b_173_19]
/-- runs, block 0 -/
noncomputable def b_174_0 : List En := [(0, .iconst 0, 1, []), (1, .istore 1, 1, []), (2, .iconst 0, 1, []), (3, .istore 2, 1, []), (4, .nop, 0, [1])]
/-- runs, block 1 -/
noncomputable def b_174_1 : List En := [(4, .iload 2, 1, []), (5, .iconst 120, 2, []), (7, .if_icmp .ge 35, 3, [5]), (10, .iload 1, 1, []), (11, .aload 0, 1, []), (12, .iload 2, 1, []), (13, .baload, 1, []), (14, .ifCond .eq 19, 3, [3]), (17, .iload 2, 1, []), (18, .ifCond .eq 11, 3, [2]), (21, .aload 0, 1, []), (22, .iload 2, 1, []), (23, .iconst 1, 1, []), (24, .isub, 1, []), (25, .baload, 1, []), (26, .ifCond .ne 7, 3, [3]), (29, .nop, 0, [2])]
/-- runs, block 2 -/
noncomputable def b_174_2 : List En := [(29, .iconst 1, 1, []), (30, .goto 4, 3, [4])]
/-- runs, block 3 -/
noncomputable def b_174_3 : List En := [(33, .iconst 0, 1, []), (34, .nop, 0, [4])]
/-- runs, block 4 -/
noncomputable def b_174_4 : List En := [(34, .iadd, 1, []), (35, .istore 1, 1, []), (36, .iinc 2 1, 3, []), (39, .goto (-35), 3, [1])]
/-- runs, block 5 -/
noncomputable def b_174_5 : List En := [(42, .iload 1, 1, []), (43, .ireturn, 1, [0])]
noncomputable def cod_174 : List (List En) := [b_174_0, b_174_1, b_174_2, b_174_3, b_174_4, b_174_5]
/-- areSets, block 0 -/
noncomputable def b_175_0 : List En := [(0, .iconst 0, 1, []), (1, .istore 3, 1, []), (2, .iconst 3, 1, []), (3, .newarray .int, 2, [10]), (5, .astore 4, 2, []), (7, .iconst 3, 1, []), (8, .newarray .int, 2, [10]), (10, .astore 5, 2, []), (12, .iconst 0, 1, []), (13, .istore 6, 2, []), (15, .iconst 0, 1, []), (16, .istore 7, 2, []), (18, .nop, 0, [1])]
/-- areSets, block 1 -/
noncomputable def b_175_1 : List En := [(18, .iload 7, 2, []), (20, .iconst 120, 2, []), (22, .if_icmp .ge 156, 3, [13]), (25, .iload 3, 1, []), (26, .aload 2, 1, []), (27, .iconst 0, 1, []), (28, .aaload, 1, []), (29, .iload 7, 2, []), (31, .baload, 1, []), (32, .ifCond .ne 21, 3, [2]), (35, .aload 2, 1, []), (36, .iconst 1, 1, []), (37, .aaload, 1, []), (38, .iload 7, 2, []), (40, .baload, 1, []), (41, .ifCond .ne 12, 3, [2]), (44, .aload 2, 1, []), (45, .iconst 2, 1, []), (46, .aaload, 1, []), (47, .iload 7, 2, []), (49, .baload, 1, []), (50, .ifCond .eq 7, 3, [3]), (53, .nop, 0, [2])]
/-- areSets, block 2 -/
noncomputable def b_175_2 : List En := [(53, .iconst 1, 1, []), (54, .goto 4, 3, [4])]
/-- areSets, block 3 -/
noncomputable def b_175_3 : List En := [(57, .iconst 0, 1, []), (58, .nop, 0, [4])]
/-- areSets, block 4 -/
noncomputable def b_175_4 : List En := [(58, .iadd, 1, []), (59, .istore 3, 1, []), (60, .iload 6, 2, []), (62, .aload 2, 1, []), (63, .iconst 0, 1, []), (64, .aaload, 1, []), (65, .iload 7, 2, []), (67, .baload, 1, []), (68, .ifCond .eq 25, 3, [5]), (71, .aload 2, 1, []), (72, .iconst 1, 1, []), (73, .aaload, 1, []), (74, .iload 7, 2, []), (76, .baload, 1, []), (77, .ifCond .eq 16, 3, [5]), (80, .aload 2, 1, []), (81, .iconst 2, 1, []), (82, .aaload, 1, []), (83, .iload 7, 2, []), (85, .baload, 1, []), (86, .ifCond .eq 7, 3, [5]), (89, .iconst 1, 1, []), (90, .goto 4, 3, [6])]
/-- areSets, block 5 -/
noncomputable def b_175_5 : List En := [(93, .iconst 0, 1, []), (94, .nop, 0, [6])]
/-- areSets, block 6 -/
noncomputable def b_175_6 : List En := [(94, .iadd, 1, []), (95, .istore 6, 2, []), (97, .iconst 0, 1, []), (98, .istore 8, 2, []), (100, .nop, 0, [7])]
/-- areSets, block 7 -/
noncomputable def b_175_7 : List En := [(100, .iload 8, 2, []), (102, .iconst 3, 1, []), (103, .if_icmp .ge 69, 3, [12]), (106, .aload 4, 2, []), (108, .iload 8, 2, []), (110, .dup2, 1, []), (111, .iaload, 1, []), (112, .aload 2, 1, []), (113, .iload 8, 2, []), (115, .aaload, 1, []), (116, .iload 7, 2, []), (118, .baload, 1, []), (119, .ifCond .eq 7, 3, [8]), (122, .iconst 1, 1, []), (123, .goto 4, 3, [9])]
/-- areSets, block 8 -/
noncomputable def b_175_8 : List En := [(126, .iconst 0, 1, []), (127, .nop, 0, [9])]
/-- areSets, block 9 -/
noncomputable def b_175_9 : List En := [(127, .iadd, 1, []), (128, .iastore, 1, []), (129, .aload 5, 2, []), (131, .iload 8, 2, []), (133, .dup2, 1, []), (134, .iaload, 1, []), (135, .aload 2, 1, []), (136, .iload 8, 2, []), (138, .aaload, 1, []), (139, .iload 7, 2, []), (141, .baload, 1, []), (142, .ifCond .eq 21, 3, [10]), (145, .aload 2, 1, []), (146, .iload 8, 2, []), (148, .iconst 1, 1, []), (149, .iadd, 1, []), (150, .iconst 3, 1, []), (151, .irem, 1, []), (152, .aaload, 1, []), (153, .iload 7, 2, []), (155, .baload, 1, []), (156, .ifCond .eq 7, 3, [10]), (159, .iconst 1, 1, []), (160, .goto 4, 3, [11])]
/-- areSets, block 10 -/
noncomputable def b_175_10 : List En := [(163, .iconst 0, 1, []), (164, .nop, 0, [11])]
/-- areSets, block 11 -/
noncomputable def b_175_11 : List En := [(164, .iadd, 1, []), (165, .iastore, 1, []), (166, .iinc 8 1, 3, []), (169, .goto (-69), 3, [7])]
/-- areSets, block 12 -/
noncomputable def b_175_12 : List En := [(172, .iinc 7 1, 3, []), (175, .goto (-157), 3, [1])]
/-- areSets, block 13 -/
noncomputable def b_175_13 : List En := [(178, .aload 0, 1, []), (179, .iconst 0, 1, []), (180, .iconst 1, 1, []), (181, .iconst 2, 1, []), (182, .invokevirtual 162, 3, [113, 4, 8, 180]), (185, .iload 3, 1, []), (186, .if_icmp .ne 39, 3, [14]), (189, .iload 3, 1, []), (190, .aload 4, 2, []), (192, .iconst 0, 1, []), (193, .iaload, 1, []), (194, .aload 4, 2, []), (196, .iconst 1, 1, []), (197, .iaload, 1, []), (198, .iadd, 1, []), (199, .aload 4, 2, []), (201, .iconst 2, 1, []), (202, .iaload, 1, []), (203, .iadd, 1, []), (204, .aload 5, 2, []), (206, .iconst 0, 1, []), (207, .iaload, 1, []), (208, .isub, 1, []), (209, .aload 5, 2, []), (211, .iconst 1, 1, []), (212, .iaload, 1, []), (213, .isub, 1, []), (214, .aload 5, 2, []), (216, .iconst 2, 1, []), (217, .iaload, 1, []), (218, .isub, 1, []), (219, .iload 6, 2, []), (221, .iadd, 1, []), (222, .if_icmp .eq 5, 3, [15]), (225, .nop, 0, [14])]
/-- areSets, block 14 -/
noncomputable def b_175_14 : List En := [(225, .iconst 0, 1, []), (226, .ireturn, 1, [1])]
/-- areSets, block 15 -/
noncomputable def b_175_15 : List En := [(227, .aload 0, 1, []), (228, .iconst 6, 2, []), (230, .iconst 0, 1, []), (231, .invokevirtual 165, 3, [89, 3, 8, 181]), (234, .pop, 1, []), (235, .aload 0, 1, []), (236, .iconst 6, 2, []), (238, .iconst 1, 1, []), (239, .iconst 1, 1, []), (240, .invokevirtual 149, 3, [87, 4, 8, 177]), (243, .pop, 1, []), (244, .aload 0, 1, []), (245, .iconst 6, 2, []), (247, .invokevirtual 155, 3, [88, 2, 8, 179]), (250, .istore 7, 2, []), (252, .aload 0, 1, []), (253, .iconst 7, 2, []), (255, .iconst 0, 1, []), (256, .invokevirtual 165, 3, [89, 3, 8, 181]), (259, .pop, 1, []), (260, .aload 0, 1, []), (261, .iconst 7, 2, []), (263, .invokevirtual 155, 3, [88, 2, 8, 179]), (266, .pop, 1, []), (267, .aload 0, 1, []), (268, .iconst 5, 1, []), (269, .iconst 1, 1, []), (270, .invokevirtual 165, 3, [89, 3, 8, 181]), (273, .pop, 1, []), (274, .aload 0, 1, []), (275, .iconst 5, 1, []), (276, .invokevirtual 155, 3, [88, 2, 8, 179]), (279, .pop, 1, []), (280, .aload 0, 1, []), (281, .iconst 7, 2, []), (283, .iconst 0, 1, []), (284, .iconst 5, 1, []), (285, .invokevirtual 149, 3, [87, 4, 8, 177]), (288, .pop, 1, []), (289, .aload 0, 1, []), (290, .iconst 7, 2, []), (292, .invokevirtual 15, 3, [108, 2, 8, 143]), (295, .iload 7, 2, []), (297, .if_icmp .ne 47, 3, [16]), (300, .aload 0, 1, []), (301, .iconst 6, 2, []), (303, .iconst 7, 2, []), (305, .invokevirtual 136, 3, [112, 3, 8, 173]), (308, .iconst 6, 2, []), (310, .iand, 1, []), (311, .iconst 6, 2, []), (313, .if_icmp .ne 31, 3, [16]), (316, .iload 7, 2, []), (318, .aload 4, 2, []), (320, .iconst 0, 1, []), (321, .iaload, 1, []), (322, .iadd, 1, []), (323, .aload 4, 2, []), (325, .iconst 1, 1, []), (326, .iaload, 1, []), (327, .iadd, 1, []), (328, .aload 5, 2, []), (330, .iconst 0, 1, []), (331, .iaload, 1, []), (332, .isub, 1, []), (333, .aload 1, 1, []), (334, .getfield 158, 3, [9, 2, 1, 60]), (337, .if_icmp .ne 7, 3, [16]), (340, .iconst 1, 1, []), (341, .goto 4, 3, [17])]
/-- areSets, block 16 -/
noncomputable def b_175_16 : List En := [(344, .iconst 0, 1, []), (345, .nop, 0, [17])]
/-- areSets, block 17 -/
noncomputable def b_175_17 : List En := [(345, .ireturn, 1, [1])]
noncomputable def cod_175 : List (List En) := [b_175_0, b_175_1, b_175_2, b_175_3, b_175_4, b_175_5, b_175_6, b_175_7, b_175_8, b_175_9, b_175_10, b_175_11, b_175_12, b_175_13, b_175_14, b_175_15, b_175_16, b_175_17]
/-- isUndone, block 0 -/
noncomputable def b_176_0 : List En := [(0, .iconst 8, 2, []), (2, .newarray .int, 2, [10]), (4, .astore 3, 1, []), (5, .iconst 0, 1, []), (6, .istore 4, 2, []), (8, .nop, 0, [1])]
/-- isUndone, block 1 -/
noncomputable def b_176_1 : List En := [(8, .iload 4, 2, []), (10, .iconst 8, 2, []), (12, .if_icmp .ge 19, 3, [2]), (15, .aload 3, 1, []), (16, .iload 4, 2, []), (18, .aload 0, 1, []), (19, .iload 4, 2, []), (21, .invokevirtual 15, 3, [108, 2, 8, 143]), (24, .iastore, 1, []), (25, .iinc 4 1, 3, []), (28, .goto (-20), 3, [1])]
/-- isUndone, block 2 -/
noncomputable def b_176_2 : List En := [(31, .aload 0, 1, []), (32, .iconst 0, 1, []), (33, .iconst 1, 1, []), (34, .invokevirtual 59, 3, [114, 3, 8, 152]), (37, .istore 4, 2, []), (39, .iconst 1, 1, []), (40, .aload 2, 1, []), (41, .iconst 8, 2, []), (43, .invokevirtual 21, 3, [156, 2, 9, 144]), (46, .iadd, 1, []), (47, .istore 5, 2, []), (49, .iconst 0, 1, []), (50, .istore 6, 2, []), (52, .nop, 0, [3])]
/-- isUndone, block 3 -/
noncomputable def b_176_3 : List En := [(52, .iload 6, 2, []), (54, .iload 5, 2, []), (56, .if_icmp .ge 189, 3, [10]), (59, .aload 2, 1, []), (60, .iconst 6, 2, []), (62, .invokevirtual 21, 3, [156, 2, 9, 144]), (65, .istore 7, 2, []), (67, .aload 0, 1, []), (68, .aload 2, 1, []), (69, .iconst 120, 2, []), (71, .invokevirtual 21, 3, [156, 2, 9, 144]), (74, .invokevirtual 222, 3, [102, 2, 8, 182]), (77, .istore 8, 2, []), (79, .iload 7, 2, []), (81, .ifCond .ne 19, 3, [4]), (84, .iload 8, 2, []), (86, .iconst (-1), 1, []), (87, .if_icmp .eq 13, 3, [4]), (90, .aload 0, 1, []), (91, .iload 8, 2, []), (93, .invokevirtual 178, 3, [83, 2, 8, 183]), (96, .pop, 1, []), (97, .goto 142, 3, [9])]
/-- isUndone, block 4 -/
noncomputable def b_176_4 : List En := [(100, .iload 7, 2, []), (102, .iconst 1, 1, []), (103, .if_icmp .ne 28, 3, [5]), (106, .iload 8, 2, []), (108, .iconst (-1), 1, []), (109, .if_icmp .eq 22, 3, [5]), (112, .aload 0, 1, []), (113, .iload 8, 2, []), (115, .aload 2, 1, []), (116, .iconst 4, 1, []), (117, .invokevirtual 21, 3, [156, 2, 9, 144]), (120, .aload 2, 1, []), (121, .invokevirtual 26, 3, [157, 1, 9, 145]), (124, .invokevirtual 181, 3, [82, 4, 8, 184]), (127, .pop, 1, []), (128, .goto 111, 3, [9])]
/-- isUndone, block 5 -/
noncomputable def b_176_5 : List En := [(131, .iload 7, 2, []), (133, .iconst 2, 1, []), (134, .if_icmp .ne 30, 3, [6]), (137, .aload 0, 1, []), (138, .aload 2, 1, []), (139, .iconst 8, 2, []), (141, .invokevirtual 21, 3, [156, 2, 9, 144]), (144, .aload 2, 1, []), (145, .iconst 1000, 3, []), (148, .invokevirtual 21, 3, [156, 2, 9, 144]), (151, .aload 2, 1, []), (152, .iconst 10, 2, []), (154, .invokevirtual 21, 3, [156, 2, 9, 144]), (157, .invokevirtual 225, 3, [91, 4, 8, 185]), (160, .pop, 1, []), (161, .goto 78, 3, [9])]
/-- isUndone, block 6 -/
noncomputable def b_176_6 : List En := [(164, .iload 7, 2, []), (166, .iconst 3, 1, []), (167, .if_icmp .ne 17, 3, [7]), (170, .aload 0, 1, []), (171, .aload 2, 1, []), (172, .iconst 8, 2, []), (174, .invokevirtual 21, 3, [156, 2, 9, 144]), (177, .invokevirtual 155, 3, [88, 2, 8, 179]), (180, .pop, 1, []), (181, .goto 58, 3, [9])]
/-- isUndone, block 7 -/
noncomputable def b_176_7 : List En := [(184, .iload 7, 2, []), (186, .iconst 4, 1, []), (187, .if_icmp .ne 30, 3, [8]), (190, .aload 0, 1, []), (191, .aload 2, 1, []), (192, .iconst 8, 2, []), (194, .invokevirtual 21, 3, [156, 2, 9, 144]), (197, .aload 2, 1, []), (198, .iconst 4, 1, []), (199, .invokevirtual 21, 3, [156, 2, 9, 144]), (202, .aload 2, 1, []), (203, .invokevirtual 26, 3, [157, 1, 9, 145]), (206, .aload 2, 1, []), (207, .invokevirtual 26, 3, [157, 1, 9, 145]), (210, .invokevirtual 228, 3, [85, 5, 8, 186]), (213, .pop, 1, []), (214, .goto 25, 3, [9])]
/-- isUndone, block 8 -/
noncomputable def b_176_8 : List En := [(217, .aload 0, 1, []), (218, .aload 2, 1, []), (219, .iconst 8, 2, []), (221, .invokevirtual 21, 3, [156, 2, 9, 144]), (224, .aload 2, 1, []), (225, .iconst 4, 1, []), (226, .invokevirtual 21, 3, [156, 2, 9, 144]), (229, .aload 2, 1, []), (230, .iconst 8, 2, []), (232, .invokevirtual 21, 3, [156, 2, 9, 144]), (235, .invokevirtual 149, 3, [87, 4, 8, 177]), (238, .pop, 1, []), (239, .nop, 0, [9])]
/-- isUndone, block 9 -/
noncomputable def b_176_9 : List En := [(239, .iinc 6 1, 3, []), (242, .goto (-190), 3, [3])]
/-- isUndone, block 10 -/
noncomputable def b_176_10 : List En := [(245, .iload 5, 2, []), (247, .istore 6, 2, []), (249, .nop, 0, [11])]
/-- isUndone, block 11 -/
noncomputable def b_176_11 : List En := [(249, .iload 6, 2, []), (251, .ifCond .le 14, 3, [12]), (254, .aload 0, 1, []), (255, .invokevirtual 231, 3, [100, 1, 8, 187]), (258, .pop, 1, []), (259, .iinc 6 (-1), 3, []), (262, .goto (-13), 3, [11])]
/-- isUndone, block 12 -/
noncomputable def b_176_12 : List En := [(265, .iconst 0, 1, []), (266, .istore 6, 2, []), (268, .nop, 0, [13])]
/-- isUndone, block 13 -/
noncomputable def b_176_13 : List En := [(268, .iload 6, 2, []), (270, .iconst 8, 2, []), (272, .if_icmp .ge 24, 3, [15]), (275, .aload 0, 1, []), (276, .iload 6, 2, []), (278, .invokevirtual 15, 3, [108, 2, 8, 143]), (281, .aload 3, 1, []), (282, .iload 6, 2, []), (284, .iaload, 1, []), (285, .if_icmp .eq 5, 3, [14]), (288, .iconst 0, 1, []), (289, .ireturn, 1, [1])]
/-- isUndone, block 14 -/
noncomputable def b_176_14 : List En := [(290, .iinc 6 1, 3, []), (293, .goto (-25), 3, [13])]
/-- isUndone, block 15 -/
noncomputable def b_176_15 : List En := [(296, .aload 0, 1, []), (297, .invokevirtual 184, 3, [101, 1, 8, 188]), (300, .aload 1, 1, []), (301, .getfield 158, 3, [9, 2, 1, 60]), (304, .if_icmp .ne 14, 3, [16]), (307, .aload 0, 1, []), (308, .iconst 0, 1, []), (309, .iconst 1, 1, []), (310, .invokevirtual 59, 3, [114, 3, 8, 152]), (313, .iload 4, 2, []), (315, .if_icmp .eq 5, 3, [17]), (318, .nop, 0, [16])]
/-- isUndone, block 16 -/
noncomputable def b_176_16 : List En := [(318, .iconst 0, 1, []), (319, .ireturn, 1, [1])]
/-- isUndone, block 17 -/
noncomputable def b_176_17 : List En := [(320, .iconst 0, 1, []), (321, .istore 6, 2, []), (323, .nop, 0, [18])]
/-- isUndone, block 18 -/
noncomputable def b_176_18 : List En := [(323, .iload 6, 2, []), (325, .iconst 120, 2, []), (327, .if_icmp .ge 85, 3, [25]), (330, .aload 1, 1, []), (331, .getfield 72, 3, [9, 0, 3, 59]), (334, .iload 6, 2, []), (336, .baload, 1, []), (337, .aload 0, 1, []), (338, .iload 6, 2, []), (340, .invokevirtual 222, 3, [102, 2, 8, 182]), (343, .iload 6, 2, []), (345, .if_icmp .ne 7, 3, [19]), (348, .iconst 1, 1, []), (349, .goto 4, 3, [20])]
/-- isUndone, block 19 -/
noncomputable def b_176_19 : List En := [(352, .iconst 0, 1, []), (353, .nop, 0, [20])]
/-- isUndone, block 20 -/
noncomputable def b_176_20 : List En := [(353, .if_icmp .eq 5, 3, [21]), (356, .iconst 0, 1, []), (357, .ireturn, 1, [1])]
/-- isUndone, block 21 -/
noncomputable def b_176_21 : List En := [(358, .iconst 0, 1, []), (359, .istore 7, 2, []), (361, .nop, 0, [22])]
/-- isUndone, block 22 -/
noncomputable def b_176_22 : List En := [(361, .iload 7, 2, []), (363, .iconst 4, 1, []), (364, .if_icmp .ge 42, 3, [24]), (367, .aload 1, 1, []), (368, .getfield 72, 3, [9, 0, 3, 59]), (371, .iload 6, 2, []), (373, .baload, 1, []), (374, .ifCond .eq 32, 3, [24]), (377, .aload 0, 1, []), (378, .iload 6, 2, []), (380, .iload 7, 2, []), (382, .invokevirtual 234, 3, [103, 3, 8, 189]), (385, .aload 1, 1, []), (386, .getfield 44, 3, [9, 1, 3, 58]), (389, .iload 6, 2, []), (391, .aaload, 1, []), (392, .iload 7, 2, []), (394, .iaload, 1, []), (395, .if_icmp .eq 5, 3, [23]), (398, .iconst 0, 1, []), (399, .ireturn, 1, [1])]
/-- isUndone, block 23 -/
noncomputable def b_176_23 : List En := [(400, .iinc 7 1, 3, []), (403, .goto (-42), 3, [22])]
/-- isUndone, block 24 -/
noncomputable def b_176_24 : List En := [(406, .iinc 6 1, 3, []), (409, .goto (-86), 3, [18])]
/-- isUndone, block 25 -/
noncomputable def b_176_25 : List En := [(412, .iconst 1, 1, []), (413, .ireturn, 1, [1])]
noncomputable def cod_176 : List (List En) := [b_176_0, b_176_1, b_176_2, b_176_3, b_176_4, b_176_5, b_176_6, b_176_7, b_176_8, b_176_9, b_176_10, b_176_11, b_176_12, b_176_13, b_176_14, b_176_15, b_176_16, b_176_17, b_176_18, b_176_19, b_176_20, b_176_21, b_176_22, b_176_23, b_176_24, b_176_25]
/-- law, block 0 -/
noncomputable def b_301_0 : List En := [(0, .new 22, 3, [8, 12]), (3, .dup, 1, []), (4, .aload 0, 1, []), (5, .invokespecial 168, 3, [155, 2, 9, 190]), (8, .astore 1, 1, []), (9, .new 10, 3, [7, 13]), (12, .dup, 1, []), (13, .invokespecial 171, 3, [79, 1, 8, 191]), (16, .astore 2, 1, []), (17, .new 31, 3, [9, 14]), (20, .dup, 1, []), (21, .invokespecial 172, 3, [158, 1, 10, 192]), (24, .astore 3, 1, []), (25, .iconst 1, 1, []), (26, .aload 1, 1, []), (27, .aload 1, 1, []), (28, .iconst 3, 1, []), (29, .invokevirtual 21, 3, [156, 2, 9, 144]), (32, .ifCond .ne 8, 3, [1]), (35, .iconst 6, 2, []), (37, .goto 4, 3, [2])]
/-- law, block 1 -/
noncomputable def b_301_1 : List En := [(40, .iconst 3, 1, []), (41, .nop, 0, [2])]
/-- law, block 2 -/
noncomputable def b_301_2 : List En := [(41, .invokevirtual 21, 3, [156, 2, 9, 144]), (44, .iadd, 1, []), (45, .istore 4, 2, []), (47, .iconst 0, 1, []), (48, .istore 5, 2, []), (50, .nop, 0, [3])]
/-- law, block 3 -/
noncomputable def b_301_3 : List En := [(50, .iload 5, 2, []), (52, .iload 4, 2, []), (54, .if_icmp .ge 54, 3, [7]), (57, .aload 3, 1, []), (58, .aload 2, 1, []), (59, .aload 1, 1, []), (60, .iconst 1000000, 2, [5]), (62, .invokevirtual 21, 3, [156, 2, 9, 144]), (65, .iconst 1, 1, []), (66, .aload 1, 1, []), (67, .iconst 20, 2, []), (69, .invokevirtual 21, 3, [156, 2, 9, 144]), (72, .iadd, 1, []), (73, .iconst 1, 1, []), (74, .aload 1, 1, []), (75, .aload 1, 1, []), (76, .iconst 2, 1, []), (77, .invokevirtual 21, 3, [156, 2, 9, 144]), (80, .ifCond .ne 8, 3, [4]), (83, .iconst 64, 2, []), (85, .goto 5, 3, [5])]
/-- law, block 4 -/
noncomputable def b_301_4 : List En := [(88, .iconst 6, 2, []), (90, .nop, 0, [5])]
/-- law, block 5 -/
noncomputable def b_301_5 : List En := [(90, .invokevirtual 21, 3, [156, 2, 9, 144]), (93, .iadd, 1, []), (94, .invokevirtual 174, 3, [160, 5, 10, 193]), (97, .ifCond .ne 5, 3, [6]), (100, .iconst 0, 1, []), (101, .ireturn, 1, [1])]
/-- law, block 6 -/
noncomputable def b_301_6 : List En := [(102, .iinc 5 1, 3, []), (105, .goto (-55), 3, [3])]
/-- law, block 7 -/
noncomputable def b_301_7 : List En := [(108, .aload 1, 1, []), (109, .iconst 12, 2, []), (111, .invokevirtual 21, 3, [156, 2, 9, 144]), (114, .istore 5, 2, []), (116, .nop, 0, [8])]
/-- law, block 8 -/
noncomputable def b_301_8 : List En := [(116, .iload 5, 2, []), (118, .ifCond .le 130, 3, [15]), (121, .aload 1, 1, []), (122, .iconst 120, 2, []), (124, .invokevirtual 21, 3, [156, 2, 9, 144]), (127, .istore 6, 2, []), (129, .aload 3, 1, []), (130, .getfield 72, 3, [9, 0, 3, 59]), (133, .iload 6, 2, []), (135, .baload, 1, []), (136, .ifCond .ne 6, 3, [9]), (139, .goto 103, 3, [14])]
/-- law, block 9 -/
noncomputable def b_301_9 : List En := [(142, .aload 1, 1, []), (143, .iconst 3, 1, []), (144, .invokevirtual 21, 3, [156, 2, 9, 144]), (147, .ifCond .ne 32, 3, [10]), (150, .aload 3, 1, []), (151, .getfield 72, 3, [9, 0, 3, 59]), (154, .iload 6, 2, []), (156, .iconst 0, 1, []), (157, .bastore, 1, []), (158, .aload 3, 1, []), (159, .dup, 1, []), (160, .getfield 158, 3, [9, 2, 1, 60]), (163, .iconst 1, 1, []), (164, .isub, 1, []), (165, .putfield 158, 3, [9, 2, 1, 60]), (168, .aload 2, 1, []), (169, .iload 6, 2, []), (171, .invokevirtual 178, 3, [83, 2, 8, 183]), (174, .ifCond .eq 68, 3, [14]), (177, .iconst 0, 1, []), (178, .ireturn, 1, [1])]
/-- law, block 10 -/
noncomputable def b_301_10 : List En := [(179, .aload 1, 1, []), (180, .iconst 4, 1, []), (181, .invokevirtual 21, 3, [156, 2, 9, 144]), (184, .istore 7, 2, []), (186, .aload 1, 1, []), (187, .iconst 4, 1, []), (188, .invokevirtual 21, 3, [156, 2, 9, 144]), (191, .ifCond .ne 8, 3, [11]), (194, .iconst 100, 2, []), (196, .goto 7, 3, [12])]
/-- law, block 11 -/
noncomputable def b_301_11 : List En := [(199, .aload 1, 1, []), (200, .invokevirtual 26, 3, [157, 1, 9, 145]), (203, .nop, 0, [12])]
/-- law, block 12 -/
noncomputable def b_301_12 : List En := [(203, .istore 8, 2, []), (205, .aload 2, 1, []), (206, .iload 6, 2, []), (208, .iload 7, 2, []), (210, .iload 8, 2, []), (212, .invokevirtual 181, 3, [82, 4, 8, 184]), (215, .aload 3, 1, []), (216, .getfield 44, 3, [9, 1, 3, 58]), (219, .iload 6, 2, []), (221, .aaload, 1, []), (222, .iload 7, 2, []), (224, .iaload, 1, []), (225, .if_icmp .eq 5, 3, [13]), (228, .iconst 0, 1, []), (229, .ireturn, 1, [1])]
/-- law, block 13 -/
noncomputable def b_301_13 : List En := [(230, .aload 3, 1, []), (231, .getfield 44, 3, [9, 1, 3, 58]), (234, .iload 6, 2, []), (236, .aaload, 1, []), (237, .iload 7, 2, []), (239, .iload 8, 2, []), (241, .iastore, 1, []), (242, .nop, 0, [14])]
/-- law, block 14 -/
noncomputable def b_301_14 : List En := [(242, .iinc 5 (-1), 3, []), (245, .goto (-129), 3, [8])]
/-- law, block 15 -/
noncomputable def b_301_15 : List En := [(248, .aload 1, 1, []), (249, .iconst 3, 1, []), (250, .invokevirtual 21, 3, [156, 2, 9, 144]), (253, .ifCond .ne 29, 3, [16]), (256, .aload 3, 1, []), (257, .getfield 158, 3, [9, 2, 1, 60]), (260, .iconst 120, 2, []), (262, .if_icmp .ge 20, 3, [16]), (265, .aload 3, 1, []), (266, .aload 2, 1, []), (267, .aload 1, 1, []), (268, .iconst 1000000, 2, [5]), (270, .invokevirtual 21, 3, [156, 2, 9, 144]), (273, .iconst 1, 1, []), (274, .iconst 64, 2, []), (276, .invokevirtual 174, 3, [160, 5, 10, 193]), (279, .ifCond .eq 14, 3, [17]), (282, .nop, 0, [16])]
/-- law, block 16 -/
noncomputable def b_301_16 : List En := [(282, .aload 2, 1, []), (283, .invokevirtual 184, 3, [101, 1, 8, 188]), (286, .aload 3, 1, []), (287, .getfield 158, 3, [9, 2, 1, 60]), (290, .if_icmp .eq 5, 3, [18]), (293, .nop, 0, [17])]
/-- law, block 17 -/
noncomputable def b_301_17 : List En := [(293, .iconst 0, 1, []), (294, .ireturn, 1, [1])]
/-- law, block 18 -/
noncomputable def b_301_18 : List En := [(295, .iconst 0, 1, []), (296, .istore 5, 2, []), (298, .nop, 0, [19])]
/-- law, block 19 -/
noncomputable def b_301_19 : List En := [(298, .iload 5, 2, []), (300, .iconst 4, 1, []), (301, .if_icmp .ge 21, 3, [21]), (304, .aload 2, 1, []), (305, .aload 3, 1, []), (306, .iload 5, 2, []), (308, .invokestatic 186, 3, [169, 3, 0, 194]), (311, .ifCond .ne 5, 3, [20]), (314, .iconst 0, 1, []), (315, .ireturn, 1, [1])]
/-- law, block 20 -/
noncomputable def b_301_20 : List En := [(316, .iinc 5 1, 3, []), (319, .goto (-21), 3, [19])]
/-- law, block 21 -/
noncomputable def b_301_21 : List En := [(322, .aload 2, 1, []), (323, .aload 3, 1, []), (324, .aload 1, 1, []), (325, .invokestatic 190, 3, [167, 3, 0, 195]), (328, .astore 5, 2, []), (330, .aload 5, 2, []), (332, .ifnull 10, 3, [22]), (335, .aload 2, 1, []), (336, .invokevirtual 194, 3, [131, 1, 8, 196]), (339, .ifCond .eq 5, 3, [23]), (342, .nop, 0, [22])]
/-- law, block 22 -/
noncomputable def b_301_22 : List En := [(342, .iconst 0, 1, []), (343, .ireturn, 1, [1])]
/-- law, block 23 -/
noncomputable def b_301_23 : List En := [(344, .aload 1, 1, []), (345, .iconst 6, 2, []), (347, .invokevirtual 21, 3, [156, 2, 9, 144]), (350, .istore 6, 2, []), (352, .aload 1, 1, []), (353, .iconst 3, 1, []), (354, .invokevirtual 21, 3, [156, 2, 9, 144]), (357, .istore 7, 2, []), (359, .aload 2, 1, []), (360, .aload 3, 1, []), (361, .aload 5, 2, []), (363, .iload 7, 2, []), (365, .aaload, 1, []), (366, .iload 7, 2, []), (368, .aload 1, 1, []), (369, .iconst 4, 1, []), (370, .invokevirtual 21, 3, [156, 2, 9, 144]), (373, .invokestatic 197, 3, [168, 5, 0, 197]), (376, .ifCond .eq 30, 3, [24]), (379, .aload 2, 1, []), (380, .aload 3, 1, []), (381, .aload 5, 2, []), (383, .iload 7, 2, []), (385, .aaload, 1, []), (386, .iload 7, 2, []), (388, .iconst 1, 1, []), (389, .aload 1, 1, []), (390, .iconst 15, 2, []), (392, .invokevirtual 21, 3, [156, 2, 9, 144]), (395, .iadd, 1, []), (396, .invokestatic 201, 3, [171, 5, 0, 198]), (399, .ifCond .eq 7, 3, [24]), (402, .iconst 1, 1, []), (403, .goto 4, 3, [25])]
/-- law, block 24 -/
noncomputable def b_301_24 : List En := [(406, .iconst 0, 1, []), (407, .nop, 0, [25])]
/-- law, block 25 -/
noncomputable def b_301_25 : List En := [(407, .istore 8, 2, []), (409, .iload 8, 2, []), (411, .ifCond .eq 51, 3, [28]), (414, .iload 6, 2, []), (416, .iconst 2, 1, []), (417, .if_icmp .ge 12, 3, [26]), (420, .aload 2, 1, []), (421, .aload 3, 1, []), (422, .aload 1, 1, []), (423, .invokestatic 204, 3, [172, 3, 0, 199]), (426, .ifCond .eq 36, 3, [28]), (429, .nop, 0, [26])]
/-- law, block 26 -/
noncomputable def b_301_26 : List En := [(429, .iload 6, 2, []), (431, .iconst 2, 1, []), (432, .if_icmp .ne 14, 3, [27]), (435, .aload 2, 1, []), (436, .aload 3, 1, []), (437, .aload 5, 2, []), (439, .aload 1, 1, []), (440, .invokestatic 208, 3, [170, 4, 0, 200]), (443, .ifCond .eq 19, 3, [28]), (446, .nop, 0, [27])]
/-- law, block 27 -/
noncomputable def b_301_27 : List En := [(446, .iload 6, 2, []), (448, .iconst 3, 1, []), (449, .if_icmp .ne 15, 3, [29]), (452, .aload 2, 1, []), (453, .aload 3, 1, []), (454, .aload 5, 2, []), (456, .invokestatic 212, 3, [175, 3, 0, 201]), (459, .ifCond .ne 5, 3, [29]), (462, .nop, 0, [28])]
/-- law, block 28 -/
noncomputable def b_301_28 : List En := [(462, .iconst 0, 1, []), (463, .ireturn, 1, [1])]
/-- law, block 29 -/
noncomputable def b_301_29 : List En := [(464, .iload 6, 2, []), (466, .iconst 3, 1, []), (467, .if_icmp .le 16, 3, [30]), (470, .aload 2, 1, []), (471, .aload 3, 1, []), (472, .aload 5, 2, []), (474, .aload 1, 1, []), (475, .invokestatic 216, 3, [173, 4, 0, 202]), (478, .ifCond .ne 5, 3, [30]), (481, .iconst 0, 1, []), (482, .ireturn, 1, [1])]
/-- law, block 30 -/
noncomputable def b_301_30 : List En := [(483, .aload 2, 1, []), (484, .aload 3, 1, []), (485, .aload 1, 1, []), (486, .invokestatic 219, 3, [176, 3, 0, 203]), (489, .ireturn, 1, [1])]
noncomputable def cod_301 : List (List En) := [b_301_0, b_301_1, b_301_2, b_301_3, b_301_4, b_301_5, b_301_6, b_301_7, b_301_8, b_301_9, b_301_10, b_301_11, b_301_12, b_301_13, b_301_14, b_301_15, b_301_16, b_301_17, b_301_18, b_301_19, b_301_20, b_301_21, b_301_22, b_301_23, b_301_24, b_301_25, b_301_26, b_301_27, b_301_28, b_301_29, b_301_30]
