/-! the law's entries -/
/-- addRow, block 0 -/
noncomputable def b_253_0 : List En := [(0, .aload 5, 2, []), (2, .iconst 0, 1, []), (3, .aload 0, 1, []), (4, .iload 1, 1, []), (5, .iload 2, 1, []), (6, .iload 3, 1, []), (7, .iload 4, 2, []), (9, .invokevirtual 7, 3, [80, 5, 8, 186]), (12, .i2l, 1, []), (13, .lastore, 1, []), (14, .goto 11, 3, [3])]
/-- addRow, block 1 -/
noncomputable def b_253_1 : List En := [(19, .iconst 1, 1, []), (20, .ireturn, 1, [0])]
/-- addRow, block 2 -/
noncomputable def b_253_2 : List En := [(23, .iconst 2, 1, []), (24, .ireturn, 1, [0])]
/-- addRow, block 3 -/
noncomputable def b_253_3 : List En := [(25, .iconst 0, 1, []), (26, .ireturn, 1, [0])]
noncomputable def cod_253 : List (List En) := [b_253_0, b_253_1, b_253_2, b_253_3]
/-- fill, block 0 -/
noncomputable def b_254_0 : List En := [(0, .aload 4, 2, []), (2, .iconst 0, 1, []), (3, .aload 0, 1, []), (4, .iload 1, 1, []), (5, .iload 2, 1, []), (6, .iload 3, 1, []), (7, .invokevirtual 17, 3, [81, 4, 8, 187]), (10, .i2l, 1, []), (11, .lastore, 1, []), (12, .goto 11, 3, [3])]
/-- fill, block 1 -/
noncomputable def b_254_1 : List En := [(17, .iconst 1, 1, []), (18, .ireturn, 1, [0])]
/-- fill, block 2 -/
noncomputable def b_254_2 : List En := [(21, .iconst 2, 1, []), (22, .ireturn, 1, [0])]
/-- fill, block 3 -/
noncomputable def b_254_3 : List En := [(23, .iconst 0, 1, []), (24, .ireturn, 1, [0])]
noncomputable def cod_254 : List (List En) := [b_254_0, b_254_1, b_254_2, b_254_3]
/-- setValue, block 0 -/
noncomputable def b_255_0 : List En := [(0, .aload 4, 2, []), (2, .iconst 0, 1, []), (3, .aload 0, 1, []), (4, .iload 1, 1, []), (5, .iload 2, 1, []), (6, .iload 3, 1, []), (7, .invokevirtual 21, 3, [82, 4, 8, 188]), (10, .i2l, 1, []), (11, .lastore, 1, []), (12, .goto 11, 3, [3])]
/-- setValue, block 1 -/
noncomputable def b_255_1 : List En := [(17, .iconst 1, 1, []), (18, .ireturn, 1, [0])]
/-- setValue, block 2 -/
noncomputable def b_255_2 : List En := [(21, .iconst 2, 1, []), (22, .ireturn, 1, [0])]
/-- setValue, block 3 -/
noncomputable def b_255_3 : List En := [(23, .iconst 0, 1, []), (24, .ireturn, 1, [0])]
noncomputable def cod_255 : List (List En) := [b_255_0, b_255_1, b_255_2, b_255_3]
/-- strike, block 0 -/
noncomputable def b_256_0 : List En := [(0, .aload 2, 1, []), (1, .iconst 0, 1, []), (2, .aload 0, 1, []), (3, .iload 1, 1, []), (4, .invokevirtual 26, 3, [83, 2, 8, 189]), (7, .i2l, 1, []), (8, .lastore, 1, []), (9, .goto 6, 3, [2])]
/-- strike, block 1 -/
noncomputable def b_256_1 : List En := [(13, .iconst 1, 1, []), (14, .ireturn, 1, [0])]
/-- strike, block 2 -/
noncomputable def b_256_2 : List En := [(15, .iconst 0, 1, []), (16, .ireturn, 1, [0])]
noncomputable def cod_256 : List (List En) := [b_256_0, b_256_1, b_256_2]
/-- select, block 0 -/
noncomputable def b_257_0 : List En := [(0, .aload 6, 2, []), (2, .iconst 0, 1, []), (3, .aload 0, 1, []), (4, .iload 1, 1, []), (5, .iload 2, 1, []), (6, .iload 3, 1, []), (7, .iload 4, 2, []), (9, .iload 5, 2, []), (11, .invokevirtual 30, 3, [84, 6, 8, 190]), (14, .i2l, 1, []), (15, .lastore, 1, []), (16, .goto 11, 3, [3])]
/-- select, block 1 -/
noncomputable def b_257_1 : List En := [(21, .iconst 1, 1, []), (22, .ireturn, 1, [0])]
/-- select, block 2 -/
noncomputable def b_257_2 : List En := [(25, .iconst 2, 1, []), (26, .ireturn, 1, [0])]
/-- select, block 3 -/
noncomputable def b_257_3 : List En := [(27, .iconst 0, 1, []), (28, .ireturn, 1, [0])]
noncomputable def cod_257 : List (List En) := [b_257_0, b_257_1, b_257_2, b_257_3]
/-- between, block 0 -/
noncomputable def b_258_0 : List En := [(0, .aload 5, 2, []), (2, .iconst 0, 1, []), (3, .aload 0, 1, []), (4, .iload 1, 1, []), (5, .iload 2, 1, []), (6, .iload 3, 1, []), (7, .iload 4, 2, []), (9, .invokevirtual 34, 3, [85, 5, 8, 191]), (12, .i2l, 1, []), (13, .lastore, 1, []), (14, .goto 11, 3, [3])]
/-- between, block 1 -/
noncomputable def b_258_1 : List En := [(19, .iconst 1, 1, []), (20, .ireturn, 1, [0])]
/-- between, block 2 -/
noncomputable def b_258_2 : List En := [(23, .iconst 2, 1, []), (24, .ireturn, 1, [0])]
/-- between, block 3 -/
noncomputable def b_258_3 : List En := [(25, .iconst 0, 1, []), (26, .ireturn, 1, [0])]
noncomputable def cod_258 : List (List En) := [b_258_0, b_258_1, b_258_2, b_258_3]
/-- compare, block 0 -/
noncomputable def b_259_0 : List En := [(0, .aload 5, 2, []), (2, .iconst 0, 1, []), (3, .aload 0, 1, []), (4, .iload 1, 1, []), (5, .iload 2, 1, []), (6, .iload 3, 1, []), (7, .iload 4, 2, []), (9, .invokevirtual 37, 3, [86, 5, 8, 192]), (12, .i2l, 1, []), (13, .lastore, 1, []), (14, .goto 11, 3, [3])]
/-- compare, block 1 -/
noncomputable def b_259_1 : List En := [(19, .iconst 1, 1, []), (20, .ireturn, 1, [0])]
/-- compare, block 2 -/
noncomputable def b_259_2 : List En := [(23, .iconst 2, 1, []), (24, .ireturn, 1, [0])]
/-- compare, block 3 -/
noncomputable def b_259_3 : List En := [(25, .iconst 0, 1, []), (26, .ireturn, 1, [0])]
noncomputable def cod_259 : List (List En) := [b_259_0, b_259_1, b_259_2, b_259_3]
/-- combine, block 0 -/
noncomputable def b_260_0 : List En := [(0, .aload 4, 2, []), (2, .iconst 0, 1, []), (3, .aload 0, 1, []), (4, .iload 1, 1, []), (5, .iload 2, 1, []), (6, .iload 3, 1, []), (7, .invokevirtual 40, 3, [87, 4, 8, 193]), (10, .i2l, 1, []), (11, .lastore, 1, []), (12, .goto 11, 3, [3])]
/-- combine, block 1 -/
noncomputable def b_260_1 : List En := [(17, .iconst 1, 1, []), (18, .ireturn, 1, [0])]
/-- combine, block 2 -/
noncomputable def b_260_2 : List En := [(21, .iconst 2, 1, []), (22, .ireturn, 1, [0])]
/-- combine, block 3 -/
noncomputable def b_260_3 : List En := [(23, .iconst 0, 1, []), (24, .ireturn, 1, [0])]
noncomputable def cod_260 : List (List En) := [b_260_0, b_260_1, b_260_2, b_260_3]
/-- contrary, block 0 -/
noncomputable def b_261_0 : List En := [(0, .aload 2, 1, []), (1, .iconst 0, 1, []), (2, .aload 0, 1, []), (3, .iload 1, 1, []), (4, .invokevirtual 43, 3, [88, 2, 8, 194]), (7, .i2l, 1, []), (8, .lastore, 1, []), (9, .goto 6, 3, [2])]
/-- contrary, block 1 -/
noncomputable def b_261_1 : List En := [(13, .iconst 1, 1, []), (14, .ireturn, 1, [0])]
/-- contrary, block 2 -/
noncomputable def b_261_2 : List En := [(15, .iconst 0, 1, []), (16, .ireturn, 1, [0])]
noncomputable def cod_261 : List (List En) := [b_261_0, b_261_1, b_261_2]
/-- copyOf, block 0 -/
noncomputable def b_262_0 : List En := [(0, .aload 3, 1, []), (1, .iconst 0, 1, []), (2, .aload 0, 1, []), (3, .iload 1, 1, []), (4, .iload 2, 1, []), (5, .invokevirtual 46, 3, [89, 3, 8, 195]), (8, .i2l, 1, []), (9, .lastore, 1, []), (10, .goto 7, 3, [2])]
/-- copyOf, block 1 -/
noncomputable def b_262_1 : List En := [(15, .iconst 1, 1, []), (16, .ireturn, 1, [0])]
/-- copyOf, block 2 -/
noncomputable def b_262_2 : List En := [(17, .iconst 0, 1, []), (18, .ireturn, 1, [0])]
noncomputable def cod_262 : List (List En) := [b_262_0, b_262_1, b_262_2]
/-- put, block 0 -/
noncomputable def b_263_0 : List En := [(0, .aload 4, 2, []), (2, .iconst 0, 1, []), (3, .aload 0, 1, []), (4, .iload 1, 1, []), (5, .iload 2, 1, []), (6, .iload 3, 1, []), (7, .invokevirtual 50, 3, [90, 4, 8, 196]), (10, .ifCond .eq 7, 3, [1]), (13, .bipush 1, 1, []), (14, .goto 4, 3, [2])]
/-- put, block 1 -/
noncomputable def b_263_1 : List En := [(17, .bipush 0, 1, []), (18, .nop, 0, [2])]
/-- put, block 2 -/
noncomputable def b_263_2 : List En := [(18, .lastore, 1, []), (19, .goto 7, 3, [4])]
/-- put, block 3 -/
noncomputable def b_263_3 : List En := [(24, .iconst 1, 1, []), (25, .ireturn, 1, [0])]
/-- put, block 4 -/
noncomputable def b_263_4 : List En := [(26, .iconst 0, 1, []), (27, .ireturn, 1, [0])]
noncomputable def cod_263 : List (List En) := [b_263_0, b_263_1, b_263_2, b_263_3, b_263_4]
/-- sample, block 0 -/
noncomputable def b_264_0 : List En := [(0, .aload 4, 2, []), (2, .iconst 0, 1, []), (3, .aload 0, 1, []), (4, .iload 1, 1, []), (5, .iload 2, 1, []), (6, .iload 3, 1, []), (7, .invokevirtual 54, 3, [91, 4, 8, 197]), (10, .i2l, 1, []), (11, .lastore, 1, []), (12, .goto 11, 3, [3])]
/-- sample, block 1 -/
noncomputable def b_264_1 : List En := [(17, .iconst 1, 1, []), (18, .ireturn, 1, [0])]
/-- sample, block 2 -/
noncomputable def b_264_2 : List En := [(21, .iconst 2, 1, []), (22, .ireturn, 1, [0])]
/-- sample, block 3 -/
noncomputable def b_264_3 : List En := [(23, .iconst 0, 1, []), (24, .ireturn, 1, [0])]
noncomputable def cod_264 : List (List En) := [b_264_0, b_264_1, b_264_2, b_264_3]
/-- partners, block 0 -/
noncomputable def b_265_0 : List En := [(0, .aload 6, 2, []), (2, .iconst 0, 1, []), (3, .aload 0, 1, []), (4, .iload 1, 1, []), (5, .iload 2, 1, []), (6, .iload 3, 1, []), (7, .iload 4, 2, []), (9, .iload 5, 2, []), (11, .invokevirtual 57, 3, [92, 6, 8, 198]), (14, .i2l, 1, []), (15, .lastore, 1, []), (16, .goto 7, 3, [2])]
/-- partners, block 1 -/
noncomputable def b_265_1 : List En := [(21, .iconst 1, 1, []), (22, .ireturn, 1, [0])]
/-- partners, block 2 -/
noncomputable def b_265_2 : List En := [(23, .iconst 0, 1, []), (24, .ireturn, 1, [0])]
noncomputable def cod_265 : List (List En) := [b_265_0, b_265_1, b_265_2]
/-- runPlan, block 0 -/
noncomputable def b_266_0 : List En := [(0, .aload 2, 1, []), (1, .iconst 0, 1, []), (2, .aload 0, 1, []), (3, .iload 1, 1, []), (4, .invokevirtual 60, 3, [93, 2, 8, 199]), (7, .i2l, 1, []), (8, .lastore, 1, []), (9, .goto 6, 3, [2])]
/-- runPlan, block 1 -/
noncomputable def b_266_1 : List En := [(13, .iconst 1, 1, []), (14, .ireturn, 1, [0])]
/-- runPlan, block 2 -/
noncomputable def b_266_2 : List En := [(15, .iconst 0, 1, []), (16, .ireturn, 1, [0])]
noncomputable def cod_266 : List (List En) := [b_266_0, b_266_1, b_266_2]
/-- unpack, block 0 -/
noncomputable def b_267_0 : List En := [(0, .aload 3, 1, []), (1, .iconst 0, 1, []), (2, .aload 0, 1, []), (3, .iload 1, 1, []), (4, .iload 2, 1, []), (5, .invokevirtual 63, 3, [94, 3, 8, 200]), (8, .i2l, 1, []), (9, .lastore, 1, []), (10, .goto 7, 3, [2])]
/-- unpack, block 1 -/
noncomputable def b_267_1 : List En := [(15, .iconst 1, 1, []), (16, .ireturn, 1, [0])]
/-- unpack, block 2 -/
noncomputable def b_267_2 : List En := [(17, .iconst 0, 1, []), (18, .ireturn, 1, [0])]
noncomputable def cod_267 : List (List En) := [b_267_0, b_267_1, b_267_2]
/-- pack, block 0 -/
noncomputable def b_268_0 : List En := [(0, .aload 3, 1, []), (1, .iconst 0, 1, []), (2, .aload 0, 1, []), (3, .iload 1, 1, []), (4, .iload 2, 1, []), (5, .invokevirtual 66, 3, [95, 3, 8, 201]), (8, .i2l, 1, []), (9, .lastore, 1, []), (10, .goto 7, 3, [2])]
/-- pack, block 1 -/
noncomputable def b_268_1 : List En := [(15, .iconst 1, 1, []), (16, .ireturn, 1, [0])]
/-- pack, block 2 -/
noncomputable def b_268_2 : List En := [(17, .iconst 0, 1, []), (18, .ireturn, 1, [0])]
noncomputable def cod_268 : List (List En) := [b_268_0, b_268_1, b_268_2]
/-- combinePacked, block 0 -/
noncomputable def b_269_0 : List En := [(0, .aload 4, 2, []), (2, .iconst 0, 1, []), (3, .aload 0, 1, []), (4, .iload 1, 1, []), (5, .iload 2, 1, []), (6, .iload 3, 1, []), (7, .invokevirtual 69, 3, [96, 4, 8, 202]), (10, .i2l, 1, []), (11, .lastore, 1, []), (12, .goto 11, 3, [3])]
/-- combinePacked, block 1 -/
noncomputable def b_269_1 : List En := [(17, .iconst 1, 1, []), (18, .ireturn, 1, [0])]
/-- combinePacked, block 2 -/
noncomputable def b_269_2 : List En := [(21, .iconst 2, 1, []), (22, .ireturn, 1, [0])]
/-- combinePacked, block 3 -/
noncomputable def b_269_3 : List En := [(23, .iconst 0, 1, []), (24, .ireturn, 1, [0])]
noncomputable def cod_269 : List (List En) := [b_269_0, b_269_1, b_269_2, b_269_3]
/-- contraryPacked, block 0 -/
noncomputable def b_270_0 : List En := [(0, .aload 2, 1, []), (1, .iconst 0, 1, []), (2, .aload 0, 1, []), (3, .iload 1, 1, []), (4, .invokevirtual 72, 3, [97, 2, 8, 203]), (7, .i2l, 1, []), (8, .lastore, 1, []), (9, .goto 6, 3, [2])]
/-- contraryPacked, block 1 -/
noncomputable def b_270_1 : List En := [(13, .iconst 1, 1, []), (14, .ireturn, 1, [0])]
/-- contraryPacked, block 2 -/
noncomputable def b_270_2 : List En := [(15, .iconst 0, 1, []), (16, .ireturn, 1, [0])]
noncomputable def cod_270 : List (List En) := [b_270_0, b_270_1, b_270_2]
/-- addCondition, block 0 -/
noncomputable def b_271_0 : List En := [(0, .aload 4, 2, []), (2, .iconst 0, 1, []), (3, .aload 0, 1, []), (4, .iload 1, 1, []), (5, .iload 2, 1, []), (6, .iload 3, 1, []), (7, .invokevirtual 75, 3, [98, 4, 8, 204]), (10, .i2l, 1, []), (11, .lastore, 1, []), (12, .goto 15, 3, [4])]
/-- addCondition, block 1 -/
noncomputable def b_271_1 : List En := [(17, .iconst 1, 1, []), (18, .ireturn, 1, [0])]
/-- addCondition, block 2 -/
noncomputable def b_271_2 : List En := [(21, .iconst 2, 1, []), (22, .ireturn, 1, [0])]
/-- addCondition, block 3 -/
noncomputable def b_271_3 : List En := [(25, .iconst 3, 1, []), (26, .ireturn, 1, [0])]
/-- addCondition, block 4 -/
noncomputable def b_271_4 : List En := [(27, .iconst 0, 1, []), (28, .ireturn, 1, [0])]
noncomputable def cod_271 : List (List En) := [b_271_0, b_271_1, b_271_2, b_271_3, b_271_4]
/-- dropCondition, block 0 -/
noncomputable def b_272_0 : List En := [(0, .aload 2, 1, []), (1, .iconst 0, 1, []), (2, .aload 0, 1, []), (3, .iload 1, 1, []), (4, .invokevirtual 78, 3, [99, 2, 8, 205]), (7, .i2l, 1, []), (8, .lastore, 1, []), (9, .goto 6, 3, [2])]
/-- dropCondition, block 1 -/
noncomputable def b_272_1 : List En := [(13, .iconst 1, 1, []), (14, .ireturn, 1, [0])]
/-- dropCondition, block 2 -/
noncomputable def b_272_2 : List En := [(15, .iconst 0, 1, []), (16, .ireturn, 1, [0])]
noncomputable def cod_272 : List (List En) := [b_272_0, b_272_1, b_272_2]
/-- undo, block 0 -/
noncomputable def b_273_0 : List En := [(0, .aload 1, 1, []), (1, .iconst 0, 1, []), (2, .aload 0, 1, []), (3, .invokevirtual 81, 3, [100, 1, 8, 206]), (6, .i2l, 1, []), (7, .lastore, 1, []), (8, .goto 6, 3, [2])]
/-- undo, block 1 -/
noncomputable def b_273_1 : List En := [(12, .iconst 1, 1, []), (13, .ireturn, 1, [0])]
/-- undo, block 2 -/
noncomputable def b_273_2 : List En := [(14, .iconst 0, 1, []), (15, .ireturn, 1, [0])]
noncomputable def cod_273 : List (List En) := [b_273_0, b_273_1, b_273_2]
/-- nextRow, block 0 -/
noncomputable def b_274_0 : List En := [(0, .aload 2, 1, []), (1, .iconst 0, 1, []), (2, .aload 0, 1, []), (3, .iload 1, 1, []), (4, .invokevirtual 85, 3, [102, 2, 8, 207]), (7, .i2l, 1, []), (8, .lastore, 1, []), (9, .goto 6, 3, [2])]
/-- nextRow, block 1 -/
noncomputable def b_274_1 : List En := [(13, .iconst 1, 1, []), (14, .ireturn, 1, [0])]
/-- nextRow, block 2 -/
noncomputable def b_274_2 : List En := [(15, .iconst 0, 1, []), (16, .ireturn, 1, [0])]
noncomputable def cod_274 : List (List En) := [b_274_0, b_274_1, b_274_2]
/-- valueAt, block 0 -/
noncomputable def b_275_0 : List En := [(0, .aload 3, 1, []), (1, .iconst 0, 1, []), (2, .aload 0, 1, []), (3, .iload 1, 1, []), (4, .iload 2, 1, []), (5, .invokevirtual 88, 3, [103, 3, 8, 208]), (8, .i2l, 1, []), (9, .lastore, 1, []), (10, .goto 7, 3, [2])]
/-- valueAt, block 1 -/
noncomputable def b_275_1 : List En := [(15, .iconst 1, 1, []), (16, .ireturn, 1, [0])]
/-- valueAt, block 2 -/
noncomputable def b_275_2 : List En := [(17, .iconst 0, 1, []), (18, .ireturn, 1, [0])]
noncomputable def cod_275 : List (List En) := [b_275_0, b_275_1, b_275_2]
/-- values, block 0 -/
noncomputable def b_276_0 : List En := [(0, .aload 2, 1, []), (1, .iconst 0, 1, []), (2, .aload 0, 1, []), (3, .iload 1, 1, []), (4, .invokevirtual 91, 3, [104, 2, 8, 209]), (7, .i2l, 1, []), (8, .lastore, 1, []), (9, .goto 6, 3, [2])]
/-- values, block 1 -/
noncomputable def b_276_1 : List En := [(13, .iconst 1, 1, []), (14, .ireturn, 1, [0])]
/-- values, block 2 -/
noncomputable def b_276_2 : List En := [(15, .iconst 0, 1, []), (16, .ireturn, 1, [0])]
noncomputable def cod_276 : List (List En) := [b_276_0, b_276_1, b_276_2]
/-- outermost, block 0 -/
noncomputable def b_277_0 : List En := [(0, .aload 3, 1, []), (1, .iconst 0, 1, []), (2, .aload 0, 1, []), (3, .iload 1, 1, []), (4, .iload 2, 1, []), (5, .invokevirtual 94, 3, [105, 3, 8, 210]), (8, .i2l, 1, []), (9, .lastore, 1, []), (10, .goto 11, 3, [3])]
/-- outermost, block 1 -/
noncomputable def b_277_1 : List En := [(15, .iconst 1, 1, []), (16, .ireturn, 1, [0])]
/-- outermost, block 2 -/
noncomputable def b_277_2 : List En := [(19, .iconst 2, 1, []), (20, .ireturn, 1, [0])]
/-- outermost, block 3 -/
noncomputable def b_277_3 : List En := [(21, .iconst 0, 1, []), (22, .ireturn, 1, [0])]
noncomputable def cod_277 : List (List En) := [b_277_0, b_277_1, b_277_2, b_277_3]
/-- beside, block 0 -/
noncomputable def b_278_0 : List En := [(0, .aload 4, 2, []), (2, .iconst 0, 1, []), (3, .aload 0, 1, []), (4, .iload 1, 1, []), (5, .iload 2, 1, []), (6, .iload 3, 1, []), (7, .invokevirtual 100, 3, [106, 4, 8, 211]), (10, .i2l, 1, []), (11, .lastore, 1, []), (12, .goto 7, 3, [2])]
/-- beside, block 1 -/
noncomputable def b_278_1 : List En := [(17, .iconst 1, 1, []), (18, .ireturn, 1, [0])]
/-- beside, block 2 -/
noncomputable def b_278_2 : List En := [(19, .iconst 0, 1, []), (20, .ireturn, 1, [0])]
noncomputable def cod_278 : List (List En) := [b_278_0, b_278_1, b_278_2]
/-- kept, block 0 -/
noncomputable def b_279_0 : List En := [(0, .aload 4, 2, []), (2, .iconst 0, 1, []), (3, .aload 0, 1, []), (4, .iload 1, 1, []), (5, .iload 2, 1, []), (6, .iload 3, 1, []), (7, .invokevirtual 104, 3, [107, 4, 8, 212]), (10, .i2l, 1, []), (11, .lastore, 1, []), (12, .goto 11, 3, [3])]
/-- kept, block 1 -/
noncomputable def b_279_1 : List En := [(17, .iconst 1, 1, []), (18, .ireturn, 1, [0])]
/-- kept, block 2 -/
noncomputable def b_279_2 : List En := [(21, .iconst 2, 1, []), (22, .ireturn, 1, [0])]
/-- kept, block 3 -/
noncomputable def b_279_3 : List En := [(23, .iconst 0, 1, []), (24, .ireturn, 1, [0])]
noncomputable def cod_279 : List (List En) := [b_279_0, b_279_1, b_279_2, b_279_3]
/-- count, block 0 -/
noncomputable def b_280_0 : List En := [(0, .aload 2, 1, []), (1, .iconst 0, 1, []), (2, .aload 0, 1, []), (3, .iload 1, 1, []), (4, .invokevirtual 107, 3, [108, 2, 8, 213]), (7, .i2l, 1, []), (8, .lastore, 1, []), (9, .goto 6, 3, [2])]
/-- count, block 1 -/
noncomputable def b_280_1 : List En := [(13, .iconst 1, 1, []), (14, .ireturn, 1, [0])]
/-- count, block 2 -/
noncomputable def b_280_2 : List En := [(15, .iconst 0, 1, []), (16, .ireturn, 1, [0])]
noncomputable def cod_280 : List (List En) := [b_280_0, b_280_1, b_280_2]
/-- countIn, block 0 -/
noncomputable def b_281_0 : List En := [(0, .aload 4, 2, []), (2, .iconst 0, 1, []), (3, .aload 0, 1, []), (4, .iload 1, 1, []), (5, .iload 2, 1, []), (6, .iload 3, 1, []), (7, .invokevirtual 110, 3, [109, 4, 8, 214]), (10, .i2l, 1, []), (11, .lastore, 1, []), (12, .goto 7, 3, [2])]
/-- countIn, block 1 -/
noncomputable def b_281_1 : List En := [(17, .iconst 1, 1, []), (18, .ireturn, 1, [0])]
/-- countIn, block 2 -/
noncomputable def b_281_2 : List En := [(19, .iconst 0, 1, []), (20, .ireturn, 1, [0])]
noncomputable def cod_281 : List (List En) := [b_281_0, b_281_1, b_281_2]
/-- has, block 0 -/
noncomputable def b_282_0 : List En := [(0, .aload 3, 1, []), (1, .iconst 0, 1, []), (2, .aload 0, 1, []), (3, .iload 1, 1, []), (4, .iload 2, 1, []), (5, .invokevirtual 113, 3, [110, 3, 8, 215]), (8, .ifCond .eq 7, 3, [1]), (11, .bipush 1, 1, []), (12, .goto 4, 3, [2])]
/-- has, block 1 -/
noncomputable def b_282_1 : List En := [(15, .bipush 0, 1, []), (16, .nop, 0, [2])]
/-- has, block 2 -/
noncomputable def b_282_2 : List En := [(16, .lastore, 1, []), (17, .goto 7, 3, [4])]
/-- has, block 3 -/
noncomputable def b_282_3 : List En := [(22, .iconst 1, 1, []), (23, .ireturn, 1, [0])]
/-- has, block 4 -/
noncomputable def b_282_4 : List En := [(24, .iconst 0, 1, []), (25, .ireturn, 1, [0])]
noncomputable def cod_282 : List (List En) := [b_282_0, b_282_1, b_282_2, b_282_3, b_282_4]
/-- next, block 0 -/
noncomputable def b_283_0 : List En := [(0, .aload 4, 2, []), (2, .iconst 0, 1, []), (3, .aload 0, 1, []), (4, .iload 1, 1, []), (5, .iload 2, 1, []), (6, .iload 3, 1, []), (7, .invokevirtual 117, 3, [111, 4, 8, 216]), (10, .i2l, 1, []), (11, .lastore, 1, []), (12, .goto 7, 3, [2])]
/-- next, block 1 -/
noncomputable def b_283_1 : List En := [(17, .iconst 1, 1, []), (18, .ireturn, 1, [0])]
/-- next, block 2 -/
noncomputable def b_283_2 : List En := [(19, .iconst 0, 1, []), (20, .ireturn, 1, [0])]
noncomputable def cod_283 : List (List En) := [b_283_0, b_283_1, b_283_2]
/-- relation, block 0 -/
noncomputable def b_284_0 : List En := [(0, .aload 3, 1, []), (1, .iconst 0, 1, []), (2, .aload 0, 1, []), (3, .iload 1, 1, []), (4, .iload 2, 1, []), (5, .invokevirtual 120, 3, [112, 3, 8, 217]), (8, .i2l, 1, []), (9, .lastore, 1, []), (10, .goto 7, 3, [2])]
/-- relation, block 1 -/
noncomputable def b_284_1 : List En := [(15, .iconst 1, 1, []), (16, .ireturn, 1, [0])]
/-- relation, block 2 -/
noncomputable def b_284_2 : List En := [(17, .iconst 0, 1, []), (18, .ireturn, 1, [0])]
noncomputable def cod_284 : List (List En) := [b_284_0, b_284_1, b_284_2]
/-- union, block 0 -/
noncomputable def b_285_0 : List En := [(0, .aload 4, 2, []), (2, .iconst 0, 1, []), (3, .aload 0, 1, []), (4, .iload 1, 1, []), (5, .iload 2, 1, []), (6, .iload 3, 1, []), (7, .invokevirtual 123, 3, [113, 4, 8, 218]), (10, .i2l, 1, []), (11, .lastore, 1, []), (12, .goto 7, 3, [2])]
/-- union, block 1 -/
noncomputable def b_285_1 : List En := [(17, .iconst 1, 1, []), (18, .ireturn, 1, [0])]
/-- union, block 2 -/
noncomputable def b_285_2 : List En := [(19, .iconst 0, 1, []), (20, .ireturn, 1, [0])]
noncomputable def cod_285 : List (List En) := [b_285_0, b_285_1, b_285_2]
/-- sum, block 0 -/
noncomputable def b_286_0 : List En := [(0, .aload 3, 1, []), (1, .iconst 0, 1, []), (2, .aload 0, 1, []), (3, .iload 1, 1, []), (4, .iload 2, 1, []), (5, .invokevirtual 126, 3, [114, 3, 8, 219]), (8, .i2l, 1, []), (9, .lastore, 1, []), (10, .goto 7, 3, [2])]
/-- sum, block 1 -/
noncomputable def b_286_1 : List En := [(15, .iconst 1, 1, []), (16, .ireturn, 1, [0])]
/-- sum, block 2 -/
noncomputable def b_286_2 : List En := [(17, .iconst 0, 1, []), (18, .ireturn, 1, [0])]
noncomputable def cod_286 : List (List En) := [b_286_0, b_286_1, b_286_2]
/-- least, block 0 -/
noncomputable def b_287_0 : List En := [(0, .aload 4, 2, []), (2, .iconst 0, 1, []), (3, .aload 0, 1, []), (4, .iload 1, 1, []), (5, .iload 2, 1, []), (6, .iload 3, 1, []), (7, .invokevirtual 129, 3, [115, 4, 8, 220]), (10, .i2l, 1, []), (11, .lastore, 1, []), (12, .goto 7, 3, [2])]
/-- least, block 1 -/
noncomputable def b_287_1 : List En := [(17, .iconst 1, 1, []), (18, .ireturn, 1, [0])]
/-- least, block 2 -/
noncomputable def b_287_2 : List En := [(19, .iconst 0, 1, []), (20, .ireturn, 1, [0])]
noncomputable def cod_287 : List (List En) := [b_287_0, b_287_1, b_287_2]
/-- middle, block 0 -/
noncomputable def b_288_0 : List En := [(0, .aload 3, 1, []), (1, .iconst 0, 1, []), (2, .aload 0, 1, []), (3, .iload 1, 1, []), (4, .iload 2, 1, []), (5, .invokevirtual 132, 3, [116, 3, 8, 221]), (8, .i2l, 1, []), (9, .lastore, 1, []), (10, .goto 7, 3, [2])]
/-- middle, block 1 -/
noncomputable def b_288_1 : List En := [(15, .iconst 1, 1, []), (16, .ireturn, 1, [0])]
/-- middle, block 2 -/
noncomputable def b_288_2 : List En := [(17, .iconst 0, 1, []), (18, .ireturn, 1, [0])]
noncomputable def cod_288 : List (List En) := [b_288_0, b_288_1, b_288_2]
/-- top, block 0 -/
noncomputable def b_289_0 : List En := [(0, .aload 4, 2, []), (2, .iconst 0, 1, []), (3, .aload 0, 1, []), (4, .iload 1, 1, []), (5, .iload 2, 1, []), (6, .iload 3, 1, []), (7, .invokevirtual 135, 3, [117, 4, 8, 222]), (10, .i2l, 1, []), (11, .lastore, 1, []), (12, .goto 7, 3, [2])]
/-- top, block 1 -/
noncomputable def b_289_1 : List En := [(17, .iconst 1, 1, []), (18, .ireturn, 1, [0])]
/-- top, block 2 -/
noncomputable def b_289_2 : List En := [(19, .iconst 0, 1, []), (20, .ireturn, 1, [0])]
noncomputable def cod_289 : List (List En) := [b_289_0, b_289_1, b_289_2]
/-- unlike, block 0 -/
noncomputable def b_290_0 : List En := [(0, .aload 3, 1, []), (1, .iconst 0, 1, []), (2, .aload 0, 1, []), (3, .iload 1, 1, []), (4, .iload 2, 1, []), (5, .invokevirtual 138, 3, [118, 3, 8, 223]), (8, .i2l, 1, []), (9, .lastore, 1, []), (10, .goto 7, 3, [2])]
/-- unlike, block 1 -/
noncomputable def b_290_1 : List En := [(15, .iconst 1, 1, []), (16, .ireturn, 1, [0])]
/-- unlike, block 2 -/
noncomputable def b_290_2 : List En := [(17, .iconst 0, 1, []), (18, .ireturn, 1, [0])]
noncomputable def cod_290 : List (List En) := [b_290_0, b_290_1, b_290_2]
/-- join, block 0 -/
noncomputable def b_291_0 : List En := [(0, .aload 5, 2, []), (2, .iconst 0, 1, []), (3, .aload 0, 1, []), (4, .iload 1, 1, []), (5, .iload 2, 1, []), (6, .iload 3, 1, []), (7, .iload 4, 2, []), (9, .invokevirtual 141, 3, [119, 5, 8, 224]), (12, .i2l, 1, []), (13, .lastore, 1, []), (14, .goto 7, 3, [2])]
/-- join, block 1 -/
noncomputable def b_291_1 : List En := [(19, .iconst 1, 1, []), (20, .ireturn, 1, [0])]
/-- join, block 2 -/
noncomputable def b_291_2 : List En := [(21, .iconst 0, 1, []), (22, .ireturn, 1, [0])]
noncomputable def cod_291 : List (List En) := [b_291_0, b_291_1, b_291_2]
/-- rollup, block 0 -/
noncomputable def b_292_0 : List En := [(0, .aload 3, 1, []), (1, .iconst 0, 1, []), (2, .aload 0, 1, []), (3, .iload 1, 1, []), (4, .iload 2, 1, []), (5, .invokevirtual 144, 3, [120, 3, 8, 225]), (8, .i2l, 1, []), (9, .lastore, 1, []), (10, .goto 11, 3, [3])]
/-- rollup, block 1 -/
noncomputable def b_292_1 : List En := [(15, .iconst 1, 1, []), (16, .ireturn, 1, [0])]
/-- rollup, block 2 -/
noncomputable def b_292_2 : List En := [(19, .iconst 2, 1, []), (20, .ireturn, 1, [0])]
/-- rollup, block 3 -/
noncomputable def b_292_3 : List En := [(21, .iconst 0, 1, []), (22, .ireturn, 1, [0])]
noncomputable def cod_292 : List (List En) := [b_292_0, b_292_1, b_292_2, b_292_3]
/-- groupAt, block 0 -/
noncomputable def b_293_0 : List En := [(0, .aload 3, 1, []), (1, .iconst 0, 1, []), (2, .aload 0, 1, []), (3, .iload 1, 1, []), (4, .iload 2, 1, []), (5, .invokevirtual 147, 3, [121, 3, 8, 226]), (8, .i2l, 1, []), (9, .lastore, 1, []), (10, .goto 11, 3, [3])]
/-- groupAt, block 1 -/
noncomputable def b_293_1 : List En := [(15, .iconst 1, 1, []), (16, .ireturn, 1, [0])]
/-- groupAt, block 2 -/
noncomputable def b_293_2 : List En := [(19, .iconst 2, 1, []), (20, .ireturn, 1, [0])]
/-- groupAt, block 3 -/
noncomputable def b_293_3 : List En := [(21, .iconst 0, 1, []), (22, .ireturn, 1, [0])]
noncomputable def cod_293 : List (List En) := [b_293_0, b_293_1, b_293_2, b_293_3]
/-- runs, block 0 -/
noncomputable def b_294_0 : List En := [(0, .aload 2, 1, []), (1, .iconst 0, 1, []), (2, .aload 0, 1, []), (3, .iload 1, 1, []), (4, .invokevirtual 150, 3, [122, 2, 8, 227]), (7, .i2l, 1, []), (8, .lastore, 1, []), (9, .goto 6, 3, [2])]
/-- runs, block 1 -/
noncomputable def b_294_1 : List En := [(13, .iconst 1, 1, []), (14, .ireturn, 1, [0])]
/-- runs, block 2 -/
noncomputable def b_294_2 : List En := [(15, .iconst 0, 1, []), (16, .ireturn, 1, [0])]
noncomputable def cod_294 : List (List En) := [b_294_0, b_294_1, b_294_2]
/-- runAt, block 0 -/
noncomputable def b_295_0 : List En := [(0, .aload 4, 2, []), (2, .iconst 0, 1, []), (3, .aload 0, 1, []), (4, .iload 1, 1, []), (5, .iload 2, 1, []), (6, .iload 3, 1, []), (7, .invokevirtual 153, 3, [123, 4, 8, 228]), (10, .i2l, 1, []), (11, .lastore, 1, []), (12, .goto 7, 3, [2])]
/-- runAt, block 1 -/
noncomputable def b_295_1 : List En := [(17, .iconst 1, 1, []), (18, .ireturn, 1, [0])]
/-- runAt, block 2 -/
noncomputable def b_295_2 : List En := [(19, .iconst 0, 1, []), (20, .ireturn, 1, [0])]
noncomputable def cod_295 : List (List En) := [b_295_0, b_295_1, b_295_2]
/-- hasPacked, block 0 -/
noncomputable def b_296_0 : List En := [(0, .aload 3, 1, []), (1, .iconst 0, 1, []), (2, .aload 0, 1, []), (3, .iload 1, 1, []), (4, .iload 2, 1, []), (5, .invokevirtual 156, 3, [124, 3, 8, 229]), (8, .ifCond .eq 7, 3, [1]), (11, .bipush 1, 1, []), (12, .goto 4, 3, [2])]
/-- hasPacked, block 1 -/
noncomputable def b_296_1 : List En := [(15, .bipush 0, 1, []), (16, .nop, 0, [2])]
/-- hasPacked, block 2 -/
noncomputable def b_296_2 : List En := [(16, .lastore, 1, []), (17, .goto 7, 3, [4])]
/-- hasPacked, block 3 -/
noncomputable def b_296_3 : List En := [(22, .iconst 1, 1, []), (23, .ireturn, 1, [0])]
/-- hasPacked, block 4 -/
noncomputable def b_296_4 : List En := [(24, .iconst 0, 1, []), (25, .ireturn, 1, [0])]
noncomputable def cod_296 : List (List En) := [b_296_0, b_296_1, b_296_2, b_296_3, b_296_4]
/-- conditionAt, block 0 -/
noncomputable def b_297_0 : List En := [(0, .aload 3, 1, []), (1, .iconst 0, 1, []), (2, .aload 0, 1, []), (3, .iload 1, 1, []), (4, .iload 2, 1, []), (5, .invokevirtual 159, 3, [126, 3, 8, 230]), (8, .i2l, 1, []), (9, .lastore, 1, []), (10, .goto 11, 3, [3])]
/-- conditionAt, block 1 -/
noncomputable def b_297_1 : List En := [(15, .iconst 1, 1, []), (16, .ireturn, 1, [0])]
/-- conditionAt, block 2 -/
noncomputable def b_297_2 : List En := [(19, .iconst 2, 1, []), (20, .ireturn, 1, [0])]
/-- conditionAt, block 3 -/
noncomputable def b_297_3 : List En := [(21, .iconst 0, 1, []), (22, .ireturn, 1, [0])]
noncomputable def cod_297 : List (List En) := [b_297_0, b_297_1, b_297_2, b_297_3]
/-- cost, block 0 -/
noncomputable def b_298_0 : List En := [(0, .aload 3, 1, []), (1, .iconst 0, 1, []), (2, .aload 0, 1, []), (3, .iload 1, 1, []), (4, .iload 2, 1, []), (5, .invokevirtual 162, 3, [127, 3, 8, 231]), (8, .i2l, 1, []), (9, .lastore, 1, []), (10, .goto 11, 3, [3])]
/-- cost, block 1 -/
noncomputable def b_298_1 : List En := [(15, .iconst 1, 1, []), (16, .ireturn, 1, [0])]
/-- cost, block 2 -/
noncomputable def b_298_2 : List En := [(19, .iconst 2, 1, []), (20, .ireturn, 1, [0])]
/-- cost, block 3 -/
noncomputable def b_298_3 : List En := [(21, .iconst 0, 1, []), (22, .ireturn, 1, [0])]
noncomputable def cod_298 : List (List En) := [b_298_0, b_298_1, b_298_2, b_298_3]
/-- mean, block 0 -/
noncomputable def b_299_0 : List En := [(0, .aload 3, 1, []), (1, .iconst 0, 1, []), (2, .aload 0, 1, []), (3, .iload 1, 1, []), (4, .iload 2, 1, []), (5, .invokevirtual 165, 3, [129, 3, 8, 232]), (8, .dastore, 1, []), (9, .goto 7, 3, [2])]
/-- mean, block 1 -/
noncomputable def b_299_1 : List En := [(14, .iconst 1, 1, []), (15, .ireturn, 1, [0])]
/-- mean, block 2 -/
noncomputable def b_299_2 : List En := [(16, .iconst 0, 1, []), (17, .ireturn, 1, [0])]
noncomputable def cod_299 : List (List En) := [b_299_0, b_299_1, b_299_2]
/-- share, block 0 -/
noncomputable def b_300_0 : List En := [(0, .aload 2, 1, []), (1, .iconst 0, 1, []), (2, .aload 0, 1, []), (3, .iload 1, 1, []), (4, .invokevirtual 169, 3, [130, 2, 8, 233]), (7, .f2d, 1, []), (8, .dastore, 1, []), (9, .goto 6, 3, [2])]
/-- share, block 1 -/
noncomputable def b_300_1 : List En := [(13, .iconst 1, 1, []), (14, .ireturn, 1, [0])]
/-- share, block 2 -/
noncomputable def b_300_2 : List En := [(15, .iconst 0, 1, []), (16, .ireturn, 1, [0])]
noncomputable def cod_300 : List (List En) := [b_300_0, b_300_1, b_300_2]
/-- law, block 0 -/
noncomputable def b_301_0 : List En := [(0, .new 8, 3, [7, 11]), (3, .dup, 1, []), (4, .invokespecial 173, 3, [79, 1, 8, 234]), (7, .astore 1, 1, []), (8, .new 174, 3, [8, 12]), (11, .dup, 1, []), (12, .invokespecial 176, 3, [155, 1, 9, 235]), (15, .astore 2, 1, []), (16, .iconst 1, 1, []), (17, .newarray .long, 2, [12]), (19, .astore 3, 1, []), (20, .iconst 1, 1, []), (21, .newarray .double, 2, [13]), (23, .astore 4, 2, []), (25, .iconst 0, 1, []), (26, .istore 5, 2, []), (28, .nop, 0, [1])]
/-- law, block 1 -/
noncomputable def b_301_1 : List En := [(28, .iload 5, 2, []), (30, .aload 0, 1, []), (31, .arraylength, 1, []), (32, .iconst 6, 2, []), (34, .isub, 1, []), (35, .if_icmp .gt 3903, 3, [179]), (38, .aload 0, 1, []), (39, .iload 5, 2, []), (41, .iaload, 1, []), (42, .iconst 63, 2, []), (44, .iand, 1, []), (45, .tableswitch 3887 0 51 #[223, 315, 395, 475, 531, 635, 727, 819, 899, 955, 1023, 1126, 1206, 1310, 1366, 1434, 1502, 1582, 1638, 1718, 1774, 1818, 1831, 1887, 1955, 2011, 2095, 2191, 2271, 2327, 2407, 2482, 2578, 2646, 2726, 2794, 2874, 2942, 3022, 3090, 3182, 3250, 3318, 3374, 3470, 3545, 3558, 3626, 3694, 3707, 3796, 3874], 223, [178, 2, 5, 8, 11, 14, 17, 20, 23, 26, 29, 32, 41, 44, 47, 50, 53, 56, 59, 62, 65, 68, 71, 72, 75, 78, 81, 88, 95, 98, 101, 104, 109, 116, 119, 122, 125, 128, 131, 134, 137, 140, 143, 146, 149, 156, 161, 162, 165, 168, 169, 173, 177])]
/-- law, block 2 -/
noncomputable def b_301_2 : List En := [(268, .aload 1, 1, []), (269, .aload 0, 1, []), (270, .iload 5, 2, []), (272, .iconst 1, 1, []), (273, .iadd, 1, []), (274, .iaload, 1, []), (275, .aload 0, 1, []), (276, .iload 5, 2, []), (278, .iconst 2, 1, []), (279, .iadd, 1, []), (280, .iaload, 1, []), (281, .aload 0, 1, []), (282, .iload 5, 2, []), (284, .iconst 3, 1, []), (285, .iadd, 1, []), (286, .iaload, 1, []), (287, .aload 0, 1, []), (288, .iload 5, 2, []), (290, .iconst 4, 1, []), (291, .iadd, 1, []), (292, .iaload, 1, []), (293, .aload 3, 1, []), (294, .invokestatic 177, 3, [253, 6, 0, 236]), (297, .istore 6, 2, []), (299, .aload 2, 1, []), (300, .aload 0, 1, []), (301, .iload 5, 2, []), (303, .iconst 1, 1, []), (304, .iadd, 1, []), (305, .iaload, 1, []), (306, .aload 0, 1, []), (307, .iload 5, 2, []), (309, .iconst 2, 1, []), (310, .iadd, 1, []), (311, .iaload, 1, []), (312, .aload 0, 1, []), (313, .iload 5, 2, []), (315, .iconst 3, 1, []), (316, .iadd, 1, []), (317, .iaload, 1, []), (318, .aload 0, 1, []), (319, .iload 5, 2, []), (321, .iconst 4, 1, []), (322, .iadd, 1, []), (323, .iaload, 1, []), (324, .invokevirtual 182, 3, [178, 5, 9, 237]), (327, .istore 7, 2, []), (329, .aload 2, 1, []), (330, .invokevirtual 183, 3, [156, 1, 9, 238]), (333, .iload 6, 2, []), (335, .if_icmp .eq 5, 3, [3]), (338, .iconst 0, 1, []), (339, .ireturn, 1, [1])]
/-- law, block 3 -/
noncomputable def b_301_3 : List En := [(340, .iload 6, 2, []), (342, .ifCond .ne 15, 3, [4]), (345, .aload 3, 1, []), (346, .iconst 0, 1, []), (347, .laload, 1, []), (348, .iload 7, 2, []), (350, .i2l, 1, []), (351, .lcmp, 1, []), (352, .ifCond .eq 5, 3, [4]), (355, .iconst 0, 1, []), (356, .ireturn, 1, [1])]
/-- law, block 4 -/
noncomputable def b_301_4 : List En := [(357, .goto 3575, 3, [178])]
/-- law, block 5 -/
noncomputable def b_301_5 : List En := [(360, .aload 1, 1, []), (361, .aload 0, 1, []), (362, .iload 5, 2, []), (364, .iconst 1, 1, []), (365, .iadd, 1, []), (366, .iaload, 1, []), (367, .aload 0, 1, []), (368, .iload 5, 2, []), (370, .iconst 2, 1, []), (371, .iadd, 1, []), (372, .iaload, 1, []), (373, .aload 0, 1, []), (374, .iload 5, 2, []), (376, .iconst 3, 1, []), (377, .iadd, 1, []), (378, .iaload, 1, []), (379, .aload 3, 1, []), (380, .invokestatic 186, 3, [254, 5, 0, 239]), (383, .istore 6, 2, []), (385, .aload 2, 1, []), (386, .aload 0, 1, []), (387, .iload 5, 2, []), (389, .iconst 1, 1, []), (390, .iadd, 1, []), (391, .iaload, 1, []), (392, .aload 0, 1, []), (393, .iload 5, 2, []), (395, .iconst 2, 1, []), (396, .iadd, 1, []), (397, .iaload, 1, []), (398, .aload 0, 1, []), (399, .iload 5, 2, []), (401, .iconst 3, 1, []), (402, .iadd, 1, []), (403, .iaload, 1, []), (404, .invokevirtual 189, 3, [181, 4, 9, 240]), (407, .istore 7, 2, []), (409, .aload 2, 1, []), (410, .invokevirtual 183, 3, [156, 1, 9, 238]), (413, .iload 6, 2, []), (415, .if_icmp .eq 5, 3, [6]), (418, .iconst 0, 1, []), (419, .ireturn, 1, [1])]
/-- law, block 6 -/
noncomputable def b_301_6 : List En := [(420, .iload 6, 2, []), (422, .ifCond .ne 15, 3, [7]), (425, .aload 3, 1, []), (426, .iconst 0, 1, []), (427, .laload, 1, []), (428, .iload 7, 2, []), (430, .i2l, 1, []), (431, .lcmp, 1, []), (432, .ifCond .eq 5, 3, [7]), (435, .iconst 0, 1, []), (436, .ireturn, 1, [1])]
/-- law, block 7 -/
noncomputable def b_301_7 : List En := [(437, .goto 3495, 3, [178])]
/-- law, block 8 -/
noncomputable def b_301_8 : List En := [(440, .aload 1, 1, []), (441, .aload 0, 1, []), (442, .iload 5, 2, []), (444, .iconst 1, 1, []), (445, .iadd, 1, []), (446, .iaload, 1, []), (447, .aload 0, 1, []), (448, .iload 5, 2, []), (450, .iconst 2, 1, []), (451, .iadd, 1, []), (452, .iaload, 1, []), (453, .aload 0, 1, []), (454, .iload 5, 2, []), (456, .iconst 3, 1, []), (457, .iadd, 1, []), (458, .iaload, 1, []), (459, .aload 3, 1, []), (460, .invokestatic 190, 3, [255, 5, 0, 241]), (463, .istore 6, 2, []), (465, .aload 2, 1, []), (466, .aload 0, 1, []), (467, .iload 5, 2, []), (469, .iconst 1, 1, []), (470, .iadd, 1, []), (471, .iaload, 1, []), (472, .aload 0, 1, []), (473, .iload 5, 2, []), (475, .iconst 2, 1, []), (476, .iadd, 1, []), (477, .iaload, 1, []), (478, .aload 0, 1, []), (479, .iload 5, 2, []), (481, .iconst 3, 1, []), (482, .iadd, 1, []), (483, .iaload, 1, []), (484, .invokevirtual 192, 3, [182, 4, 9, 242]), (487, .istore 7, 2, []), (489, .aload 2, 1, []), (490, .invokevirtual 183, 3, [156, 1, 9, 238]), (493, .iload 6, 2, []), (495, .if_icmp .eq 5, 3, [9]), (498, .iconst 0, 1, []), (499, .ireturn, 1, [1])]
/-- law, block 9 -/
noncomputable def b_301_9 : List En := [(500, .iload 6, 2, []), (502, .ifCond .ne 15, 3, [10]), (505, .aload 3, 1, []), (506, .iconst 0, 1, []), (507, .laload, 1, []), (508, .iload 7, 2, []), (510, .i2l, 1, []), (511, .lcmp, 1, []), (512, .ifCond .eq 5, 3, [10]), (515, .iconst 0, 1, []), (516, .ireturn, 1, [1])]
/-- law, block 10 -/
noncomputable def b_301_10 : List En := [(517, .goto 3415, 3, [178])]
/-- law, block 11 -/
noncomputable def b_301_11 : List En := [(520, .aload 1, 1, []), (521, .aload 0, 1, []), (522, .iload 5, 2, []), (524, .iconst 1, 1, []), (525, .iadd, 1, []), (526, .iaload, 1, []), (527, .aload 3, 1, []), (528, .invokestatic 193, 3, [256, 3, 0, 243]), (531, .istore 6, 2, []), (533, .aload 2, 1, []), (534, .aload 0, 1, []), (535, .iload 5, 2, []), (537, .iconst 1, 1, []), (538, .iadd, 1, []), (539, .iaload, 1, []), (540, .invokevirtual 196, 3, [183, 2, 9, 244]), (543, .istore 7, 2, []), (545, .aload 2, 1, []), (546, .invokevirtual 183, 3, [156, 1, 9, 238]), (549, .iload 6, 2, []), (551, .if_icmp .eq 5, 3, [12]), (554, .iconst 0, 1, []), (555, .ireturn, 1, [1])]
/-- law, block 12 -/
noncomputable def b_301_12 : List En := [(556, .iload 6, 2, []), (558, .ifCond .ne 15, 3, [13]), (561, .aload 3, 1, []), (562, .iconst 0, 1, []), (563, .laload, 1, []), (564, .iload 7, 2, []), (566, .i2l, 1, []), (567, .lcmp, 1, []), (568, .ifCond .eq 5, 3, [13]), (571, .iconst 0, 1, []), (572, .ireturn, 1, [1])]
/-- law, block 13 -/
noncomputable def b_301_13 : List En := [(573, .goto 3359, 3, [178])]
/-- law, block 14 -/
noncomputable def b_301_14 : List En := [(576, .aload 1, 1, []), (577, .aload 0, 1, []), (578, .iload 5, 2, []), (580, .iconst 1, 1, []), (581, .iadd, 1, []), (582, .iaload, 1, []), (583, .aload 0, 1, []), (584, .iload 5, 2, []), (586, .iconst 2, 1, []), (587, .iadd, 1, []), (588, .iaload, 1, []), (589, .aload 0, 1, []), (590, .iload 5, 2, []), (592, .iconst 3, 1, []), (593, .iadd, 1, []), (594, .iaload, 1, []), (595, .aload 0, 1, []), (596, .iload 5, 2, []), (598, .iconst 4, 1, []), (599, .iadd, 1, []), (600, .iaload, 1, []), (601, .aload 0, 1, []), (602, .iload 5, 2, []), (604, .iconst 5, 1, []), (605, .iadd, 1, []), (606, .iaload, 1, []), (607, .aload 3, 1, []), (608, .invokestatic 197, 3, [257, 7, 0, 245]), (611, .istore 6, 2, []), (613, .aload 2, 1, []), (614, .aload 0, 1, []), (615, .iload 5, 2, []), (617, .iconst 1, 1, []), (618, .iadd, 1, []), (619, .iaload, 1, []), (620, .aload 0, 1, []), (621, .iload 5, 2, []), (623, .iconst 2, 1, []), (624, .iadd, 1, []), (625, .iaload, 1, []), (626, .aload 0, 1, []), (627, .iload 5, 2, []), (629, .iconst 3, 1, []), (630, .iadd, 1, []), (631, .iaload, 1, []), (632, .aload 0, 1, []), (633, .iload 5, 2, []), (635, .iconst 4, 1, []), (636, .iadd, 1, []), (637, .iaload, 1, []), (638, .aload 0, 1, []), (639, .iload 5, 2, []), (641, .iconst 5, 1, []), (642, .iadd, 1, []), (643, .iaload, 1, []), (644, .invokevirtual 200, 3, [185, 6, 9, 246]), (647, .istore 7, 2, []), (649, .aload 2, 1, []), (650, .invokevirtual 183, 3, [156, 1, 9, 238]), (653, .iload 6, 2, []), (655, .if_icmp .eq 5, 3, [15]), (658, .iconst 0, 1, []), (659, .ireturn, 1, [1])]
/-- law, block 15 -/
noncomputable def b_301_15 : List En := [(660, .iload 6, 2, []), (662, .ifCond .ne 15, 3, [16]), (665, .aload 3, 1, []), (666, .iconst 0, 1, []), (667, .laload, 1, []), (668, .iload 7, 2, []), (670, .i2l, 1, []), (671, .lcmp, 1, []), (672, .ifCond .eq 5, 3, [16]), (675, .iconst 0, 1, []), (676, .ireturn, 1, [1])]
/-- law, block 16 -/
noncomputable def b_301_16 : List En := [(677, .goto 3255, 3, [178])]
/-- law, block 17 -/
noncomputable def b_301_17 : List En := [(680, .aload 1, 1, []), (681, .aload 0, 1, []), (682, .iload 5, 2, []), (684, .iconst 1, 1, []), (685, .iadd, 1, []), (686, .iaload, 1, []), (687, .aload 0, 1, []), (688, .iload 5, 2, []), (690, .iconst 2, 1, []), (691, .iadd, 1, []), (692, .iaload, 1, []), (693, .aload 0, 1, []), (694, .iload 5, 2, []), (696, .iconst 3, 1, []), (697, .iadd, 1, []), (698, .iaload, 1, []), (699, .aload 0, 1, []), (700, .iload 5, 2, []), (702, .iconst 4, 1, []), (703, .iadd, 1, []), (704, .iaload, 1, []), (705, .aload 3, 1, []), (706, .invokestatic 201, 3, [258, 6, 0, 247]), (709, .istore 6, 2, []), (711, .aload 2, 1, []), (712, .aload 0, 1, []), (713, .iload 5, 2, []), (715, .iconst 1, 1, []), (716, .iadd, 1, []), (717, .iaload, 1, []), (718, .aload 0, 1, []), (719, .iload 5, 2, []), (721, .iconst 2, 1, []), (722, .iadd, 1, []), (723, .iaload, 1, []), (724, .aload 0, 1, []), (725, .iload 5, 2, []), (727, .iconst 3, 1, []), (728, .iadd, 1, []), (729, .iaload, 1, []), (730, .aload 0, 1, []), (731, .iload 5, 2, []), (733, .iconst 4, 1, []), (734, .iadd, 1, []), (735, .iaload, 1, []), (736, .invokevirtual 203, 3, [186, 5, 9, 248]), (739, .istore 7, 2, []), (741, .aload 2, 1, []), (742, .invokevirtual 183, 3, [156, 1, 9, 238]), (745, .iload 6, 2, []), (747, .if_icmp .eq 5, 3, [18]), (750, .iconst 0, 1, []), (751, .ireturn, 1, [1])]
/-- law, block 18 -/
noncomputable def b_301_18 : List En := [(752, .iload 6, 2, []), (754, .ifCond .ne 15, 3, [19]), (757, .aload 3, 1, []), (758, .iconst 0, 1, []), (759, .laload, 1, []), (760, .iload 7, 2, []), (762, .i2l, 1, []), (763, .lcmp, 1, []), (764, .ifCond .eq 5, 3, [19]), (767, .iconst 0, 1, []), (768, .ireturn, 1, [1])]
/-- law, block 19 -/
noncomputable def b_301_19 : List En := [(769, .goto 3163, 3, [178])]
/-- law, block 20 -/
noncomputable def b_301_20 : List En := [(772, .aload 1, 1, []), (773, .aload 0, 1, []), (774, .iload 5, 2, []), (776, .iconst 1, 1, []), (777, .iadd, 1, []), (778, .iaload, 1, []), (779, .aload 0, 1, []), (780, .iload 5, 2, []), (782, .iconst 2, 1, []), (783, .iadd, 1, []), (784, .iaload, 1, []), (785, .aload 0, 1, []), (786, .iload 5, 2, []), (788, .iconst 3, 1, []), (789, .iadd, 1, []), (790, .iaload, 1, []), (791, .aload 0, 1, []), (792, .iload 5, 2, []), (794, .iconst 4, 1, []), (795, .iadd, 1, []), (796, .iaload, 1, []), (797, .aload 3, 1, []), (798, .invokestatic 204, 3, [259, 6, 0, 249]), (801, .istore 6, 2, []), (803, .aload 2, 1, []), (804, .aload 0, 1, []), (805, .iload 5, 2, []), (807, .iconst 1, 1, []), (808, .iadd, 1, []), (809, .iaload, 1, []), (810, .aload 0, 1, []), (811, .iload 5, 2, []), (813, .iconst 2, 1, []), (814, .iadd, 1, []), (815, .iaload, 1, []), (816, .aload 0, 1, []), (817, .iload 5, 2, []), (819, .iconst 3, 1, []), (820, .iadd, 1, []), (821, .iaload, 1, []), (822, .aload 0, 1, []), (823, .iload 5, 2, []), (825, .iconst 4, 1, []), (826, .iadd, 1, []), (827, .iaload, 1, []), (828, .invokevirtual 206, 3, [187, 5, 9, 250]), (831, .istore 7, 2, []), (833, .aload 2, 1, []), (834, .invokevirtual 183, 3, [156, 1, 9, 238]), (837, .iload 6, 2, []), (839, .if_icmp .eq 5, 3, [21]), (842, .iconst 0, 1, []), (843, .ireturn, 1, [1])]
/-- law, block 21 -/
noncomputable def b_301_21 : List En := [(844, .iload 6, 2, []), (846, .ifCond .ne 15, 3, [22]), (849, .aload 3, 1, []), (850, .iconst 0, 1, []), (851, .laload, 1, []), (852, .iload 7, 2, []), (854, .i2l, 1, []), (855, .lcmp, 1, []), (856, .ifCond .eq 5, 3, [22]), (859, .iconst 0, 1, []), (860, .ireturn, 1, [1])]
/-- law, block 22 -/
noncomputable def b_301_22 : List En := [(861, .goto 3071, 3, [178])]
/-- law, block 23 -/
noncomputable def b_301_23 : List En := [(864, .aload 1, 1, []), (865, .aload 0, 1, []), (866, .iload 5, 2, []), (868, .iconst 1, 1, []), (869, .iadd, 1, []), (870, .iaload, 1, []), (871, .aload 0, 1, []), (872, .iload 5, 2, []), (874, .iconst 2, 1, []), (875, .iadd, 1, []), (876, .iaload, 1, []), (877, .aload 0, 1, []), (878, .iload 5, 2, []), (880, .iconst 3, 1, []), (881, .iadd, 1, []), (882, .iaload, 1, []), (883, .aload 3, 1, []), (884, .invokestatic 207, 3, [260, 5, 0, 251]), (887, .istore 6, 2, []), (889, .aload 2, 1, []), (890, .aload 0, 1, []), (891, .iload 5, 2, []), (893, .iconst 1, 1, []), (894, .iadd, 1, []), (895, .iaload, 1, []), (896, .aload 0, 1, []), (897, .iload 5, 2, []), (899, .iconst 2, 1, []), (900, .iadd, 1, []), (901, .iaload, 1, []), (902, .aload 0, 1, []), (903, .iload 5, 2, []), (905, .iconst 3, 1, []), (906, .iadd, 1, []), (907, .iaload, 1, []), (908, .invokevirtual 209, 3, [189, 4, 9, 252]), (911, .istore 7, 2, []), (913, .aload 2, 1, []), (914, .invokevirtual 183, 3, [156, 1, 9, 238]), (917, .iload 6, 2, []), (919, .if_icmp .eq 5, 3, [24]), (922, .iconst 0, 1, []), (923, .ireturn, 1, [1])]
/-- law, block 24 -/
noncomputable def b_301_24 : List En := [(924, .iload 6, 2, []), (926, .ifCond .ne 15, 3, [25]), (929, .aload 3, 1, []), (930, .iconst 0, 1, []), (931, .laload, 1, []), (932, .iload 7, 2, []), (934, .i2l, 1, []), (935, .lcmp, 1, []), (936, .ifCond .eq 5, 3, [25]), (939, .iconst 0, 1, []), (940, .ireturn, 1, [1])]
/-- law, block 25 -/
noncomputable def b_301_25 : List En := [(941, .goto 2991, 3, [178])]
/-- law, block 26 -/
noncomputable def b_301_26 : List En := [(944, .aload 1, 1, []), (945, .aload 0, 1, []), (946, .iload 5, 2, []), (948, .iconst 1, 1, []), (949, .iadd, 1, []), (950, .iaload, 1, []), (951, .aload 3, 1, []), (952, .invokestatic 210, 3, [261, 3, 0, 253]), (955, .istore 6, 2, []), (957, .aload 2, 1, []), (958, .aload 0, 1, []), (959, .iload 5, 2, []), (961, .iconst 1, 1, []), (962, .iadd, 1, []), (963, .iaload, 1, []), (964, .invokevirtual 212, 3, [190, 2, 9, 254]), (967, .istore 7, 2, []), (969, .aload 2, 1, []), (970, .invokevirtual 183, 3, [156, 1, 9, 238]), (973, .iload 6, 2, []), (975, .if_icmp .eq 5, 3, [27]), (978, .iconst 0, 1, []), (979, .ireturn, 1, [1])]
/-- law, block 27 -/
noncomputable def b_301_27 : List En := [(980, .iload 6, 2, []), (982, .ifCond .ne 15, 3, [28]), (985, .aload 3, 1, []), (986, .iconst 0, 1, []), (987, .laload, 1, []), (988, .iload 7, 2, []), (990, .i2l, 1, []), (991, .lcmp, 1, []), (992, .ifCond .eq 5, 3, [28]), (995, .iconst 0, 1, []), (996, .ireturn, 1, [1])]
/-- law, block 28 -/
noncomputable def b_301_28 : List En := [(997, .goto 2935, 3, [178])]
/-- law, block 29 -/
noncomputable def b_301_29 : List En := [(1000, .aload 1, 1, []), (1001, .aload 0, 1, []), (1002, .iload 5, 2, []), (1004, .iconst 1, 1, []), (1005, .iadd, 1, []), (1006, .iaload, 1, []), (1007, .aload 0, 1, []), (1008, .iload 5, 2, []), (1010, .iconst 2, 1, []), (1011, .iadd, 1, []), (1012, .iaload, 1, []), (1013, .aload 3, 1, []), (1014, .invokestatic 213, 3, [262, 4, 0, 255]), (1017, .istore 6, 2, []), (1019, .aload 2, 1, []), (1020, .aload 0, 1, []), (1021, .iload 5, 2, []), (1023, .iconst 1, 1, []), (1024, .iadd, 1, []), (1025, .iaload, 1, []), (1026, .aload 0, 1, []), (1027, .iload 5, 2, []), (1029, .iconst 2, 1, []), (1030, .iadd, 1, []), (1031, .iaload, 1, []), (1032, .invokevirtual 216, 3, [191, 3, 9, 256]), (1035, .istore 7, 2, []), (1037, .aload 2, 1, []), (1038, .invokevirtual 183, 3, [156, 1, 9, 238]), (1041, .iload 6, 2, []), (1043, .if_icmp .eq 5, 3, [30]), (1046, .iconst 0, 1, []), (1047, .ireturn, 1, [1])]
/-- law, block 30 -/
noncomputable def b_301_30 : List En := [(1048, .iload 6, 2, []), (1050, .ifCond .ne 15, 3, [31]), (1053, .aload 3, 1, []), (1054, .iconst 0, 1, []), (1055, .laload, 1, []), (1056, .iload 7, 2, []), (1058, .i2l, 1, []), (1059, .lcmp, 1, []), (1060, .ifCond .eq 5, 3, [31]), (1063, .iconst 0, 1, []), (1064, .ireturn, 1, [1])]
/-- law, block 31 -/
noncomputable def b_301_31 : List En := [(1065, .goto 2867, 3, [178])]
/-- law, block 32 -/
noncomputable def b_301_32 : List En := [(1068, .aload 1, 1, []), (1069, .aload 0, 1, []), (1070, .iload 5, 2, []), (1072, .iconst 1, 1, []), (1073, .iadd, 1, []), (1074, .iaload, 1, []), (1075, .aload 0, 1, []), (1076, .iload 5, 2, []), (1078, .iconst 2, 1, []), (1079, .iadd, 1, []), (1080, .iaload, 1, []), (1081, .aload 0, 1, []), (1082, .iload 5, 2, []), (1084, .iconst 3, 1, []), (1085, .iadd, 1, []), (1086, .iaload, 1, []), (1087, .ifCond .eq 7, 3, [33]), (1090, .iconst 1, 1, []), (1091, .goto 4, 3, [34])]
/-- law, block 33 -/
noncomputable def b_301_33 : List En := [(1094, .iconst 0, 1, []), (1095, .nop, 0, [34])]
/-- law, block 34 -/
noncomputable def b_301_34 : List En := [(1095, .aload 3, 1, []), (1096, .invokestatic 217, 3, [263, 5, 0, 257]), (1099, .istore 6, 2, []), (1101, .aload 2, 1, []), (1102, .aload 0, 1, []), (1103, .iload 5, 2, []), (1105, .iconst 1, 1, []), (1106, .iadd, 1, []), (1107, .iaload, 1, []), (1108, .aload 0, 1, []), (1109, .iload 5, 2, []), (1111, .iconst 2, 1, []), (1112, .iadd, 1, []), (1113, .iaload, 1, []), (1114, .aload 0, 1, []), (1115, .iload 5, 2, []), (1117, .iconst 3, 1, []), (1118, .iadd, 1, []), (1119, .iaload, 1, []), (1120, .ifCond .eq 7, 3, [35]), (1123, .iconst 1, 1, []), (1124, .goto 4, 3, [36])]
/-- law, block 35 -/
noncomputable def b_301_35 : List En := [(1127, .iconst 0, 1, []), (1128, .nop, 0, [36])]
/-- law, block 36 -/
noncomputable def b_301_36 : List En := [(1128, .invokevirtual 220, 3, [192, 4, 9, 258]), (1131, .istore 7, 2, []), (1133, .aload 2, 1, []), (1134, .invokevirtual 183, 3, [156, 1, 9, 238]), (1137, .iload 6, 2, []), (1139, .if_icmp .eq 5, 3, [37]), (1142, .iconst 0, 1, []), (1143, .ireturn, 1, [1])]
/-- law, block 37 -/
noncomputable def b_301_37 : List En := [(1144, .iload 6, 2, []), (1146, .ifCond .ne 22, 3, [40]), (1149, .aload 3, 1, []), (1150, .iconst 0, 1, []), (1151, .laload, 1, []), (1152, .iload 7, 2, []), (1154, .ifCond .eq 7, 3, [38]), (1157, .bipush 1, 1, []), (1158, .goto 4, 3, [39])]
/-- law, block 38 -/
noncomputable def b_301_38 : List En := [(1161, .bipush 0, 1, []), (1162, .nop, 0, [39])]
/-- law, block 39 -/
noncomputable def b_301_39 : List En := [(1162, .lcmp, 1, []), (1163, .ifCond .eq 5, 3, [40]), (1166, .iconst 0, 1, []), (1167, .ireturn, 1, [1])]
/-- law, block 40 -/
noncomputable def b_301_40 : List En := [(1168, .goto 2764, 3, [178])]
/-- law, block 41 -/
noncomputable def b_301_41 : List En := [(1171, .aload 1, 1, []), (1172, .aload 0, 1, []), (1173, .iload 5, 2, []), (1175, .iconst 1, 1, []), (1176, .iadd, 1, []), (1177, .iaload, 1, []), (1178, .aload 0, 1, []), (1179, .iload 5, 2, []), (1181, .iconst 2, 1, []), (1182, .iadd, 1, []), (1183, .iaload, 1, []), (1184, .aload 0, 1, []), (1185, .iload 5, 2, []), (1187, .iconst 3, 1, []), (1188, .iadd, 1, []), (1189, .iaload, 1, []), (1190, .aload 3, 1, []), (1191, .invokestatic 221, 3, [264, 5, 0, 259]), (1194, .istore 6, 2, []), (1196, .aload 2, 1, []), (1197, .aload 0, 1, []), (1198, .iload 5, 2, []), (1200, .iconst 1, 1, []), (1201, .iadd, 1, []), (1202, .iaload, 1, []), (1203, .aload 0, 1, []), (1204, .iload 5, 2, []), (1206, .iconst 2, 1, []), (1207, .iadd, 1, []), (1208, .iaload, 1, []), (1209, .aload 0, 1, []), (1210, .iload 5, 2, []), (1212, .iconst 3, 1, []), (1213, .iadd, 1, []), (1214, .iaload, 1, []), (1215, .invokevirtual 223, 3, [193, 4, 9, 260]), (1218, .istore 7, 2, []), (1220, .aload 2, 1, []), (1221, .invokevirtual 183, 3, [156, 1, 9, 238]), (1224, .iload 6, 2, []), (1226, .if_icmp .eq 5, 3, [42]), (1229, .iconst 0, 1, []), (1230, .ireturn, 1, [1])]
/-- law, block 42 -/
noncomputable def b_301_42 : List En := [(1231, .iload 6, 2, []), (1233, .ifCond .ne 15, 3, [43]), (1236, .aload 3, 1, []), (1237, .iconst 0, 1, []), (1238, .laload, 1, []), (1239, .iload 7, 2, []), (1241, .i2l, 1, []), (1242, .lcmp, 1, []), (1243, .ifCond .eq 5, 3, [43]), (1246, .iconst 0, 1, []), (1247, .ireturn, 1, [1])]
/-- law, block 43 -/
noncomputable def b_301_43 : List En := [(1248, .goto 2684, 3, [178])]
/-- law, block 44 -/
noncomputable def b_301_44 : List En := [(1251, .aload 1, 1, []), (1252, .aload 0, 1, []), (1253, .iload 5, 2, []), (1255, .iconst 1, 1, []), (1256, .iadd, 1, []), (1257, .iaload, 1, []), (1258, .aload 0, 1, []), (1259, .iload 5, 2, []), (1261, .iconst 2, 1, []), (1262, .iadd, 1, []), (1263, .iaload, 1, []), (1264, .aload 0, 1, []), (1265, .iload 5, 2, []), (1267, .iconst 3, 1, []), (1268, .iadd, 1, []), (1269, .iaload, 1, []), (1270, .aload 0, 1, []), (1271, .iload 5, 2, []), (1273, .iconst 4, 1, []), (1274, .iadd, 1, []), (1275, .iaload, 1, []), (1276, .aload 0, 1, []), (1277, .iload 5, 2, []), (1279, .iconst 5, 1, []), (1280, .iadd, 1, []), (1281, .iaload, 1, []), (1282, .aload 3, 1, []), (1283, .invokestatic 224, 3, [265, 7, 0, 261]), (1286, .istore 6, 2, []), (1288, .aload 2, 1, []), (1289, .aload 0, 1, []), (1290, .iload 5, 2, []), (1292, .iconst 1, 1, []), (1293, .iadd, 1, []), (1294, .iaload, 1, []), (1295, .aload 0, 1, []), (1296, .iload 5, 2, []), (1298, .iconst 2, 1, []), (1299, .iadd, 1, []), (1300, .iaload, 1, []), (1301, .aload 0, 1, []), (1302, .iload 5, 2, []), (1304, .iconst 3, 1, []), (1305, .iadd, 1, []), (1306, .iaload, 1, []), (1307, .aload 0, 1, []), (1308, .iload 5, 2, []), (1310, .iconst 4, 1, []), (1311, .iadd, 1, []), (1312, .iaload, 1, []), (1313, .aload 0, 1, []), (1314, .iload 5, 2, []), (1316, .iconst 5, 1, []), (1317, .iadd, 1, []), (1318, .iaload, 1, []), (1319, .invokevirtual 226, 3, [194, 6, 9, 262]), (1322, .istore 7, 2, []), (1324, .aload 2, 1, []), (1325, .invokevirtual 183, 3, [156, 1, 9, 238]), (1328, .iload 6, 2, []), (1330, .if_icmp .eq 5, 3, [45]), (1333, .iconst 0, 1, []), (1334, .ireturn, 1, [1])]
/-- law, block 45 -/
noncomputable def b_301_45 : List En := [(1335, .iload 6, 2, []), (1337, .ifCond .ne 15, 3, [46]), (1340, .aload 3, 1, []), (1341, .iconst 0, 1, []), (1342, .laload, 1, []), (1343, .iload 7, 2, []), (1345, .i2l, 1, []), (1346, .lcmp, 1, []), (1347, .ifCond .eq 5, 3, [46]), (1350, .iconst 0, 1, []), (1351, .ireturn, 1, [1])]
/-- law, block 46 -/
noncomputable def b_301_46 : List En := [(1352, .goto 2580, 3, [178])]
/-- law, block 47 -/
noncomputable def b_301_47 : List En := [(1355, .aload 1, 1, []), (1356, .aload 0, 1, []), (1357, .iload 5, 2, []), (1359, .iconst 1, 1, []), (1360, .iadd, 1, []), (1361, .iaload, 1, []), (1362, .aload 3, 1, []), (1363, .invokestatic 227, 3, [266, 3, 0, 263]), (1366, .istore 6, 2, []), (1368, .aload 2, 1, []), (1369, .aload 0, 1, []), (1370, .iload 5, 2, []), (1372, .iconst 1, 1, []), (1373, .iadd, 1, []), (1374, .iaload, 1, []), (1375, .invokevirtual 229, 3, [195, 2, 9, 264]), (1378, .istore 7, 2, []), (1380, .aload 2, 1, []), (1381, .invokevirtual 183, 3, [156, 1, 9, 238]), (1384, .iload 6, 2, []), (1386, .if_icmp .eq 5, 3, [48]), (1389, .iconst 0, 1, []), (1390, .ireturn, 1, [1])]
/-- law, block 48 -/
noncomputable def b_301_48 : List En := [(1391, .iload 6, 2, []), (1393, .ifCond .ne 15, 3, [49]), (1396, .aload 3, 1, []), (1397, .iconst 0, 1, []), (1398, .laload, 1, []), (1399, .iload 7, 2, []), (1401, .i2l, 1, []), (1402, .lcmp, 1, []), (1403, .ifCond .eq 5, 3, [49]), (1406, .iconst 0, 1, []), (1407, .ireturn, 1, [1])]
/-- law, block 49 -/
noncomputable def b_301_49 : List En := [(1408, .goto 2524, 3, [178])]
/-- law, block 50 -/
noncomputable def b_301_50 : List En := [(1411, .aload 1, 1, []), (1412, .aload 0, 1, []), (1413, .iload 5, 2, []), (1415, .iconst 1, 1, []), (1416, .iadd, 1, []), (1417, .iaload, 1, []), (1418, .aload 0, 1, []), (1419, .iload 5, 2, []), (1421, .iconst 2, 1, []), (1422, .iadd, 1, []), (1423, .iaload, 1, []), (1424, .aload 3, 1, []), (1425, .invokestatic 230, 3, [267, 4, 0, 265]), (1428, .istore 6, 2, []), (1430, .aload 2, 1, []), (1431, .aload 0, 1, []), (1432, .iload 5, 2, []), (1434, .iconst 1, 1, []), (1435, .iadd, 1, []), (1436, .iaload, 1, []), (1437, .aload 0, 1, []), (1438, .iload 5, 2, []), (1440, .iconst 2, 1, []), (1441, .iadd, 1, []), (1442, .iaload, 1, []), (1443, .invokevirtual 232, 3, [196, 3, 9, 266]), (1446, .istore 7, 2, []), (1448, .aload 2, 1, []), (1449, .invokevirtual 183, 3, [156, 1, 9, 238]), (1452, .iload 6, 2, []), (1454, .if_icmp .eq 5, 3, [51]), (1457, .iconst 0, 1, []), (1458, .ireturn, 1, [1])]
/-- law, block 51 -/
noncomputable def b_301_51 : List En := [(1459, .iload 6, 2, []), (1461, .ifCond .ne 15, 3, [52]), (1464, .aload 3, 1, []), (1465, .iconst 0, 1, []), (1466, .laload, 1, []), (1467, .iload 7, 2, []), (1469, .i2l, 1, []), (1470, .lcmp, 1, []), (1471, .ifCond .eq 5, 3, [52]), (1474, .iconst 0, 1, []), (1475, .ireturn, 1, [1])]
/-- law, block 52 -/
noncomputable def b_301_52 : List En := [(1476, .goto 2456, 3, [178])]
/-- law, block 53 -/
noncomputable def b_301_53 : List En := [(1479, .aload 1, 1, []), (1480, .aload 0, 1, []), (1481, .iload 5, 2, []), (1483, .iconst 1, 1, []), (1484, .iadd, 1, []), (1485, .iaload, 1, []), (1486, .aload 0, 1, []), (1487, .iload 5, 2, []), (1489, .iconst 2, 1, []), (1490, .iadd, 1, []), (1491, .iaload, 1, []), (1492, .aload 3, 1, []), (1493, .invokestatic 233, 3, [268, 4, 0, 267]), (1496, .istore 6, 2, []), (1498, .aload 2, 1, []), (1499, .aload 0, 1, []), (1500, .iload 5, 2, []), (1502, .iconst 1, 1, []), (1503, .iadd, 1, []), (1504, .iaload, 1, []), (1505, .aload 0, 1, []), (1506, .iload 5, 2, []), (1508, .iconst 2, 1, []), (1509, .iadd, 1, []), (1510, .iaload, 1, []), (1511, .invokevirtual 235, 3, [198, 3, 9, 268]), (1514, .istore 7, 2, []), (1516, .aload 2, 1, []), (1517, .invokevirtual 183, 3, [156, 1, 9, 238]), (1520, .iload 6, 2, []), (1522, .if_icmp .eq 5, 3, [54]), (1525, .iconst 0, 1, []), (1526, .ireturn, 1, [1])]
/-- law, block 54 -/
noncomputable def b_301_54 : List En := [(1527, .iload 6, 2, []), (1529, .ifCond .ne 15, 3, [55]), (1532, .aload 3, 1, []), (1533, .iconst 0, 1, []), (1534, .laload, 1, []), (1535, .iload 7, 2, []), (1537, .i2l, 1, []), (1538, .lcmp, 1, []), (1539, .ifCond .eq 5, 3, [55]), (1542, .iconst 0, 1, []), (1543, .ireturn, 1, [1])]
/-- law, block 55 -/
noncomputable def b_301_55 : List En := [(1544, .goto 2388, 3, [178])]
/-- law, block 56 -/
noncomputable def b_301_56 : List En := [(1547, .aload 1, 1, []), (1548, .aload 0, 1, []), (1549, .iload 5, 2, []), (1551, .iconst 1, 1, []), (1552, .iadd, 1, []), (1553, .iaload, 1, []), (1554, .aload 0, 1, []), (1555, .iload 5, 2, []), (1557, .iconst 2, 1, []), (1558, .iadd, 1, []), (1559, .iaload, 1, []), (1560, .aload 0, 1, []), (1561, .iload 5, 2, []), (1563, .iconst 3, 1, []), (1564, .iadd, 1, []), (1565, .iaload, 1, []), (1566, .aload 3, 1, []), (1567, .invokestatic 236, 3, [269, 5, 0, 269]), (1570, .istore 6, 2, []), (1572, .aload 2, 1, []), (1573, .aload 0, 1, []), (1574, .iload 5, 2, []), (1576, .iconst 1, 1, []), (1577, .iadd, 1, []), (1578, .iaload, 1, []), (1579, .aload 0, 1, []), (1580, .iload 5, 2, []), (1582, .iconst 2, 1, []), (1583, .iadd, 1, []), (1584, .iaload, 1, []), (1585, .aload 0, 1, []), (1586, .iload 5, 2, []), (1588, .iconst 3, 1, []), (1589, .iadd, 1, []), (1590, .iaload, 1, []), (1591, .invokevirtual 238, 3, [199, 4, 9, 270]), (1594, .istore 7, 2, []), (1596, .aload 2, 1, []), (1597, .invokevirtual 183, 3, [156, 1, 9, 238]), (1600, .iload 6, 2, []), (1602, .if_icmp .eq 5, 3, [57]), (1605, .iconst 0, 1, []), (1606, .ireturn, 1, [1])]
/-- law, block 57 -/
noncomputable def b_301_57 : List En := [(1607, .iload 6, 2, []), (1609, .ifCond .ne 15, 3, [58]), (1612, .aload 3, 1, []), (1613, .iconst 0, 1, []), (1614, .laload, 1, []), (1615, .iload 7, 2, []), (1617, .i2l, 1, []), (1618, .lcmp, 1, []), (1619, .ifCond .eq 5, 3, [58]), (1622, .iconst 0, 1, []), (1623, .ireturn, 1, [1])]
/-- law, block 58 -/
noncomputable def b_301_58 : List En := [(1624, .goto 2308, 3, [178])]
/-- law, block 59 -/
noncomputable def b_301_59 : List En := [(1627, .aload 1, 1, []), (1628, .aload 0, 1, []), (1629, .iload 5, 2, []), (1631, .iconst 1, 1, []), (1632, .iadd, 1, []), (1633, .iaload, 1, []), (1634, .aload 3, 1, []), (1635, .invokestatic 239, 3, [270, 3, 0, 271]), (1638, .istore 6, 2, []), (1640, .aload 2, 1, []), (1641, .aload 0, 1, []), (1642, .iload 5, 2, []), (1644, .iconst 1, 1, []), (1645, .iadd, 1, []), (1646, .iaload, 1, []), (1647, .invokevirtual 241, 3, [200, 2, 9, 272]), (1650, .istore 7, 2, []), (1652, .aload 2, 1, []), (1653, .invokevirtual 183, 3, [156, 1, 9, 238]), (1656, .iload 6, 2, []), (1658, .if_icmp .eq 5, 3, [60]), (1661, .iconst 0, 1, []), (1662, .ireturn, 1, [1])]
/-- law, block 60 -/
noncomputable def b_301_60 : List En := [(1663, .iload 6, 2, []), (1665, .ifCond .ne 15, 3, [61]), (1668, .aload 3, 1, []), (1669, .iconst 0, 1, []), (1670, .laload, 1, []), (1671, .iload 7, 2, []), (1673, .i2l, 1, []), (1674, .lcmp, 1, []), (1675, .ifCond .eq 5, 3, [61]), (1678, .iconst 0, 1, []), (1679, .ireturn, 1, [1])]
/-- law, block 61 -/
noncomputable def b_301_61 : List En := [(1680, .goto 2252, 3, [178])]
/-- law, block 62 -/
noncomputable def b_301_62 : List En := [(1683, .aload 1, 1, []), (1684, .aload 0, 1, []), (1685, .iload 5, 2, []), (1687, .iconst 1, 1, []), (1688, .iadd, 1, []), (1689, .iaload, 1, []), (1690, .aload 0, 1, []), (1691, .iload 5, 2, []), (1693, .iconst 2, 1, []), (1694, .iadd, 1, []), (1695, .iaload, 1, []), (1696, .aload 0, 1, []), (1697, .iload 5, 2, []), (1699, .iconst 3, 1, []), (1700, .iadd, 1, []), (1701, .iaload, 1, []), (1702, .aload 3, 1, []), (1703, .invokestatic 242, 3, [271, 5, 0, 273]), (1706, .istore 6, 2, []), (1708, .aload 2, 1, []), (1709, .aload 0, 1, []), (1710, .iload 5, 2, []), (1712, .iconst 1, 1, []), (1713, .iadd, 1, []), (1714, .iaload, 1, []), (1715, .aload 0, 1, []), (1716, .iload 5, 2, []), (1718, .iconst 2, 1, []), (1719, .iadd, 1, []), (1720, .iaload, 1, []), (1721, .aload 0, 1, []), (1722, .iload 5, 2, []), (1724, .iconst 3, 1, []), (1725, .iadd, 1, []), (1726, .iaload, 1, []), (1727, .invokevirtual 244, 3, [201, 4, 9, 274]), (1730, .istore 7, 2, []), (1732, .aload 2, 1, []), (1733, .invokevirtual 183, 3, [156, 1, 9, 238]), (1736, .iload 6, 2, []), (1738, .if_icmp .eq 5, 3, [63]), (1741, .iconst 0, 1, []), (1742, .ireturn, 1, [1])]
/-- law, block 63 -/
noncomputable def b_301_63 : List En := [(1743, .iload 6, 2, []), (1745, .ifCond .ne 15, 3, [64]), (1748, .aload 3, 1, []), (1749, .iconst 0, 1, []), (1750, .laload, 1, []), (1751, .iload 7, 2, []), (1753, .i2l, 1, []), (1754, .lcmp, 1, []), (1755, .ifCond .eq 5, 3, [64]), (1758, .iconst 0, 1, []), (1759, .ireturn, 1, [1])]
/-- law, block 64 -/
noncomputable def b_301_64 : List En := [(1760, .goto 2172, 3, [178])]
/-- law, block 65 -/
noncomputable def b_301_65 : List En := [(1763, .aload 1, 1, []), (1764, .aload 0, 1, []), (1765, .iload 5, 2, []), (1767, .iconst 1, 1, []), (1768, .iadd, 1, []), (1769, .iaload, 1, []), (1770, .aload 3, 1, []), (1771, .invokestatic 245, 3, [272, 3, 0, 275]), (1774, .istore 6, 2, []), (1776, .aload 2, 1, []), (1777, .aload 0, 1, []), (1778, .iload 5, 2, []), (1780, .iconst 1, 1, []), (1781, .iadd, 1, []), (1782, .iaload, 1, []), (1783, .invokevirtual 247, 3, [203, 2, 9, 276]), (1786, .istore 7, 2, []), (1788, .aload 2, 1, []), (1789, .invokevirtual 183, 3, [156, 1, 9, 238]), (1792, .iload 6, 2, []), (1794, .if_icmp .eq 5, 3, [66]), (1797, .iconst 0, 1, []), (1798, .ireturn, 1, [1])]
/-- law, block 66 -/
noncomputable def b_301_66 : List En := [(1799, .iload 6, 2, []), (1801, .ifCond .ne 15, 3, [67]), (1804, .aload 3, 1, []), (1805, .iconst 0, 1, []), (1806, .laload, 1, []), (1807, .iload 7, 2, []), (1809, .i2l, 1, []), (1810, .lcmp, 1, []), (1811, .ifCond .eq 5, 3, [67]), (1814, .iconst 0, 1, []), (1815, .ireturn, 1, [1])]
/-- law, block 67 -/
noncomputable def b_301_67 : List En := [(1816, .goto 2116, 3, [178])]
/-- law, block 68 -/
noncomputable def b_301_68 : List En := [(1819, .aload 1, 1, []), (1820, .aload 3, 1, []), (1821, .invokestatic 248, 3, [273, 2, 0, 277]), (1824, .istore 6, 2, []), (1826, .aload 2, 1, []), (1827, .invokevirtual 251, 3, [204, 1, 9, 278]), (1830, .istore 7, 2, []), (1832, .aload 2, 1, []), (1833, .invokevirtual 183, 3, [156, 1, 9, 238]), (1836, .iload 6, 2, []), (1838, .if_icmp .eq 5, 3, [69]), (1841, .iconst 0, 1, []), (1842, .ireturn, 1, [1])]
/-- law, block 69 -/
noncomputable def b_301_69 : List En := [(1843, .iload 6, 2, []), (1845, .ifCond .ne 15, 3, [70]), (1848, .aload 3, 1, []), (1849, .iconst 0, 1, []), (1850, .laload, 1, []), (1851, .iload 7, 2, []), (1853, .i2l, 1, []), (1854, .lcmp, 1, []), (1855, .ifCond .eq 5, 3, [70]), (1858, .iconst 0, 1, []), (1859, .ireturn, 1, [1])]
/-- law, block 70 -/
noncomputable def b_301_70 : List En := [(1860, .goto 2072, 3, [178])]
/-- law, block 71 -/
noncomputable def b_301_71 : List En := [(1863, .aload 1, 1, []), (1864, .invokevirtual 252, 3, [101, 1, 8, 279]), (1867, .aload 2, 1, []), (1868, .invokevirtual 255, 3, [205, 1, 9, 280]), (1871, .if_icmp .eq 2061, 3, [178]), (1874, .iconst 0, 1, []), (1875, .ireturn, 1, [1])]
/-- law, block 72 -/
noncomputable def b_301_72 : List En := [(1876, .aload 1, 1, []), (1877, .aload 0, 1, []), (1878, .iload 5, 2, []), (1880, .iconst 1, 1, []), (1881, .iadd, 1, []), (1882, .iaload, 1, []), (1883, .aload 3, 1, []), (1884, .invokestatic 256, 3, [274, 3, 0, 281]), (1887, .istore 6, 2, []), (1889, .aload 2, 1, []), (1890, .aload 0, 1, []), (1891, .iload 5, 2, []), (1893, .iconst 1, 1, []), (1894, .iadd, 1, []), (1895, .iaload, 1, []), (1896, .invokevirtual 258, 3, [206, 2, 9, 282]), (1899, .istore 7, 2, []), (1901, .aload 2, 1, []), (1902, .invokevirtual 183, 3, [156, 1, 9, 238]), (1905, .iload 6, 2, []), (1907, .if_icmp .eq 5, 3, [73]), (1910, .iconst 0, 1, []), (1911, .ireturn, 1, [1])]
/-- law, block 73 -/
noncomputable def b_301_73 : List En := [(1912, .iload 6, 2, []), (1914, .ifCond .ne 15, 3, [74]), (1917, .aload 3, 1, []), (1918, .iconst 0, 1, []), (1919, .laload, 1, []), (1920, .iload 7, 2, []), (1922, .i2l, 1, []), (1923, .lcmp, 1, []), (1924, .ifCond .eq 5, 3, [74]), (1927, .iconst 0, 1, []), (1928, .ireturn, 1, [1])]
/-- law, block 74 -/
noncomputable def b_301_74 : List En := [(1929, .goto 2003, 3, [178])]
/-- law, block 75 -/
noncomputable def b_301_75 : List En := [(1932, .aload 1, 1, []), (1933, .aload 0, 1, []), (1934, .iload 5, 2, []), (1936, .iconst 1, 1, []), (1937, .iadd, 1, []), (1938, .iaload, 1, []), (1939, .aload 0, 1, []), (1940, .iload 5, 2, []), (1942, .iconst 2, 1, []), (1943, .iadd, 1, []), (1944, .iaload, 1, []), (1945, .aload 3, 1, []), (1946, .invokestatic 259, 3, [275, 4, 0, 283]), (1949, .istore 6, 2, []), (1951, .aload 2, 1, []), (1952, .aload 0, 1, []), (1953, .iload 5, 2, []), (1955, .iconst 1, 1, []), (1956, .iadd, 1, []), (1957, .iaload, 1, []), (1958, .aload 0, 1, []), (1959, .iload 5, 2, []), (1961, .iconst 2, 1, []), (1962, .iadd, 1, []), (1963, .iaload, 1, []), (1964, .invokevirtual 261, 3, [207, 3, 9, 284]), (1967, .istore 7, 2, []), (1969, .aload 2, 1, []), (1970, .invokevirtual 183, 3, [156, 1, 9, 238]), (1973, .iload 6, 2, []), (1975, .if_icmp .eq 5, 3, [76]), (1978, .iconst 0, 1, []), (1979, .ireturn, 1, [1])]
/-- law, block 76 -/
noncomputable def b_301_76 : List En := [(1980, .iload 6, 2, []), (1982, .ifCond .ne 15, 3, [77]), (1985, .aload 3, 1, []), (1986, .iconst 0, 1, []), (1987, .laload, 1, []), (1988, .iload 7, 2, []), (1990, .i2l, 1, []), (1991, .lcmp, 1, []), (1992, .ifCond .eq 5, 3, [77]), (1995, .iconst 0, 1, []), (1996, .ireturn, 1, [1])]
/-- law, block 77 -/
noncomputable def b_301_77 : List En := [(1997, .goto 1935, 3, [178])]
/-- law, block 78 -/
noncomputable def b_301_78 : List En := [(2000, .aload 1, 1, []), (2001, .aload 0, 1, []), (2002, .iload 5, 2, []), (2004, .iconst 1, 1, []), (2005, .iadd, 1, []), (2006, .iaload, 1, []), (2007, .aload 3, 1, []), (2008, .invokestatic 262, 3, [276, 3, 0, 285]), (2011, .istore 6, 2, []), (2013, .aload 2, 1, []), (2014, .aload 0, 1, []), (2015, .iload 5, 2, []), (2017, .iconst 1, 1, []), (2018, .iadd, 1, []), (2019, .iaload, 1, []), (2020, .invokevirtual 264, 3, [208, 2, 9, 286]), (2023, .istore 7, 2, []), (2025, .aload 2, 1, []), (2026, .invokevirtual 183, 3, [156, 1, 9, 238]), (2029, .iload 6, 2, []), (2031, .if_icmp .eq 5, 3, [79]), (2034, .iconst 0, 1, []), (2035, .ireturn, 1, [1])]
/-- law, block 79 -/
noncomputable def b_301_79 : List En := [(2036, .iload 6, 2, []), (2038, .ifCond .ne 15, 3, [80]), (2041, .aload 3, 1, []), (2042, .iconst 0, 1, []), (2043, .laload, 1, []), (2044, .iload 7, 2, []), (2046, .i2l, 1, []), (2047, .lcmp, 1, []), (2048, .ifCond .eq 5, 3, [80]), (2051, .iconst 0, 1, []), (2052, .ireturn, 1, [1])]
/-- law, block 80 -/
noncomputable def b_301_80 : List En := [(2053, .goto 1879, 3, [178])]
/-- law, block 81 -/
noncomputable def b_301_81 : List En := [(2056, .aload 1, 1, []), (2057, .aload 0, 1, []), (2058, .iload 5, 2, []), (2060, .iconst 1, 1, []), (2061, .iadd, 1, []), (2062, .iaload, 1, []), (2063, .aload 0, 1, []), (2064, .iload 5, 2, []), (2066, .iconst 2, 1, []), (2067, .iadd, 1, []), (2068, .iaload, 1, []), (2069, .ifCond .eq 7, 3, [82]), (2072, .iconst 1, 1, []), (2073, .goto 4, 3, [83])]
/-- law, block 82 -/
noncomputable def b_301_82 : List En := [(2076, .iconst 0, 1, []), (2077, .nop, 0, [83])]
/-- law, block 83 -/
noncomputable def b_301_83 : List En := [(2077, .aload 3, 1, []), (2078, .invokestatic 265, 3, [277, 4, 0, 287]), (2081, .istore 6, 2, []), (2083, .aload 2, 1, []), (2084, .aload 0, 1, []), (2085, .iload 5, 2, []), (2087, .iconst 1, 1, []), (2088, .iadd, 1, []), (2089, .iaload, 1, []), (2090, .aload 0, 1, []), (2091, .iload 5, 2, []), (2093, .iconst 2, 1, []), (2094, .iadd, 1, []), (2095, .iaload, 1, []), (2096, .ifCond .eq 7, 3, [84]), (2099, .iconst 1, 1, []), (2100, .goto 4, 3, [85])]
/-- law, block 84 -/
noncomputable def b_301_84 : List En := [(2103, .iconst 0, 1, []), (2104, .nop, 0, [85])]
/-- law, block 85 -/
noncomputable def b_301_85 : List En := [(2104, .invokevirtual 268, 3, [209, 3, 9, 288]), (2107, .istore 7, 2, []), (2109, .aload 2, 1, []), (2110, .invokevirtual 183, 3, [156, 1, 9, 238]), (2113, .iload 6, 2, []), (2115, .if_icmp .eq 5, 3, [86]), (2118, .iconst 0, 1, []), (2119, .ireturn, 1, [1])]
/-- law, block 86 -/
noncomputable def b_301_86 : List En := [(2120, .iload 6, 2, []), (2122, .ifCond .ne 15, 3, [87]), (2125, .aload 3, 1, []), (2126, .iconst 0, 1, []), (2127, .laload, 1, []), (2128, .iload 7, 2, []), (2130, .i2l, 1, []), (2131, .lcmp, 1, []), (2132, .ifCond .eq 5, 3, [87]), (2135, .iconst 0, 1, []), (2136, .ireturn, 1, [1])]
/-- law, block 87 -/
noncomputable def b_301_87 : List En := [(2137, .goto 1795, 3, [178])]
/-- law, block 88 -/
noncomputable def b_301_88 : List En := [(2140, .aload 1, 1, []), (2141, .aload 0, 1, []), (2142, .iload 5, 2, []), (2144, .iconst 1, 1, []), (2145, .iadd, 1, []), (2146, .iaload, 1, []), (2147, .aload 0, 1, []), (2148, .iload 5, 2, []), (2150, .iconst 2, 1, []), (2151, .iadd, 1, []), (2152, .iaload, 1, []), (2153, .aload 0, 1, []), (2154, .iload 5, 2, []), (2156, .iconst 3, 1, []), (2157, .iadd, 1, []), (2158, .iaload, 1, []), (2159, .ifCond .eq 7, 3, [89]), (2162, .iconst 1, 1, []), (2163, .goto 4, 3, [90])]
/-- law, block 89 -/
noncomputable def b_301_89 : List En := [(2166, .iconst 0, 1, []), (2167, .nop, 0, [90])]
/-- law, block 90 -/
noncomputable def b_301_90 : List En := [(2167, .aload 3, 1, []), (2168, .invokestatic 269, 3, [278, 5, 0, 289]), (2171, .istore 6, 2, []), (2173, .aload 2, 1, []), (2174, .aload 0, 1, []), (2175, .iload 5, 2, []), (2177, .iconst 1, 1, []), (2178, .iadd, 1, []), (2179, .iaload, 1, []), (2180, .aload 0, 1, []), (2181, .iload 5, 2, []), (2183, .iconst 2, 1, []), (2184, .iadd, 1, []), (2185, .iaload, 1, []), (2186, .aload 0, 1, []), (2187, .iload 5, 2, []), (2189, .iconst 3, 1, []), (2190, .iadd, 1, []), (2191, .iaload, 1, []), (2192, .ifCond .eq 7, 3, [91]), (2195, .iconst 1, 1, []), (2196, .goto 4, 3, [92])]
/-- law, block 91 -/
noncomputable def b_301_91 : List En := [(2199, .iconst 0, 1, []), (2200, .nop, 0, [92])]
/-- law, block 92 -/
noncomputable def b_301_92 : List En := [(2200, .invokevirtual 271, 3, [210, 4, 9, 290]), (2203, .istore 7, 2, []), (2205, .aload 2, 1, []), (2206, .invokevirtual 183, 3, [156, 1, 9, 238]), (2209, .iload 6, 2, []), (2211, .if_icmp .eq 5, 3, [93]), (2214, .iconst 0, 1, []), (2215, .ireturn, 1, [1])]
/-- law, block 93 -/
noncomputable def b_301_93 : List En := [(2216, .iload 6, 2, []), (2218, .ifCond .ne 15, 3, [94]), (2221, .aload 3, 1, []), (2222, .iconst 0, 1, []), (2223, .laload, 1, []), (2224, .iload 7, 2, []), (2226, .i2l, 1, []), (2227, .lcmp, 1, []), (2228, .ifCond .eq 5, 3, [94]), (2231, .iconst 0, 1, []), (2232, .ireturn, 1, [1])]
/-- law, block 94 -/
noncomputable def b_301_94 : List En := [(2233, .goto 1699, 3, [178])]
/-- law, block 95 -/
noncomputable def b_301_95 : List En := [(2236, .aload 1, 1, []), (2237, .aload 0, 1, []), (2238, .iload 5, 2, []), (2240, .iconst 1, 1, []), (2241, .iadd, 1, []), (2242, .iaload, 1, []), (2243, .aload 0, 1, []), (2244, .iload 5, 2, []), (2246, .iconst 2, 1, []), (2247, .iadd, 1, []), (2248, .iaload, 1, []), (2249, .aload 0, 1, []), (2250, .iload 5, 2, []), (2252, .iconst 3, 1, []), (2253, .iadd, 1, []), (2254, .iaload, 1, []), (2255, .aload 3, 1, []), (2256, .invokestatic 272, 3, [279, 5, 0, 291]), (2259, .istore 6, 2, []), (2261, .aload 2, 1, []), (2262, .aload 0, 1, []), (2263, .iload 5, 2, []), (2265, .iconst 1, 1, []), (2266, .iadd, 1, []), (2267, .iaload, 1, []), (2268, .aload 0, 1, []), (2269, .iload 5, 2, []), (2271, .iconst 2, 1, []), (2272, .iadd, 1, []), (2273, .iaload, 1, []), (2274, .aload 0, 1, []), (2275, .iload 5, 2, []), (2277, .iconst 3, 1, []), (2278, .iadd, 1, []), (2279, .iaload, 1, []), (2280, .invokevirtual 274, 3, [211, 4, 9, 292]), (2283, .istore 7, 2, []), (2285, .aload 2, 1, []), (2286, .invokevirtual 183, 3, [156, 1, 9, 238]), (2289, .iload 6, 2, []), (2291, .if_icmp .eq 5, 3, [96]), (2294, .iconst 0, 1, []), (2295, .ireturn, 1, [1])]
/-- law, block 96 -/
noncomputable def b_301_96 : List En := [(2296, .iload 6, 2, []), (2298, .ifCond .ne 15, 3, [97]), (2301, .aload 3, 1, []), (2302, .iconst 0, 1, []), (2303, .laload, 1, []), (2304, .iload 7, 2, []), (2306, .i2l, 1, []), (2307, .lcmp, 1, []), (2308, .ifCond .eq 5, 3, [97]), (2311, .iconst 0, 1, []), (2312, .ireturn, 1, [1])]
/-- law, block 97 -/
noncomputable def b_301_97 : List En := [(2313, .goto 1619, 3, [178])]
/-- law, block 98 -/
noncomputable def b_301_98 : List En := [(2316, .aload 1, 1, []), (2317, .aload 0, 1, []), (2318, .iload 5, 2, []), (2320, .iconst 1, 1, []), (2321, .iadd, 1, []), (2322, .iaload, 1, []), (2323, .aload 3, 1, []), (2324, .invokestatic 275, 3, [280, 3, 0, 293]), (2327, .istore 6, 2, []), (2329, .aload 2, 1, []), (2330, .aload 0, 1, []), (2331, .iload 5, 2, []), (2333, .iconst 1, 1, []), (2334, .iadd, 1, []), (2335, .iaload, 1, []), (2336, .invokevirtual 277, 3, [212, 2, 9, 294]), (2339, .istore 7, 2, []), (2341, .aload 2, 1, []), (2342, .invokevirtual 183, 3, [156, 1, 9, 238]), (2345, .iload 6, 2, []), (2347, .if_icmp .eq 5, 3, [99]), (2350, .iconst 0, 1, []), (2351, .ireturn, 1, [1])]
/-- law, block 99 -/
noncomputable def b_301_99 : List En := [(2352, .iload 6, 2, []), (2354, .ifCond .ne 15, 3, [100]), (2357, .aload 3, 1, []), (2358, .iconst 0, 1, []), (2359, .laload, 1, []), (2360, .iload 7, 2, []), (2362, .i2l, 1, []), (2363, .lcmp, 1, []), (2364, .ifCond .eq 5, 3, [100]), (2367, .iconst 0, 1, []), (2368, .ireturn, 1, [1])]
/-- law, block 100 -/
noncomputable def b_301_100 : List En := [(2369, .goto 1563, 3, [178])]
/-- law, block 101 -/
noncomputable def b_301_101 : List En := [(2372, .aload 1, 1, []), (2373, .aload 0, 1, []), (2374, .iload 5, 2, []), (2376, .iconst 1, 1, []), (2377, .iadd, 1, []), (2378, .iaload, 1, []), (2379, .aload 0, 1, []), (2380, .iload 5, 2, []), (2382, .iconst 2, 1, []), (2383, .iadd, 1, []), (2384, .iaload, 1, []), (2385, .aload 0, 1, []), (2386, .iload 5, 2, []), (2388, .iconst 3, 1, []), (2389, .iadd, 1, []), (2390, .iaload, 1, []), (2391, .aload 3, 1, []), (2392, .invokestatic 278, 3, [281, 5, 0, 295]), (2395, .istore 6, 2, []), (2397, .aload 2, 1, []), (2398, .aload 0, 1, []), (2399, .iload 5, 2, []), (2401, .iconst 1, 1, []), (2402, .iadd, 1, []), (2403, .iaload, 1, []), (2404, .aload 0, 1, []), (2405, .iload 5, 2, []), (2407, .iconst 2, 1, []), (2408, .iadd, 1, []), (2409, .iaload, 1, []), (2410, .aload 0, 1, []), (2411, .iload 5, 2, []), (2413, .iconst 3, 1, []), (2414, .iadd, 1, []), (2415, .iaload, 1, []), (2416, .invokevirtual 280, 3, [213, 4, 9, 296]), (2419, .istore 7, 2, []), (2421, .aload 2, 1, []), (2422, .invokevirtual 183, 3, [156, 1, 9, 238]), (2425, .iload 6, 2, []), (2427, .if_icmp .eq 5, 3, [102]), (2430, .iconst 0, 1, []), (2431, .ireturn, 1, [1])]
/-- law, block 102 -/
noncomputable def b_301_102 : List En := [(2432, .iload 6, 2, []), (2434, .ifCond .ne 15, 3, [103]), (2437, .aload 3, 1, []), (2438, .iconst 0, 1, []), (2439, .laload, 1, []), (2440, .iload 7, 2, []), (2442, .i2l, 1, []), (2443, .lcmp, 1, []), (2444, .ifCond .eq 5, 3, [103]), (2447, .iconst 0, 1, []), (2448, .ireturn, 1, [1])]
/-- law, block 103 -/
noncomputable def b_301_103 : List En := [(2449, .goto 1483, 3, [178])]
/-- law, block 104 -/
noncomputable def b_301_104 : List En := [(2452, .aload 1, 1, []), (2453, .aload 0, 1, []), (2454, .iload 5, 2, []), (2456, .iconst 1, 1, []), (2457, .iadd, 1, []), (2458, .iaload, 1, []), (2459, .aload 0, 1, []), (2460, .iload 5, 2, []), (2462, .iconst 2, 1, []), (2463, .iadd, 1, []), (2464, .iaload, 1, []), (2465, .aload 3, 1, []), (2466, .invokestatic 281, 3, [282, 4, 0, 297]), (2469, .istore 6, 2, []), (2471, .aload 2, 1, []), (2472, .aload 0, 1, []), (2473, .iload 5, 2, []), (2475, .iconst 1, 1, []), (2476, .iadd, 1, []), (2477, .iaload, 1, []), (2478, .aload 0, 1, []), (2479, .iload 5, 2, []), (2481, .iconst 2, 1, []), (2482, .iadd, 1, []), (2483, .iaload, 1, []), (2484, .invokevirtual 283, 3, [214, 3, 9, 298]), (2487, .istore 7, 2, []), (2489, .aload 2, 1, []), (2490, .invokevirtual 183, 3, [156, 1, 9, 238]), (2493, .iload 6, 2, []), (2495, .if_icmp .eq 5, 3, [105]), (2498, .iconst 0, 1, []), (2499, .ireturn, 1, [1])]
/-- law, block 105 -/
noncomputable def b_301_105 : List En := [(2500, .iload 6, 2, []), (2502, .ifCond .ne 22, 3, [108]), (2505, .aload 3, 1, []), (2506, .iconst 0, 1, []), (2507, .laload, 1, []), (2508, .iload 7, 2, []), (2510, .ifCond .eq 7, 3, [106]), (2513, .bipush 1, 1, []), (2514, .goto 4, 3, [107])]
/-- law, block 106 -/
noncomputable def b_301_106 : List En := [(2517, .bipush 0, 1, []), (2518, .nop, 0, [107])]
/-- law, block 107 -/
noncomputable def b_301_107 : List En := [(2518, .lcmp, 1, []), (2519, .ifCond .eq 5, 3, [108]), (2522, .iconst 0, 1, []), (2523, .ireturn, 1, [1])]
/-- law, block 108 -/
noncomputable def b_301_108 : List En := [(2524, .goto 1408, 3, [178])]
/-- law, block 109 -/
noncomputable def b_301_109 : List En := [(2527, .aload 1, 1, []), (2528, .aload 0, 1, []), (2529, .iload 5, 2, []), (2531, .iconst 1, 1, []), (2532, .iadd, 1, []), (2533, .iaload, 1, []), (2534, .aload 0, 1, []), (2535, .iload 5, 2, []), (2537, .iconst 2, 1, []), (2538, .iadd, 1, []), (2539, .iaload, 1, []), (2540, .aload 0, 1, []), (2541, .iload 5, 2, []), (2543, .iconst 3, 1, []), (2544, .iadd, 1, []), (2545, .iaload, 1, []), (2546, .ifCond .eq 7, 3, [110]), (2549, .iconst 1, 1, []), (2550, .goto 4, 3, [111])]
/-- law, block 110 -/
noncomputable def b_301_110 : List En := [(2553, .iconst 0, 1, []), (2554, .nop, 0, [111])]
/-- law, block 111 -/
noncomputable def b_301_111 : List En := [(2554, .aload 3, 1, []), (2555, .invokestatic 284, 3, [283, 5, 0, 299]), (2558, .istore 6, 2, []), (2560, .aload 2, 1, []), (2561, .aload 0, 1, []), (2562, .iload 5, 2, []), (2564, .iconst 1, 1, []), (2565, .iadd, 1, []), (2566, .iaload, 1, []), (2567, .aload 0, 1, []), (2568, .iload 5, 2, []), (2570, .iconst 2, 1, []), (2571, .iadd, 1, []), (2572, .iaload, 1, []), (2573, .aload 0, 1, []), (2574, .iload 5, 2, []), (2576, .iconst 3, 1, []), (2577, .iadd, 1, []), (2578, .iaload, 1, []), (2579, .ifCond .eq 7, 3, [112]), (2582, .iconst 1, 1, []), (2583, .goto 4, 3, [113])]
/-- law, block 112 -/
noncomputable def b_301_112 : List En := [(2586, .iconst 0, 1, []), (2587, .nop, 0, [113])]
/-- law, block 113 -/
noncomputable def b_301_113 : List En := [(2587, .invokevirtual 286, 3, [215, 4, 9, 300]), (2590, .istore 7, 2, []), (2592, .aload 2, 1, []), (2593, .invokevirtual 183, 3, [156, 1, 9, 238]), (2596, .iload 6, 2, []), (2598, .if_icmp .eq 5, 3, [114]), (2601, .iconst 0, 1, []), (2602, .ireturn, 1, [1])]
/-- law, block 114 -/
noncomputable def b_301_114 : List En := [(2603, .iload 6, 2, []), (2605, .ifCond .ne 15, 3, [115]), (2608, .aload 3, 1, []), (2609, .iconst 0, 1, []), (2610, .laload, 1, []), (2611, .iload 7, 2, []), (2613, .i2l, 1, []), (2614, .lcmp, 1, []), (2615, .ifCond .eq 5, 3, [115]), (2618, .iconst 0, 1, []), (2619, .ireturn, 1, [1])]
/-- law, block 115 -/
noncomputable def b_301_115 : List En := [(2620, .goto 1312, 3, [178])]
/-- law, block 116 -/
noncomputable def b_301_116 : List En := [(2623, .aload 1, 1, []), (2624, .aload 0, 1, []), (2625, .iload 5, 2, []), (2627, .iconst 1, 1, []), (2628, .iadd, 1, []), (2629, .iaload, 1, []), (2630, .aload 0, 1, []), (2631, .iload 5, 2, []), (2633, .iconst 2, 1, []), (2634, .iadd, 1, []), (2635, .iaload, 1, []), (2636, .aload 3, 1, []), (2637, .invokestatic 287, 3, [284, 4, 0, 301]), (2640, .istore 6, 2, []), (2642, .aload 2, 1, []), (2643, .aload 0, 1, []), (2644, .iload 5, 2, []), (2646, .iconst 1, 1, []), (2647, .iadd, 1, []), (2648, .iaload, 1, []), (2649, .aload 0, 1, []), (2650, .iload 5, 2, []), (2652, .iconst 2, 1, []), (2653, .iadd, 1, []), (2654, .iaload, 1, []), (2655, .invokevirtual 289, 3, [216, 3, 9, 302]), (2658, .istore 7, 2, []), (2660, .aload 2, 1, []), (2661, .invokevirtual 183, 3, [156, 1, 9, 238]), (2664, .iload 6, 2, []), (2666, .if_icmp .eq 5, 3, [117]), (2669, .iconst 0, 1, []), (2670, .ireturn, 1, [1])]
/-- law, block 117 -/
noncomputable def b_301_117 : List En := [(2671, .iload 6, 2, []), (2673, .ifCond .ne 15, 3, [118]), (2676, .aload 3, 1, []), (2677, .iconst 0, 1, []), (2678, .laload, 1, []), (2679, .iload 7, 2, []), (2681, .i2l, 1, []), (2682, .lcmp, 1, []), (2683, .ifCond .eq 5, 3, [118]), (2686, .iconst 0, 1, []), (2687, .ireturn, 1, [1])]
/-- law, block 118 -/
noncomputable def b_301_118 : List En := [(2688, .goto 1244, 3, [178])]
/-- law, block 119 -/
noncomputable def b_301_119 : List En := [(2691, .aload 1, 1, []), (2692, .aload 0, 1, []), (2693, .iload 5, 2, []), (2695, .iconst 1, 1, []), (2696, .iadd, 1, []), (2697, .iaload, 1, []), (2698, .aload 0, 1, []), (2699, .iload 5, 2, []), (2701, .iconst 2, 1, []), (2702, .iadd, 1, []), (2703, .iaload, 1, []), (2704, .aload 0, 1, []), (2705, .iload 5, 2, []), (2707, .iconst 3, 1, []), (2708, .iadd, 1, []), (2709, .iaload, 1, []), (2710, .aload 3, 1, []), (2711, .invokestatic 290, 3, [285, 5, 0, 303]), (2714, .istore 6, 2, []), (2716, .aload 2, 1, []), (2717, .aload 0, 1, []), (2718, .iload 5, 2, []), (2720, .iconst 1, 1, []), (2721, .iadd, 1, []), (2722, .iaload, 1, []), (2723, .aload 0, 1, []), (2724, .iload 5, 2, []), (2726, .iconst 2, 1, []), (2727, .iadd, 1, []), (2728, .iaload, 1, []), (2729, .aload 0, 1, []), (2730, .iload 5, 2, []), (2732, .iconst 3, 1, []), (2733, .iadd, 1, []), (2734, .iaload, 1, []), (2735, .invokevirtual 292, 3, [217, 4, 9, 304]), (2738, .istore 7, 2, []), (2740, .aload 2, 1, []), (2741, .invokevirtual 183, 3, [156, 1, 9, 238]), (2744, .iload 6, 2, []), (2746, .if_icmp .eq 5, 3, [120]), (2749, .iconst 0, 1, []), (2750, .ireturn, 1, [1])]
/-- law, block 120 -/
noncomputable def b_301_120 : List En := [(2751, .iload 6, 2, []), (2753, .ifCond .ne 15, 3, [121]), (2756, .aload 3, 1, []), (2757, .iconst 0, 1, []), (2758, .laload, 1, []), (2759, .iload 7, 2, []), (2761, .i2l, 1, []), (2762, .lcmp, 1, []), (2763, .ifCond .eq 5, 3, [121]), (2766, .iconst 0, 1, []), (2767, .ireturn, 1, [1])]
/-- law, block 121 -/
noncomputable def b_301_121 : List En := [(2768, .goto 1164, 3, [178])]
/-- law, block 122 -/
noncomputable def b_301_122 : List En := [(2771, .aload 1, 1, []), (2772, .aload 0, 1, []), (2773, .iload 5, 2, []), (2775, .iconst 1, 1, []), (2776, .iadd, 1, []), (2777, .iaload, 1, []), (2778, .aload 0, 1, []), (2779, .iload 5, 2, []), (2781, .iconst 2, 1, []), (2782, .iadd, 1, []), (2783, .iaload, 1, []), (2784, .aload 3, 1, []), (2785, .invokestatic 293, 3, [286, 4, 0, 305]), (2788, .istore 6, 2, []), (2790, .aload 2, 1, []), (2791, .aload 0, 1, []), (2792, .iload 5, 2, []), (2794, .iconst 1, 1, []), (2795, .iadd, 1, []), (2796, .iaload, 1, []), (2797, .aload 0, 1, []), (2798, .iload 5, 2, []), (2800, .iconst 2, 1, []), (2801, .iadd, 1, []), (2802, .iaload, 1, []), (2803, .invokevirtual 295, 3, [222, 3, 9, 306]), (2806, .istore 7, 2, []), (2808, .aload 2, 1, []), (2809, .invokevirtual 183, 3, [156, 1, 9, 238]), (2812, .iload 6, 2, []), (2814, .if_icmp .eq 5, 3, [123]), (2817, .iconst 0, 1, []), (2818, .ireturn, 1, [1])]
/-- law, block 123 -/
noncomputable def b_301_123 : List En := [(2819, .iload 6, 2, []), (2821, .ifCond .ne 15, 3, [124]), (2824, .aload 3, 1, []), (2825, .iconst 0, 1, []), (2826, .laload, 1, []), (2827, .iload 7, 2, []), (2829, .i2l, 1, []), (2830, .lcmp, 1, []), (2831, .ifCond .eq 5, 3, [124]), (2834, .iconst 0, 1, []), (2835, .ireturn, 1, [1])]
/-- law, block 124 -/
noncomputable def b_301_124 : List En := [(2836, .goto 1096, 3, [178])]
/-- law, block 125 -/
noncomputable def b_301_125 : List En := [(2839, .aload 1, 1, []), (2840, .aload 0, 1, []), (2841, .iload 5, 2, []), (2843, .iconst 1, 1, []), (2844, .iadd, 1, []), (2845, .iaload, 1, []), (2846, .aload 0, 1, []), (2847, .iload 5, 2, []), (2849, .iconst 2, 1, []), (2850, .iadd, 1, []), (2851, .iaload, 1, []), (2852, .aload 0, 1, []), (2853, .iload 5, 2, []), (2855, .iconst 3, 1, []), (2856, .iadd, 1, []), (2857, .iaload, 1, []), (2858, .aload 3, 1, []), (2859, .invokestatic 296, 3, [287, 5, 0, 307]), (2862, .istore 6, 2, []), (2864, .aload 2, 1, []), (2865, .aload 0, 1, []), (2866, .iload 5, 2, []), (2868, .iconst 1, 1, []), (2869, .iadd, 1, []), (2870, .iaload, 1, []), (2871, .aload 0, 1, []), (2872, .iload 5, 2, []), (2874, .iconst 2, 1, []), (2875, .iadd, 1, []), (2876, .iaload, 1, []), (2877, .aload 0, 1, []), (2878, .iload 5, 2, []), (2880, .iconst 3, 1, []), (2881, .iadd, 1, []), (2882, .iaload, 1, []), (2883, .invokevirtual 298, 3, [223, 4, 9, 308]), (2886, .istore 7, 2, []), (2888, .aload 2, 1, []), (2889, .invokevirtual 183, 3, [156, 1, 9, 238]), (2892, .iload 6, 2, []), (2894, .if_icmp .eq 5, 3, [126]), (2897, .iconst 0, 1, []), (2898, .ireturn, 1, [1])]
/-- law, block 126 -/
noncomputable def b_301_126 : List En := [(2899, .iload 6, 2, []), (2901, .ifCond .ne 15, 3, [127]), (2904, .aload 3, 1, []), (2905, .iconst 0, 1, []), (2906, .laload, 1, []), (2907, .iload 7, 2, []), (2909, .i2l, 1, []), (2910, .lcmp, 1, []), (2911, .ifCond .eq 5, 3, [127]), (2914, .iconst 0, 1, []), (2915, .ireturn, 1, [1])]
/-- law, block 127 -/
noncomputable def b_301_127 : List En := [(2916, .goto 1016, 3, [178])]
/-- law, block 128 -/
noncomputable def b_301_128 : List En := [(2919, .aload 1, 1, []), (2920, .aload 0, 1, []), (2921, .iload 5, 2, []), (2923, .iconst 1, 1, []), (2924, .iadd, 1, []), (2925, .iaload, 1, []), (2926, .aload 0, 1, []), (2927, .iload 5, 2, []), (2929, .iconst 2, 1, []), (2930, .iadd, 1, []), (2931, .iaload, 1, []), (2932, .aload 3, 1, []), (2933, .invokestatic 299, 3, [288, 4, 0, 309]), (2936, .istore 6, 2, []), (2938, .aload 2, 1, []), (2939, .aload 0, 1, []), (2940, .iload 5, 2, []), (2942, .iconst 1, 1, []), (2943, .iadd, 1, []), (2944, .iaload, 1, []), (2945, .aload 0, 1, []), (2946, .iload 5, 2, []), (2948, .iconst 2, 1, []), (2949, .iadd, 1, []), (2950, .iaload, 1, []), (2951, .invokevirtual 301, 3, [224, 3, 9, 310]), (2954, .istore 7, 2, []), (2956, .aload 2, 1, []), (2957, .invokevirtual 183, 3, [156, 1, 9, 238]), (2960, .iload 6, 2, []), (2962, .if_icmp .eq 5, 3, [129]), (2965, .iconst 0, 1, []), (2966, .ireturn, 1, [1])]
/-- law, block 129 -/
noncomputable def b_301_129 : List En := [(2967, .iload 6, 2, []), (2969, .ifCond .ne 15, 3, [130]), (2972, .aload 3, 1, []), (2973, .iconst 0, 1, []), (2974, .laload, 1, []), (2975, .iload 7, 2, []), (2977, .i2l, 1, []), (2978, .lcmp, 1, []), (2979, .ifCond .eq 5, 3, [130]), (2982, .iconst 0, 1, []), (2983, .ireturn, 1, [1])]
/-- law, block 130 -/
noncomputable def b_301_130 : List En := [(2984, .goto 948, 3, [178])]
/-- law, block 131 -/
noncomputable def b_301_131 : List En := [(2987, .aload 1, 1, []), (2988, .aload 0, 1, []), (2989, .iload 5, 2, []), (2991, .iconst 1, 1, []), (2992, .iadd, 1, []), (2993, .iaload, 1, []), (2994, .aload 0, 1, []), (2995, .iload 5, 2, []), (2997, .iconst 2, 1, []), (2998, .iadd, 1, []), (2999, .iaload, 1, []), (3000, .aload 0, 1, []), (3001, .iload 5, 2, []), (3003, .iconst 3, 1, []), (3004, .iadd, 1, []), (3005, .iaload, 1, []), (3006, .aload 3, 1, []), (3007, .invokestatic 302, 3, [289, 5, 0, 311]), (3010, .istore 6, 2, []), (3012, .aload 2, 1, []), (3013, .aload 0, 1, []), (3014, .iload 5, 2, []), (3016, .iconst 1, 1, []), (3017, .iadd, 1, []), (3018, .iaload, 1, []), (3019, .aload 0, 1, []), (3020, .iload 5, 2, []), (3022, .iconst 2, 1, []), (3023, .iadd, 1, []), (3024, .iaload, 1, []), (3025, .aload 0, 1, []), (3026, .iload 5, 2, []), (3028, .iconst 3, 1, []), (3029, .iadd, 1, []), (3030, .iaload, 1, []), (3031, .invokevirtual 304, 3, [225, 4, 9, 312]), (3034, .istore 7, 2, []), (3036, .aload 2, 1, []), (3037, .invokevirtual 183, 3, [156, 1, 9, 238]), (3040, .iload 6, 2, []), (3042, .if_icmp .eq 5, 3, [132]), (3045, .iconst 0, 1, []), (3046, .ireturn, 1, [1])]
/-- law, block 132 -/
noncomputable def b_301_132 : List En := [(3047, .iload 6, 2, []), (3049, .ifCond .ne 15, 3, [133]), (3052, .aload 3, 1, []), (3053, .iconst 0, 1, []), (3054, .laload, 1, []), (3055, .iload 7, 2, []), (3057, .i2l, 1, []), (3058, .lcmp, 1, []), (3059, .ifCond .eq 5, 3, [133]), (3062, .iconst 0, 1, []), (3063, .ireturn, 1, [1])]
/-- law, block 133 -/
noncomputable def b_301_133 : List En := [(3064, .goto 868, 3, [178])]
/-- law, block 134 -/
noncomputable def b_301_134 : List En := [(3067, .aload 1, 1, []), (3068, .aload 0, 1, []), (3069, .iload 5, 2, []), (3071, .iconst 1, 1, []), (3072, .iadd, 1, []), (3073, .iaload, 1, []), (3074, .aload 0, 1, []), (3075, .iload 5, 2, []), (3077, .iconst 2, 1, []), (3078, .iadd, 1, []), (3079, .iaload, 1, []), (3080, .aload 3, 1, []), (3081, .invokestatic 305, 3, [290, 4, 0, 313]), (3084, .istore 6, 2, []), (3086, .aload 2, 1, []), (3087, .aload 0, 1, []), (3088, .iload 5, 2, []), (3090, .iconst 1, 1, []), (3091, .iadd, 1, []), (3092, .iaload, 1, []), (3093, .aload 0, 1, []), (3094, .iload 5, 2, []), (3096, .iconst 2, 1, []), (3097, .iadd, 1, []), (3098, .iaload, 1, []), (3099, .invokevirtual 307, 3, [226, 3, 9, 314]), (3102, .istore 7, 2, []), (3104, .aload 2, 1, []), (3105, .invokevirtual 183, 3, [156, 1, 9, 238]), (3108, .iload 6, 2, []), (3110, .if_icmp .eq 5, 3, [135]), (3113, .iconst 0, 1, []), (3114, .ireturn, 1, [1])]
/-- law, block 135 -/
noncomputable def b_301_135 : List En := [(3115, .iload 6, 2, []), (3117, .ifCond .ne 15, 3, [136]), (3120, .aload 3, 1, []), (3121, .iconst 0, 1, []), (3122, .laload, 1, []), (3123, .iload 7, 2, []), (3125, .i2l, 1, []), (3126, .lcmp, 1, []), (3127, .ifCond .eq 5, 3, [136]), (3130, .iconst 0, 1, []), (3131, .ireturn, 1, [1])]
/-- law, block 136 -/
noncomputable def b_301_136 : List En := [(3132, .goto 800, 3, [178])]
/-- law, block 137 -/
noncomputable def b_301_137 : List En := [(3135, .aload 1, 1, []), (3136, .aload 0, 1, []), (3137, .iload 5, 2, []), (3139, .iconst 1, 1, []), (3140, .iadd, 1, []), (3141, .iaload, 1, []), (3142, .aload 0, 1, []), (3143, .iload 5, 2, []), (3145, .iconst 2, 1, []), (3146, .iadd, 1, []), (3147, .iaload, 1, []), (3148, .aload 0, 1, []), (3149, .iload 5, 2, []), (3151, .iconst 3, 1, []), (3152, .iadd, 1, []), (3153, .iaload, 1, []), (3154, .aload 0, 1, []), (3155, .iload 5, 2, []), (3157, .iconst 4, 1, []), (3158, .iadd, 1, []), (3159, .iaload, 1, []), (3160, .aload 3, 1, []), (3161, .invokestatic 308, 3, [291, 6, 0, 315]), (3164, .istore 6, 2, []), (3166, .aload 2, 1, []), (3167, .aload 0, 1, []), (3168, .iload 5, 2, []), (3170, .iconst 1, 1, []), (3171, .iadd, 1, []), (3172, .iaload, 1, []), (3173, .aload 0, 1, []), (3174, .iload 5, 2, []), (3176, .iconst 2, 1, []), (3177, .iadd, 1, []), (3178, .iaload, 1, []), (3179, .aload 0, 1, []), (3180, .iload 5, 2, []), (3182, .iconst 3, 1, []), (3183, .iadd, 1, []), (3184, .iaload, 1, []), (3185, .aload 0, 1, []), (3186, .iload 5, 2, []), (3188, .iconst 4, 1, []), (3189, .iadd, 1, []), (3190, .iaload, 1, []), (3191, .invokevirtual 310, 3, [227, 5, 9, 316]), (3194, .istore 7, 2, []), (3196, .aload 2, 1, []), (3197, .invokevirtual 183, 3, [156, 1, 9, 238]), (3200, .iload 6, 2, []), (3202, .if_icmp .eq 5, 3, [138]), (3205, .iconst 0, 1, []), (3206, .ireturn, 1, [1])]
/-- law, block 138 -/
noncomputable def b_301_138 : List En := [(3207, .iload 6, 2, []), (3209, .ifCond .ne 15, 3, [139]), (3212, .aload 3, 1, []), (3213, .iconst 0, 1, []), (3214, .laload, 1, []), (3215, .iload 7, 2, []), (3217, .i2l, 1, []), (3218, .lcmp, 1, []), (3219, .ifCond .eq 5, 3, [139]), (3222, .iconst 0, 1, []), (3223, .ireturn, 1, [1])]
/-- law, block 139 -/
noncomputable def b_301_139 : List En := [(3224, .goto 708, 3, [178])]
/-- law, block 140 -/
noncomputable def b_301_140 : List En := [(3227, .aload 1, 1, []), (3228, .aload 0, 1, []), (3229, .iload 5, 2, []), (3231, .iconst 1, 1, []), (3232, .iadd, 1, []), (3233, .iaload, 1, []), (3234, .aload 0, 1, []), (3235, .iload 5, 2, []), (3237, .iconst 2, 1, []), (3238, .iadd, 1, []), (3239, .iaload, 1, []), (3240, .aload 3, 1, []), (3241, .invokestatic 311, 3, [292, 4, 0, 317]), (3244, .istore 6, 2, []), (3246, .aload 2, 1, []), (3247, .aload 0, 1, []), (3248, .iload 5, 2, []), (3250, .iconst 1, 1, []), (3251, .iadd, 1, []), (3252, .iaload, 1, []), (3253, .aload 0, 1, []), (3254, .iload 5, 2, []), (3256, .iconst 2, 1, []), (3257, .iadd, 1, []), (3258, .iaload, 1, []), (3259, .invokevirtual 313, 3, [230, 3, 9, 318]), (3262, .istore 7, 2, []), (3264, .aload 2, 1, []), (3265, .invokevirtual 183, 3, [156, 1, 9, 238]), (3268, .iload 6, 2, []), (3270, .if_icmp .eq 5, 3, [141]), (3273, .iconst 0, 1, []), (3274, .ireturn, 1, [1])]
/-- law, block 141 -/
noncomputable def b_301_141 : List En := [(3275, .iload 6, 2, []), (3277, .ifCond .ne 15, 3, [142]), (3280, .aload 3, 1, []), (3281, .iconst 0, 1, []), (3282, .laload, 1, []), (3283, .iload 7, 2, []), (3285, .i2l, 1, []), (3286, .lcmp, 1, []), (3287, .ifCond .eq 5, 3, [142]), (3290, .iconst 0, 1, []), (3291, .ireturn, 1, [1])]
/-- law, block 142 -/
noncomputable def b_301_142 : List En := [(3292, .goto 640, 3, [178])]
/-- law, block 143 -/
noncomputable def b_301_143 : List En := [(3295, .aload 1, 1, []), (3296, .aload 0, 1, []), (3297, .iload 5, 2, []), (3299, .iconst 1, 1, []), (3300, .iadd, 1, []), (3301, .iaload, 1, []), (3302, .aload 0, 1, []), (3303, .iload 5, 2, []), (3305, .iconst 2, 1, []), (3306, .iadd, 1, []), (3307, .iaload, 1, []), (3308, .aload 3, 1, []), (3309, .invokestatic 314, 3, [293, 4, 0, 319]), (3312, .istore 6, 2, []), (3314, .aload 2, 1, []), (3315, .aload 0, 1, []), (3316, .iload 5, 2, []), (3318, .iconst 1, 1, []), (3319, .iadd, 1, []), (3320, .iaload, 1, []), (3321, .aload 0, 1, []), (3322, .iload 5, 2, []), (3324, .iconst 2, 1, []), (3325, .iadd, 1, []), (3326, .iaload, 1, []), (3327, .invokevirtual 316, 3, [231, 3, 9, 320]), (3330, .istore 7, 2, []), (3332, .aload 2, 1, []), (3333, .invokevirtual 183, 3, [156, 1, 9, 238]), (3336, .iload 6, 2, []), (3338, .if_icmp .eq 5, 3, [144]), (3341, .iconst 0, 1, []), (3342, .ireturn, 1, [1])]
/-- law, block 144 -/
noncomputable def b_301_144 : List En := [(3343, .iload 6, 2, []), (3345, .ifCond .ne 15, 3, [145]), (3348, .aload 3, 1, []), (3349, .iconst 0, 1, []), (3350, .laload, 1, []), (3351, .iload 7, 2, []), (3353, .i2l, 1, []), (3354, .lcmp, 1, []), (3355, .ifCond .eq 5, 3, [145]), (3358, .iconst 0, 1, []), (3359, .ireturn, 1, [1])]
/-- law, block 145 -/
noncomputable def b_301_145 : List En := [(3360, .goto 572, 3, [178])]
/-- law, block 146 -/
noncomputable def b_301_146 : List En := [(3363, .aload 1, 1, []), (3364, .aload 0, 1, []), (3365, .iload 5, 2, []), (3367, .iconst 1, 1, []), (3368, .iadd, 1, []), (3369, .iaload, 1, []), (3370, .aload 3, 1, []), (3371, .invokestatic 317, 3, [294, 3, 0, 321]), (3374, .istore 6, 2, []), (3376, .aload 2, 1, []), (3377, .aload 0, 1, []), (3378, .iload 5, 2, []), (3380, .iconst 1, 1, []), (3381, .iadd, 1, []), (3382, .iaload, 1, []), (3383, .invokevirtual 319, 3, [234, 2, 9, 322]), (3386, .istore 7, 2, []), (3388, .aload 2, 1, []), (3389, .invokevirtual 183, 3, [156, 1, 9, 238]), (3392, .iload 6, 2, []), (3394, .if_icmp .eq 5, 3, [147]), (3397, .iconst 0, 1, []), (3398, .ireturn, 1, [1])]
/-- law, block 147 -/
noncomputable def b_301_147 : List En := [(3399, .iload 6, 2, []), (3401, .ifCond .ne 15, 3, [148]), (3404, .aload 3, 1, []), (3405, .iconst 0, 1, []), (3406, .laload, 1, []), (3407, .iload 7, 2, []), (3409, .i2l, 1, []), (3410, .lcmp, 1, []), (3411, .ifCond .eq 5, 3, [148]), (3414, .iconst 0, 1, []), (3415, .ireturn, 1, [1])]
/-- law, block 148 -/
noncomputable def b_301_148 : List En := [(3416, .goto 516, 3, [178])]
/-- law, block 149 -/
noncomputable def b_301_149 : List En := [(3419, .aload 1, 1, []), (3420, .aload 0, 1, []), (3421, .iload 5, 2, []), (3423, .iconst 1, 1, []), (3424, .iadd, 1, []), (3425, .iaload, 1, []), (3426, .aload 0, 1, []), (3427, .iload 5, 2, []), (3429, .iconst 2, 1, []), (3430, .iadd, 1, []), (3431, .iaload, 1, []), (3432, .aload 0, 1, []), (3433, .iload 5, 2, []), (3435, .iconst 3, 1, []), (3436, .iadd, 1, []), (3437, .iaload, 1, []), (3438, .ifCond .eq 7, 3, [150]), (3441, .iconst 1, 1, []), (3442, .goto 4, 3, [151])]
/-- law, block 150 -/
noncomputable def b_301_150 : List En := [(3445, .iconst 0, 1, []), (3446, .nop, 0, [151])]
/-- law, block 151 -/
noncomputable def b_301_151 : List En := [(3446, .aload 3, 1, []), (3447, .invokestatic 320, 3, [295, 5, 0, 323]), (3450, .istore 6, 2, []), (3452, .aload 2, 1, []), (3453, .aload 0, 1, []), (3454, .iload 5, 2, []), (3456, .iconst 1, 1, []), (3457, .iadd, 1, []), (3458, .iaload, 1, []), (3459, .aload 0, 1, []), (3460, .iload 5, 2, []), (3462, .iconst 2, 1, []), (3463, .iadd, 1, []), (3464, .iaload, 1, []), (3465, .aload 0, 1, []), (3466, .iload 5, 2, []), (3468, .iconst 3, 1, []), (3469, .iadd, 1, []), (3470, .iaload, 1, []), (3471, .ifCond .eq 7, 3, [152]), (3474, .iconst 1, 1, []), (3475, .goto 4, 3, [153])]
/-- law, block 152 -/
noncomputable def b_301_152 : List En := [(3478, .iconst 0, 1, []), (3479, .nop, 0, [153])]
/-- law, block 153 -/
noncomputable def b_301_153 : List En := [(3479, .invokevirtual 322, 3, [235, 4, 9, 324]), (3482, .istore 7, 2, []), (3484, .aload 2, 1, []), (3485, .invokevirtual 183, 3, [156, 1, 9, 238]), (3488, .iload 6, 2, []), (3490, .if_icmp .eq 5, 3, [154]), (3493, .iconst 0, 1, []), (3494, .ireturn, 1, [1])]
/-- law, block 154 -/
noncomputable def b_301_154 : List En := [(3495, .iload 6, 2, []), (3497, .ifCond .ne 15, 3, [155]), (3500, .aload 3, 1, []), (3501, .iconst 0, 1, []), (3502, .laload, 1, []), (3503, .iload 7, 2, []), (3505, .i2l, 1, []), (3506, .lcmp, 1, []), (3507, .ifCond .eq 5, 3, [155]), (3510, .iconst 0, 1, []), (3511, .ireturn, 1, [1])]
/-- law, block 155 -/
noncomputable def b_301_155 : List En := [(3512, .goto 420, 3, [178])]
/-- law, block 156 -/
noncomputable def b_301_156 : List En := [(3515, .aload 1, 1, []), (3516, .aload 0, 1, []), (3517, .iload 5, 2, []), (3519, .iconst 1, 1, []), (3520, .iadd, 1, []), (3521, .iaload, 1, []), (3522, .aload 0, 1, []), (3523, .iload 5, 2, []), (3525, .iconst 2, 1, []), (3526, .iadd, 1, []), (3527, .iaload, 1, []), (3528, .aload 3, 1, []), (3529, .invokestatic 323, 3, [296, 4, 0, 325]), (3532, .istore 6, 2, []), (3534, .aload 2, 1, []), (3535, .aload 0, 1, []), (3536, .iload 5, 2, []), (3538, .iconst 1, 1, []), (3539, .iadd, 1, []), (3540, .iaload, 1, []), (3541, .aload 0, 1, []), (3542, .iload 5, 2, []), (3544, .iconst 2, 1, []), (3545, .iadd, 1, []), (3546, .iaload, 1, []), (3547, .invokevirtual 325, 3, [236, 3, 9, 326]), (3550, .istore 7, 2, []), (3552, .aload 2, 1, []), (3553, .invokevirtual 183, 3, [156, 1, 9, 238]), (3556, .iload 6, 2, []), (3558, .if_icmp .eq 5, 3, [157]), (3561, .iconst 0, 1, []), (3562, .ireturn, 1, [1])]
/-- law, block 157 -/
noncomputable def b_301_157 : List En := [(3563, .iload 6, 2, []), (3565, .ifCond .ne 22, 3, [160]), (3568, .aload 3, 1, []), (3569, .iconst 0, 1, []), (3570, .laload, 1, []), (3571, .iload 7, 2, []), (3573, .ifCond .eq 7, 3, [158]), (3576, .bipush 1, 1, []), (3577, .goto 4, 3, [159])]
/-- law, block 158 -/
noncomputable def b_301_158 : List En := [(3580, .bipush 0, 1, []), (3581, .nop, 0, [159])]
/-- law, block 159 -/
noncomputable def b_301_159 : List En := [(3581, .lcmp, 1, []), (3582, .ifCond .eq 5, 3, [160]), (3585, .iconst 0, 1, []), (3586, .ireturn, 1, [1])]
/-- law, block 160 -/
noncomputable def b_301_160 : List En := [(3587, .goto 345, 3, [178])]
/-- law, block 161 -/
noncomputable def b_301_161 : List En := [(3590, .aload 1, 1, []), (3591, .invokevirtual 326, 3, [125, 1, 8, 327]), (3594, .aload 2, 1, []), (3595, .invokevirtual 329, 3, [241, 1, 9, 328]), (3598, .if_icmp .eq 334, 3, [178]), (3601, .iconst 0, 1, []), (3602, .ireturn, 1, [1])]
/-- law, block 162 -/
noncomputable def b_301_162 : List En := [(3603, .aload 1, 1, []), (3604, .aload 0, 1, []), (3605, .iload 5, 2, []), (3607, .iconst 1, 1, []), (3608, .iadd, 1, []), (3609, .iaload, 1, []), (3610, .aload 0, 1, []), (3611, .iload 5, 2, []), (3613, .iconst 2, 1, []), (3614, .iadd, 1, []), (3615, .iaload, 1, []), (3616, .aload 3, 1, []), (3617, .invokestatic 330, 3, [297, 4, 0, 329]), (3620, .istore 6, 2, []), (3622, .aload 2, 1, []), (3623, .aload 0, 1, []), (3624, .iload 5, 2, []), (3626, .iconst 1, 1, []), (3627, .iadd, 1, []), (3628, .iaload, 1, []), (3629, .aload 0, 1, []), (3630, .iload 5, 2, []), (3632, .iconst 2, 1, []), (3633, .iadd, 1, []), (3634, .iaload, 1, []), (3635, .invokevirtual 332, 3, [242, 3, 9, 330]), (3638, .istore 7, 2, []), (3640, .aload 2, 1, []), (3641, .invokevirtual 183, 3, [156, 1, 9, 238]), (3644, .iload 6, 2, []), (3646, .if_icmp .eq 5, 3, [163]), (3649, .iconst 0, 1, []), (3650, .ireturn, 1, [1])]
/-- law, block 163 -/
noncomputable def b_301_163 : List En := [(3651, .iload 6, 2, []), (3653, .ifCond .ne 15, 3, [164]), (3656, .aload 3, 1, []), (3657, .iconst 0, 1, []), (3658, .laload, 1, []), (3659, .iload 7, 2, []), (3661, .i2l, 1, []), (3662, .lcmp, 1, []), (3663, .ifCond .eq 5, 3, [164]), (3666, .iconst 0, 1, []), (3667, .ireturn, 1, [1])]
/-- law, block 164 -/
noncomputable def b_301_164 : List En := [(3668, .goto 264, 3, [178])]
/-- law, block 165 -/
noncomputable def b_301_165 : List En := [(3671, .aload 1, 1, []), (3672, .aload 0, 1, []), (3673, .iload 5, 2, []), (3675, .iconst 1, 1, []), (3676, .iadd, 1, []), (3677, .iaload, 1, []), (3678, .aload 0, 1, []), (3679, .iload 5, 2, []), (3681, .iconst 2, 1, []), (3682, .iadd, 1, []), (3683, .iaload, 1, []), (3684, .aload 3, 1, []), (3685, .invokestatic 333, 3, [298, 4, 0, 331]), (3688, .istore 6, 2, []), (3690, .aload 2, 1, []), (3691, .aload 0, 1, []), (3692, .iload 5, 2, []), (3694, .iconst 1, 1, []), (3695, .iadd, 1, []), (3696, .iaload, 1, []), (3697, .aload 0, 1, []), (3698, .iload 5, 2, []), (3700, .iconst 2, 1, []), (3701, .iadd, 1, []), (3702, .iaload, 1, []), (3703, .invokevirtual 335, 3, [243, 3, 9, 332]), (3706, .istore 7, 2, []), (3708, .aload 2, 1, []), (3709, .invokevirtual 183, 3, [156, 1, 9, 238]), (3712, .iload 6, 2, []), (3714, .if_icmp .eq 5, 3, [166]), (3717, .iconst 0, 1, []), (3718, .ireturn, 1, [1])]
/-- law, block 166 -/
noncomputable def b_301_166 : List En := [(3719, .iload 6, 2, []), (3721, .ifCond .ne 15, 3, [167]), (3724, .aload 3, 1, []), (3725, .iconst 0, 1, []), (3726, .laload, 1, []), (3727, .iload 7, 2, []), (3729, .i2l, 1, []), (3730, .lcmp, 1, []), (3731, .ifCond .eq 5, 3, [167]), (3734, .iconst 0, 1, []), (3735, .ireturn, 1, [1])]
/-- law, block 167 -/
noncomputable def b_301_167 : List En := [(3736, .goto 196, 3, [178])]
/-- law, block 168 -/
noncomputable def b_301_168 : List En := [(3739, .aload 1, 1, []), (3740, .invokevirtual 336, 3, [128, 1, 8, 333]), (3743, .aload 2, 1, []), (3744, .invokevirtual 339, 3, [244, 1, 9, 334]), (3747, .if_icmp .eq 185, 3, [178]), (3750, .iconst 0, 1, []), (3751, .ireturn, 1, [1])]
/-- law, block 169 -/
noncomputable def b_301_169 : List En := [(3752, .aload 1, 1, []), (3753, .aload 0, 1, []), (3754, .iload 5, 2, []), (3756, .iconst 1, 1, []), (3757, .iadd, 1, []), (3758, .iaload, 1, []), (3759, .aload 0, 1, []), (3760, .iload 5, 2, []), (3762, .iconst 2, 1, []), (3763, .iadd, 1, []), (3764, .iaload, 1, []), (3765, .aload 4, 2, []), (3767, .invokestatic 340, 3, [299, 4, 0, 335]), (3770, .istore 6, 2, []), (3772, .aload 2, 1, []), (3773, .aload 0, 1, []), (3774, .iload 5, 2, []), (3776, .iconst 1, 1, []), (3777, .iadd, 1, []), (3778, .iaload, 1, []), (3779, .aload 0, 1, []), (3780, .iload 5, 2, []), (3782, .iconst 2, 1, []), (3783, .iadd, 1, []), (3784, .iaload, 1, []), (3785, .invokevirtual 343, 3, [245, 3, 9, 336]), (3788, .dstore 7, 2, []), (3790, .aload 2, 1, []), (3791, .invokevirtual 183, 3, [156, 1, 9, 238]), (3794, .iload 6, 2, []), (3796, .if_icmp .eq 5, 3, [170]), (3799, .iconst 0, 1, []), (3800, .ireturn, 1, [1])]
/-- law, block 170 -/
noncomputable def b_301_170 : List En := [(3801, .iload 6, 2, []), (3803, .ifCond .ne 35, 3, [172]), (3806, .aload 4, 2, []), (3808, .iconst 0, 1, []), (3809, .daload, 1, []), (3810, .dload 7, 2, []), (3812, .dcmp .l, 1, []), (3813, .ifCond .eq 25, 3, [172]), (3816, .aload 4, 2, []), (3818, .iconst 0, 1, []), (3819, .daload, 1, []), (3820, .aload 4, 2, []), (3822, .iconst 0, 1, []), (3823, .daload, 1, []), (3824, .dcmp .l, 1, []), (3825, .ifCond .eq 11, 3, [171]), (3828, .dload 7, 2, []), (3830, .dload 7, 2, []), (3832, .dcmp .l, 1, []), (3833, .ifCond .ne 5, 3, [172]), (3836, .nop, 0, [171])]
/-- law, block 171 -/
noncomputable def b_301_171 : List En := [(3836, .iconst 0, 1, []), (3837, .ireturn, 1, [1])]
/-- law, block 172 -/
noncomputable def b_301_172 : List En := [(3838, .goto 94, 3, [178])]
/-- law, block 173 -/
noncomputable def b_301_173 : List En := [(3841, .aload 1, 1, []), (3842, .aload 0, 1, []), (3843, .iload 5, 2, []), (3845, .iconst 1, 1, []), (3846, .iadd, 1, []), (3847, .iaload, 1, []), (3848, .aload 4, 2, []), (3850, .invokestatic 344, 3, [300, 3, 0, 337]), (3853, .istore 6, 2, []), (3855, .aload 2, 1, []), (3856, .aload 0, 1, []), (3857, .iload 5, 2, []), (3859, .iconst 1, 1, []), (3860, .iadd, 1, []), (3861, .iaload, 1, []), (3862, .invokevirtual 347, 3, [246, 2, 9, 338]), (3865, .fstore 7, 2, []), (3867, .aload 2, 1, []), (3868, .invokevirtual 183, 3, [156, 1, 9, 238]), (3871, .iload 6, 2, []), (3873, .if_icmp .eq 5, 3, [174]), (3876, .iconst 0, 1, []), (3877, .ireturn, 1, [1])]
/-- law, block 174 -/
noncomputable def b_301_174 : List En := [(3878, .iload 6, 2, []), (3880, .ifCond .ne 36, 3, [176]), (3883, .aload 4, 2, []), (3885, .iconst 0, 1, []), (3886, .daload, 1, []), (3887, .fload 7, 2, []), (3889, .f2d, 1, []), (3890, .dcmp .l, 1, []), (3891, .ifCond .eq 25, 3, [176]), (3894, .aload 4, 2, []), (3896, .iconst 0, 1, []), (3897, .daload, 1, []), (3898, .aload 4, 2, []), (3900, .iconst 0, 1, []), (3901, .daload, 1, []), (3902, .dcmp .l, 1, []), (3903, .ifCond .eq 11, 3, [175]), (3906, .fload 7, 2, []), (3908, .fload 7, 2, []), (3910, .fcmp .l, 1, []), (3911, .ifCond .ne 5, 3, [176]), (3914, .nop, 0, [175])]
/-- law, block 175 -/
noncomputable def b_301_175 : List En := [(3914, .iconst 0, 1, []), (3915, .ireturn, 1, [1])]
/-- law, block 176 -/
noncomputable def b_301_176 : List En := [(3916, .goto 16, 3, [178])]
/-- law, block 177 -/
noncomputable def b_301_177 : List En := [(3919, .aload 1, 1, []), (3920, .invokevirtual 348, 3, [131, 1, 8, 339]), (3923, .aload 2, 1, []), (3924, .invokevirtual 351, 3, [249, 1, 9, 340]), (3927, .if_icmp .eq 5, 3, [178]), (3930, .iconst 0, 1, []), (3931, .ireturn, 1, [1])]
/-- law, block 178 -/
noncomputable def b_301_178 : List En := [(3932, .iinc 5 6, 3, []), (3935, .goto (-3907), 3, [1])]
/-- law, block 179 -/
noncomputable def b_301_179 : List En := [(3938, .iconst 1, 1, []), (3939, .ireturn, 1, [1])]
noncomputable def cod_301 : List (List En) := [b_301_0, b_301_1, b_301_2, b_301_3, b_301_4, b_301_5, b_301_6, b_301_7, b_301_8, b_301_9, b_301_10, b_301_11, b_301_12, b_301_13, b_301_14, b_301_15, b_301_16, b_301_17, b_301_18, b_301_19, b_301_20, b_301_21, b_301_22, b_301_23, b_301_24, b_301_25, b_301_26, b_301_27, b_301_28, b_301_29, b_301_30, b_301_31, b_301_32, b_301_33, b_301_34, b_301_35, b_301_36, b_301_37, b_301_38, b_301_39, b_301_40, b_301_41, b_301_42, b_301_43, b_301_44, b_301_45, b_301_46, b_301_47, b_301_48, b_301_49, b_301_50, b_301_51, b_301_52, b_301_53, b_301_54, b_301_55, b_301_56, b_301_57, b_301_58, b_301_59, b_301_60, b_301_61, b_301_62, b_301_63, b_301_64, b_301_65, b_301_66, b_301_67, b_301_68, b_301_69, b_301_70, b_301_71, b_301_72, b_301_73, b_301_74, b_301_75, b_301_76, b_301_77, b_301_78, b_301_79, b_301_80, b_301_81, b_301_82, b_301_83, b_301_84, b_301_85, b_301_86, b_301_87, b_301_88, b_301_89, b_301_90, b_301_91, b_301_92, b_301_93, b_301_94, b_301_95, b_301_96, b_301_97, b_301_98, b_301_99, b_301_100, b_301_101, b_301_102, b_301_103, b_301_104, b_301_105, b_301_106, b_301_107, b_301_108, b_301_109, b_301_110, b_301_111, b_301_112, b_301_113, b_301_114, b_301_115, b_301_116, b_301_117, b_301_118, b_301_119, b_301_120, b_301_121, b_301_122, b_301_123, b_301_124, b_301_125, b_301_126, b_301_127, b_301_128, b_301_129, b_301_130, b_301_131, b_301_132, b_301_133, b_301_134, b_301_135, b_301_136, b_301_137, b_301_138, b_301_139, b_301_140, b_301_141, b_301_142, b_301_143, b_301_144, b_301_145, b_301_146, b_301_147, b_301_148, b_301_149, b_301_150, b_301_151, b_301_152, b_301_153, b_301_154, b_301_155, b_301_156, b_301_157, b_301_158, b_301_159, b_301_160, b_301_161, b_301_162, b_301_163, b_301_164, b_301_165, b_301_166, b_301_167, b_301_168, b_301_169, b_301_170, b_301_171, b_301_172, b_301_173, b_301_174, b_301_175, b_301_176, b_301_177, b_301_178, b_301_179]
