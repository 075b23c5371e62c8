/-! THE STORE: needs of its own, rows, cells -/
theorem x_136t {σ : St} {Q : Out → St → Prop} {i : Int} {m : Nat} (hly : LY σ) (hm : gI σ 3 5 = iv m) (h4 : m ≤ 4) (h : 0 ≤ i ∧ i < m) : Ex 136 [.ref 2, .int (iv i)] σ Q = Q (.inl none) σ := by
  have hly0 := hly
  obtain ⟨tk, t0, t1, t2, t3, t4, t5, t6, t7, t8, t9, t10, kcs, ncs, rcs, kdr, ksa, nsa, ks1, ks2, ks3, ks4, ks5, hst, hhi, hco⟩ := hly
  have hst0 := hst
  obtain ⟨sk, s0, s1, s2, s3, s4, kp, kc, nc, kf, nf8, rf, kfs, kq, nq, rq, kqs, ko, no, ro, kos⟩ := hst
  have sk : gK σ 3 = 6 := sk
  have s0 : gR σ 3 0 = some 4 := s0
  have s1 : gR σ 3 1 = some 5 := s1
  have s2 : gR σ 3 2 = some 6 := s2
  have s3 : gR σ 3 3 = some 15 := s3
  have s4 : gR σ 3 4 = some 20 := s4
  have kp : gK σ 4 = 5 := kp
  have kc : gK σ 5 = 10 := kc
  have nc : gN σ 5 = 480 := nc
  have kf : gK σ 6 = 14 := kf
  have nf8 : gN σ 6 = 8 := nf8
  have rf : ∀ i, i < 8 → gR σ 6 i = some (7 + i) := rf
  have kfs : ∀ i, i < 8 → gK σ (7 + i) = 5 := kfs
  have kq : gK σ 15 = 14 := kq
  have nq : gN σ 15 = 4 := nq
  have rq : ∀ i, i < 4 → gR σ 15 i = some (16 + i) := rq
  have kqs : ∀ i, i < 4 → gK σ (16 + i) = 5 := kqs
  have ko : gK σ 20 = 16 := ko
  have no : gN σ 20 = 4 := no
  have ro : ∀ i, i < 4 → gR σ 20 i = some (21 + i) := ro
  have kos : ∀ i, i < 4 → gK σ (21 + i) = 1 := kos
  simp (disch := first | omega | (simp (maxDischargeDepth := 30) only [gK_pS, AWt, tk, t0, t1, t2, t3, t4, t5, t6, t7, t8, t9, t10, kcs, ncs, kdr, ksa, nsa, ks1, ks2, ks3, ks4, ks5, sk, s0, s1, s2, s3, s4, kp, kc, nc, kf, nf8, kq, nq, ko, no]; done) | (simp (maxDischargeDepth := 30) only [gK_pS, AWt, tk, t0, t1, t2, t3, t4, t5, t6, t7, t8, t9, t10, kcs, ncs, kdr, ksa, nsa, ks1, ks2, ks3, ks4, ks5, sk, s0, s1, s2, s3, s4, kp, kc, nc, kf, nf8, kq, nq, ko, no]; omega)) only [b_136_0, e_136, wq_iconst, wq_bipush, wq_fconst, wq_dconst, wq_iload, wq_lload, wq_fload, wq_dload, wq_aload, wq_istore, wq_fstore, wq_astore, wq_lstore, wq_dstore, wq_iinc, wq_iadd, wq_isub, wq_imul, wq_iand, wq_ior, wq_ixor, wq_ishl, wq_ishr, wq_iushr, wq_ladd, wq_lsub, wq_land, wq_lor, wq_lxor, wq_lshl, wq_lushr, wq_idiv, wq_irem, wq_lcmp, wq_fcmp, wq_dcmp, wq_i2l, wq_l2i, wq_i2f, wq_i2d, wq_f2d, wq_fdiv, wq_ddiv, wq_dupi, wq_dupr, wq_dup2, wq_popi, wq_popr, wq_if_eq, wq_ic_eq, wq_if_ne, wq_ic_ne, wq_if_lt, wq_ic_lt, wq_if_ge, wq_ic_ge, wq_if_gt, wq_ic_gt, wq_if_le, wq_ic_le, wq_goto, wq_nop, wq_tsw, wq_getfield, wq_pfi, wq_pfl, wq_pfr, wq_getstatic, wq_iaload, wq_baload, wq_laload, wq_daload, wq_aaload, wq_iastore, wq_bastore, wq_lastore, wq_dastore, wq_aastore, wq_arraylength, wq_new, wq_newarray, wq_anewarray, wq_multi, wq_copy, wq_mmax, wq_mmin, wq_oi, wq_cs0, wq_cs1, wq_cs2, wq_cs3, wq_cs4, wq_cs5, wq_cs6, wq_cs7, wq_cv1, wq_cv2, wq_cv3, wq_cv4, wq_cv5, wq_cv6, wq_ci1, wq_ci2, wq_ci3, wq_ci4, wq_ci5, wq_ci6, wq_athrow, wq_ireturn, wq_freturn, wq_dreturn, wq_areturn, wq_return, wsw_n, wsw_c, aft_i, gf_1, gf_2, gf_3, rv_s, okst_0, okst_s, is2_int, is2_float, is2_ref, is2_retAddr, List.getElem?_cons_zero, List.getElem?_cons_succ, List.set_cons_zero, List.set_cons_succ, List.length_cons, List.length_nil, Option.toList_some, Option.toList_none, List.cons_append, List.nil_append, List.singleton_append, gL_setI, gD_setI, gR_setI, gN_setI, gK_setI, gx_setI, gc_setI, gs_setI, gI_setL, gD_setL, gR_setL, gN_setL, gK_setL, gx_setL, gc_setL, gs_setL, gI_setD, gL_setD, gR_setD, gN_setD, gK_setD, gx_setD, gc_setD, gs_setD, gI_setR, gL_setR, gD_setR, gN_setR, gK_setR, gx_setR, gc_setR, gs_setR, gL_rowI, gD_rowI, gR_rowI, gN_rowI, gK_rowI, gx_rowI, gc_rowI, gs_rowI, gI_I, gL_L, gD_D, gR_R, gI_row, gI_bmp, gL_bmp, gD_bmp, gR_bmp, gN_bmp, gK_bmp, gx_bmp, gc_bmp, gs_bmp, gK_pS, gN_pS, gI_pS, gD_pS, gR_pS, gx_pS, gc_pS, gs_pS, iv_11, ↓iv_max, ↓iv_min, iv_lt_t, iv_lt_f, iv_le_t, iv_le_f, iv_eq_t, iv_eq_f, iv_lt0_t, iv_lt0_f, iv_gt0_t, iv_gt0_f, iv_le0_t, iv_le0_f, iv_ge0_t, iv_ge0_f, iv_eq0_t, iv_eq0_f, iv_add, iv_sub, iv_mul, iv_nat, iv_lt, iv_le, iv_eq, iv_lt0, iv_gt0, iv_le0, iv_ge0, iv_eq0, iv_cl, bv_01, bv_eq0, lcmp_eq0, ↓reduceIte, Nat.reduceLeDiff, Nat.reduceLT, Nat.reduceAdd, Nat.reduceSub, Nat.reduceEqDiff, Nat.reduceMul, Nat.succ_ne_zero, Nat.zero_lt_succ, Nat.lt_add_one, Nat.add_left_cancel_iff, and_true, true_and, and_false, false_and, and_self, Nat.zero_le, eq_self, true_or, or_true, false_or, or_false, Bool.not_false, Bool.not_true, not_true, not_false_iff, Int.reduceEq, Int.reduceLT, Int.reduceLE, Int.reduceAdd, Int.reduceSub, Int.reduceToNat, Int.reduceNeg, Bool.false_eq_true, Bool.true_eq_false, reduceCtorEq, tk, t0, t1, t2, t3, t4, t5, t6, t7, t8, t9, t10, kcs, ncs, kdr, ksa, nsa, ks1, ks2, ks3, ks4, ks5, sk, s0, s1, s2, s3, s4, kp, kc, nc, kf, nf8, kq, nq, ko, no, isRA14, iv_inb_t, true_or, or_true, show isRA 15 = true from rfl, show isRA 16 = true from rfl, Int.toNat_natCast, hm, x_132t, x_132f, aft_x (z := 136) rfl]
theorem x_136f {σ : St} {Q : Out → St → Prop} {i : Int} {m : Nat} (hly : LY σ) (hm : gI σ 3 5 = iv m) (h4 : m ≤ 4) (h : (-2147483648 ≤ i ∧ i < 2147483648) ∧ (i < 0 ∨ m ≤ i)) : Ex 136 [.ref 2, .int (iv i)] σ Q = Q (.inr 1) (bmp σ) := by
  have hly0 := hly
  obtain ⟨tk, t0, t1, t2, t3, t4, t5, t6, t7, t8, t9, t10, kcs, ncs, rcs, kdr, ksa, nsa, ks1, ks2, ks3, ks4, ks5, hst, hhi, hco⟩ := hly
  have hst0 := hst
  obtain ⟨sk, s0, s1, s2, s3, s4, kp, kc, nc, kf, nf8, rf, kfs, kq, nq, rq, kqs, ko, no, ro, kos⟩ := hst
  have sk : gK σ 3 = 6 := sk
  have s0 : gR σ 3 0 = some 4 := s0
  have s1 : gR σ 3 1 = some 5 := s1
  have s2 : gR σ 3 2 = some 6 := s2
  have s3 : gR σ 3 3 = some 15 := s3
  have s4 : gR σ 3 4 = some 20 := s4
  have kp : gK σ 4 = 5 := kp
  have kc : gK σ 5 = 10 := kc
  have nc : gN σ 5 = 480 := nc
  have kf : gK σ 6 = 14 := kf
  have nf8 : gN σ 6 = 8 := nf8
  have rf : ∀ i, i < 8 → gR σ 6 i = some (7 + i) := rf
  have kfs : ∀ i, i < 8 → gK σ (7 + i) = 5 := kfs
  have kq : gK σ 15 = 14 := kq
  have nq : gN σ 15 = 4 := nq
  have rq : ∀ i, i < 4 → gR σ 15 i = some (16 + i) := rq
  have kqs : ∀ i, i < 4 → gK σ (16 + i) = 5 := kqs
  have ko : gK σ 20 = 16 := ko
  have no : gN σ 20 = 4 := no
  have ro : ∀ i, i < 4 → gR σ 20 i = some (21 + i) := ro
  have kos : ∀ i, i < 4 → gK σ (21 + i) = 1 := kos
  simp (disch := first | omega | (simp (maxDischargeDepth := 30) only [gK_pS, AWt, tk, t0, t1, t2, t3, t4, t5, t6, t7, t8, t9, t10, kcs, ncs, kdr, ksa, nsa, ks1, ks2, ks3, ks4, ks5, sk, s0, s1, s2, s3, s4, kp, kc, nc, kf, nf8, kq, nq, ko, no]; done) | (simp (maxDischargeDepth := 30) only [gK_pS, AWt, tk, t0, t1, t2, t3, t4, t5, t6, t7, t8, t9, t10, kcs, ncs, kdr, ksa, nsa, ks1, ks2, ks3, ks4, ks5, sk, s0, s1, s2, s3, s4, kp, kc, nc, kf, nf8, kq, nq, ko, no]; omega)) only [b_136_0, e_136, wq_iconst, wq_bipush, wq_fconst, wq_dconst, wq_iload, wq_lload, wq_fload, wq_dload, wq_aload, wq_istore, wq_fstore, wq_astore, wq_lstore, wq_dstore, wq_iinc, wq_iadd, wq_isub, wq_imul, wq_iand, wq_ior, wq_ixor, wq_ishl, wq_ishr, wq_iushr, wq_ladd, wq_lsub, wq_land, wq_lor, wq_lxor, wq_lshl, wq_lushr, wq_idiv, wq_irem, wq_lcmp, wq_fcmp, wq_dcmp, wq_i2l, wq_l2i, wq_i2f, wq_i2d, wq_f2d, wq_fdiv, wq_ddiv, wq_dupi, wq_dupr, wq_dup2, wq_popi, wq_popr, wq_if_eq, wq_ic_eq, wq_if_ne, wq_ic_ne, wq_if_lt, wq_ic_lt, wq_if_ge, wq_ic_ge, wq_if_gt, wq_ic_gt, wq_if_le, wq_ic_le, wq_goto, wq_nop, wq_tsw, wq_getfield, wq_pfi, wq_pfl, wq_pfr, wq_getstatic, wq_iaload, wq_baload, wq_laload, wq_daload, wq_aaload, wq_iastore, wq_bastore, wq_lastore, wq_dastore, wq_aastore, wq_arraylength, wq_new, wq_newarray, wq_anewarray, wq_multi, wq_copy, wq_mmax, wq_mmin, wq_oi, wq_cs0, wq_cs1, wq_cs2, wq_cs3, wq_cs4, wq_cs5, wq_cs6, wq_cs7, wq_cv1, wq_cv2, wq_cv3, wq_cv4, wq_cv5, wq_cv6, wq_ci1, wq_ci2, wq_ci3, wq_ci4, wq_ci5, wq_ci6, wq_athrow, wq_ireturn, wq_freturn, wq_dreturn, wq_areturn, wq_return, wsw_n, wsw_c, aft_i, gf_1, gf_2, gf_3, rv_s, okst_0, okst_s, is2_int, is2_float, is2_ref, is2_retAddr, List.getElem?_cons_zero, List.getElem?_cons_succ, List.set_cons_zero, List.set_cons_succ, List.length_cons, List.length_nil, Option.toList_some, Option.toList_none, List.cons_append, List.nil_append, List.singleton_append, gL_setI, gD_setI, gR_setI, gN_setI, gK_setI, gx_setI, gc_setI, gs_setI, gI_setL, gD_setL, gR_setL, gN_setL, gK_setL, gx_setL, gc_setL, gs_setL, gI_setD, gL_setD, gR_setD, gN_setD, gK_setD, gx_setD, gc_setD, gs_setD, gI_setR, gL_setR, gD_setR, gN_setR, gK_setR, gx_setR, gc_setR, gs_setR, gL_rowI, gD_rowI, gR_rowI, gN_rowI, gK_rowI, gx_rowI, gc_rowI, gs_rowI, gI_I, gL_L, gD_D, gR_R, gI_row, gI_bmp, gL_bmp, gD_bmp, gR_bmp, gN_bmp, gK_bmp, gx_bmp, gc_bmp, gs_bmp, gK_pS, gN_pS, gI_pS, gD_pS, gR_pS, gx_pS, gc_pS, gs_pS, iv_11, ↓iv_max, ↓iv_min, iv_lt_t, iv_lt_f, iv_le_t, iv_le_f, iv_eq_t, iv_eq_f, iv_lt0_t, iv_lt0_f, iv_gt0_t, iv_gt0_f, iv_le0_t, iv_le0_f, iv_ge0_t, iv_ge0_f, iv_eq0_t, iv_eq0_f, iv_add, iv_sub, iv_mul, iv_nat, iv_lt, iv_le, iv_eq, iv_lt0, iv_gt0, iv_le0, iv_ge0, iv_eq0, iv_cl, bv_01, bv_eq0, lcmp_eq0, ↓reduceIte, Nat.reduceLeDiff, Nat.reduceLT, Nat.reduceAdd, Nat.reduceSub, Nat.reduceEqDiff, Nat.reduceMul, Nat.succ_ne_zero, Nat.zero_lt_succ, Nat.lt_add_one, Nat.add_left_cancel_iff, and_true, true_and, and_false, false_and, and_self, Nat.zero_le, eq_self, true_or, or_true, false_or, or_false, Bool.not_false, Bool.not_true, not_true, not_false_iff, Int.reduceEq, Int.reduceLT, Int.reduceLE, Int.reduceAdd, Int.reduceSub, Int.reduceToNat, Int.reduceNeg, Bool.false_eq_true, Bool.true_eq_false, reduceCtorEq, tk, t0, t1, t2, t3, t4, t5, t6, t7, t8, t9, t10, kcs, ncs, kdr, ksa, nsa, ks1, ks2, ks3, ks4, ks5, sk, s0, s1, s2, s3, s4, kp, kc, nc, kf, nf8, kq, nq, ko, no, isRA14, iv_inb_t, true_or, or_true, show isRA 15 = true from rfl, show isRA 16 = true from rfl, Int.toNat_natCast, hm, x_132t, x_132f, aft_x (z := 136) rfl]
theorem x_138t {σ : St} {Q : Out → St → Prop} {i : Int} (hly : LY σ) (hw : AW σ) (h : 0 ≤ i ∧ i < 2147483648) (h2 : ss σ 4 i.toNat = true) : Ex 138 [.ref 2, .int (iv i)] σ Q = Q (.inl none) σ := by
  have hly0 := hly
  obtain ⟨tk, t0, t1, t2, t3, t4, t5, t6, t7, t8, t9, t10, kcs, ncs, rcs, kdr, ksa, nsa, ks1, ks2, ks3, ks4, ks5, hst, hhi, hco⟩ := hly
  have hst0 := hst
  obtain ⟨sk, s0, s1, s2, s3, s4, kp, kc, nc, kf, nf8, rf, kfs, kq, nq, rq, kqs, ko, no, ro, kos⟩ := hst
  have sk : gK σ 3 = 6 := sk
  have s0 : gR σ 3 0 = some 4 := s0
  have s1 : gR σ 3 1 = some 5 := s1
  have s2 : gR σ 3 2 = some 6 := s2
  have s3 : gR σ 3 3 = some 15 := s3
  have s4 : gR σ 3 4 = some 20 := s4
  have kp : gK σ 4 = 5 := kp
  have kc : gK σ 5 = 10 := kc
  have nc : gN σ 5 = 480 := nc
  have kf : gK σ 6 = 14 := kf
  have nf8 : gN σ 6 = 8 := nf8
  have rf : ∀ i, i < 8 → gR σ 6 i = some (7 + i) := rf
  have kfs : ∀ i, i < 8 → gK σ (7 + i) = 5 := kfs
  have kq : gK σ 15 = 14 := kq
  have nq : gN σ 15 = 4 := nq
  have rq : ∀ i, i < 4 → gR σ 15 i = some (16 + i) := rq
  have kqs : ∀ i, i < 4 → gK σ (16 + i) = 5 := kqs
  have ko : gK σ 20 = 16 := ko
  have no : gN σ 20 = 4 := no
  have ro : ∀ i, i < 4 → gR σ 20 i = some (21 + i) := ro
  have kos : ∀ i, i < 4 → gK σ (21 + i) = 1 := kos
  have h3 : (decide (0 ≤ i) && ss σ 4 i.toNat) = true := by rw [decide_eq_true h.1, h2]; rfl
  have m1 := fun Q => x_62 (Q := Q) (n := i) kp hw (by omega) (by omega)
  rw [h3] at m1
  simp (disch := first | omega | (simp (maxDischargeDepth := 30) only [gK_pS, AWt, tk, t0, t1, t2, t3, t4, t5, t6, t7, t8, t9, t10, kcs, ncs, kdr, ksa, nsa, ks1, ks2, ks3, ks4, ks5, sk, s0, s1, s2, s3, s4, kp, kc, nc, kf, nf8, kq, nq, ko, no]; done) | (simp (maxDischargeDepth := 30) only [gK_pS, AWt, tk, t0, t1, t2, t3, t4, t5, t6, t7, t8, t9, t10, kcs, ncs, kdr, ksa, nsa, ks1, ks2, ks3, ks4, ks5, sk, s0, s1, s2, s3, s4, kp, kc, nc, kf, nf8, kq, nq, ko, no]; omega)) only [b_138_0, b_138_1, k_138_1, e_138, wq_iconst, wq_bipush, wq_fconst, wq_dconst, wq_iload, wq_lload, wq_fload, wq_dload, wq_aload, wq_istore, wq_fstore, wq_astore, wq_lstore, wq_dstore, wq_iinc, wq_iadd, wq_isub, wq_imul, wq_iand, wq_ior, wq_ixor, wq_ishl, wq_ishr, wq_iushr, wq_ladd, wq_lsub, wq_land, wq_lor, wq_lxor, wq_lshl, wq_lushr, wq_idiv, wq_irem, wq_lcmp, wq_fcmp, wq_dcmp, wq_i2l, wq_l2i, wq_i2f, wq_i2d, wq_f2d, wq_fdiv, wq_ddiv, wq_dupi, wq_dupr, wq_dup2, wq_popi, wq_popr, wq_if_eq, wq_ic_eq, wq_if_ne, wq_ic_ne, wq_if_lt, wq_ic_lt, wq_if_ge, wq_ic_ge, wq_if_gt, wq_ic_gt, wq_if_le, wq_ic_le, wq_goto, wq_nop, wq_tsw, wq_getfield, wq_pfi, wq_pfl, wq_pfr, wq_getstatic, wq_iaload, wq_baload, wq_laload, wq_daload, wq_aaload, wq_iastore, wq_bastore, wq_lastore, wq_dastore, wq_aastore, wq_arraylength, wq_new, wq_newarray, wq_anewarray, wq_multi, wq_copy, wq_mmax, wq_mmin, wq_oi, wq_cs0, wq_cs1, wq_cs2, wq_cs3, wq_cs4, wq_cs5, wq_cs6, wq_cs7, wq_cv1, wq_cv2, wq_cv3, wq_cv4, wq_cv5, wq_cv6, wq_ci1, wq_ci2, wq_ci3, wq_ci4, wq_ci5, wq_ci6, wq_athrow, wq_ireturn, wq_freturn, wq_dreturn, wq_areturn, wq_return, wsw_n, wsw_c, aft_i, gf_1, gf_2, gf_3, rv_s, okst_0, okst_s, is2_int, is2_float, is2_ref, is2_retAddr, List.getElem?_cons_zero, List.getElem?_cons_succ, List.set_cons_zero, List.set_cons_succ, List.length_cons, List.length_nil, Option.toList_some, Option.toList_none, List.cons_append, List.nil_append, List.singleton_append, gL_setI, gD_setI, gR_setI, gN_setI, gK_setI, gx_setI, gc_setI, gs_setI, gI_setL, gD_setL, gR_setL, gN_setL, gK_setL, gx_setL, gc_setL, gs_setL, gI_setD, gL_setD, gR_setD, gN_setD, gK_setD, gx_setD, gc_setD, gs_setD, gI_setR, gL_setR, gD_setR, gN_setR, gK_setR, gx_setR, gc_setR, gs_setR, gL_rowI, gD_rowI, gR_rowI, gN_rowI, gK_rowI, gx_rowI, gc_rowI, gs_rowI, gI_I, gL_L, gD_D, gR_R, gI_row, gI_bmp, gL_bmp, gD_bmp, gR_bmp, gN_bmp, gK_bmp, gx_bmp, gc_bmp, gs_bmp, gK_pS, gN_pS, gI_pS, gD_pS, gR_pS, gx_pS, gc_pS, gs_pS, iv_11, ↓iv_max, ↓iv_min, iv_lt_t, iv_lt_f, iv_le_t, iv_le_f, iv_eq_t, iv_eq_f, iv_lt0_t, iv_lt0_f, iv_gt0_t, iv_gt0_f, iv_le0_t, iv_le0_f, iv_ge0_t, iv_ge0_f, iv_eq0_t, iv_eq0_f, iv_add, iv_sub, iv_mul, iv_nat, iv_lt, iv_le, iv_eq, iv_lt0, iv_gt0, iv_le0, iv_ge0, iv_eq0, iv_cl, bv_01, bv_eq0, lcmp_eq0, ↓reduceIte, Nat.reduceLeDiff, Nat.reduceLT, Nat.reduceAdd, Nat.reduceSub, Nat.reduceEqDiff, Nat.reduceMul, Nat.succ_ne_zero, Nat.zero_lt_succ, Nat.lt_add_one, Nat.add_left_cancel_iff, and_true, true_and, and_false, false_and, and_self, Nat.zero_le, eq_self, true_or, or_true, false_or, or_false, Bool.not_false, Bool.not_true, not_true, not_false_iff, Int.reduceEq, Int.reduceLT, Int.reduceLE, Int.reduceAdd, Int.reduceSub, Int.reduceToNat, Int.reduceNeg, Bool.false_eq_true, Bool.true_eq_false, reduceCtorEq, tk, t0, t1, t2, t3, t4, t5, t6, t7, t8, t9, t10, kcs, ncs, kdr, ksa, nsa, ks1, ks2, ks3, ks4, ks5, sk, s0, s1, s2, s3, s4, kp, kc, nc, kf, nf8, kq, nq, ko, no, isRA14, iv_inb_t, true_or, or_true, show isRA 15 = true from rfl, show isRA 16 = true from rfl, Int.toNat_natCast, m1, Bool.true_eq_false]
theorem x_138f {σ : St} {Q : Out → St → Prop} {i : Int} (hly : LY σ) (hw : AW σ) (h : -2147483648 ≤ i ∧ i < 2147483648) (h2 : i < 0 ∨ ss σ 4 i.toNat = false) : Ex 138 [.ref 2, .int (iv i)] σ Q = Q (.inr 1) (bmp σ) := by
  have hly0 := hly
  obtain ⟨tk, t0, t1, t2, t3, t4, t5, t6, t7, t8, t9, t10, kcs, ncs, rcs, kdr, ksa, nsa, ks1, ks2, ks3, ks4, ks5, hst, hhi, hco⟩ := hly
  have hst0 := hst
  obtain ⟨sk, s0, s1, s2, s3, s4, kp, kc, nc, kf, nf8, rf, kfs, kq, nq, rq, kqs, ko, no, ro, kos⟩ := hst
  have sk : gK σ 3 = 6 := sk
  have s0 : gR σ 3 0 = some 4 := s0
  have s1 : gR σ 3 1 = some 5 := s1
  have s2 : gR σ 3 2 = some 6 := s2
  have s3 : gR σ 3 3 = some 15 := s3
  have s4 : gR σ 3 4 = some 20 := s4
  have kp : gK σ 4 = 5 := kp
  have kc : gK σ 5 = 10 := kc
  have nc : gN σ 5 = 480 := nc
  have kf : gK σ 6 = 14 := kf
  have nf8 : gN σ 6 = 8 := nf8
  have rf : ∀ i, i < 8 → gR σ 6 i = some (7 + i) := rf
  have kfs : ∀ i, i < 8 → gK σ (7 + i) = 5 := kfs
  have kq : gK σ 15 = 14 := kq
  have nq : gN σ 15 = 4 := nq
  have rq : ∀ i, i < 4 → gR σ 15 i = some (16 + i) := rq
  have kqs : ∀ i, i < 4 → gK σ (16 + i) = 5 := kqs
  have ko : gK σ 20 = 16 := ko
  have no : gN σ 20 = 4 := no
  have ro : ∀ i, i < 4 → gR σ 20 i = some (21 + i) := ro
  have kos : ∀ i, i < 4 → gK σ (21 + i) = 1 := kos
  have h3 : (decide (0 ≤ i) && ss σ 4 i.toNat) = false := by
    rcases h2 with h2 | h2
    · rw [decide_eq_false (by omega), Bool.false_and]
    · rw [h2, Bool.and_false]
  have m1 := fun Q => x_62 (Q := Q) (n := i) kp hw (by omega) (by omega)
  rw [h3] at m1
  simp (disch := first | omega | (simp (maxDischargeDepth := 30) only [gK_pS, AWt, tk, t0, t1, t2, t3, t4, t5, t6, t7, t8, t9, t10, kcs, ncs, kdr, ksa, nsa, ks1, ks2, ks3, ks4, ks5, sk, s0, s1, s2, s3, s4, kp, kc, nc, kf, nf8, kq, nq, ko, no]; done) | (simp (maxDischargeDepth := 30) only [gK_pS, AWt, tk, t0, t1, t2, t3, t4, t5, t6, t7, t8, t9, t10, kcs, ncs, kdr, ksa, nsa, ks1, ks2, ks3, ks4, ks5, sk, s0, s1, s2, s3, s4, kp, kc, nc, kf, nf8, kq, nq, ko, no]; omega)) only [b_138_0, b_138_1, k_138_1, e_138, wq_iconst, wq_bipush, wq_fconst, wq_dconst, wq_iload, wq_lload, wq_fload, wq_dload, wq_aload, wq_istore, wq_fstore, wq_astore, wq_lstore, wq_dstore, wq_iinc, wq_iadd, wq_isub, wq_imul, wq_iand, wq_ior, wq_ixor, wq_ishl, wq_ishr, wq_iushr, wq_ladd, wq_lsub, wq_land, wq_lor, wq_lxor, wq_lshl, wq_lushr, wq_idiv, wq_irem, wq_lcmp, wq_fcmp, wq_dcmp, wq_i2l, wq_l2i, wq_i2f, wq_i2d, wq_f2d, wq_fdiv, wq_ddiv, wq_dupi, wq_dupr, wq_dup2, wq_popi, wq_popr, wq_if_eq, wq_ic_eq, wq_if_ne, wq_ic_ne, wq_if_lt, wq_ic_lt, wq_if_ge, wq_ic_ge, wq_if_gt, wq_ic_gt, wq_if_le, wq_ic_le, wq_goto, wq_nop, wq_tsw, wq_getfield, wq_pfi, wq_pfl, wq_pfr, wq_getstatic, wq_iaload, wq_baload, wq_laload, wq_daload, wq_aaload, wq_iastore, wq_bastore, wq_lastore, wq_dastore, wq_aastore, wq_arraylength, wq_new, wq_newarray, wq_anewarray, wq_multi, wq_copy, wq_mmax, wq_mmin, wq_oi, wq_cs0, wq_cs1, wq_cs2, wq_cs3, wq_cs4, wq_cs5, wq_cs6, wq_cs7, wq_cv1, wq_cv2, wq_cv3, wq_cv4, wq_cv5, wq_cv6, wq_ci1, wq_ci2, wq_ci3, wq_ci4, wq_ci5, wq_ci6, wq_athrow, wq_ireturn, wq_freturn, wq_dreturn, wq_areturn, wq_return, wsw_n, wsw_c, aft_i, gf_1, gf_2, gf_3, rv_s, okst_0, okst_s, is2_int, is2_float, is2_ref, is2_retAddr, List.getElem?_cons_zero, List.getElem?_cons_succ, List.set_cons_zero, List.set_cons_succ, List.length_cons, List.length_nil, Option.toList_some, Option.toList_none, List.cons_append, List.nil_append, List.singleton_append, gL_setI, gD_setI, gR_setI, gN_setI, gK_setI, gx_setI, gc_setI, gs_setI, gI_setL, gD_setL, gR_setL, gN_setL, gK_setL, gx_setL, gc_setL, gs_setL, gI_setD, gL_setD, gR_setD, gN_setD, gK_setD, gx_setD, gc_setD, gs_setD, gI_setR, gL_setR, gD_setR, gN_setR, gK_setR, gx_setR, gc_setR, gs_setR, gL_rowI, gD_rowI, gR_rowI, gN_rowI, gK_rowI, gx_rowI, gc_rowI, gs_rowI, gI_I, gL_L, gD_D, gR_R, gI_row, gI_bmp, gL_bmp, gD_bmp, gR_bmp, gN_bmp, gK_bmp, gx_bmp, gc_bmp, gs_bmp, gK_pS, gN_pS, gI_pS, gD_pS, gR_pS, gx_pS, gc_pS, gs_pS, iv_11, ↓iv_max, ↓iv_min, iv_lt_t, iv_lt_f, iv_le_t, iv_le_f, iv_eq_t, iv_eq_f, iv_lt0_t, iv_lt0_f, iv_gt0_t, iv_gt0_f, iv_le0_t, iv_le0_f, iv_ge0_t, iv_ge0_f, iv_eq0_t, iv_eq0_f, iv_add, iv_sub, iv_mul, iv_nat, iv_lt, iv_le, iv_eq, iv_lt0, iv_gt0, iv_le0, iv_ge0, iv_eq0, iv_cl, bv_01, bv_eq0, lcmp_eq0, ↓reduceIte, Nat.reduceLeDiff, Nat.reduceLT, Nat.reduceAdd, Nat.reduceSub, Nat.reduceEqDiff, Nat.reduceMul, Nat.succ_ne_zero, Nat.zero_lt_succ, Nat.lt_add_one, Nat.add_left_cancel_iff, and_true, true_and, and_false, false_and, and_self, Nat.zero_le, eq_self, true_or, or_true, false_or, or_false, Bool.not_false, Bool.not_true, not_true, not_false_iff, Int.reduceEq, Int.reduceLT, Int.reduceLE, Int.reduceAdd, Int.reduceSub, Int.reduceToNat, Int.reduceNeg, Bool.false_eq_true, Bool.true_eq_false, reduceCtorEq, tk, t0, t1, t2, t3, t4, t5, t6, t7, t8, t9, t10, kcs, ncs, kdr, ksa, nsa, ks1, ks2, ks3, ks4, ks5, sk, s0, s1, s2, s3, s4, kp, kc, nc, kf, nf8, kq, nq, ko, no, isRA14, iv_inb_t, true_or, or_true, show isRA 15 = true from rfl, show isRA 16 = true from rfl, Int.toNat_natCast, m1, Bool.true_eq_false]
theorem x_143t {σ : St} {Q : Out → St → Prop} {i : Int} (hly : LY σ) (hw : AW σ) (h : 0 ≤ i ∧ i ≤ 120) (h2 : (fb_ct (ss σ 4) 120 : Nat) + i ≤ 120) : Ex 143 [.ref 2, .int (iv i)] σ Q = Q (.inl none) σ := by
  have hly0 := hly
  obtain ⟨tk, t0, t1, t2, t3, t4, t5, t6, t7, t8, t9, t10, kcs, ncs, rcs, kdr, ksa, nsa, ks1, ks2, ks3, ks4, ks5, hst, hhi, hco⟩ := hly
  have hst0 := hst
  obtain ⟨sk, s0, s1, s2, s3, s4, kp, kc, nc, kf, nf8, rf, kfs, kq, nq, rq, kqs, ko, no, ro, kos⟩ := hst
  have sk : gK σ 3 = 6 := sk
  have s0 : gR σ 3 0 = some 4 := s0
  have s1 : gR σ 3 1 = some 5 := s1
  have s2 : gR σ 3 2 = some 6 := s2
  have s3 : gR σ 3 3 = some 15 := s3
  have s4 : gR σ 3 4 = some 20 := s4
  have kp : gK σ 4 = 5 := kp
  have kc : gK σ 5 = 10 := kc
  have nc : gN σ 5 = 480 := nc
  have kf : gK σ 6 = 14 := kf
  have nf8 : gN σ 6 = 8 := nf8
  have rf : ∀ i, i < 8 → gR σ 6 i = some (7 + i) := rf
  have kfs : ∀ i, i < 8 → gK σ (7 + i) = 5 := kfs
  have kq : gK σ 15 = 14 := kq
  have nq : gN σ 15 = 4 := nq
  have rq : ∀ i, i < 4 → gR σ 15 i = some (16 + i) := rq
  have kqs : ∀ i, i < 4 → gK σ (16 + i) = 5 := kqs
  have ko : gK σ 20 = 16 := ko
  have no : gN σ 20 = 4 := no
  have ro : ∀ i, i < 4 → gR σ 20 i = some (21 + i) := ro
  have kos : ∀ i, i < 4 → gK σ (21 + i) = 1 := kos
  have m1 := fun Q => x_67 (Q := Q) kp hw
  simp (disch := first | omega | (simp (maxDischargeDepth := 30) only [gK_pS, AWt, tk, t0, t1, t2, t3, t4, t5, t6, t7, t8, t9, t10, kcs, ncs, kdr, ksa, nsa, ks1, ks2, ks3, ks4, ks5, sk, s0, s1, s2, s3, s4, kp, kc, nc, kf, nf8, kq, nq, ko, no]; done) | (simp (maxDischargeDepth := 30) only [gK_pS, AWt, tk, t0, t1, t2, t3, t4, t5, t6, t7, t8, t9, t10, kcs, ncs, kdr, ksa, nsa, ks1, ks2, ks3, ks4, ks5, sk, s0, s1, s2, s3, s4, kp, kc, nc, kf, nf8, kq, nq, ko, no]; omega)) only [b_143_0, b_143_1, k_143_1, e_143, wq_iconst, wq_bipush, wq_fconst, wq_dconst, wq_iload, wq_lload, wq_fload, wq_dload, wq_aload, wq_istore, wq_fstore, wq_astore, wq_lstore, wq_dstore, wq_iinc, wq_iadd, wq_isub, wq_imul, wq_iand, wq_ior, wq_ixor, wq_ishl, wq_ishr, wq_iushr, wq_ladd, wq_lsub, wq_land, wq_lor, wq_lxor, wq_lshl, wq_lushr, wq_idiv, wq_irem, wq_lcmp, wq_fcmp, wq_dcmp, wq_i2l, wq_l2i, wq_i2f, wq_i2d, wq_f2d, wq_fdiv, wq_ddiv, wq_dupi, wq_dupr, wq_dup2, wq_popi, wq_popr, wq_if_eq, wq_ic_eq, wq_if_ne, wq_ic_ne, wq_if_lt, wq_ic_lt, wq_if_ge, wq_ic_ge, wq_if_gt, wq_ic_gt, wq_if_le, wq_ic_le, wq_goto, wq_nop, wq_tsw, wq_getfield, wq_pfi, wq_pfl, wq_pfr, wq_getstatic, wq_iaload, wq_baload, wq_laload, wq_daload, wq_aaload, wq_iastore, wq_bastore, wq_lastore, wq_dastore, wq_aastore, wq_arraylength, wq_new, wq_newarray, wq_anewarray, wq_multi, wq_copy, wq_mmax, wq_mmin, wq_oi, wq_cs0, wq_cs1, wq_cs2, wq_cs3, wq_cs4, wq_cs5, wq_cs6, wq_cs7, wq_cv1, wq_cv2, wq_cv3, wq_cv4, wq_cv5, wq_cv6, wq_ci1, wq_ci2, wq_ci3, wq_ci4, wq_ci5, wq_ci6, wq_athrow, wq_ireturn, wq_freturn, wq_dreturn, wq_areturn, wq_return, wsw_n, wsw_c, aft_i, gf_1, gf_2, gf_3, rv_s, okst_0, okst_s, is2_int, is2_float, is2_ref, is2_retAddr, List.getElem?_cons_zero, List.getElem?_cons_succ, List.set_cons_zero, List.set_cons_succ, List.length_cons, List.length_nil, Option.toList_some, Option.toList_none, List.cons_append, List.nil_append, List.singleton_append, gL_setI, gD_setI, gR_setI, gN_setI, gK_setI, gx_setI, gc_setI, gs_setI, gI_setL, gD_setL, gR_setL, gN_setL, gK_setL, gx_setL, gc_setL, gs_setL, gI_setD, gL_setD, gR_setD, gN_setD, gK_setD, gx_setD, gc_setD, gs_setD, gI_setR, gL_setR, gD_setR, gN_setR, gK_setR, gx_setR, gc_setR, gs_setR, gL_rowI, gD_rowI, gR_rowI, gN_rowI, gK_rowI, gx_rowI, gc_rowI, gs_rowI, gI_I, gL_L, gD_D, gR_R, gI_row, gI_bmp, gL_bmp, gD_bmp, gR_bmp, gN_bmp, gK_bmp, gx_bmp, gc_bmp, gs_bmp, gK_pS, gN_pS, gI_pS, gD_pS, gR_pS, gx_pS, gc_pS, gs_pS, iv_11, ↓iv_max, ↓iv_min, iv_lt_t, iv_lt_f, iv_le_t, iv_le_f, iv_eq_t, iv_eq_f, iv_lt0_t, iv_lt0_f, iv_gt0_t, iv_gt0_f, iv_le0_t, iv_le0_f, iv_ge0_t, iv_ge0_f, iv_eq0_t, iv_eq0_f, iv_add, iv_sub, iv_mul, iv_nat, iv_lt, iv_le, iv_eq, iv_lt0, iv_gt0, iv_le0, iv_ge0, iv_eq0, iv_cl, bv_01, bv_eq0, lcmp_eq0, ↓reduceIte, Nat.reduceLeDiff, Nat.reduceLT, Nat.reduceAdd, Nat.reduceSub, Nat.reduceEqDiff, Nat.reduceMul, Nat.succ_ne_zero, Nat.zero_lt_succ, Nat.lt_add_one, Nat.add_left_cancel_iff, and_true, true_and, and_false, false_and, and_self, Nat.zero_le, eq_self, true_or, or_true, false_or, or_false, Bool.not_false, Bool.not_true, not_true, not_false_iff, Int.reduceEq, Int.reduceLT, Int.reduceLE, Int.reduceAdd, Int.reduceSub, Int.reduceToNat, Int.reduceNeg, Bool.false_eq_true, Bool.true_eq_false, reduceCtorEq, tk, t0, t1, t2, t3, t4, t5, t6, t7, t8, t9, t10, kcs, ncs, kdr, ksa, nsa, ks1, ks2, ks3, ks4, ks5, sk, s0, s1, s2, s3, s4, kp, kc, nc, kf, nf8, kq, nq, ko, no, isRA14, iv_inb_t, true_or, or_true, show isRA 15 = true from rfl, show isRA 16 = true from rfl, Int.toNat_natCast, m1]
theorem x_143f {σ : St} {Q : Out → St → Prop} {i : Int} (hly : LY σ) (hw : AW σ) (h : 0 ≤ i ∧ i ≤ 120) (h2 : 120 < (fb_ct (ss σ 4) 120 : Nat) + i) : Ex 143 [.ref 2, .int (iv i)] σ Q = Q (.inr 3) (bmp σ) := by
  have hly0 := hly
  obtain ⟨tk, t0, t1, t2, t3, t4, t5, t6, t7, t8, t9, t10, kcs, ncs, rcs, kdr, ksa, nsa, ks1, ks2, ks3, ks4, ks5, hst, hhi, hco⟩ := hly
  have hst0 := hst
  obtain ⟨sk, s0, s1, s2, s3, s4, kp, kc, nc, kf, nf8, rf, kfs, kq, nq, rq, kqs, ko, no, ro, kos⟩ := hst
  have sk : gK σ 3 = 6 := sk
  have s0 : gR σ 3 0 = some 4 := s0
  have s1 : gR σ 3 1 = some 5 := s1
  have s2 : gR σ 3 2 = some 6 := s2
  have s3 : gR σ 3 3 = some 15 := s3
  have s4 : gR σ 3 4 = some 20 := s4
  have kp : gK σ 4 = 5 := kp
  have kc : gK σ 5 = 10 := kc
  have nc : gN σ 5 = 480 := nc
  have kf : gK σ 6 = 14 := kf
  have nf8 : gN σ 6 = 8 := nf8
  have rf : ∀ i, i < 8 → gR σ 6 i = some (7 + i) := rf
  have kfs : ∀ i, i < 8 → gK σ (7 + i) = 5 := kfs
  have kq : gK σ 15 = 14 := kq
  have nq : gN σ 15 = 4 := nq
  have rq : ∀ i, i < 4 → gR σ 15 i = some (16 + i) := rq
  have kqs : ∀ i, i < 4 → gK σ (16 + i) = 5 := kqs
  have ko : gK σ 20 = 16 := ko
  have no : gN σ 20 = 4 := no
  have ro : ∀ i, i < 4 → gR σ 20 i = some (21 + i) := ro
  have kos : ∀ i, i < 4 → gK σ (21 + i) = 1 := kos
  have m1 := fun Q => x_67 (Q := Q) kp hw
  have hle := fb_ct_le (ss σ 4) 120
  simp (disch := first | omega | (simp (maxDischargeDepth := 30) only [gK_pS, AWt, tk, t0, t1, t2, t3, t4, t5, t6, t7, t8, t9, t10, kcs, ncs, kdr, ksa, nsa, ks1, ks2, ks3, ks4, ks5, sk, s0, s1, s2, s3, s4, kp, kc, nc, kf, nf8, kq, nq, ko, no]; done) | (simp (maxDischargeDepth := 30) only [gK_pS, AWt, tk, t0, t1, t2, t3, t4, t5, t6, t7, t8, t9, t10, kcs, ncs, kdr, ksa, nsa, ks1, ks2, ks3, ks4, ks5, sk, s0, s1, s2, s3, s4, kp, kc, nc, kf, nf8, kq, nq, ko, no]; omega)) only [b_143_0, b_143_1, k_143_1, e_143, wq_iconst, wq_bipush, wq_fconst, wq_dconst, wq_iload, wq_lload, wq_fload, wq_dload, wq_aload, wq_istore, wq_fstore, wq_astore, wq_lstore, wq_dstore, wq_iinc, wq_iadd, wq_isub, wq_imul, wq_iand, wq_ior, wq_ixor, wq_ishl, wq_ishr, wq_iushr, wq_ladd, wq_lsub, wq_land, wq_lor, wq_lxor, wq_lshl, wq_lushr, wq_idiv, wq_irem, wq_lcmp, wq_fcmp, wq_dcmp, wq_i2l, wq_l2i, wq_i2f, wq_i2d, wq_f2d, wq_fdiv, wq_ddiv, wq_dupi, wq_dupr, wq_dup2, wq_popi, wq_popr, wq_if_eq, wq_ic_eq, wq_if_ne, wq_ic_ne, wq_if_lt, wq_ic_lt, wq_if_ge, wq_ic_ge, wq_if_gt, wq_ic_gt, wq_if_le, wq_ic_le, wq_goto, wq_nop, wq_tsw, wq_getfield, wq_pfi, wq_pfl, wq_pfr, wq_getstatic, wq_iaload, wq_baload, wq_laload, wq_daload, wq_aaload, wq_iastore, wq_bastore, wq_lastore, wq_dastore, wq_aastore, wq_arraylength, wq_new, wq_newarray, wq_anewarray, wq_multi, wq_copy, wq_mmax, wq_mmin, wq_oi, wq_cs0, wq_cs1, wq_cs2, wq_cs3, wq_cs4, wq_cs5, wq_cs6, wq_cs7, wq_cv1, wq_cv2, wq_cv3, wq_cv4, wq_cv5, wq_cv6, wq_ci1, wq_ci2, wq_ci3, wq_ci4, wq_ci5, wq_ci6, wq_athrow, wq_ireturn, wq_freturn, wq_dreturn, wq_areturn, wq_return, wsw_n, wsw_c, aft_i, gf_1, gf_2, gf_3, rv_s, okst_0, okst_s, is2_int, is2_float, is2_ref, is2_retAddr, List.getElem?_cons_zero, List.getElem?_cons_succ, List.set_cons_zero, List.set_cons_succ, List.length_cons, List.length_nil, Option.toList_some, Option.toList_none, List.cons_append, List.nil_append, List.singleton_append, gL_setI, gD_setI, gR_setI, gN_setI, gK_setI, gx_setI, gc_setI, gs_setI, gI_setL, gD_setL, gR_setL, gN_setL, gK_setL, gx_setL, gc_setL, gs_setL, gI_setD, gL_setD, gR_setD, gN_setD, gK_setD, gx_setD, gc_setD, gs_setD, gI_setR, gL_setR, gD_setR, gN_setR, gK_setR, gx_setR, gc_setR, gs_setR, gL_rowI, gD_rowI, gR_rowI, gN_rowI, gK_rowI, gx_rowI, gc_rowI, gs_rowI, gI_I, gL_L, gD_D, gR_R, gI_row, gI_bmp, gL_bmp, gD_bmp, gR_bmp, gN_bmp, gK_bmp, gx_bmp, gc_bmp, gs_bmp, gK_pS, gN_pS, gI_pS, gD_pS, gR_pS, gx_pS, gc_pS, gs_pS, iv_11, ↓iv_max, ↓iv_min, iv_lt_t, iv_lt_f, iv_le_t, iv_le_f, iv_eq_t, iv_eq_f, iv_lt0_t, iv_lt0_f, iv_gt0_t, iv_gt0_f, iv_le0_t, iv_le0_f, iv_ge0_t, iv_ge0_f, iv_eq0_t, iv_eq0_f, iv_add, iv_sub, iv_mul, iv_nat, iv_lt, iv_le, iv_eq, iv_lt0, iv_gt0, iv_le0, iv_ge0, iv_eq0, iv_cl, bv_01, bv_eq0, lcmp_eq0, ↓reduceIte, Nat.reduceLeDiff, Nat.reduceLT, Nat.reduceAdd, Nat.reduceSub, Nat.reduceEqDiff, Nat.reduceMul, Nat.succ_ne_zero, Nat.zero_lt_succ, Nat.lt_add_one, Nat.add_left_cancel_iff, and_true, true_and, and_false, false_and, and_self, Nat.zero_le, eq_self, true_or, or_true, false_or, or_false, Bool.not_false, Bool.not_true, not_true, not_false_iff, Int.reduceEq, Int.reduceLT, Int.reduceLE, Int.reduceAdd, Int.reduceSub, Int.reduceToNat, Int.reduceNeg, Bool.false_eq_true, Bool.true_eq_false, reduceCtorEq, tk, t0, t1, t2, t3, t4, t5, t6, t7, t8, t9, t10, kcs, ncs, kdr, ksa, nsa, ks1, ks2, ks3, ks4, ks5, sk, s0, s1, s2, s3, s4, kp, kc, nc, kf, nf8, kq, nq, ko, no, isRA14, iv_inb_t, true_or, or_true, show isRA 15 = true from rfl, show isRA 16 = true from rfl, Int.toNat_natCast, m1]
theorem x_144t {σ : St} {Q : Out → St → Prop} {m : Nat} (hly : LY σ) (hm : gI σ 3 5 = iv m) (h : m < 4) : Ex 144 [.ref 2] σ Q = Q (.inl none) σ := by
  have hly0 := hly
  obtain ⟨tk, t0, t1, t2, t3, t4, t5, t6, t7, t8, t9, t10, kcs, ncs, rcs, kdr, ksa, nsa, ks1, ks2, ks3, ks4, ks5, hst, hhi, hco⟩ := hly
  have hst0 := hst
  obtain ⟨sk, s0, s1, s2, s3, s4, kp, kc, nc, kf, nf8, rf, kfs, kq, nq, rq, kqs, ko, no, ro, kos⟩ := hst
  have sk : gK σ 3 = 6 := sk
  have s0 : gR σ 3 0 = some 4 := s0
  have s1 : gR σ 3 1 = some 5 := s1
  have s2 : gR σ 3 2 = some 6 := s2
  have s3 : gR σ 3 3 = some 15 := s3
  have s4 : gR σ 3 4 = some 20 := s4
  have kp : gK σ 4 = 5 := kp
  have kc : gK σ 5 = 10 := kc
  have nc : gN σ 5 = 480 := nc
  have kf : gK σ 6 = 14 := kf
  have nf8 : gN σ 6 = 8 := nf8
  have rf : ∀ i, i < 8 → gR σ 6 i = some (7 + i) := rf
  have kfs : ∀ i, i < 8 → gK σ (7 + i) = 5 := kfs
  have kq : gK σ 15 = 14 := kq
  have nq : gN σ 15 = 4 := nq
  have rq : ∀ i, i < 4 → gR σ 15 i = some (16 + i) := rq
  have kqs : ∀ i, i < 4 → gK σ (16 + i) = 5 := kqs
  have ko : gK σ 20 = 16 := ko
  have no : gN σ 20 = 4 := no
  have ro : ∀ i, i < 4 → gR σ 20 i = some (21 + i) := ro
  have kos : ∀ i, i < 4 → gK σ (21 + i) = 1 := kos
  simp (disch := first | omega | (simp (maxDischargeDepth := 30) only [gK_pS, AWt, tk, t0, t1, t2, t3, t4, t5, t6, t7, t8, t9, t10, kcs, ncs, kdr, ksa, nsa, ks1, ks2, ks3, ks4, ks5, sk, s0, s1, s2, s3, s4, kp, kc, nc, kf, nf8, kq, nq, ko, no]; done) | (simp (maxDischargeDepth := 30) only [gK_pS, AWt, tk, t0, t1, t2, t3, t4, t5, t6, t7, t8, t9, t10, kcs, ncs, kdr, ksa, nsa, ks1, ks2, ks3, ks4, ks5, sk, s0, s1, s2, s3, s4, kp, kc, nc, kf, nf8, kq, nq, ko, no]; omega)) only [b_144_0, b_144_1, k_144_1, e_144, wq_iconst, wq_bipush, wq_fconst, wq_dconst, wq_iload, wq_lload, wq_fload, wq_dload, wq_aload, wq_istore, wq_fstore, wq_astore, wq_lstore, wq_dstore, wq_iinc, wq_iadd, wq_isub, wq_imul, wq_iand, wq_ior, wq_ixor, wq_ishl, wq_ishr, wq_iushr, wq_ladd, wq_lsub, wq_land, wq_lor, wq_lxor, wq_lshl, wq_lushr, wq_idiv, wq_irem, wq_lcmp, wq_fcmp, wq_dcmp, wq_i2l, wq_l2i, wq_i2f, wq_i2d, wq_f2d, wq_fdiv, wq_ddiv, wq_dupi, wq_dupr, wq_dup2, wq_popi, wq_popr, wq_if_eq, wq_ic_eq, wq_if_ne, wq_ic_ne, wq_if_lt, wq_ic_lt, wq_if_ge, wq_ic_ge, wq_if_gt, wq_ic_gt, wq_if_le, wq_ic_le, wq_goto, wq_nop, wq_tsw, wq_getfield, wq_pfi, wq_pfl, wq_pfr, wq_getstatic, wq_iaload, wq_baload, wq_laload, wq_daload, wq_aaload, wq_iastore, wq_bastore, wq_lastore, wq_dastore, wq_aastore, wq_arraylength, wq_new, wq_newarray, wq_anewarray, wq_multi, wq_copy, wq_mmax, wq_mmin, wq_oi, wq_cs0, wq_cs1, wq_cs2, wq_cs3, wq_cs4, wq_cs5, wq_cs6, wq_cs7, wq_cv1, wq_cv2, wq_cv3, wq_cv4, wq_cv5, wq_cv6, wq_ci1, wq_ci2, wq_ci3, wq_ci4, wq_ci5, wq_ci6, wq_athrow, wq_ireturn, wq_freturn, wq_dreturn, wq_areturn, wq_return, wsw_n, wsw_c, aft_i, gf_1, gf_2, gf_3, rv_s, okst_0, okst_s, is2_int, is2_float, is2_ref, is2_retAddr, List.getElem?_cons_zero, List.getElem?_cons_succ, List.set_cons_zero, List.set_cons_succ, List.length_cons, List.length_nil, Option.toList_some, Option.toList_none, List.cons_append, List.nil_append, List.singleton_append, gL_setI, gD_setI, gR_setI, gN_setI, gK_setI, gx_setI, gc_setI, gs_setI, gI_setL, gD_setL, gR_setL, gN_setL, gK_setL, gx_setL, gc_setL, gs_setL, gI_setD, gL_setD, gR_setD, gN_setD, gK_setD, gx_setD, gc_setD, gs_setD, gI_setR, gL_setR, gD_setR, gN_setR, gK_setR, gx_setR, gc_setR, gs_setR, gL_rowI, gD_rowI, gR_rowI, gN_rowI, gK_rowI, gx_rowI, gc_rowI, gs_rowI, gI_I, gL_L, gD_D, gR_R, gI_row, gI_bmp, gL_bmp, gD_bmp, gR_bmp, gN_bmp, gK_bmp, gx_bmp, gc_bmp, gs_bmp, gK_pS, gN_pS, gI_pS, gD_pS, gR_pS, gx_pS, gc_pS, gs_pS, iv_11, ↓iv_max, ↓iv_min, iv_lt_t, iv_lt_f, iv_le_t, iv_le_f, iv_eq_t, iv_eq_f, iv_lt0_t, iv_lt0_f, iv_gt0_t, iv_gt0_f, iv_le0_t, iv_le0_f, iv_ge0_t, iv_ge0_f, iv_eq0_t, iv_eq0_f, iv_add, iv_sub, iv_mul, iv_nat, iv_lt, iv_le, iv_eq, iv_lt0, iv_gt0, iv_le0, iv_ge0, iv_eq0, iv_cl, bv_01, bv_eq0, lcmp_eq0, ↓reduceIte, Nat.reduceLeDiff, Nat.reduceLT, Nat.reduceAdd, Nat.reduceSub, Nat.reduceEqDiff, Nat.reduceMul, Nat.succ_ne_zero, Nat.zero_lt_succ, Nat.lt_add_one, Nat.add_left_cancel_iff, and_true, true_and, and_false, false_and, and_self, Nat.zero_le, eq_self, true_or, or_true, false_or, or_false, Bool.not_false, Bool.not_true, not_true, not_false_iff, Int.reduceEq, Int.reduceLT, Int.reduceLE, Int.reduceAdd, Int.reduceSub, Int.reduceToNat, Int.reduceNeg, Bool.false_eq_true, Bool.true_eq_false, reduceCtorEq, tk, t0, t1, t2, t3, t4, t5, t6, t7, t8, t9, t10, kcs, ncs, kdr, ksa, nsa, ks1, ks2, ks3, ks4, ks5, sk, s0, s1, s2, s3, s4, kp, kc, nc, kf, nf8, kq, nq, ko, no, isRA14, iv_inb_t, true_or, or_true, show isRA 15 = true from rfl, show isRA 16 = true from rfl, Int.toNat_natCast, hm]
theorem x_144f {σ : St} {Q : Out → St → Prop} {m : Nat} (hly : LY σ) (hm : gI σ 3 5 = iv m) (h : m = 4) : Ex 144 [.ref 2] σ Q = Q (.inr 3) (bmp σ) := by
  have hly0 := hly
  obtain ⟨tk, t0, t1, t2, t3, t4, t5, t6, t7, t8, t9, t10, kcs, ncs, rcs, kdr, ksa, nsa, ks1, ks2, ks3, ks4, ks5, hst, hhi, hco⟩ := hly
  have hst0 := hst
  obtain ⟨sk, s0, s1, s2, s3, s4, kp, kc, nc, kf, nf8, rf, kfs, kq, nq, rq, kqs, ko, no, ro, kos⟩ := hst
  have sk : gK σ 3 = 6 := sk
  have s0 : gR σ 3 0 = some 4 := s0
  have s1 : gR σ 3 1 = some 5 := s1
  have s2 : gR σ 3 2 = some 6 := s2
  have s3 : gR σ 3 3 = some 15 := s3
  have s4 : gR σ 3 4 = some 20 := s4
  have kp : gK σ 4 = 5 := kp
  have kc : gK σ 5 = 10 := kc
  have nc : gN σ 5 = 480 := nc
  have kf : gK σ 6 = 14 := kf
  have nf8 : gN σ 6 = 8 := nf8
  have rf : ∀ i, i < 8 → gR σ 6 i = some (7 + i) := rf
  have kfs : ∀ i, i < 8 → gK σ (7 + i) = 5 := kfs
  have kq : gK σ 15 = 14 := kq
  have nq : gN σ 15 = 4 := nq
  have rq : ∀ i, i < 4 → gR σ 15 i = some (16 + i) := rq
  have kqs : ∀ i, i < 4 → gK σ (16 + i) = 5 := kqs
  have ko : gK σ 20 = 16 := ko
  have no : gN σ 20 = 4 := no
  have ro : ∀ i, i < 4 → gR σ 20 i = some (21 + i) := ro
  have kos : ∀ i, i < 4 → gK σ (21 + i) = 1 := kos
  simp (disch := first | omega | (simp (maxDischargeDepth := 30) only [gK_pS, AWt, tk, t0, t1, t2, t3, t4, t5, t6, t7, t8, t9, t10, kcs, ncs, kdr, ksa, nsa, ks1, ks2, ks3, ks4, ks5, sk, s0, s1, s2, s3, s4, kp, kc, nc, kf, nf8, kq, nq, ko, no]; done) | (simp (maxDischargeDepth := 30) only [gK_pS, AWt, tk, t0, t1, t2, t3, t4, t5, t6, t7, t8, t9, t10, kcs, ncs, kdr, ksa, nsa, ks1, ks2, ks3, ks4, ks5, sk, s0, s1, s2, s3, s4, kp, kc, nc, kf, nf8, kq, nq, ko, no]; omega)) only [b_144_0, b_144_1, k_144_1, e_144, wq_iconst, wq_bipush, wq_fconst, wq_dconst, wq_iload, wq_lload, wq_fload, wq_dload, wq_aload, wq_istore, wq_fstore, wq_astore, wq_lstore, wq_dstore, wq_iinc, wq_iadd, wq_isub, wq_imul, wq_iand, wq_ior, wq_ixor, wq_ishl, wq_ishr, wq_iushr, wq_ladd, wq_lsub, wq_land, wq_lor, wq_lxor, wq_lshl, wq_lushr, wq_idiv, wq_irem, wq_lcmp, wq_fcmp, wq_dcmp, wq_i2l, wq_l2i, wq_i2f, wq_i2d, wq_f2d, wq_fdiv, wq_ddiv, wq_dupi, wq_dupr, wq_dup2, wq_popi, wq_popr, wq_if_eq, wq_ic_eq, wq_if_ne, wq_ic_ne, wq_if_lt, wq_ic_lt, wq_if_ge, wq_ic_ge, wq_if_gt, wq_ic_gt, wq_if_le, wq_ic_le, wq_goto, wq_nop, wq_tsw, wq_getfield, wq_pfi, wq_pfl, wq_pfr, wq_getstatic, wq_iaload, wq_baload, wq_laload, wq_daload, wq_aaload, wq_iastore, wq_bastore, wq_lastore, wq_dastore, wq_aastore, wq_arraylength, wq_new, wq_newarray, wq_anewarray, wq_multi, wq_copy, wq_mmax, wq_mmin, wq_oi, wq_cs0, wq_cs1, wq_cs2, wq_cs3, wq_cs4, wq_cs5, wq_cs6, wq_cs7, wq_cv1, wq_cv2, wq_cv3, wq_cv4, wq_cv5, wq_cv6, wq_ci1, wq_ci2, wq_ci3, wq_ci4, wq_ci5, wq_ci6, wq_athrow, wq_ireturn, wq_freturn, wq_dreturn, wq_areturn, wq_return, wsw_n, wsw_c, aft_i, gf_1, gf_2, gf_3, rv_s, okst_0, okst_s, is2_int, is2_float, is2_ref, is2_retAddr, List.getElem?_cons_zero, List.getElem?_cons_succ, List.set_cons_zero, List.set_cons_succ, List.length_cons, List.length_nil, Option.toList_some, Option.toList_none, List.cons_append, List.nil_append, List.singleton_append, gL_setI, gD_setI, gR_setI, gN_setI, gK_setI, gx_setI, gc_setI, gs_setI, gI_setL, gD_setL, gR_setL, gN_setL, gK_setL, gx_setL, gc_setL, gs_setL, gI_setD, gL_setD, gR_setD, gN_setD, gK_setD, gx_setD, gc_setD, gs_setD, gI_setR, gL_setR, gD_setR, gN_setR, gK_setR, gx_setR, gc_setR, gs_setR, gL_rowI, gD_rowI, gR_rowI, gN_rowI, gK_rowI, gx_rowI, gc_rowI, gs_rowI, gI_I, gL_L, gD_D, gR_R, gI_row, gI_bmp, gL_bmp, gD_bmp, gR_bmp, gN_bmp, gK_bmp, gx_bmp, gc_bmp, gs_bmp, gK_pS, gN_pS, gI_pS, gD_pS, gR_pS, gx_pS, gc_pS, gs_pS, iv_11, ↓iv_max, ↓iv_min, iv_lt_t, iv_lt_f, iv_le_t, iv_le_f, iv_eq_t, iv_eq_f, iv_lt0_t, iv_lt0_f, iv_gt0_t, iv_gt0_f, iv_le0_t, iv_le0_f, iv_ge0_t, iv_ge0_f, iv_eq0_t, iv_eq0_f, iv_add, iv_sub, iv_mul, iv_nat, iv_lt, iv_le, iv_eq, iv_lt0, iv_gt0, iv_le0, iv_ge0, iv_eq0, iv_cl, bv_01, bv_eq0, lcmp_eq0, ↓reduceIte, Nat.reduceLeDiff, Nat.reduceLT, Nat.reduceAdd, Nat.reduceSub, Nat.reduceEqDiff, Nat.reduceMul, Nat.succ_ne_zero, Nat.zero_lt_succ, Nat.lt_add_one, Nat.add_left_cancel_iff, and_true, true_and, and_false, false_and, and_self, Nat.zero_le, eq_self, true_or, or_true, false_or, or_false, Bool.not_false, Bool.not_true, not_true, not_false_iff, Int.reduceEq, Int.reduceLT, Int.reduceLE, Int.reduceAdd, Int.reduceSub, Int.reduceToNat, Int.reduceNeg, Bool.false_eq_true, Bool.true_eq_false, reduceCtorEq, tk, t0, t1, t2, t3, t4, t5, t6, t7, t8, t9, t10, kcs, ncs, kdr, ksa, nsa, ks1, ks2, ks3, ks4, ks5, sk, s0, s1, s2, s3, s4, kp, kc, nc, kf, nf8, kq, nq, ko, no, isRA14, iv_inb_t, true_or, or_true, show isRA 15 = true from rfl, show isRA 16 = true from rfl, Int.toNat_natCast, hm]
theorem x_145t {σ : St} {Q : Out → St → Prop} {free n : Nat} (hly : LY σ) (hs : HiS σ 25 free n) (h : 0 < n) : Ex 145 [.ref 2] σ Q = Q (.inl none) σ := by
  have hly0 := hly
  obtain ⟨tk, t0, t1, t2, t3, t4, t5, t6, t7, t8, t9, t10, kcs, ncs, rcs, kdr, ksa, nsa, ks1, ks2, ks3, ks4, ks5, hst, hhi, hco⟩ := hly
  have hst0 := hst
  obtain ⟨sk, s0, s1, s2, s3, s4, kp, kc, nc, kf, nf8, rf, kfs, kq, nq, rq, kqs, ko, no, ro, kos⟩ := hst
  have sk : gK σ 3 = 6 := sk
  have s0 : gR σ 3 0 = some 4 := s0
  have s1 : gR σ 3 1 = some 5 := s1
  have s2 : gR σ 3 2 = some 6 := s2
  have s3 : gR σ 3 3 = some 15 := s3
  have s4 : gR σ 3 4 = some 20 := s4
  have kp : gK σ 4 = 5 := kp
  have kc : gK σ 5 = 10 := kc
  have nc : gN σ 5 = 480 := nc
  have kf : gK σ 6 = 14 := kf
  have nf8 : gN σ 6 = 8 := nf8
  have rf : ∀ i, i < 8 → gR σ 6 i = some (7 + i) := rf
  have kfs : ∀ i, i < 8 → gK σ (7 + i) = 5 := kfs
  have kq : gK σ 15 = 14 := kq
  have nq : gN σ 15 = 4 := nq
  have rq : ∀ i, i < 4 → gR σ 15 i = some (16 + i) := rq
  have kqs : ∀ i, i < 4 → gK σ (16 + i) = 5 := kqs
  have ko : gK σ 20 = 16 := ko
  have no : gN σ 20 = 4 := no
  have ro : ∀ i, i < 4 → gR σ 20 i = some (21 + i) := ro
  have kos : ∀ i, i < 4 → gK σ (21 + i) = 1 := kos
  have hn := hs.2.2.2
  have hk4 := hhi.1
  have m1 := fun Q => x_46 (Q := Q) hhi hs
  simp (disch := first | omega | (simp (maxDischargeDepth := 30) only [gK_pS, AWt, tk, t0, t1, t2, t3, t4, t5, t6, t7, t8, t9, t10, kcs, ncs, kdr, ksa, nsa, ks1, ks2, ks3, ks4, ks5, sk, s0, s1, s2, s3, s4, kp, kc, nc, kf, nf8, kq, nq, ko, no, hk4]; done) | (simp (maxDischargeDepth := 30) only [gK_pS, AWt, tk, t0, t1, t2, t3, t4, t5, t6, t7, t8, t9, t10, kcs, ncs, kdr, ksa, nsa, ks1, ks2, ks3, ks4, ks5, sk, s0, s1, s2, s3, s4, kp, kc, nc, kf, nf8, kq, nq, ko, no, hk4]; omega)) only [b_145_0, b_145_1, k_145_1, e_145, wq_iconst, wq_bipush, wq_fconst, wq_dconst, wq_iload, wq_lload, wq_fload, wq_dload, wq_aload, wq_istore, wq_fstore, wq_astore, wq_lstore, wq_dstore, wq_iinc, wq_iadd, wq_isub, wq_imul, wq_iand, wq_ior, wq_ixor, wq_ishl, wq_ishr, wq_iushr, wq_ladd, wq_lsub, wq_land, wq_lor, wq_lxor, wq_lshl, wq_lushr, wq_idiv, wq_irem, wq_lcmp, wq_fcmp, wq_dcmp, wq_i2l, wq_l2i, wq_i2f, wq_i2d, wq_f2d, wq_fdiv, wq_ddiv, wq_dupi, wq_dupr, wq_dup2, wq_popi, wq_popr, wq_if_eq, wq_ic_eq, wq_if_ne, wq_ic_ne, wq_if_lt, wq_ic_lt, wq_if_ge, wq_ic_ge, wq_if_gt, wq_ic_gt, wq_if_le, wq_ic_le, wq_goto, wq_nop, wq_tsw, wq_getfield, wq_pfi, wq_pfl, wq_pfr, wq_getstatic, wq_iaload, wq_baload, wq_laload, wq_daload, wq_aaload, wq_iastore, wq_bastore, wq_lastore, wq_dastore, wq_aastore, wq_arraylength, wq_new, wq_newarray, wq_anewarray, wq_multi, wq_copy, wq_mmax, wq_mmin, wq_oi, wq_cs0, wq_cs1, wq_cs2, wq_cs3, wq_cs4, wq_cs5, wq_cs6, wq_cs7, wq_cv1, wq_cv2, wq_cv3, wq_cv4, wq_cv5, wq_cv6, wq_ci1, wq_ci2, wq_ci3, wq_ci4, wq_ci5, wq_ci6, wq_athrow, wq_ireturn, wq_freturn, wq_dreturn, wq_areturn, wq_return, wsw_n, wsw_c, aft_i, gf_1, gf_2, gf_3, rv_s, okst_0, okst_s, is2_int, is2_float, is2_ref, is2_retAddr, List.getElem?_cons_zero, List.getElem?_cons_succ, List.set_cons_zero, List.set_cons_succ, List.length_cons, List.length_nil, Option.toList_some, Option.toList_none, List.cons_append, List.nil_append, List.singleton_append, gL_setI, gD_setI, gR_setI, gN_setI, gK_setI, gx_setI, gc_setI, gs_setI, gI_setL, gD_setL, gR_setL, gN_setL, gK_setL, gx_setL, gc_setL, gs_setL, gI_setD, gL_setD, gR_setD, gN_setD, gK_setD, gx_setD, gc_setD, gs_setD, gI_setR, gL_setR, gD_setR, gN_setR, gK_setR, gx_setR, gc_setR, gs_setR, gL_rowI, gD_rowI, gR_rowI, gN_rowI, gK_rowI, gx_rowI, gc_rowI, gs_rowI, gI_I, gL_L, gD_D, gR_R, gI_row, gI_bmp, gL_bmp, gD_bmp, gR_bmp, gN_bmp, gK_bmp, gx_bmp, gc_bmp, gs_bmp, gK_pS, gN_pS, gI_pS, gD_pS, gR_pS, gx_pS, gc_pS, gs_pS, iv_11, ↓iv_max, ↓iv_min, iv_lt_t, iv_lt_f, iv_le_t, iv_le_f, iv_eq_t, iv_eq_f, iv_lt0_t, iv_lt0_f, iv_gt0_t, iv_gt0_f, iv_le0_t, iv_le0_f, iv_ge0_t, iv_ge0_f, iv_eq0_t, iv_eq0_f, iv_add, iv_sub, iv_mul, iv_nat, iv_lt, iv_le, iv_eq, iv_lt0, iv_gt0, iv_le0, iv_ge0, iv_eq0, iv_cl, bv_01, bv_eq0, lcmp_eq0, ↓reduceIte, Nat.reduceLeDiff, Nat.reduceLT, Nat.reduceAdd, Nat.reduceSub, Nat.reduceEqDiff, Nat.reduceMul, Nat.succ_ne_zero, Nat.zero_lt_succ, Nat.lt_add_one, Nat.add_left_cancel_iff, and_true, true_and, and_false, false_and, and_self, Nat.zero_le, eq_self, true_or, or_true, false_or, or_false, Bool.not_false, Bool.not_true, not_true, not_false_iff, Int.reduceEq, Int.reduceLT, Int.reduceLE, Int.reduceAdd, Int.reduceSub, Int.reduceToNat, Int.reduceNeg, Bool.false_eq_true, Bool.true_eq_false, reduceCtorEq, tk, t0, t1, t2, t3, t4, t5, t6, t7, t8, t9, t10, kcs, ncs, kdr, ksa, nsa, ks1, ks2, ks3, ks4, ks5, sk, s0, s1, s2, s3, s4, kp, kc, nc, kf, nf8, kq, nq, ko, no, hk4, isRA14, iv_inb_t, true_or, or_true, show isRA 15 = true from rfl, show isRA 16 = true from rfl, Int.toNat_natCast, m1]
theorem x_145f {σ : St} {Q : Out → St → Prop} {free n : Nat} (hly : LY σ) (hs : HiS σ 25 free n) (h : n = 0) : Ex 145 [.ref 2] σ Q = Q (.inr 3) (bmp σ) := by
  have hly0 := hly
  obtain ⟨tk, t0, t1, t2, t3, t4, t5, t6, t7, t8, t9, t10, kcs, ncs, rcs, kdr, ksa, nsa, ks1, ks2, ks3, ks4, ks5, hst, hhi, hco⟩ := hly
  have hst0 := hst
  obtain ⟨sk, s0, s1, s2, s3, s4, kp, kc, nc, kf, nf8, rf, kfs, kq, nq, rq, kqs, ko, no, ro, kos⟩ := hst
  have sk : gK σ 3 = 6 := sk
  have s0 : gR σ 3 0 = some 4 := s0
  have s1 : gR σ 3 1 = some 5 := s1
  have s2 : gR σ 3 2 = some 6 := s2
  have s3 : gR σ 3 3 = some 15 := s3
  have s4 : gR σ 3 4 = some 20 := s4
  have kp : gK σ 4 = 5 := kp
  have kc : gK σ 5 = 10 := kc
  have nc : gN σ 5 = 480 := nc
  have kf : gK σ 6 = 14 := kf
  have nf8 : gN σ 6 = 8 := nf8
  have rf : ∀ i, i < 8 → gR σ 6 i = some (7 + i) := rf
  have kfs : ∀ i, i < 8 → gK σ (7 + i) = 5 := kfs
  have kq : gK σ 15 = 14 := kq
  have nq : gN σ 15 = 4 := nq
  have rq : ∀ i, i < 4 → gR σ 15 i = some (16 + i) := rq
  have kqs : ∀ i, i < 4 → gK σ (16 + i) = 5 := kqs
  have ko : gK σ 20 = 16 := ko
  have no : gN σ 20 = 4 := no
  have ro : ∀ i, i < 4 → gR σ 20 i = some (21 + i) := ro
  have kos : ∀ i, i < 4 → gK σ (21 + i) = 1 := kos
  have hk4 := hhi.1
  have m1 := fun Q => x_46 (Q := Q) hhi hs
  simp (disch := first | omega | (simp (maxDischargeDepth := 30) only [gK_pS, AWt, tk, t0, t1, t2, t3, t4, t5, t6, t7, t8, t9, t10, kcs, ncs, kdr, ksa, nsa, ks1, ks2, ks3, ks4, ks5, sk, s0, s1, s2, s3, s4, kp, kc, nc, kf, nf8, kq, nq, ko, no, hk4]; done) | (simp (maxDischargeDepth := 30) only [gK_pS, AWt, tk, t0, t1, t2, t3, t4, t5, t6, t7, t8, t9, t10, kcs, ncs, kdr, ksa, nsa, ks1, ks2, ks3, ks4, ks5, sk, s0, s1, s2, s3, s4, kp, kc, nc, kf, nf8, kq, nq, ko, no, hk4]; omega)) only [b_145_0, b_145_1, k_145_1, e_145, wq_iconst, wq_bipush, wq_fconst, wq_dconst, wq_iload, wq_lload, wq_fload, wq_dload, wq_aload, wq_istore, wq_fstore, wq_astore, wq_lstore, wq_dstore, wq_iinc, wq_iadd, wq_isub, wq_imul, wq_iand, wq_ior, wq_ixor, wq_ishl, wq_ishr, wq_iushr, wq_ladd, wq_lsub, wq_land, wq_lor, wq_lxor, wq_lshl, wq_lushr, wq_idiv, wq_irem, wq_lcmp, wq_fcmp, wq_dcmp, wq_i2l, wq_l2i, wq_i2f, wq_i2d, wq_f2d, wq_fdiv, wq_ddiv, wq_dupi, wq_dupr, wq_dup2, wq_popi, wq_popr, wq_if_eq, wq_ic_eq, wq_if_ne, wq_ic_ne, wq_if_lt, wq_ic_lt, wq_if_ge, wq_ic_ge, wq_if_gt, wq_ic_gt, wq_if_le, wq_ic_le, wq_goto, wq_nop, wq_tsw, wq_getfield, wq_pfi, wq_pfl, wq_pfr, wq_getstatic, wq_iaload, wq_baload, wq_laload, wq_daload, wq_aaload, wq_iastore, wq_bastore, wq_lastore, wq_dastore, wq_aastore, wq_arraylength, wq_new, wq_newarray, wq_anewarray, wq_multi, wq_copy, wq_mmax, wq_mmin, wq_oi, wq_cs0, wq_cs1, wq_cs2, wq_cs3, wq_cs4, wq_cs5, wq_cs6, wq_cs7, wq_cv1, wq_cv2, wq_cv3, wq_cv4, wq_cv5, wq_cv6, wq_ci1, wq_ci2, wq_ci3, wq_ci4, wq_ci5, wq_ci6, wq_athrow, wq_ireturn, wq_freturn, wq_dreturn, wq_areturn, wq_return, wsw_n, wsw_c, aft_i, gf_1, gf_2, gf_3, rv_s, okst_0, okst_s, is2_int, is2_float, is2_ref, is2_retAddr, List.getElem?_cons_zero, List.getElem?_cons_succ, List.set_cons_zero, List.set_cons_succ, List.length_cons, List.length_nil, Option.toList_some, Option.toList_none, List.cons_append, List.nil_append, List.singleton_append, gL_setI, gD_setI, gR_setI, gN_setI, gK_setI, gx_setI, gc_setI, gs_setI, gI_setL, gD_setL, gR_setL, gN_setL, gK_setL, gx_setL, gc_setL, gs_setL, gI_setD, gL_setD, gR_setD, gN_setD, gK_setD, gx_setD, gc_setD, gs_setD, gI_setR, gL_setR, gD_setR, gN_setR, gK_setR, gx_setR, gc_setR, gs_setR, gL_rowI, gD_rowI, gR_rowI, gN_rowI, gK_rowI, gx_rowI, gc_rowI, gs_rowI, gI_I, gL_L, gD_D, gR_R, gI_row, gI_bmp, gL_bmp, gD_bmp, gR_bmp, gN_bmp, gK_bmp, gx_bmp, gc_bmp, gs_bmp, gK_pS, gN_pS, gI_pS, gD_pS, gR_pS, gx_pS, gc_pS, gs_pS, iv_11, ↓iv_max, ↓iv_min, iv_lt_t, iv_lt_f, iv_le_t, iv_le_f, iv_eq_t, iv_eq_f, iv_lt0_t, iv_lt0_f, iv_gt0_t, iv_gt0_f, iv_le0_t, iv_le0_f, iv_ge0_t, iv_ge0_f, iv_eq0_t, iv_eq0_f, iv_add, iv_sub, iv_mul, iv_nat, iv_lt, iv_le, iv_eq, iv_lt0, iv_gt0, iv_le0, iv_ge0, iv_eq0, iv_cl, bv_01, bv_eq0, lcmp_eq0, ↓reduceIte, Nat.reduceLeDiff, Nat.reduceLT, Nat.reduceAdd, Nat.reduceSub, Nat.reduceEqDiff, Nat.reduceMul, Nat.succ_ne_zero, Nat.zero_lt_succ, Nat.lt_add_one, Nat.add_left_cancel_iff, and_true, true_and, and_false, false_and, and_self, Nat.zero_le, eq_self, true_or, or_true, false_or, or_false, Bool.not_false, Bool.not_true, not_true, not_false_iff, Int.reduceEq, Int.reduceLT, Int.reduceLE, Int.reduceAdd, Int.reduceSub, Int.reduceToNat, Int.reduceNeg, Bool.false_eq_true, Bool.true_eq_false, reduceCtorEq, tk, t0, t1, t2, t3, t4, t5, t6, t7, t8, t9, t10, kcs, ncs, kdr, ksa, nsa, ks1, ks2, ks3, ks4, ks5, sk, s0, s1, s2, s3, s4, kp, kc, nc, kf, nf8, kq, nq, ko, no, hk4, isRA14, iv_inb_t, true_or, or_true, show isRA 15 = true from rfl, show isRA 16 = true from rfl, Int.toNat_natCast, m1]
theorem x_146 {σ : St} {Q : Out → St → Prop} (hly : LY σ) (hw : AW σ) (h : fb_ct (ss σ 4) 120 < 120) (hQ : ∀ (r : Nat) (f : Nat → Bool), r < 120 → ss σ 4 r = false → (∀ k, k < r → ss σ 4 k = true) → Q (.inl (some (.int (iv r)))) (pS (pS σ 221 f) 4 (fun k => if k = r then true else ss σ 4 k))) : Ex 146 [.ref 2] σ Q := by
  have hly0 := hly
  obtain ⟨tk, t0, t1, t2, t3, t4, t5, t6, t7, t8, t9, t10, kcs, ncs, rcs, kdr, ksa, nsa, ks1, ks2, ks3, ks4, ks5, hst, hhi, hco⟩ := hly
  have hst0 := hst
  obtain ⟨sk, s0, s1, s2, s3, s4, kp, kc, nc, kf, nf8, rf, kfs, kq, nq, rq, kqs, ko, no, ro, kos⟩ := hst
  have sk : gK σ 3 = 6 := sk
  have s0 : gR σ 3 0 = some 4 := s0
  have s1 : gR σ 3 1 = some 5 := s1
  have s2 : gR σ 3 2 = some 6 := s2
  have s3 : gR σ 3 3 = some 15 := s3
  have s4 : gR σ 3 4 = some 20 := s4
  have kp : gK σ 4 = 5 := kp
  have kc : gK σ 5 = 10 := kc
  have nc : gN σ 5 = 480 := nc
  have kf : gK σ 6 = 14 := kf
  have nf8 : gN σ 6 = 8 := nf8
  have rf : ∀ i, i < 8 → gR σ 6 i = some (7 + i) := rf
  have kfs : ∀ i, i < 8 → gK σ (7 + i) = 5 := kfs
  have kq : gK σ 15 = 14 := kq
  have nq : gN σ 15 = 4 := nq
  have rq : ∀ i, i < 4 → gR σ 15 i = some (16 + i) := rq
  have kqs : ∀ i, i < 4 → gK σ (16 + i) = 5 := kqs
  have ko : gK σ 20 = 16 := ko
  have no : gN σ 20 = 4 := no
  have ro : ∀ i, i < 4 → gR σ 20 i = some (21 + i) := ro
  have kos : ∀ i, i < 4 → gK σ (21 + i) = 1 := kos
  have e1 : ss (pS (pS σ 221 (fun _ => true)) 221 (fun n => ss (pS σ 221 (fun _ => true)) 221 n && !ss (pS σ 221 (fun _ => true)) 4 n)) 221 = fun n => decide (n < 120) && !ss σ 4 n := by
    funext n
    rw [ss_same, ss_same, ss_ne σ _ (by omega)]
    by_cases hn : n < 120
    · simp [hn]
    · simp [hn]
  have hc : 0 < fb_ct (fun n => decide (n < 120) && !ss σ 4 n) 120 := by
    have := fb_ct_not (ss σ 4) 120
    rw [fb_ct_cong (q := fun n => !ss σ 4 n) (fun n hn => by simp [hn])]
    omega
  have sp := nth_sp hc
  have e2 : kth (fun n => decide (n < 120) && !ss σ 4 n) (fb_ct (fun n => decide (n < 120) && !ss σ 4 n) (min (0 : Int).toNat 120) : Nat) = (nth (fun n => decide (n < 120) && !ss σ 4 n) 0 : Nat) := by
    rw [show min (0 : Int).toNat 120 = 0 from rfl, show fb_ct (fun n => decide (n < 120) && !ss σ 4 n) 0 = 0 from rfl]
    exact if_pos ⟨by omega, by omega⟩
  have m71 : ∀ Q, Ex 71 [.ref 221, .int (iv 0)] (pS σ 221 (fun n => ss (pS σ 221 (fun _ => true)) 221 n && !ss (pS σ 221 (fun _ => true)) 4 n)) Q = Q (.inl (some (.int (iv (nth (fun n => decide (n < 120) && !ss σ 4 n) 0 : Nat))))) (pS σ 221 (fun n => ss (pS σ 221 (fun _ => true)) 221 n && !ss (pS σ 221 (fun _ => true)) 4 n)) := fun Q => by
    have e3 := e1
    rw [pS_twice] at e3
    rw [x_71 (σ := pS σ 221 _) ks1 (AW_pS hw _ _) (by omega) (by omega), e3, e2]
  generalize nth (fun n => decide (n < 120) && !ss σ 4 n) 0 = r at sp m71
  obtain ⟨p1, p2, p3⟩ := sp
  have p4 : ss σ 4 r = false := by
    have := p2
    simp only [decide_eq_true p1, Bool.true_and, Bool.not_eq_true'] at this
    exact this
  have p5 : ∀ k, k < r → ss σ 4 k = true := fun k hk => by
    have := fb_ct_zero.mp p3 k hk
    simp only [decide_eq_true (show k < 120 by omega), Bool.true_and, Bool.not_eq_false'] at this
    exact this
  have m56 : ∀ Q, Ex 56 [.ref 4, .int (iv (r : Int)), .int (iv 1)] (pS σ 221 (fun n => ss (pS σ 221 (fun _ => true)) 221 n && !ss (pS σ 221 (fun _ => true)) 4 n)) Q = Q (.inl none) (pS (pS σ 221 (fun n => ss (pS σ 221 (fun _ => true)) 221 n && !ss (pS σ 221 (fun _ => true)) 4 n)) 4 (fun k => if k = r then true else ss σ 4 k)) := fun Q => by
    rw [x_56w (σ := pS σ 221 _) (w := 1) kp (AW_pS hw _ _) (by omega) (by omega), Int.toNat_natCast, ss_ne (p := 221) (q := 4) σ _ (by omega)]
    rfl
  simp (disch := first | omega | (simp (maxDischargeDepth := 30) only [gK_pS, AWt, tk, t0, t1, t2, t3, t4, t5, t6, t7, t8, t9, t10, kcs, ncs, kdr, ksa, nsa, ks1, ks2, ks3, ks4, ks5, sk, s0, s1, s2, s3, s4, kp, kc, nc, kf, nf8, kq, nq, ko, no, hw]; done) | (simp (maxDischargeDepth := 30) only [gK_pS, AWt, tk, t0, t1, t2, t3, t4, t5, t6, t7, t8, t9, t10, kcs, ncs, kdr, ksa, nsa, ks1, ks2, ks3, ks4, ks5, sk, s0, s1, s2, s3, s4, kp, kc, nc, kf, nf8, kq, nq, ko, no, hw]; omega)) only [b_146_0, e_146, wq_iconst, wq_bipush, wq_fconst, wq_dconst, wq_iload, wq_lload, wq_fload, wq_dload, wq_aload, wq_istore, wq_fstore, wq_astore, wq_lstore, wq_dstore, wq_iinc, wq_iadd, wq_isub, wq_imul, wq_iand, wq_ior, wq_ixor, wq_ishl, wq_ishr, wq_iushr, wq_ladd, wq_lsub, wq_land, wq_lor, wq_lxor, wq_lshl, wq_lushr, wq_idiv, wq_irem, wq_lcmp, wq_fcmp, wq_dcmp, wq_i2l, wq_l2i, wq_i2f, wq_i2d, wq_f2d, wq_fdiv, wq_ddiv, wq_dupi, wq_dupr, wq_dup2, wq_popi, wq_popr, wq_if_eq, wq_ic_eq, wq_if_ne, wq_ic_ne, wq_if_lt, wq_ic_lt, wq_if_ge, wq_ic_ge, wq_if_gt, wq_ic_gt, wq_if_le, wq_ic_le, wq_goto, wq_nop, wq_tsw, wq_getfield, wq_pfi, wq_pfl, wq_pfr, wq_getstatic, wq_iaload, wq_baload, wq_laload, wq_daload, wq_aaload, wq_iastore, wq_bastore, wq_lastore, wq_dastore, wq_aastore, wq_arraylength, wq_new, wq_newarray, wq_anewarray, wq_multi, wq_copy, wq_mmax, wq_mmin, wq_oi, wq_cs0, wq_cs1, wq_cs2, wq_cs3, wq_cs4, wq_cs5, wq_cs6, wq_cs7, wq_cv1, wq_cv2, wq_cv3, wq_cv4, wq_cv5, wq_cv6, wq_ci1, wq_ci2, wq_ci3, wq_ci4, wq_ci5, wq_ci6, wq_athrow, wq_ireturn, wq_freturn, wq_dreturn, wq_areturn, wq_return, wsw_n, wsw_c, aft_i, gf_1, gf_2, gf_3, rv_s, okst_0, okst_s, is2_int, is2_float, is2_ref, is2_retAddr, List.getElem?_cons_zero, List.getElem?_cons_succ, List.set_cons_zero, List.set_cons_succ, List.length_cons, List.length_nil, Option.toList_some, Option.toList_none, List.cons_append, List.nil_append, List.singleton_append, gL_setI, gD_setI, gR_setI, gN_setI, gK_setI, gx_setI, gc_setI, gs_setI, gI_setL, gD_setL, gR_setL, gN_setL, gK_setL, gx_setL, gc_setL, gs_setL, gI_setD, gL_setD, gR_setD, gN_setD, gK_setD, gx_setD, gc_setD, gs_setD, gI_setR, gL_setR, gD_setR, gN_setR, gK_setR, gx_setR, gc_setR, gs_setR, gL_rowI, gD_rowI, gR_rowI, gN_rowI, gK_rowI, gx_rowI, gc_rowI, gs_rowI, gI_I, gL_L, gD_D, gR_R, gI_row, gI_bmp, gL_bmp, gD_bmp, gR_bmp, gN_bmp, gK_bmp, gx_bmp, gc_bmp, gs_bmp, gK_pS, gN_pS, gI_pS, gD_pS, gR_pS, gx_pS, gc_pS, gs_pS, iv_11, ↓iv_max, ↓iv_min, iv_lt_t, iv_lt_f, iv_le_t, iv_le_f, iv_eq_t, iv_eq_f, iv_lt0_t, iv_lt0_f, iv_gt0_t, iv_gt0_f, iv_le0_t, iv_le0_f, iv_ge0_t, iv_ge0_f, iv_eq0_t, iv_eq0_f, iv_add, iv_sub, iv_mul, iv_nat, iv_lt, iv_le, iv_eq, iv_lt0, iv_gt0, iv_le0, iv_ge0, iv_eq0, iv_cl, bv_01, bv_eq0, lcmp_eq0, ↓reduceIte, Nat.reduceLeDiff, Nat.reduceLT, Nat.reduceAdd, Nat.reduceSub, Nat.reduceEqDiff, Nat.reduceMul, Nat.succ_ne_zero, Nat.zero_lt_succ, Nat.lt_add_one, Nat.add_left_cancel_iff, and_true, true_and, and_false, false_and, and_self, Nat.zero_le, eq_self, true_or, or_true, false_or, or_false, Bool.not_false, Bool.not_true, not_true, not_false_iff, Int.reduceEq, Int.reduceLT, Int.reduceLE, Int.reduceAdd, Int.reduceSub, Int.reduceToNat, Int.reduceNeg, Bool.false_eq_true, Bool.true_eq_false, reduceCtorEq, tk, t0, t1, t2, t3, t4, t5, t6, t7, t8, t9, t10, kcs, ncs, kdr, ksa, nsa, ks1, ks2, ks3, ks4, ks5, sk, s0, s1, s2, s3, s4, kp, kc, nc, kf, nf8, kq, nq, ko, no, hw, isRA14, iv_inb_t, true_or, or_true, show isRA 15 = true from rfl, show isRA 16 = true from rfl, Int.toNat_natCast, x_52, x_59, m71, m56, pS_twice]
  exact hQ r _ p1 p4 p5
