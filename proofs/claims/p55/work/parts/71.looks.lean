/-! THE STORE: more looks -/
theorem WF.rg {a : PS} (h : WF a) (r c : Nat) : -64 ≤ pV a r c ∧ pV a r c ≤ 100 := by
  rcases h.2.2.1 r c with h | h
  · omega
  · rw [isv_iff] at h; omega
theorem c_valueAt_t {σ : St} {Q : Out → St → Prop} {a : PS} {n : Nat} {hs : Nat → PS} (hb : BI σ a n hs) {r c : Int} (hr : 0 ≤ r ∧ r < 120) (hT : pT a r.toNat = true) (hc : 0 ≤ c ∧ c < 4) : Ex 103 [.ref 2, .int (iv r), .int (iv c)] σ Q = Q (.inl (some (.int (iv (pV a r.toNat c.toNat))))) σ := by
  obtain ⟨hly, hw, hwf, hcs, hkc, -⟩ := hb
  have hcel := cel_3 hcs (r := r.toNat) (c := c.toNat) (by omega) (by omega) (hwf.rg _ _)
  rw [Int.toNat_of_nonneg hr.1, Int.toNat_of_nonneg hc.1] at hcel
  have hly0 := hly
  obtain ⟨tk, t0, t1, t2, t3, t4, t5, t6, t7, t8, t9, t10, kcs, ncs, rcs, kdr, ksa, nsa, ks1, ks2, ks3, ks4, ks5, hst, hhi, hco⟩ := hly
  have hst0 := hst
  obtain ⟨sk, s0, s1, s2, s3, s4, kp, kc, nc, kf, nf8, rf, kfs, kq, nq, rq, kqs, ko, no, ro, kos⟩ := hst
  have sk : gK σ 3 = 6 := sk
  have s0 : gR σ 3 0 = some 4 := s0
  have s1 : gR σ 3 1 = some 5 := s1
  have s2 : gR σ 3 2 = some 6 := s2
  have s3 : gR σ 3 3 = some 15 := s3
  have s4 : gR σ 3 4 = some 20 := s4
  have kp : gK σ 4 = 5 := kp
  have kc : gK σ 5 = 10 := kc
  have nc : gN σ 5 = 480 := nc
  have kf : gK σ 6 = 14 := kf
  have nf8 : gN σ 6 = 8 := nf8
  have rf : ∀ i, i < 8 → gR σ 6 i = some (7 + i) := rf
  have kfs : ∀ i, i < 8 → gK σ (7 + i) = 5 := kfs
  have kq : gK σ 15 = 14 := kq
  have nq : gN σ 15 = 4 := nq
  have rq : ∀ i, i < 4 → gR σ 15 i = some (16 + i) := rq
  have kqs : ∀ i, i < 4 → gK σ (16 + i) = 5 := kqs
  have ko : gK σ 20 = 16 := ko
  have no : gN σ 20 = 4 := no
  have ro : ∀ i, i < 4 → gR σ 20 i = some (21 + i) := ro
  have kos : ∀ i, i < 4 → gK σ (21 + i) = 1 := kos
  obtain ⟨a1, a2, a3, a4, a5, a6⟩ := hcs
  have m1 := fun Q => x_138t (Q := Q) (i := r) hly0 hw (by omega) (by rw [show ss σ 4 = pT a from a1]; exact hT)
  have m2 := fun Q => x_76 (Q := Q) (r := r) (c := c) (by omega) (by omega) hst0
  rw [hcel] at m2
  simp (disch := first | omega | (simp (maxDischargeDepth := 30) only [gK_pS, AWt, tk, t0, t1, t2, t3, t4, t5, t6, t7, t8, t9, t10, kcs, ncs, kdr, ksa, nsa, ks1, ks2, ks3, ks4, ks5, sk, s0, s1, s2, s3, s4, kp, kc, nc, kf, nf8, kq, nq, ko, no, hw]; done) | (simp (maxDischargeDepth := 30) only [gK_pS, AWt, tk, t0, t1, t2, t3, t4, t5, t6, t7, t8, t9, t10, kcs, ncs, kdr, ksa, nsa, ks1, ks2, ks3, ks4, ks5, sk, s0, s1, s2, s3, s4, kp, kc, nc, kf, nf8, kq, nq, ko, no, hw]; omega)) only [b_103_0, e_103, wq_iconst, wq_bipush, wq_fconst, wq_dconst, wq_iload, wq_lload, wq_fload, wq_dload, wq_aload, wq_istore, wq_fstore, wq_astore, wq_lstore, wq_dstore, wq_iinc, wq_iadd, wq_isub, wq_imul, wq_iand, wq_ior, wq_ixor, wq_ishl, wq_ishr, wq_iushr, wq_ladd, wq_lsub, wq_land, wq_lor, wq_lxor, wq_lshl, wq_lushr, wq_idiv, wq_irem, wq_lcmp, wq_fcmp, wq_dcmp, wq_i2l, wq_l2i, wq_i2f, wq_i2d, wq_f2d, wq_fdiv, wq_ddiv, wq_dupi, wq_dupr, wq_dup2, wq_popi, wq_popr, wq_if_eq, wq_ic_eq, wq_if_ne, wq_ic_ne, wq_if_lt, wq_ic_lt, wq_if_ge, wq_ic_ge, wq_if_gt, wq_ic_gt, wq_if_le, wq_ic_le, wq_goto, wq_nop, wq_tsw, wq_getfield, wq_pfi, wq_pfl, wq_pfr, wq_getstatic, wq_iaload, wq_baload, wq_laload, wq_daload, wq_aaload, wq_iastore, wq_bastore, wq_lastore, wq_dastore, wq_aastore, wq_arraylength, wq_new, wq_newarray, wq_anewarray, wq_multi, wq_copy, wq_mmax, wq_mmin, wq_oi, wq_cs0, wq_cs1, wq_cs2, wq_cs3, wq_cs4, wq_cs5, wq_cs6, wq_cs7, wq_cv1, wq_cv2, wq_cv3, wq_cv4, wq_cv5, wq_cv6, wq_ci1, wq_ci2, wq_ci3, wq_ci4, wq_ci5, wq_ci6, wq_athrow, wq_ireturn, wq_freturn, wq_dreturn, wq_areturn, wq_return, wsw_n, wsw_c, aft_i, gf_1, gf_2, gf_3, rv_s, okst_0, okst_s, is2_int, is2_float, is2_ref, is2_retAddr, List.getElem?_cons_zero, List.getElem?_cons_succ, List.set_cons_zero, List.set_cons_succ, List.length_cons, List.length_nil, Option.toList_some, Option.toList_none, List.cons_append, List.nil_append, List.singleton_append, gL_setI, gD_setI, gR_setI, gN_setI, gK_setI, gx_setI, gc_setI, gs_setI, gI_setL, gD_setL, gR_setL, gN_setL, gK_setL, gx_setL, gc_setL, gs_setL, gI_setD, gL_setD, gR_setD, gN_setD, gK_setD, gx_setD, gc_setD, gs_setD, gI_setR, gL_setR, gD_setR, gN_setR, gK_setR, gx_setR, gc_setR, gs_setR, gL_rowI, gD_rowI, gR_rowI, gN_rowI, gK_rowI, gx_rowI, gc_rowI, gs_rowI, gI_I, gL_L, gD_D, gR_R, gI_row, gI_bmp, gL_bmp, gD_bmp, gR_bmp, gN_bmp, gK_bmp, gx_bmp, gc_bmp, gs_bmp, gK_pS, gN_pS, gI_pS, gD_pS, gR_pS, gx_pS, gc_pS, gs_pS, iv_11, ↓iv_max, ↓iv_min, iv_lt_t, iv_lt_f, iv_le_t, iv_le_f, iv_eq_t, iv_eq_f, iv_lt0_t, iv_lt0_f, iv_gt0_t, iv_gt0_f, iv_le0_t, iv_le0_f, iv_ge0_t, iv_ge0_f, iv_eq0_t, iv_eq0_f, iv_add, iv_sub, iv_mul, iv_nat, iv_lt, iv_le, iv_eq, iv_lt0, iv_gt0, iv_le0, iv_ge0, iv_eq0, iv_cl, bv_01, bv_eq0, lcmp_eq0, ↓reduceIte, Nat.reduceLeDiff, Nat.reduceLT, Nat.reduceAdd, Nat.reduceSub, Nat.reduceEqDiff, Nat.reduceMul, Nat.succ_ne_zero, Nat.zero_lt_succ, Nat.lt_add_one, Nat.add_left_cancel_iff, and_true, true_and, and_false, false_and, and_self, Nat.zero_le, eq_self, true_or, or_true, false_or, or_false, Bool.not_false, Bool.not_true, not_true, not_false_iff, Int.reduceEq, Int.reduceLT, Int.reduceLE, Int.reduceAdd, Int.reduceSub, Int.reduceToNat, Int.reduceNeg, Bool.false_eq_true, Bool.true_eq_false, reduceCtorEq, tk, t0, t1, t2, t3, t4, t5, t6, t7, t8, t9, t10, kcs, ncs, kdr, ksa, nsa, ks1, ks2, ks3, ks4, ks5, sk, s0, s1, s2, s3, s4, kp, kc, nc, kf, nf8, kq, nq, ko, no, hw, isRA14, iv_inb_t, true_or, or_true, show isRA 15 = true from rfl, show isRA 16 = true from rfl, Int.toNat_natCast, m1, m2, x_133t]
theorem c_valueAt_f {σ : St} {Q : Out → St → Prop} {a : PS} {n : Nat} {hs : Nat → PS} (hb : BI σ a n hs) {r c : Int} (gr : -2147483648 ≤ r ∧ r < 2147483648) (gc : -2147483648 ≤ c ∧ c < 2147483648) (h : r < 0 ∨ pT a r.toNat = false ∨ c < 0 ∨ 4 ≤ c) : Ex 103 [.ref 2, .int (iv r), .int (iv c)] σ Q = Q (.inr 1) (bmp σ) := by
  obtain ⟨hly, hw, hwf, hcs, hkc, -⟩ := hb
  have hly0 := hly
  obtain ⟨tk, t0, t1, t2, t3, t4, t5, t6, t7, t8, t9, t10, kcs, ncs, rcs, kdr, ksa, nsa, ks1, ks2, ks3, ks4, ks5, hst, hhi, hco⟩ := hly
  have hst0 := hst
  obtain ⟨sk, s0, s1, s2, s3, s4, kp, kc, nc, kf, nf8, rf, kfs, kq, nq, rq, kqs, ko, no, ro, kos⟩ := hst
  have sk : gK σ 3 = 6 := sk
  have s0 : gR σ 3 0 = some 4 := s0
  have s1 : gR σ 3 1 = some 5 := s1
  have s2 : gR σ 3 2 = some 6 := s2
  have s3 : gR σ 3 3 = some 15 := s3
  have s4 : gR σ 3 4 = some 20 := s4
  have kp : gK σ 4 = 5 := kp
  have kc : gK σ 5 = 10 := kc
  have nc : gN σ 5 = 480 := nc
  have kf : gK σ 6 = 14 := kf
  have nf8 : gN σ 6 = 8 := nf8
  have rf : ∀ i, i < 8 → gR σ 6 i = some (7 + i) := rf
  have kfs : ∀ i, i < 8 → gK σ (7 + i) = 5 := kfs
  have kq : gK σ 15 = 14 := kq
  have nq : gN σ 15 = 4 := nq
  have rq : ∀ i, i < 4 → gR σ 15 i = some (16 + i) := rq
  have kqs : ∀ i, i < 4 → gK σ (16 + i) = 5 := kqs
  have ko : gK σ 20 = 16 := ko
  have no : gN σ 20 = 4 := no
  have ro : ∀ i, i < 4 → gR σ 20 i = some (21 + i) := ro
  have kos : ∀ i, i < 4 → gK σ (21 + i) = 1 := kos
  obtain ⟨a1, a2, a3, a4, a5, a6⟩ := hcs
  have a1 : ss σ 4 = pT a := a1
  by_cases h1 : r < 0 ∨ pT a r.toNat = false
  · have m1 := fun Q => x_138f (Q := Q) (i := r) hly0 hw gr (by rw [a1]; exact h1)
    simp (disch := first | omega | (simp (maxDischargeDepth := 30) only [gK_pS, AWt, tk, t0, t1, t2, t3, t4, t5, t6, t7, t8, t9, t10, kcs, ncs, kdr, ksa, nsa, ks1, ks2, ks3, ks4, ks5, sk, s0, s1, s2, s3, s4, kp, kc, nc, kf, nf8, kq, nq, ko, no, hw]; done) | (simp (maxDischargeDepth := 30) only [gK_pS, AWt, tk, t0, t1, t2, t3, t4, t5, t6, t7, t8, t9, t10, kcs, ncs, kdr, ksa, nsa, ks1, ks2, ks3, ks4, ks5, sk, s0, s1, s2, s3, s4, kp, kc, nc, kf, nf8, kq, nq, ko, no, hw]; omega)) only [b_103_0, e_103, wq_iconst, wq_bipush, wq_fconst, wq_dconst, wq_iload, wq_lload, wq_fload, wq_dload, wq_aload, wq_istore, wq_fstore, wq_astore, wq_lstore, wq_dstore, wq_iinc, wq_iadd, wq_isub, wq_imul, wq_iand, wq_ior, wq_ixor, wq_ishl, wq_ishr, wq_iushr, wq_ladd, wq_lsub, wq_land, wq_lor, wq_lxor, wq_lshl, wq_lushr, wq_idiv, wq_irem, wq_lcmp, wq_fcmp, wq_dcmp, wq_i2l, wq_l2i, wq_i2f, wq_i2d, wq_f2d, wq_fdiv, wq_ddiv, wq_dupi, wq_dupr, wq_dup2, wq_popi, wq_popr, wq_if_eq, wq_ic_eq, wq_if_ne, wq_ic_ne, wq_if_lt, wq_ic_lt, wq_if_ge, wq_ic_ge, wq_if_gt, wq_ic_gt, wq_if_le, wq_ic_le, wq_goto, wq_nop, wq_tsw, wq_getfield, wq_pfi, wq_pfl, wq_pfr, wq_getstatic, wq_iaload, wq_baload, wq_laload, wq_daload, wq_aaload, wq_iastore, wq_bastore, wq_lastore, wq_dastore, wq_aastore, wq_arraylength, wq_new, wq_newarray, wq_anewarray, wq_multi, wq_copy, wq_mmax, wq_mmin, wq_oi, wq_cs0, wq_cs1, wq_cs2, wq_cs3, wq_cs4, wq_cs5, wq_cs6, wq_cs7, wq_cv1, wq_cv2, wq_cv3, wq_cv4, wq_cv5, wq_cv6, wq_ci1, wq_ci2, wq_ci3, wq_ci4, wq_ci5, wq_ci6, wq_athrow, wq_ireturn, wq_freturn, wq_dreturn, wq_areturn, wq_return, wsw_n, wsw_c, aft_i, gf_1, gf_2, gf_3, rv_s, okst_0, okst_s, is2_int, is2_float, is2_ref, is2_retAddr, List.getElem?_cons_zero, List.getElem?_cons_succ, List.set_cons_zero, List.set_cons_succ, List.length_cons, List.length_nil, Option.toList_some, Option.toList_none, List.cons_append, List.nil_append, List.singleton_append, gL_setI, gD_setI, gR_setI, gN_setI, gK_setI, gx_setI, gc_setI, gs_setI, gI_setL, gD_setL, gR_setL, gN_setL, gK_setL, gx_setL, gc_setL, gs_setL, gI_setD, gL_setD, gR_setD, gN_setD, gK_setD, gx_setD, gc_setD, gs_setD, gI_setR, gL_setR, gD_setR, gN_setR, gK_setR, gx_setR, gc_setR, gs_setR, gL_rowI, gD_rowI, gR_rowI, gN_rowI, gK_rowI, gx_rowI, gc_rowI, gs_rowI, gI_I, gL_L, gD_D, gR_R, gI_row, gI_bmp, gL_bmp, gD_bmp, gR_bmp, gN_bmp, gK_bmp, gx_bmp, gc_bmp, gs_bmp, gK_pS, gN_pS, gI_pS, gD_pS, gR_pS, gx_pS, gc_pS, gs_pS, iv_11, ↓iv_max, ↓iv_min, iv_lt_t, iv_lt_f, iv_le_t, iv_le_f, iv_eq_t, iv_eq_f, iv_lt0_t, iv_lt0_f, iv_gt0_t, iv_gt0_f, iv_le0_t, iv_le0_f, iv_ge0_t, iv_ge0_f, iv_eq0_t, iv_eq0_f, iv_add, iv_sub, iv_mul, iv_nat, iv_lt, iv_le, iv_eq, iv_lt0, iv_gt0, iv_le0, iv_ge0, iv_eq0, iv_cl, bv_01, bv_eq0, lcmp_eq0, ↓reduceIte, Nat.reduceLeDiff, Nat.reduceLT, Nat.reduceAdd, Nat.reduceSub, Nat.reduceEqDiff, Nat.reduceMul, Nat.succ_ne_zero, Nat.zero_lt_succ, Nat.lt_add_one, Nat.add_left_cancel_iff, and_true, true_and, and_false, false_and, and_self, Nat.zero_le, eq_self, true_or, or_true, false_or, or_false, Bool.not_false, Bool.not_true, not_true, not_false_iff, Int.reduceEq, Int.reduceLT, Int.reduceLE, Int.reduceAdd, Int.reduceSub, Int.reduceToNat, Int.reduceNeg, Bool.false_eq_true, Bool.true_eq_false, reduceCtorEq, tk, t0, t1, t2, t3, t4, t5, t6, t7, t8, t9, t10, kcs, ncs, kdr, ksa, nsa, ks1, ks2, ks3, ks4, ks5, sk, s0, s1, s2, s3, s4, kp, kc, nc, kf, nf8, kq, nq, ko, no, hw, isRA14, iv_inb_t, true_or, or_true, show isRA 15 = true from rfl, show isRA 16 = true from rfl, Int.toNat_natCast, m1, x_133f, aft_x (z := 103) rfl]
  · have m1 := fun Q => x_138t (Q := Q) (i := r) hly0 hw (by omega) (by
      rw [a1]
      cases h2 : pT a r.toNat
      · exact absurd (Or.inr h2) h1
      · rfl)
    have h3 : c < 0 ∨ 4 ≤ c := by
      rcases h with h | h | h
      · exact absurd (Or.inl h) h1
      · exact absurd (Or.inr h) h1
      · exact h
    simp (disch := first | omega | (simp (maxDischargeDepth := 30) only [gK_pS, AWt, tk, t0, t1, t2, t3, t4, t5, t6, t7, t8, t9, t10, kcs, ncs, kdr, ksa, nsa, ks1, ks2, ks3, ks4, ks5, sk, s0, s1, s2, s3, s4, kp, kc, nc, kf, nf8, kq, nq, ko, no, hw]; done) | (simp (maxDischargeDepth := 30) only [gK_pS, AWt, tk, t0, t1, t2, t3, t4, t5, t6, t7, t8, t9, t10, kcs, ncs, kdr, ksa, nsa, ks1, ks2, ks3, ks4, ks5, sk, s0, s1, s2, s3, s4, kp, kc, nc, kf, nf8, kq, nq, ko, no, hw]; omega)) only [b_103_0, e_103, wq_iconst, wq_bipush, wq_fconst, wq_dconst, wq_iload, wq_lload, wq_fload, wq_dload, wq_aload, wq_istore, wq_fstore, wq_astore, wq_lstore, wq_dstore, wq_iinc, wq_iadd, wq_isub, wq_imul, wq_iand, wq_ior, wq_ixor, wq_ishl, wq_ishr, wq_iushr, wq_ladd, wq_lsub, wq_land, wq_lor, wq_lxor, wq_lshl, wq_lushr, wq_idiv, wq_irem, wq_lcmp, wq_fcmp, wq_dcmp, wq_i2l, wq_l2i, wq_i2f, wq_i2d, wq_f2d, wq_fdiv, wq_ddiv, wq_dupi, wq_dupr, wq_dup2, wq_popi, wq_popr, wq_if_eq, wq_ic_eq, wq_if_ne, wq_ic_ne, wq_if_lt, wq_ic_lt, wq_if_ge, wq_ic_ge, wq_if_gt, wq_ic_gt, wq_if_le, wq_ic_le, wq_goto, wq_nop, wq_tsw, wq_getfield, wq_pfi, wq_pfl, wq_pfr, wq_getstatic, wq_iaload, wq_baload, wq_laload, wq_daload, wq_aaload, wq_iastore, wq_bastore, wq_lastore, wq_dastore, wq_aastore, wq_arraylength, wq_new, wq_newarray, wq_anewarray, wq_multi, wq_copy, wq_mmax, wq_mmin, wq_oi, wq_cs0, wq_cs1, wq_cs2, wq_cs3, wq_cs4, wq_cs5, wq_cs6, wq_cs7, wq_cv1, wq_cv2, wq_cv3, wq_cv4, wq_cv5, wq_cv6, wq_ci1, wq_ci2, wq_ci3, wq_ci4, wq_ci5, wq_ci6, wq_athrow, wq_ireturn, wq_freturn, wq_dreturn, wq_areturn, wq_return, wsw_n, wsw_c, aft_i, gf_1, gf_2, gf_3, rv_s, okst_0, okst_s, is2_int, is2_float, is2_ref, is2_retAddr, List.getElem?_cons_zero, List.getElem?_cons_succ, List.set_cons_zero, List.set_cons_succ, List.length_cons, List.length_nil, Option.toList_some, Option.toList_none, List.cons_append, List.nil_append, List.singleton_append, gL_setI, gD_setI, gR_setI, gN_setI, gK_setI, gx_setI, gc_setI, gs_setI, gI_setL, gD_setL, gR_setL, gN_setL, gK_setL, gx_setL, gc_setL, gs_setL, gI_setD, gL_setD, gR_setD, gN_setD, gK_setD, gx_setD, gc_setD, gs_setD, gI_setR, gL_setR, gD_setR, gN_setR, gK_setR, gx_setR, gc_setR, gs_setR, gL_rowI, gD_rowI, gR_rowI, gN_rowI, gK_rowI, gx_rowI, gc_rowI, gs_rowI, gI_I, gL_L, gD_D, gR_R, gI_row, gI_bmp, gL_bmp, gD_bmp, gR_bmp, gN_bmp, gK_bmp, gx_bmp, gc_bmp, gs_bmp, gK_pS, gN_pS, gI_pS, gD_pS, gR_pS, gx_pS, gc_pS, gs_pS, iv_11, ↓iv_max, ↓iv_min, iv_lt_t, iv_lt_f, iv_le_t, iv_le_f, iv_eq_t, iv_eq_f, iv_lt0_t, iv_lt0_f, iv_gt0_t, iv_gt0_f, iv_le0_t, iv_le0_f, iv_ge0_t, iv_ge0_f, iv_eq0_t, iv_eq0_f, iv_add, iv_sub, iv_mul, iv_nat, iv_lt, iv_le, iv_eq, iv_lt0, iv_gt0, iv_le0, iv_ge0, iv_eq0, iv_cl, bv_01, bv_eq0, lcmp_eq0, ↓reduceIte, Nat.reduceLeDiff, Nat.reduceLT, Nat.reduceAdd, Nat.reduceSub, Nat.reduceEqDiff, Nat.reduceMul, Nat.succ_ne_zero, Nat.zero_lt_succ, Nat.lt_add_one, Nat.add_left_cancel_iff, and_true, true_and, and_false, false_and, and_self, Nat.zero_le, eq_self, true_or, or_true, false_or, or_false, Bool.not_false, Bool.not_true, not_true, not_false_iff, Int.reduceEq, Int.reduceLT, Int.reduceLE, Int.reduceAdd, Int.reduceSub, Int.reduceToNat, Int.reduceNeg, Bool.false_eq_true, Bool.true_eq_false, reduceCtorEq, tk, t0, t1, t2, t3, t4, t5, t6, t7, t8, t9, t10, kcs, ncs, kdr, ksa, nsa, ks1, ks2, ks3, ks4, ks5, sk, s0, s1, s2, s3, s4, kp, kc, nc, kf, nf8, kq, nq, ko, no, hw, isRA14, iv_inb_t, true_or, or_true, show isRA 15 = true from rfl, show isRA 16 = true from rfl, Int.toNat_natCast, m1, x_133f, aft_x (z := 103) rfl]
theorem upF_rg (p : Int → Bool) : ∀ (n : Nat) (i : Int), -64 ≤ i → i + n ≤ 64 → -64 ≤ upF p n i ∧ upF p n i ≤ 100 := by
  intro n
  induction n with
  | zero =>
    intro i _ _
    show -64 ≤ (100 : Int) ∧ (100 : Int) ≤ 100
    omega
  | succ n ih =>
    intro i h1 h2
    unfold upF
    split
    · omega
    · exact ih (i + 1) (by omega) (by omega)
theorem dnF_rg (p : Int → Bool) : ∀ (n : Nat) (i : Int), i ≤ 63 → -65 + n ≤ i → -64 ≤ dnF p n i ∧ dnF p n i ≤ 100 := by
  intro n
  induction n with
  | zero =>
    intro i _ _
    show -64 ≤ (100 : Int) ∧ (100 : Int) ≤ 100
    omega
  | succ n ih =>
    intro i h1 h2
    unfold dnF
    split
    · omega
    · exact ih (i - 1) (by omega) (by omega)
/-- the outermost value of a column, 100 without one -/
def outF (val : Nat → Int) (w : Int) : Int := if w = 1 then dnF (fun v => decide (v < 64) && nv val v) 128 63 else upF (fun v => decide (-65 < v) && nv val v) 128 (-64)
