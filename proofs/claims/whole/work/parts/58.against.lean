/-! COLUMNS: a column against another -/
theorem q_17_1 {σ : St} {Q : Out → St → Prop} {c c2 out : Nat} {t : Int} {val val2 : Nat → Int} (hl : CoL σ c) (hc : CC σ c val) (hl2 : CoL σ c2) (hc2 : CC σ c2 val2) (hdj : ∀ p, perm c2 p → ¬ tmp c p) (hQ : ∀ σ', OT (tmp c) σ σ' → (∀ r, ss σ' (c + 149) r = ((isv (val r) && isv (val2 r)) && decide (val r < val2 r))) → (∀ r, ss σ' (c + 150) r = ((isv (val r) && isv (val2 r)) && decide (val r = val2 r))) → (∀ r, ss σ' (c + 151) r = (isv (val r) && isv (val2 r))) → ∀ ls, Ex 16 [.ref c, .int (iv t), .ref (c + 151), .ref out] σ' (aft 17 [(186, Instr.return_, 1, [])] ls [] Q)) : ∀ (m : Nat) (i : Int) (v5 v6 v7 : Value) (σ' : St), m ≤ 7 → i = m - 1 → OT (tmp c) σ σ' → (∀ r, ss σ' (c + 149) r = ((isv (val r) && isv (val2 r)) && decide ((val r + 64) / 2 ^ m < (val2 r + 64) / 2 ^ m))) → (∀ r, ss σ' (c + 150) r = ((isv (val r) && isv (val2 r)) && decide ((val r + 64) / 2 ^ m = (val2 r + 64) / 2 ^ m))) → (∀ r, ss σ' (c + 151) r = (isv (val r) && isv (val2 r))) → Wp 17 (blk 17 1, [.ref c, .ref c2, .int (iv t), .ref out, .int (iv i), v5, v6, v7], [], σ') Q := by
  intro m
  induction m with
  | zero =>
    intro i v5 v6 v7 σ' h7 hi ho h1 h2 h3
    have hl := hl.ot ho
    obtain ⟨ck, r0, r1, r2, r3, r4, r5, r6, r7, r8, ka, na, ra, kb, nb, rb, kd, nd, rd, kv, kbs, kds, kn, k0, kl, ke, km, kt⟩ := hl
    rw [k_17_1]
    simp (disch := first | omega | (simp (maxDischargeDepth := 30) only [gK_pS, AWt, ck, r7]; done) | (simp (maxDischargeDepth := 30) only [gK_pS, AWt, ck, r7]; omega)) only [b_17_0, b_17_1, b_17_2, k_17_2, b_17_3, k_17_3, b_17_4, k_17_4, b_17_5, k_17_5, b_17_6, k_17_6, b_17_7, k_17_7, b_17_8, k_17_8, wq_iconst, wq_bipush, wq_fconst, wq_dconst, wq_iload, wq_lload, wq_fload, wq_dload, wq_aload, wq_istore, wq_fstore, wq_astore, wq_lstore, wq_dstore, wq_iinc, wq_iadd, wq_isub, wq_imul, wq_iand, wq_ior, wq_ixor, wq_ishl, wq_ishr, wq_iushr, wq_ladd, wq_lsub, wq_land, wq_lor, wq_lxor, wq_lshl, wq_lushr, wq_idiv, wq_irem, wq_lcmp, wq_fcmp, wq_dcmp, wq_i2l, wq_l2i, wq_i2f, wq_i2d, wq_f2d, wq_fdiv, wq_ddiv, wq_dupi, wq_dupr, wq_dup2, wq_popi, wq_popr, wq_if_eq, wq_ic_eq, wq_if_ne, wq_ic_ne, wq_if_lt, wq_ic_lt, wq_if_ge, wq_ic_ge, wq_if_gt, wq_ic_gt, wq_if_le, wq_ic_le, wq_goto, wq_nop, wq_tsw, wq_getfield, wq_pfi, wq_pfl, wq_pfr, wq_getstatic, wq_iaload, wq_baload, wq_laload, wq_daload, wq_aaload, wq_iastore, wq_bastore, wq_lastore, wq_dastore, wq_aastore, wq_arraylength, wq_new, wq_newarray, wq_anewarray, wq_multi, wq_copy, wq_mmax, wq_mmin, wq_oi, wq_cs0, wq_cs1, wq_cs2, wq_cs3, wq_cs4, wq_cs5, wq_cs6, wq_cs7, wq_cv1, wq_cv2, wq_cv3, wq_cv4, wq_cv5, wq_cv6, wq_ci1, wq_ci2, wq_ci3, wq_ci4, wq_ci5, wq_ci6, wq_athrow, wq_ireturn, wq_freturn, wq_dreturn, wq_areturn, wq_return, wsw_n, wsw_c, aft_i, gf_1, gf_2, gf_3, rv_s, okst_0, okst_s, is2_int, is2_float, is2_ref, is2_retAddr, List.getElem?_cons_zero, List.getElem?_cons_succ, List.set_cons_zero, List.set_cons_succ, List.length_cons, List.length_nil, Option.toList_some, Option.toList_none, List.cons_append, List.nil_append, List.singleton_append, gL_setI, gD_setI, gR_setI, gN_setI, gK_setI, gx_setI, gc_setI, gs_setI, gI_setL, gD_setL, gR_setL, gN_setL, gK_setL, gx_setL, gc_setL, gs_setL, gI_setD, gL_setD, gR_setD, gN_setD, gK_setD, gx_setD, gc_setD, gs_setD, gI_setR, gL_setR, gD_setR, gN_setR, gK_setR, gx_setR, gc_setR, gs_setR, gL_rowI, gD_rowI, gR_rowI, gN_rowI, gK_rowI, gx_rowI, gc_rowI, gs_rowI, gI_I, gL_L, gD_D, gR_R, gI_row, gI_bmp, gL_bmp, gD_bmp, gR_bmp, gN_bmp, gK_bmp, gx_bmp, gc_bmp, gs_bmp, gK_pS, gN_pS, gI_pS, gD_pS, gR_pS, gx_pS, gc_pS, gs_pS, iv_11, ↓iv_max, ↓iv_min, iv_lt_t, iv_lt_f, iv_le_t, iv_le_f, iv_eq_t, iv_eq_f, iv_lt0_t, iv_lt0_f, iv_gt0_t, iv_gt0_f, iv_le0_t, iv_le0_f, iv_ge0_t, iv_ge0_f, iv_eq0_t, iv_eq0_f, iv_add, iv_sub, iv_mul, iv_nat, iv_lt, iv_le, iv_eq, iv_lt0, iv_gt0, iv_le0, iv_ge0, iv_eq0, iv_cl, bv_01, bv_eq0, lcmp_eq0, ↓reduceIte, Nat.reduceLeDiff, Nat.reduceLT, Nat.reduceAdd, Nat.reduceSub, Nat.reduceEqDiff, Nat.reduceMul, Nat.succ_ne_zero, Nat.zero_lt_succ, Nat.lt_add_one, Nat.add_left_cancel_iff, and_true, true_and, and_false, false_and, and_self, Nat.zero_le, eq_self, true_or, or_true, false_or, or_false, Bool.not_false, Bool.not_true, not_true, not_false_iff, Int.reduceEq, Int.reduceLT, Int.reduceLE, Int.reduceAdd, Int.reduceSub, Int.reduceToNat, Int.reduceNeg, Bool.false_eq_true, Bool.true_eq_false, reduceCtorEq, ck, r7]
    refine hQ σ' ho (fun r => ?_) (fun r => ?_) h3 _
    · rw [h1, Int.pow_zero, Int.ediv_one, Int.ediv_one]
      congr 1
      rw [decide_eq_decide]; omega
    · rw [h2, Int.pow_zero, Int.ediv_one, Int.ediv_one]
      congr 1
      rw [decide_eq_decide]; omega
  | succ m ih =>
    intro i v5 v6 v7 σ' h7 hi ho h1 h2 h3
    have hl := hl.ot ho
    have hl2 := hl2.ot ho
    have hw := ho.2.1
    have hc' := hc.ot ho (fun p => tmp_perm)
    have hc2' := hc2.ot ho hdj
    have him : i = m := by omega
    have n2149 : ¬ c + 149 = c2 + 140 + m := fun e => hdj (c2 + 140 + m) (by unfold perm; omega) (by unfold tmp; omega)
    have n3149 : ¬ c2 + 140 + m = c + 149 := fun e => n2149 e.symm
    have n2150 : ¬ c + 150 = c2 + 140 + m := fun e => hdj (c2 + 140 + m) (by unfold perm; omega) (by unfold tmp; omega)
    have n3150 : ¬ c2 + 140 + m = c + 150 := fun e => n2150 e.symm
    have n2151 : ¬ c + 151 = c2 + 140 + m := fun e => hdj (c2 + 140 + m) (by unfold perm; omega) (by unfold tmp; omega)
    have n3151 : ¬ c2 + 140 + m = c + 151 := fun e => n2151 e.symm
    have n2152 : ¬ c + 152 = c2 + 140 + m := fun e => hdj (c2 + 140 + m) (by unfold perm; omega) (by unfold tmp; omega)
    have n3152 : ¬ c2 + 140 + m = c + 152 := fun e => n2152 e.symm
    obtain ⟨ck, r0, r1, r2, r3, r4, r5, r6, r7, r8, ka, na, ra, kb, nb, rb, kd, nd, rd, kv, kbs, kds, kn, k0, kl, ke, km, kt⟩ := hl
    obtain ⟨ck2, r0z, r1z, r2b, r3b, r4z, r5z, r6z, r7z, r8z, kaz, naz, raz, kbz, nbz, rbz, kdb, ndb, rdb, kvz, kbsz, kdsb, knb, k0z, klz, kez, kmz, ktz⟩ := hl2
    have hdg := hc'.digit (d := m) (by omega)
    have hdg2 := hc2'.digit (d := m) (by omega)
    have kd' := kds m (by omega)
    have rd' := rd m (by omega)
    have kd2' := kdsb m (by omega)
    have rd2' := rdb m (by omega)
    rw [k_17_1]
    have hit : i.toNat = m := by omega
    simp only [pw_half] at h1 h2
    by_cases h6 : i = 6
    · simp (disch := first | omega | (simp (maxDischargeDepth := 30) only [gK_pS, AWt, ck, ck2, r2, r3, r5, r6, r7, r8, kd, nd, kl, ke, km, kt, hw, kd', rd', r2b, kdb, ndb, kd2', rd2']; done) | (simp (maxDischargeDepth := 30) only [gK_pS, AWt, ck, ck2, r2, r3, r5, r6, r7, r8, kd, nd, kl, ke, km, kt, hw, kd', rd', r2b, kdb, ndb, kd2', rd2']; omega)) only [b_17_0, b_17_1, b_17_2, k_17_2, b_17_3, k_17_3, b_17_4, k_17_4, b_17_5, k_17_5, b_17_6, k_17_6, b_17_7, k_17_7, b_17_8, k_17_8, wq_iconst, wq_bipush, wq_fconst, wq_dconst, wq_iload, wq_lload, wq_fload, wq_dload, wq_aload, wq_istore, wq_fstore, wq_astore, wq_lstore, wq_dstore, wq_iinc, wq_iadd, wq_isub, wq_imul, wq_iand, wq_ior, wq_ixor, wq_ishl, wq_ishr, wq_iushr, wq_ladd, wq_lsub, wq_land, wq_lor, wq_lxor, wq_lshl, wq_lushr, wq_idiv, wq_irem, wq_lcmp, wq_fcmp, wq_dcmp, wq_i2l, wq_l2i, wq_i2f, wq_i2d, wq_f2d, wq_fdiv, wq_ddiv, wq_dupi, wq_dupr, wq_dup2, wq_popi, wq_popr, wq_if_eq, wq_ic_eq, wq_if_ne, wq_ic_ne, wq_if_lt, wq_ic_lt, wq_if_ge, wq_ic_ge, wq_if_gt, wq_ic_gt, wq_if_le, wq_ic_le, wq_goto, wq_nop, wq_tsw, wq_getfield, wq_pfi, wq_pfl, wq_pfr, wq_getstatic, wq_iaload, wq_baload, wq_laload, wq_daload, wq_aaload, wq_iastore, wq_bastore, wq_lastore, wq_dastore, wq_aastore, wq_arraylength, wq_new, wq_newarray, wq_anewarray, wq_multi, wq_copy, wq_mmax, wq_mmin, wq_oi, wq_cs0, wq_cs1, wq_cs2, wq_cs3, wq_cs4, wq_cs5, wq_cs6, wq_cs7, wq_cv1, wq_cv2, wq_cv3, wq_cv4, wq_cv5, wq_cv6, wq_ci1, wq_ci2, wq_ci3, wq_ci4, wq_ci5, wq_ci6, wq_athrow, wq_ireturn, wq_freturn, wq_dreturn, wq_areturn, wq_return, wsw_n, wsw_c, aft_i, gf_1, gf_2, gf_3, rv_s, okst_0, okst_s, is2_int, is2_float, is2_ref, is2_retAddr, List.getElem?_cons_zero, List.getElem?_cons_succ, List.set_cons_zero, List.set_cons_succ, List.length_cons, List.length_nil, Option.toList_some, Option.toList_none, List.cons_append, List.nil_append, List.singleton_append, gL_setI, gD_setI, gR_setI, gN_setI, gK_setI, gx_setI, gc_setI, gs_setI, gI_setL, gD_setL, gR_setL, gN_setL, gK_setL, gx_setL, gc_setL, gs_setL, gI_setD, gL_setD, gR_setD, gN_setD, gK_setD, gx_setD, gc_setD, gs_setD, gI_setR, gL_setR, gD_setR, gN_setR, gK_setR, gx_setR, gc_setR, gs_setR, gL_rowI, gD_rowI, gR_rowI, gN_rowI, gK_rowI, gx_rowI, gc_rowI, gs_rowI, gI_I, gL_L, gD_D, gR_R, gI_row, gI_bmp, gL_bmp, gD_bmp, gR_bmp, gN_bmp, gK_bmp, gx_bmp, gc_bmp, gs_bmp, gK_pS, gN_pS, gI_pS, gD_pS, gR_pS, gx_pS, gc_pS, gs_pS, iv_11, ↓iv_max, ↓iv_min, iv_lt_t, iv_lt_f, iv_le_t, iv_le_f, iv_eq_t, iv_eq_f, iv_lt0_t, iv_lt0_f, iv_gt0_t, iv_gt0_f, iv_le0_t, iv_le0_f, iv_ge0_t, iv_ge0_f, iv_eq0_t, iv_eq0_f, iv_add, iv_sub, iv_mul, iv_nat, iv_lt, iv_le, iv_eq, iv_lt0, iv_gt0, iv_le0, iv_ge0, iv_eq0, iv_cl, bv_01, bv_eq0, lcmp_eq0, ↓reduceIte, Nat.reduceLeDiff, Nat.reduceLT, Nat.reduceAdd, Nat.reduceSub, Nat.reduceEqDiff, Nat.reduceMul, Nat.succ_ne_zero, Nat.zero_lt_succ, Nat.lt_add_one, Nat.add_left_cancel_iff, and_true, true_and, and_false, false_and, and_self, Nat.zero_le, eq_self, true_or, or_true, false_or, or_false, Bool.not_false, Bool.not_true, not_true, not_false_iff, Int.reduceEq, Int.reduceLT, Int.reduceLE, Int.reduceAdd, Int.reduceSub, Int.reduceToNat, Int.reduceNeg, Bool.false_eq_true, Bool.true_eq_false, reduceCtorEq, ck, ck2, r2, r3, r5, r6, r7, r8, kd, nd, kl, ke, km, kt, hw, kd', rd', r2b, kdb, ndb, kd2', rd2', hit, x_53, x_57, x_58, x_59, x_60, isRA14, iv_inb_t, iv_11]
      refine ih (i + -1) _ _ _ _ (by omega) (by omega) (OT.st (OT.st (OT.st (OT.st (OT.st (OT.st (OT.st ho ?_ _) ?_ _) ?_ _) ?_ _) ?_ _) ?_ _) ?_ _) (fun r => ?_) (fun r => ?_) (fun r => ?_)
      · unfold tmp; omega
      · unfold tmp; omega
      · unfold tmp; omega
      · unfold tmp; omega
      · unfold tmp; omega
      · unfold tmp; omega
      · unfold tmp; omega
      · by_cases hr : r < 120
        · cases hv : isv (val r)
          · simp only [ss_pS, Nat.reduceEqDiff, Nat.add_left_cancel_iff, ↓reduceIte, hdg, hdg2, h1, h2, h3, decide_true, Bool.true_and, Bool.false_and, Bool.and_false, Bool.or_false, Bool.false_or, and_self, Nat.reduceAdd, show ¬ c + 149 = c + 140 + m by omega, show ¬ c + 140 + m = c + 149 by omega, show ¬ c + 150 = c + 140 + m by omega, show ¬ c + 140 + m = c + 150 by omega, show ¬ c + 151 = c + 140 + m by omega, show ¬ c + 140 + m = c + 151 by omega, show ¬ c + 152 = c + 140 + m by omega, show ¬ c + 140 + m = c + 152 by omega, n2149, n3149, n2150, n3150, n2151, n3151, n2152, n3152, hr, hv]
          · cases hv2 : isv (val2 r)
            · simp only [ss_pS, Nat.reduceEqDiff, Nat.add_left_cancel_iff, ↓reduceIte, hdg, hdg2, h1, h2, h3, decide_true, Bool.true_and, Bool.false_and, Bool.and_false, Bool.or_false, Bool.false_or, and_self, Nat.reduceAdd, show ¬ c + 149 = c + 140 + m by omega, show ¬ c + 140 + m = c + 149 by omega, show ¬ c + 150 = c + 140 + m by omega, show ¬ c + 140 + m = c + 150 by omega, show ¬ c + 151 = c + 140 + m by omega, show ¬ c + 140 + m = c + 151 by omega, show ¬ c + 152 = c + 140 + m by omega, show ¬ c + 140 + m = c + 152 by omega, n2149, n3149, n2150, n3150, n2151, n3151, n2152, n3152, hr, hv, hv2]
              try simp only [Bool.not_false, Bool.not_true, Bool.and_false, Bool.false_and, Bool.or_false]
            · rcases dig_c (val r) m (by omega) with ⟨hd9, hE⟩ | ⟨hd9, hE⟩
              all_goals rcases dig_c (val2 r) m (by omega) with ⟨hd8, hF⟩ | ⟨hd8, hF⟩
              all_goals
                simp only [ss_pS, Nat.reduceEqDiff, Nat.add_left_cancel_iff, ↓reduceIte, hdg, hdg2, h1, h2, h3, decide_true, Bool.true_and, Bool.false_and, Bool.and_false, Bool.or_false, Bool.false_or, and_self, Nat.reduceAdd, show ¬ c + 149 = c + 140 + m by omega, show ¬ c + 140 + m = c + 149 by omega, show ¬ c + 150 = c + 140 + m by omega, show ¬ c + 140 + m = c + 150 by omega, show ¬ c + 151 = c + 140 + m by omega, show ¬ c + 140 + m = c + 151 by omega, show ¬ c + 152 = c + 140 + m by omega, show ¬ c + 140 + m = c + 152 by omega, n2149, n3149, n2150, n3150, n2151, n3151, n2152, n3152, hr, hv, hv2, hd8, hd9]
                try generalize (val r + 64) / 2 ^ m = A at hE ⊢
                try generalize (val2 r + 64) / 2 ^ m = B at hF ⊢
                try rw [Bool.eq_iff_iff]
                try simp only [Bool.and_eq_true, Bool.or_eq_true, Bool.not_eq_true', decide_eq_true_iff, decide_eq_false_iff_not, Bool.not_true, Bool.not_false, Bool.and_true, Bool.and_false, Bool.or_false, Bool.false_eq_true, Bool.and_eq_false_iff, Bool.or_true, false_iff, iff_false, not_and, and_false, false_or, or_false, and_true, Bool.xor_true, Bool.true_xor, Bool.xor_self, Bool.false_xor, Bool.xor_false]
                try omega
        · have hv : isv (val r) = false := by rw [hc.2.1 r (by omega)]; rfl
          simp only [ss_pS, Nat.reduceEqDiff, Nat.add_left_cancel_iff, ↓reduceIte, hdg, hdg2, h1, h2, h3, decide_true, Bool.true_and, Bool.false_and, Bool.and_false, Bool.or_false, Bool.false_or, and_self, Nat.reduceAdd, show ¬ c + 149 = c + 140 + m by omega, show ¬ c + 140 + m = c + 149 by omega, show ¬ c + 150 = c + 140 + m by omega, show ¬ c + 140 + m = c + 150 by omega, show ¬ c + 151 = c + 140 + m by omega, show ¬ c + 140 + m = c + 151 by omega, show ¬ c + 152 = c + 140 + m by omega, show ¬ c + 140 + m = c + 152 by omega, n2149, n3149, n2150, n3150, n2151, n3151, n2152, n3152, hr, hv, decide_false]
      · by_cases hr : r < 120
        · cases hv : isv (val r)
          · simp only [ss_pS, Nat.reduceEqDiff, Nat.add_left_cancel_iff, ↓reduceIte, hdg, hdg2, h1, h2, h3, decide_true, Bool.true_and, Bool.false_and, Bool.and_false, Bool.or_false, Bool.false_or, and_self, Nat.reduceAdd, show ¬ c + 149 = c + 140 + m by omega, show ¬ c + 140 + m = c + 149 by omega, show ¬ c + 150 = c + 140 + m by omega, show ¬ c + 140 + m = c + 150 by omega, show ¬ c + 151 = c + 140 + m by omega, show ¬ c + 140 + m = c + 151 by omega, show ¬ c + 152 = c + 140 + m by omega, show ¬ c + 140 + m = c + 152 by omega, n2149, n3149, n2150, n3150, n2151, n3151, n2152, n3152, hr, hv]
          · cases hv2 : isv (val2 r)
            · simp only [ss_pS, Nat.reduceEqDiff, Nat.add_left_cancel_iff, ↓reduceIte, hdg, hdg2, h1, h2, h3, decide_true, Bool.true_and, Bool.false_and, Bool.and_false, Bool.or_false, Bool.false_or, and_self, Nat.reduceAdd, show ¬ c + 149 = c + 140 + m by omega, show ¬ c + 140 + m = c + 149 by omega, show ¬ c + 150 = c + 140 + m by omega, show ¬ c + 140 + m = c + 150 by omega, show ¬ c + 151 = c + 140 + m by omega, show ¬ c + 140 + m = c + 151 by omega, show ¬ c + 152 = c + 140 + m by omega, show ¬ c + 140 + m = c + 152 by omega, n2149, n3149, n2150, n3150, n2151, n3151, n2152, n3152, hr, hv, hv2]
              try simp only [Bool.not_false, Bool.not_true, Bool.and_false, Bool.false_and, Bool.or_false]
            · rcases dig_c (val r) m (by omega) with ⟨hd9, hE⟩ | ⟨hd9, hE⟩
              all_goals rcases dig_c (val2 r) m (by omega) with ⟨hd8, hF⟩ | ⟨hd8, hF⟩
              all_goals
                simp only [ss_pS, Nat.reduceEqDiff, Nat.add_left_cancel_iff, ↓reduceIte, hdg, hdg2, h1, h2, h3, decide_true, Bool.true_and, Bool.false_and, Bool.and_false, Bool.or_false, Bool.false_or, and_self, Nat.reduceAdd, show ¬ c + 149 = c + 140 + m by omega, show ¬ c + 140 + m = c + 149 by omega, show ¬ c + 150 = c + 140 + m by omega, show ¬ c + 140 + m = c + 150 by omega, show ¬ c + 151 = c + 140 + m by omega, show ¬ c + 140 + m = c + 151 by omega, show ¬ c + 152 = c + 140 + m by omega, show ¬ c + 140 + m = c + 152 by omega, n2149, n3149, n2150, n3150, n2151, n3151, n2152, n3152, hr, hv, hv2, hd8, hd9]
                try generalize (val r + 64) / 2 ^ m = A at hE ⊢
                try generalize (val2 r + 64) / 2 ^ m = B at hF ⊢
                try rw [Bool.eq_iff_iff]
                try simp only [Bool.and_eq_true, Bool.or_eq_true, Bool.not_eq_true', decide_eq_true_iff, decide_eq_false_iff_not, Bool.not_true, Bool.not_false, Bool.and_true, Bool.and_false, Bool.or_false, Bool.false_eq_true, Bool.and_eq_false_iff, Bool.or_true, false_iff, iff_false, not_and, and_false, false_or, or_false, and_true, Bool.xor_true, Bool.true_xor, Bool.xor_self, Bool.false_xor, Bool.xor_false]
                try omega
        · have hv : isv (val r) = false := by rw [hc.2.1 r (by omega)]; rfl
          simp only [ss_pS, Nat.reduceEqDiff, Nat.add_left_cancel_iff, ↓reduceIte, hdg, hdg2, h1, h2, h3, decide_true, Bool.true_and, Bool.false_and, Bool.and_false, Bool.or_false, Bool.false_or, and_self, Nat.reduceAdd, show ¬ c + 149 = c + 140 + m by omega, show ¬ c + 140 + m = c + 149 by omega, show ¬ c + 150 = c + 140 + m by omega, show ¬ c + 140 + m = c + 150 by omega, show ¬ c + 151 = c + 140 + m by omega, show ¬ c + 140 + m = c + 151 by omega, show ¬ c + 152 = c + 140 + m by omega, show ¬ c + 140 + m = c + 152 by omega, n2149, n3149, n2150, n3150, n2151, n3151, n2152, n3152, hr, hv, decide_false]
      · by_cases hr : r < 120
        · cases hv : isv (val r)
          · simp only [ss_pS, Nat.reduceEqDiff, Nat.add_left_cancel_iff, ↓reduceIte, hdg, hdg2, h1, h2, h3, decide_true, Bool.true_and, Bool.false_and, Bool.and_false, Bool.or_false, Bool.false_or, and_self, Nat.reduceAdd, show ¬ c + 149 = c + 140 + m by omega, show ¬ c + 140 + m = c + 149 by omega, show ¬ c + 150 = c + 140 + m by omega, show ¬ c + 140 + m = c + 150 by omega, show ¬ c + 151 = c + 140 + m by omega, show ¬ c + 140 + m = c + 151 by omega, show ¬ c + 152 = c + 140 + m by omega, show ¬ c + 140 + m = c + 152 by omega, n2149, n3149, n2150, n3150, n2151, n3151, n2152, n3152, hr, hv]
          · cases hv2 : isv (val2 r)
            · simp only [ss_pS, Nat.reduceEqDiff, Nat.add_left_cancel_iff, ↓reduceIte, hdg, hdg2, h1, h2, h3, decide_true, Bool.true_and, Bool.false_and, Bool.and_false, Bool.or_false, Bool.false_or, and_self, Nat.reduceAdd, show ¬ c + 149 = c + 140 + m by omega, show ¬ c + 140 + m = c + 149 by omega, show ¬ c + 150 = c + 140 + m by omega, show ¬ c + 140 + m = c + 150 by omega, show ¬ c + 151 = c + 140 + m by omega, show ¬ c + 140 + m = c + 151 by omega, show ¬ c + 152 = c + 140 + m by omega, show ¬ c + 140 + m = c + 152 by omega, n2149, n3149, n2150, n3150, n2151, n3151, n2152, n3152, hr, hv, hv2]
              try simp only [Bool.not_false, Bool.not_true, Bool.and_false, Bool.false_and, Bool.or_false]
            · rcases dig_c (val r) m (by omega) with ⟨hd9, hE⟩ | ⟨hd9, hE⟩
              all_goals rcases dig_c (val2 r) m (by omega) with ⟨hd8, hF⟩ | ⟨hd8, hF⟩
              all_goals
                simp only [ss_pS, Nat.reduceEqDiff, Nat.add_left_cancel_iff, ↓reduceIte, hdg, hdg2, h1, h2, h3, decide_true, Bool.true_and, Bool.false_and, Bool.and_false, Bool.or_false, Bool.false_or, and_self, Nat.reduceAdd, show ¬ c + 149 = c + 140 + m by omega, show ¬ c + 140 + m = c + 149 by omega, show ¬ c + 150 = c + 140 + m by omega, show ¬ c + 140 + m = c + 150 by omega, show ¬ c + 151 = c + 140 + m by omega, show ¬ c + 140 + m = c + 151 by omega, show ¬ c + 152 = c + 140 + m by omega, show ¬ c + 140 + m = c + 152 by omega, n2149, n3149, n2150, n3150, n2151, n3151, n2152, n3152, hr, hv, hv2, hd8, hd9]
                try generalize (val r + 64) / 2 ^ m = A at hE ⊢
                try generalize (val2 r + 64) / 2 ^ m = B at hF ⊢
                try rw [Bool.eq_iff_iff]
                try simp only [Bool.and_eq_true, Bool.or_eq_true, Bool.not_eq_true', decide_eq_true_iff, decide_eq_false_iff_not, Bool.not_true, Bool.not_false, Bool.and_true, Bool.and_false, Bool.or_false, Bool.false_eq_true, Bool.and_eq_false_iff, Bool.or_true, false_iff, iff_false, not_and, and_false, false_or, or_false, and_true, Bool.xor_true, Bool.true_xor, Bool.xor_self, Bool.false_xor, Bool.xor_false]
                try omega
        · have hv : isv (val r) = false := by rw [hc.2.1 r (by omega)]; rfl
          simp only [ss_pS, Nat.reduceEqDiff, Nat.add_left_cancel_iff, ↓reduceIte, hdg, hdg2, h1, h2, h3, decide_true, Bool.true_and, Bool.false_and, Bool.and_false, Bool.or_false, Bool.false_or, and_self, Nat.reduceAdd, show ¬ c + 149 = c + 140 + m by omega, show ¬ c + 140 + m = c + 149 by omega, show ¬ c + 150 = c + 140 + m by omega, show ¬ c + 140 + m = c + 150 by omega, show ¬ c + 151 = c + 140 + m by omega, show ¬ c + 140 + m = c + 151 by omega, show ¬ c + 152 = c + 140 + m by omega, show ¬ c + 140 + m = c + 152 by omega, n2149, n3149, n2150, n3150, n2151, n3151, n2152, n3152, hr, hv, decide_false]
    · simp (disch := first | omega | (simp (maxDischargeDepth := 30) only [gK_pS, AWt, ck, ck2, r2, r3, r5, r6, r7, r8, kd, nd, kl, ke, km, kt, hw, kd', rd', r2b, kdb, ndb, kd2', rd2']; done) | (simp (maxDischargeDepth := 30) only [gK_pS, AWt, ck, ck2, r2, r3, r5, r6, r7, r8, kd, nd, kl, ke, km, kt, hw, kd', rd', r2b, kdb, ndb, kd2', rd2']; omega)) only [b_17_0, b_17_1, b_17_2, k_17_2, b_17_3, k_17_3, b_17_4, k_17_4, b_17_5, k_17_5, b_17_6, k_17_6, b_17_7, k_17_7, b_17_8, k_17_8, wq_iconst, wq_bipush, wq_fconst, wq_dconst, wq_iload, wq_lload, wq_fload, wq_dload, wq_aload, wq_istore, wq_fstore, wq_astore, wq_lstore, wq_dstore, wq_iinc, wq_iadd, wq_isub, wq_imul, wq_iand, wq_ior, wq_ixor, wq_ishl, wq_ishr, wq_iushr, wq_ladd, wq_lsub, wq_land, wq_lor, wq_lxor, wq_lshl, wq_lushr, wq_idiv, wq_irem, wq_lcmp, wq_fcmp, wq_dcmp, wq_i2l, wq_l2i, wq_i2f, wq_i2d, wq_f2d, wq_fdiv, wq_ddiv, wq_dupi, wq_dupr, wq_dup2, wq_popi, wq_popr, wq_if_eq, wq_ic_eq, wq_if_ne, wq_ic_ne, wq_if_lt, wq_ic_lt, wq_if_ge, wq_ic_ge, wq_if_gt, wq_ic_gt, wq_if_le, wq_ic_le, wq_goto, wq_nop, wq_tsw, wq_getfield, wq_pfi, wq_pfl, wq_pfr, wq_getstatic, wq_iaload, wq_baload, wq_laload, wq_daload, wq_aaload, wq_iastore, wq_bastore, wq_lastore, wq_dastore, wq_aastore, wq_arraylength, wq_new, wq_newarray, wq_anewarray, wq_multi, wq_copy, wq_mmax, wq_mmin, wq_oi, wq_cs0, wq_cs1, wq_cs2, wq_cs3, wq_cs4, wq_cs5, wq_cs6, wq_cs7, wq_cv1, wq_cv2, wq_cv3, wq_cv4, wq_cv5, wq_cv6, wq_ci1, wq_ci2, wq_ci3, wq_ci4, wq_ci5, wq_ci6, wq_athrow, wq_ireturn, wq_freturn, wq_dreturn, wq_areturn, wq_return, wsw_n, wsw_c, aft_i, gf_1, gf_2, gf_3, rv_s, okst_0, okst_s, is2_int, is2_float, is2_ref, is2_retAddr, List.getElem?_cons_zero, List.getElem?_cons_succ, List.set_cons_zero, List.set_cons_succ, List.length_cons, List.length_nil, Option.toList_some, Option.toList_none, List.cons_append, List.nil_append, List.singleton_append, gL_setI, gD_setI, gR_setI, gN_setI, gK_setI, gx_setI, gc_setI, gs_setI, gI_setL, gD_setL, gR_setL, gN_setL, gK_setL, gx_setL, gc_setL, gs_setL, gI_setD, gL_setD, gR_setD, gN_setD, gK_setD, gx_setD, gc_setD, gs_setD, gI_setR, gL_setR, gD_setR, gN_setR, gK_setR, gx_setR, gc_setR, gs_setR, gL_rowI, gD_rowI, gR_rowI, gN_rowI, gK_rowI, gx_rowI, gc_rowI, gs_rowI, gI_I, gL_L, gD_D, gR_R, gI_row, gI_bmp, gL_bmp, gD_bmp, gR_bmp, gN_bmp, gK_bmp, gx_bmp, gc_bmp, gs_bmp, gK_pS, gN_pS, gI_pS, gD_pS, gR_pS, gx_pS, gc_pS, gs_pS, iv_11, ↓iv_max, ↓iv_min, iv_lt_t, iv_lt_f, iv_le_t, iv_le_f, iv_eq_t, iv_eq_f, iv_lt0_t, iv_lt0_f, iv_gt0_t, iv_gt0_f, iv_le0_t, iv_le0_f, iv_ge0_t, iv_ge0_f, iv_eq0_t, iv_eq0_f, iv_add, iv_sub, iv_mul, iv_nat, iv_lt, iv_le, iv_eq, iv_lt0, iv_gt0, iv_le0, iv_ge0, iv_eq0, iv_cl, bv_01, bv_eq0, lcmp_eq0, ↓reduceIte, Nat.reduceLeDiff, Nat.reduceLT, Nat.reduceAdd, Nat.reduceSub, Nat.reduceEqDiff, Nat.reduceMul, Nat.succ_ne_zero, Nat.zero_lt_succ, Nat.lt_add_one, Nat.add_left_cancel_iff, and_true, true_and, and_false, false_and, and_self, Nat.zero_le, eq_self, true_or, or_true, false_or, or_false, Bool.not_false, Bool.not_true, not_true, not_false_iff, Int.reduceEq, Int.reduceLT, Int.reduceLE, Int.reduceAdd, Int.reduceSub, Int.reduceToNat, Int.reduceNeg, Bool.false_eq_true, Bool.true_eq_false, reduceCtorEq, ck, ck2, r2, r3, r5, r6, r7, r8, kd, nd, kl, ke, km, kt, hw, kd', rd', r2b, kdb, ndb, kd2', rd2', hit, x_53, x_57, x_58, x_59, x_60, isRA14, iv_inb_t, iv_11]
      refine ih (i + -1) _ _ _ _ (by omega) (by omega) (OT.st (OT.st (OT.st (OT.st (OT.st (OT.st (OT.st ho ?_ _) ?_ _) ?_ _) ?_ _) ?_ _) ?_ _) ?_ _) (fun r => ?_) (fun r => ?_) (fun r => ?_)
      · unfold tmp; omega
      · unfold tmp; omega
      · unfold tmp; omega
      · unfold tmp; omega
      · unfold tmp; omega
      · unfold tmp; omega
      · unfold tmp; omega
      · by_cases hr : r < 120
        · cases hv : isv (val r)
          · simp only [ss_pS, Nat.reduceEqDiff, Nat.add_left_cancel_iff, ↓reduceIte, hdg, hdg2, h1, h2, h3, decide_true, Bool.true_and, Bool.false_and, Bool.and_false, Bool.or_false, Bool.false_or, and_self, Nat.reduceAdd, show ¬ c + 149 = c + 140 + m by omega, show ¬ c + 140 + m = c + 149 by omega, show ¬ c + 150 = c + 140 + m by omega, show ¬ c + 140 + m = c + 150 by omega, show ¬ c + 151 = c + 140 + m by omega, show ¬ c + 140 + m = c + 151 by omega, show ¬ c + 152 = c + 140 + m by omega, show ¬ c + 140 + m = c + 152 by omega, n2149, n3149, n2150, n3150, n2151, n3151, n2152, n3152, hr, hv]
          · cases hv2 : isv (val2 r)
            · simp only [ss_pS, Nat.reduceEqDiff, Nat.add_left_cancel_iff, ↓reduceIte, hdg, hdg2, h1, h2, h3, decide_true, Bool.true_and, Bool.false_and, Bool.and_false, Bool.or_false, Bool.false_or, and_self, Nat.reduceAdd, show ¬ c + 149 = c + 140 + m by omega, show ¬ c + 140 + m = c + 149 by omega, show ¬ c + 150 = c + 140 + m by omega, show ¬ c + 140 + m = c + 150 by omega, show ¬ c + 151 = c + 140 + m by omega, show ¬ c + 140 + m = c + 151 by omega, show ¬ c + 152 = c + 140 + m by omega, show ¬ c + 140 + m = c + 152 by omega, n2149, n3149, n2150, n3150, n2151, n3151, n2152, n3152, hr, hv, hv2]
              try simp only [Bool.not_false, Bool.not_true, Bool.and_false, Bool.false_and, Bool.or_false]
            · rcases dig_c (val r) m (by omega) with ⟨hd9, hE⟩ | ⟨hd9, hE⟩
              all_goals rcases dig_c (val2 r) m (by omega) with ⟨hd8, hF⟩ | ⟨hd8, hF⟩
              all_goals
                simp only [ss_pS, Nat.reduceEqDiff, Nat.add_left_cancel_iff, ↓reduceIte, hdg, hdg2, h1, h2, h3, decide_true, Bool.true_and, Bool.false_and, Bool.and_false, Bool.or_false, Bool.false_or, and_self, Nat.reduceAdd, show ¬ c + 149 = c + 140 + m by omega, show ¬ c + 140 + m = c + 149 by omega, show ¬ c + 150 = c + 140 + m by omega, show ¬ c + 140 + m = c + 150 by omega, show ¬ c + 151 = c + 140 + m by omega, show ¬ c + 140 + m = c + 151 by omega, show ¬ c + 152 = c + 140 + m by omega, show ¬ c + 140 + m = c + 152 by omega, n2149, n3149, n2150, n3150, n2151, n3151, n2152, n3152, hr, hv, hv2, hd8, hd9]
                try generalize (val r + 64) / 2 ^ m = A at hE ⊢
                try generalize (val2 r + 64) / 2 ^ m = B at hF ⊢
                try rw [Bool.eq_iff_iff]
                try simp only [Bool.and_eq_true, Bool.or_eq_true, Bool.not_eq_true', decide_eq_true_iff, decide_eq_false_iff_not, Bool.not_true, Bool.not_false, Bool.and_true, Bool.and_false, Bool.or_false, Bool.false_eq_true, Bool.and_eq_false_iff, Bool.or_true, false_iff, iff_false, not_and, and_false, false_or, or_false, and_true, Bool.xor_true, Bool.true_xor, Bool.xor_self, Bool.false_xor, Bool.xor_false]
                try omega
        · have hv : isv (val r) = false := by rw [hc.2.1 r (by omega)]; rfl
          simp only [ss_pS, Nat.reduceEqDiff, Nat.add_left_cancel_iff, ↓reduceIte, hdg, hdg2, h1, h2, h3, decide_true, Bool.true_and, Bool.false_and, Bool.and_false, Bool.or_false, Bool.false_or, and_self, Nat.reduceAdd, show ¬ c + 149 = c + 140 + m by omega, show ¬ c + 140 + m = c + 149 by omega, show ¬ c + 150 = c + 140 + m by omega, show ¬ c + 140 + m = c + 150 by omega, show ¬ c + 151 = c + 140 + m by omega, show ¬ c + 140 + m = c + 151 by omega, show ¬ c + 152 = c + 140 + m by omega, show ¬ c + 140 + m = c + 152 by omega, n2149, n3149, n2150, n3150, n2151, n3151, n2152, n3152, hr, hv, decide_false]
      · by_cases hr : r < 120
        · cases hv : isv (val r)
          · simp only [ss_pS, Nat.reduceEqDiff, Nat.add_left_cancel_iff, ↓reduceIte, hdg, hdg2, h1, h2, h3, decide_true, Bool.true_and, Bool.false_and, Bool.and_false, Bool.or_false, Bool.false_or, and_self, Nat.reduceAdd, show ¬ c + 149 = c + 140 + m by omega, show ¬ c + 140 + m = c + 149 by omega, show ¬ c + 150 = c + 140 + m by omega, show ¬ c + 140 + m = c + 150 by omega, show ¬ c + 151 = c + 140 + m by omega, show ¬ c + 140 + m = c + 151 by omega, show ¬ c + 152 = c + 140 + m by omega, show ¬ c + 140 + m = c + 152 by omega, n2149, n3149, n2150, n3150, n2151, n3151, n2152, n3152, hr, hv]
          · cases hv2 : isv (val2 r)
            · simp only [ss_pS, Nat.reduceEqDiff, Nat.add_left_cancel_iff, ↓reduceIte, hdg, hdg2, h1, h2, h3, decide_true, Bool.true_and, Bool.false_and, Bool.and_false, Bool.or_false, Bool.false_or, and_self, Nat.reduceAdd, show ¬ c + 149 = c + 140 + m by omega, show ¬ c + 140 + m = c + 149 by omega, show ¬ c + 150 = c + 140 + m by omega, show ¬ c + 140 + m = c + 150 by omega, show ¬ c + 151 = c + 140 + m by omega, show ¬ c + 140 + m = c + 151 by omega, show ¬ c + 152 = c + 140 + m by omega, show ¬ c + 140 + m = c + 152 by omega, n2149, n3149, n2150, n3150, n2151, n3151, n2152, n3152, hr, hv, hv2]
              try simp only [Bool.not_false, Bool.not_true, Bool.and_false, Bool.false_and, Bool.or_false]
            · rcases dig_c (val r) m (by omega) with ⟨hd9, hE⟩ | ⟨hd9, hE⟩
              all_goals rcases dig_c (val2 r) m (by omega) with ⟨hd8, hF⟩ | ⟨hd8, hF⟩
              all_goals
                simp only [ss_pS, Nat.reduceEqDiff, Nat.add_left_cancel_iff, ↓reduceIte, hdg, hdg2, h1, h2, h3, decide_true, Bool.true_and, Bool.false_and, Bool.and_false, Bool.or_false, Bool.false_or, and_self, Nat.reduceAdd, show ¬ c + 149 = c + 140 + m by omega, show ¬ c + 140 + m = c + 149 by omega, show ¬ c + 150 = c + 140 + m by omega, show ¬ c + 140 + m = c + 150 by omega, show ¬ c + 151 = c + 140 + m by omega, show ¬ c + 140 + m = c + 151 by omega, show ¬ c + 152 = c + 140 + m by omega, show ¬ c + 140 + m = c + 152 by omega, n2149, n3149, n2150, n3150, n2151, n3151, n2152, n3152, hr, hv, hv2, hd8, hd9]
                try generalize (val r + 64) / 2 ^ m = A at hE ⊢
                try generalize (val2 r + 64) / 2 ^ m = B at hF ⊢
                try rw [Bool.eq_iff_iff]
                try simp only [Bool.and_eq_true, Bool.or_eq_true, Bool.not_eq_true', decide_eq_true_iff, decide_eq_false_iff_not, Bool.not_true, Bool.not_false, Bool.and_true, Bool.and_false, Bool.or_false, Bool.false_eq_true, Bool.and_eq_false_iff, Bool.or_true, false_iff, iff_false, not_and, and_false, false_or, or_false, and_true, Bool.xor_true, Bool.true_xor, Bool.xor_self, Bool.false_xor, Bool.xor_false]
                try omega
        · have hv : isv (val r) = false := by rw [hc.2.1 r (by omega)]; rfl
          simp only [ss_pS, Nat.reduceEqDiff, Nat.add_left_cancel_iff, ↓reduceIte, hdg, hdg2, h1, h2, h3, decide_true, Bool.true_and, Bool.false_and, Bool.and_false, Bool.or_false, Bool.false_or, and_self, Nat.reduceAdd, show ¬ c + 149 = c + 140 + m by omega, show ¬ c + 140 + m = c + 149 by omega, show ¬ c + 150 = c + 140 + m by omega, show ¬ c + 140 + m = c + 150 by omega, show ¬ c + 151 = c + 140 + m by omega, show ¬ c + 140 + m = c + 151 by omega, show ¬ c + 152 = c + 140 + m by omega, show ¬ c + 140 + m = c + 152 by omega, n2149, n3149, n2150, n3150, n2151, n3151, n2152, n3152, hr, hv, decide_false]
      · by_cases hr : r < 120
        · cases hv : isv (val r)
          · simp only [ss_pS, Nat.reduceEqDiff, Nat.add_left_cancel_iff, ↓reduceIte, hdg, hdg2, h1, h2, h3, decide_true, Bool.true_and, Bool.false_and, Bool.and_false, Bool.or_false, Bool.false_or, and_self, Nat.reduceAdd, show ¬ c + 149 = c + 140 + m by omega, show ¬ c + 140 + m = c + 149 by omega, show ¬ c + 150 = c + 140 + m by omega, show ¬ c + 140 + m = c + 150 by omega, show ¬ c + 151 = c + 140 + m by omega, show ¬ c + 140 + m = c + 151 by omega, show ¬ c + 152 = c + 140 + m by omega, show ¬ c + 140 + m = c + 152 by omega, n2149, n3149, n2150, n3150, n2151, n3151, n2152, n3152, hr, hv]
          · cases hv2 : isv (val2 r)
            · simp only [ss_pS, Nat.reduceEqDiff, Nat.add_left_cancel_iff, ↓reduceIte, hdg, hdg2, h1, h2, h3, decide_true, Bool.true_and, Bool.false_and, Bool.and_false, Bool.or_false, Bool.false_or, and_self, Nat.reduceAdd, show ¬ c + 149 = c + 140 + m by omega, show ¬ c + 140 + m = c + 149 by omega, show ¬ c + 150 = c + 140 + m by omega, show ¬ c + 140 + m = c + 150 by omega, show ¬ c + 151 = c + 140 + m by omega, show ¬ c + 140 + m = c + 151 by omega, show ¬ c + 152 = c + 140 + m by omega, show ¬ c + 140 + m = c + 152 by omega, n2149, n3149, n2150, n3150, n2151, n3151, n2152, n3152, hr, hv, hv2]
              try simp only [Bool.not_false, Bool.not_true, Bool.and_false, Bool.false_and, Bool.or_false]
            · rcases dig_c (val r) m (by omega) with ⟨hd9, hE⟩ | ⟨hd9, hE⟩
              all_goals rcases dig_c (val2 r) m (by omega) with ⟨hd8, hF⟩ | ⟨hd8, hF⟩
              all_goals
                simp only [ss_pS, Nat.reduceEqDiff, Nat.add_left_cancel_iff, ↓reduceIte, hdg, hdg2, h1, h2, h3, decide_true, Bool.true_and, Bool.false_and, Bool.and_false, Bool.or_false, Bool.false_or, and_self, Nat.reduceAdd, show ¬ c + 149 = c + 140 + m by omega, show ¬ c + 140 + m = c + 149 by omega, show ¬ c + 150 = c + 140 + m by omega, show ¬ c + 140 + m = c + 150 by omega, show ¬ c + 151 = c + 140 + m by omega, show ¬ c + 140 + m = c + 151 by omega, show ¬ c + 152 = c + 140 + m by omega, show ¬ c + 140 + m = c + 152 by omega, n2149, n3149, n2150, n3150, n2151, n3151, n2152, n3152, hr, hv, hv2, hd8, hd9]
                try generalize (val r + 64) / 2 ^ m = A at hE ⊢
                try generalize (val2 r + 64) / 2 ^ m = B at hF ⊢
                try rw [Bool.eq_iff_iff]
                try simp only [Bool.and_eq_true, Bool.or_eq_true, Bool.not_eq_true', decide_eq_true_iff, decide_eq_false_iff_not, Bool.not_true, Bool.not_false, Bool.and_true, Bool.and_false, Bool.or_false, Bool.false_eq_true, Bool.and_eq_false_iff, Bool.or_true, false_iff, iff_false, not_and, and_false, false_or, or_false, and_true, Bool.xor_true, Bool.true_xor, Bool.xor_self, Bool.false_xor, Bool.xor_false]
                try omega
        · have hv : isv (val r) = false := by rw [hc.2.1 r (by omega)]; rfl
          simp only [ss_pS, Nat.reduceEqDiff, Nat.add_left_cancel_iff, ↓reduceIte, hdg, hdg2, h1, h2, h3, decide_true, Bool.true_and, Bool.false_and, Bool.and_false, Bool.or_false, Bool.false_or, and_self, Nat.reduceAdd, show ¬ c + 149 = c + 140 + m by omega, show ¬ c + 140 + m = c + 149 by omega, show ¬ c + 150 = c + 140 + m by omega, show ¬ c + 140 + m = c + 150 by omega, show ¬ c + 151 = c + 140 + m by omega, show ¬ c + 140 + m = c + 151 by omega, show ¬ c + 152 = c + 140 + m by omega, show ¬ c + 140 + m = c + 152 by omega, n2149, n3149, n2150, n3150, n2151, n3151, n2152, n3152, hr, hv, decide_false]
theorem tsp_cmp2 {t a b : Int} {K : Bool} (ht : 0 ≤ t ∧ t ≤ 5) : tsp t K (K && decide (a < b)) (K && decide (a = b)) = (K && cmpT t a b) := by
  unfold tsp cmpT
  cases K
  · have h6 : t = 0 ∨ t = 1 ∨ t = 2 ∨ t = 3 ∨ t = 4 ∨ t = 5 := by omega
    rcases h6 with h | h | h | h | h | h <;> subst h <;> rfl
  · have h6 : t = 0 ∨ t = 1 ∨ t = 2 ∨ t = 3 ∨ t = 4 ∨ t = 5 := by omega
    rcases h6 with h | h | h | h | h | h
    all_goals
      subst h
      simp only [↓reduceIte, Int.reduceEq, Bool.true_and, ← decide_not, ← Bool.decide_or, ← Bool.decide_and, decide_eq_decide]
      try omega
theorem x_17 {σ : St} {Q : Out → St → Prop} {c c2 out : Nat} {t : Int} {val val2 : Nat → Int} (ht : 0 ≤ t ∧ t ≤ 5) (hl : CoL σ c) (hw : AW σ) (hc : CC σ c val) (hl2 : CoL σ c2) (hc2 : CC σ c2 val2) (hdj : ∀ p, perm c2 p → ¬ tmp c p) (ho : gK σ out = 5) (ht2 : ¬ tmp c out) (hQ : ∀ σ', OT (tT c out) σ σ' → ss σ' out = (fun r => (isv (val r) && isv (val2 r)) && cmpT t (val r) (val2 r)) → Q (.inl none) σ') : Ex 17 [.ref c, .ref c2, .int (iv t), .ref out] σ Q := by
  have hl0 := hl
  have hl20 := hl2
  have no : ∀ r, 120 ≤ r → isv (val r) = false := fun r hr => by rw [hc.2.1 r hr]; rfl
  obtain ⟨ck, r0, r1, r2, r3, r4, r5, r6, r7, r8, ka, na, ra, kb, nb, rb, kd, nd, rd, kv, kbs, kds, kn, k0, kl, ke, km, kt⟩ := hl
  obtain ⟨ck2, r0z, r1z, r2b, r3b, r4z, r5z, r6z, r7z, r8z, kaz, naz, raz, kbz, nbz, rbz, kdb, ndb, rdb, kvz, kbsz, kdsb, knb, k0z, klz, kez, kmz, ktz⟩ := hl2
  have e7 : ∀ v, isv v = true → (v + 64) / 2 ^ 7 = 0 := fun v h => by
    rw [isv_iff] at h
    simp only [Int.reducePow]
    omega
  have hnk : ¬ c2 + 147 = c + 151 := fun e => hdj (c2 + 147) (by unfold perm; omega) (by unfold tmp; omega)
  have hk1 := hc.known
  have hk2 := hc2.known
  simp (disch := first | omega | (simp (maxDischargeDepth := 30) only [gK_pS, AWt, ck, ck2, r3, r3b, r5, r6, r7, kn, knb, kl, ke, km, hw]; done) | (simp (maxDischargeDepth := 30) only [gK_pS, AWt, ck, ck2, r3, r3b, r5, r6, r7, kn, knb, kl, ke, km, hw]; omega)) only [b_17_0, b_17_1, b_17_2, k_17_2, b_17_3, k_17_3, b_17_4, k_17_4, b_17_5, k_17_5, b_17_6, k_17_6, b_17_7, k_17_7, b_17_8, k_17_8, e_17, wq_iconst, wq_bipush, wq_fconst, wq_dconst, wq_iload, wq_lload, wq_fload, wq_dload, wq_aload, wq_istore, wq_fstore, wq_astore, wq_lstore, wq_dstore, wq_iinc, wq_iadd, wq_isub, wq_imul, wq_iand, wq_ior, wq_ixor, wq_ishl, wq_ishr, wq_iushr, wq_ladd, wq_lsub, wq_land, wq_lor, wq_lxor, wq_lshl, wq_lushr, wq_idiv, wq_irem, wq_lcmp, wq_fcmp, wq_dcmp, wq_i2l, wq_l2i, wq_i2f, wq_i2d, wq_f2d, wq_fdiv, wq_ddiv, wq_dupi, wq_dupr, wq_dup2, wq_popi, wq_popr, wq_if_eq, wq_ic_eq, wq_if_ne, wq_ic_ne, wq_if_lt, wq_ic_lt, wq_if_ge, wq_ic_ge, wq_if_gt, wq_ic_gt, wq_if_le, wq_ic_le, wq_goto, wq_nop, wq_tsw, wq_getfield, wq_pfi, wq_pfl, wq_pfr, wq_getstatic, wq_iaload, wq_baload, wq_laload, wq_daload, wq_aaload, wq_iastore, wq_bastore, wq_lastore, wq_dastore, wq_aastore, wq_arraylength, wq_new, wq_newarray, wq_anewarray, wq_multi, wq_copy, wq_mmax, wq_mmin, wq_oi, wq_cs0, wq_cs1, wq_cs2, wq_cs3, wq_cs4, wq_cs5, wq_cs6, wq_cs7, wq_cv1, wq_cv2, wq_cv3, wq_cv4, wq_cv5, wq_cv6, wq_ci1, wq_ci2, wq_ci3, wq_ci4, wq_ci5, wq_ci6, wq_athrow, wq_ireturn, wq_freturn, wq_dreturn, wq_areturn, wq_return, wsw_n, wsw_c, aft_i, gf_1, gf_2, gf_3, rv_s, okst_0, okst_s, is2_int, is2_float, is2_ref, is2_retAddr, List.getElem?_cons_zero, List.getElem?_cons_succ, List.set_cons_zero, List.set_cons_succ, List.length_cons, List.length_nil, Option.toList_some, Option.toList_none, List.cons_append, List.nil_append, List.singleton_append, gL_setI, gD_setI, gR_setI, gN_setI, gK_setI, gx_setI, gc_setI, gs_setI, gI_setL, gD_setL, gR_setL, gN_setL, gK_setL, gx_setL, gc_setL, gs_setL, gI_setD, gL_setD, gR_setD, gN_setD, gK_setD, gx_setD, gc_setD, gs_setD, gI_setR, gL_setR, gD_setR, gN_setR, gK_setR, gx_setR, gc_setR, gs_setR, gL_rowI, gD_rowI, gR_rowI, gN_rowI, gK_rowI, gx_rowI, gc_rowI, gs_rowI, gI_I, gL_L, gD_D, gR_R, gI_row, gI_bmp, gL_bmp, gD_bmp, gR_bmp, gN_bmp, gK_bmp, gx_bmp, gc_bmp, gs_bmp, gK_pS, gN_pS, gI_pS, gD_pS, gR_pS, gx_pS, gc_pS, gs_pS, iv_11, ↓iv_max, ↓iv_min, iv_lt_t, iv_lt_f, iv_le_t, iv_le_f, iv_eq_t, iv_eq_f, iv_lt0_t, iv_lt0_f, iv_gt0_t, iv_gt0_f, iv_le0_t, iv_le0_f, iv_ge0_t, iv_ge0_f, iv_eq0_t, iv_eq0_f, iv_add, iv_sub, iv_mul, iv_nat, iv_lt, iv_le, iv_eq, iv_lt0, iv_gt0, iv_le0, iv_ge0, iv_eq0, iv_cl, bv_01, bv_eq0, lcmp_eq0, ↓reduceIte, Nat.reduceLeDiff, Nat.reduceLT, Nat.reduceAdd, Nat.reduceSub, Nat.reduceEqDiff, Nat.reduceMul, Nat.succ_ne_zero, Nat.zero_lt_succ, Nat.lt_add_one, Nat.add_left_cancel_iff, and_true, true_and, and_false, false_and, and_self, Nat.zero_le, eq_self, true_or, or_true, false_or, or_false, Bool.not_false, Bool.not_true, not_true, not_false_iff, Int.reduceEq, Int.reduceLT, Int.reduceLE, Int.reduceAdd, Int.reduceSub, Int.reduceToNat, Int.reduceNeg, Bool.false_eq_true, Bool.true_eq_false, reduceCtorEq, ck, ck2, r3, r3b, r5, r6, r7, kn, knb, kl, ke, km, hw, x_51, x_53, x_57, pS_twice]
  refine q_17_1 hl0 hc hl20 hc2 hdj (fun σ' h1 h2 h3 h4 ls => ?_) 7 6 _ _ _ _ (by omega) (by omega) (OT.st (OT.st (OT.st (OT.rf hw) (by unfold tmp; omega) _) (by unfold tmp; omega) _) (by unfold tmp; omega) _) (fun r => ?_) (fun r => ?_) (fun r => ?_)
  · have hn1 : out ≠ c + 149 := fun e => ht2 (by unfold tmp; omega)
    have hn2 : out ≠ c + 150 := fun e => ht2 (by unfold tmp; omega)
    have hn3 : out ≠ c + 151 := fun e => ht2 (by unfold tmp; omega)
    rw [x_16 (t := t) (by omega) (hl0.ot h1) h1.2.1 (by rw [h1.K]; exact km) (by rw [h1.K]; exact ho) hn3 hn1 hn2]
    simp only [aft_i, wq_return, Option.toList_none, List.nil_append]
    refine hQ _ (OT.st (T := tT c out) (h1.wk (fun p hp => Or.inr hp)) (Or.inl rfl) _) (funext fun r => ?_)
    rw [ss_same, h2, h3, h4, tsp_cmp2 ht]
    by_cases hr : r < 120
    · rw [decide_eq_true hr, Bool.true_and]
    · rw [decide_eq_false hr, Bool.false_and, no r (by omega), Bool.false_and, Bool.false_and]
  all_goals simp only [ss_pS, Nat.reduceEqDiff, Nat.add_left_cancel_iff, ↓reduceIte, Bool.and_false, hk1, hk2, hnk]
  · cases h : isv (val r)
    · rfl
    · cases h2 : isv (val2 r)
      · rfl
      · rw [e7 _ h, e7 _ h2]; rfl
  · by_cases hr : r < 120
    · cases h : isv (val r)
      · simp
      · cases h2 : isv (val2 r)
        · simp
        · rw [e7 _ h, e7 _ h2]; simp [hr]
    · rw [no r (by omega)]
      simp [hr]
  · by_cases hr : r < 120
    · simp [hr]
    · rw [no r (by omega)]
      simp [hr]
