/-! COLUMNS: a split by digits -/
def tmp (c p : Nat) : Prop := c + 149 ≤ p ∧ p ≤ c + 152
theorem tmp_perm {c p : Nat} (h : perm c p) : ¬ tmp c p := by unfold perm at h; unfold tmp; omega
theorem dig_u (v : Int) : ∀ m : Nat, m < 7 → (dig v m = true ↔ ((v + 64) / 2 ^ m % 2 = 1 ↔ m ≠ 6)) := by
  intro m hm
  unfold dig
  rw [decide_eq_true_iff]
  have h : m = 0 ∨ m = 1 ∨ m = 2 ∨ m = 3 ∨ m = 4 ∨ m = 5 ∨ m = 6 := by omega
  rcases h with h | h | h | h | h | h | h <;> subst h <;> simp only [Int.reducePow] <;> omega
theorem dig_c (v : Int) (m : Nat) (hm : m < 7) : (dig v m = true ∧ ((m ≠ 6 ∧ (v + 64) / 2 ^ m % 2 = 1) ∨ (m = 6 ∧ (v + 64) / 2 ^ m % 2 = 0))) ∨ (dig v m = false ∧ ((m ≠ 6 ∧ (v + 64) / 2 ^ m % 2 = 0) ∨ (m = 6 ∧ (v + 64) / 2 ^ m % 2 = 1))) := by
  have h := dig_u v m hm
  have h2 := Int.emod_two_eq ((v + 64) / 2 ^ m)
  generalize (v + 64) / 2 ^ m = A at h h2 ⊢
  cases hd : dig v m
  · rw [hd] at h
    refine Or.inr ⟨rfl, ?_⟩
    simp only [Bool.false_eq_true, false_iff] at h
    omega
  · rw [hd] at h
    refine Or.inl ⟨rfl, ?_⟩
    simp only [true_iff] at h
    omega
theorem pw_half (a : Int) (m : Nat) : a / 2 ^ (m + 1) = a / 2 ^ m / 2 := by
  rw [Int.pow_succ, Int.ediv_ediv_of_nonneg (Int.le_of_lt (Int.pow_pos (by omega)))]
theorem q_15_1 {σ : St} {Q : Out → St → Prop} {c : Nat} {u : Int} {val : Nat → Int} (hu : isv u = true) (hl : CoL σ c) (hc : CC σ c val) (hQ : ∀ σ', OT (tmp c) σ σ' → ss σ' (c + 149) = (fun r => decide (val r < u)) → ss σ' (c + 150) = (fun r => decide (val r = u)) → Q (.inl none) σ') : ∀ (m : Nat) (i : Int) (v3 : Value) (σ' : St), m ≤ 7 → i = m - 1 → OT (tmp c) σ σ' → (∀ r, ss σ' (c + 149) r = (isv (val r) && decide ((val r + 64) / 2 ^ m < (u + 64) / 2 ^ m))) → (∀ r, ss σ' (c + 150) r = (isv (val r) && decide ((val r + 64) / 2 ^ m = (u + 64) / 2 ^ m))) → Wp 15 (blk 15 1, [.ref c, .int (iv u), .int (iv i), v3], [], σ') Q := by
  have hu' := isv_iff.mp hu
  intro m
  induction m with
  | zero =>
    intro i v3 σ' h7 hi ho h1 h2
    rw [k_15_1]
    simp (disch := first | omega | (simp (maxDischargeDepth := 30) only [gK_pS, AWt]; done) | (simp (maxDischargeDepth := 30) only [gK_pS, AWt]; omega)) only [b_15_0, b_15_1, b_15_2, k_15_2, b_15_3, k_15_3, b_15_4, k_15_4, b_15_5, k_15_5, b_15_6, k_15_6, b_15_7, k_15_7, wq_iconst, wq_bipush, wq_fconst, wq_dconst, wq_iload, wq_lload, wq_fload, wq_dload, wq_aload, wq_istore, wq_fstore, wq_astore, wq_lstore, wq_dstore, wq_iinc, wq_iadd, wq_isub, wq_imul, wq_iand, wq_ior, wq_ixor, wq_ishl, wq_ishr, wq_iushr, wq_ladd, wq_lsub, wq_land, wq_lor, wq_lxor, wq_lshl, wq_lushr, wq_idiv, wq_irem, wq_lcmp, wq_fcmp, wq_dcmp, wq_i2l, wq_l2i, wq_i2f, wq_i2d, wq_f2d, wq_fdiv, wq_ddiv, wq_dupi, wq_dupr, wq_dup2, wq_popi, wq_popr, wq_if_eq, wq_ic_eq, wq_if_ne, wq_ic_ne, wq_if_lt, wq_ic_lt, wq_if_ge, wq_ic_ge, wq_if_gt, wq_ic_gt, wq_if_le, wq_ic_le, wq_goto, wq_nop, wq_tsw, wq_getfield, wq_pfi, wq_pfl, wq_pfr, wq_getstatic, wq_iaload, wq_baload, wq_laload, wq_daload, wq_aaload, wq_iastore, wq_bastore, wq_lastore, wq_dastore, wq_aastore, wq_arraylength, wq_new, wq_newarray, wq_anewarray, wq_multi, wq_copy, wq_mmax, wq_mmin, wq_oi, wq_cs0, wq_cs1, wq_cs2, wq_cs3, wq_cs4, wq_cs5, wq_cs6, wq_cs7, wq_cv1, wq_cv2, wq_cv3, wq_cv4, wq_cv5, wq_cv6, wq_ci1, wq_ci2, wq_ci3, wq_ci4, wq_ci5, wq_ci6, wq_athrow, wq_ireturn, wq_freturn, wq_dreturn, wq_areturn, wq_return, wsw_n, wsw_c, aft_i, gf_1, gf_2, gf_3, rv_s, okst_0, okst_s, is2_int, is2_float, is2_ref, is2_retAddr, List.getElem?_cons_zero, List.getElem?_cons_succ, List.set_cons_zero, List.set_cons_succ, List.length_cons, List.length_nil, Option.toList_some, Option.toList_none, List.cons_append, List.nil_append, List.singleton_append, gL_setI, gD_setI, gR_setI, gN_setI, gK_setI, gx_setI, gc_setI, gs_setI, gI_setL, gD_setL, gR_setL, gN_setL, gK_setL, gx_setL, gc_setL, gs_setL, gI_setD, gL_setD, gR_setD, gN_setD, gK_setD, gx_setD, gc_setD, gs_setD, gI_setR, gL_setR, gD_setR, gN_setR, gK_setR, gx_setR, gc_setR, gs_setR, gL_rowI, gD_rowI, gR_rowI, gN_rowI, gK_rowI, gx_rowI, gc_rowI, gs_rowI, gI_I, gL_L, gD_D, gR_R, gI_row, gI_bmp, gL_bmp, gD_bmp, gR_bmp, gN_bmp, gK_bmp, gx_bmp, gc_bmp, gs_bmp, gK_pS, gN_pS, gI_pS, gD_pS, gR_pS, gx_pS, gc_pS, gs_pS, iv_11, ↓iv_max, ↓iv_min, iv_lt_t, iv_lt_f, iv_le_t, iv_le_f, iv_eq_t, iv_eq_f, iv_lt0_t, iv_lt0_f, iv_gt0_t, iv_gt0_f, iv_le0_t, iv_le0_f, iv_ge0_t, iv_ge0_f, iv_eq0_t, iv_eq0_f, iv_add, iv_sub, iv_mul, iv_nat, iv_lt, iv_le, iv_eq, iv_lt0, iv_gt0, iv_le0, iv_ge0, iv_eq0, iv_cl, bv_01, bv_eq0, lcmp_eq0, ↓reduceIte, Nat.reduceLeDiff, Nat.reduceLT, Nat.reduceAdd, Nat.reduceSub, Nat.reduceEqDiff, Nat.reduceMul, Nat.succ_ne_zero, Nat.zero_lt_succ, Nat.lt_add_one, Nat.add_left_cancel_iff, and_true, true_and, and_false, false_and, and_self, Nat.zero_le, eq_self, true_or, or_true, false_or, or_false, Bool.not_false, Bool.not_true, not_true, not_false_iff, Int.reduceEq, Int.reduceLT, Int.reduceLE, Int.reduceAdd, Int.reduceSub, Int.reduceToNat, Int.reduceNeg, Bool.false_eq_true, Bool.true_eq_false, reduceCtorEq]
    refine hQ σ' ho (funext fun r => ?_) (funext fun r => ?_)
    · rw [h1, Int.pow_zero, Int.ediv_one, Int.ediv_one]
      rcases hc.1 r with h | h
      · rw [h, isv_100, Bool.false_and, decide_eq_false (by omega)]
      · rw [h, Bool.true_and, decide_eq_decide]; omega
    · rw [h2, Int.pow_zero, Int.ediv_one, Int.ediv_one]
      rcases hc.1 r with h | h
      · rw [h, isv_100, Bool.false_and, decide_eq_false (by omega)]
      · rw [h, Bool.true_and, decide_eq_decide]; omega
  | succ m ih =>
    intro i v3 σ' h7 hi ho h1 h2
    have hl := hl.ot ho
    have hw := ho.2.1
    have hc' := hc.ot ho (fun p => tmp_perm)
    have him : i = m := by omega
    obtain ⟨ck, r0, r1, r2, r3, r4, r5, r6, r7, r8, ka, na, ra, kb, nb, rb, kd, nd, rd, kv, kbs, kds, kn, k0, kl, ke, km, kt⟩ := hl
    have hdg := hc'.digit (d := m) (by omega)
    have kd' := kds m (by omega)
    have rd' := rd m (by omega)
    rw [k_15_1]
    have m2 := fun Q => x_6 (σ := σ') (Q := Q) (v := u) (d := i) (by omega) (by omega)
    have hit : i.toNat = m := by omega
    rw [hit] at m2
    have st0 : OT (tmp c) σ (pS σ' (c + 152) (ss σ' (c + 150))) := ho.st (by unfold tmp; omega) _
    have fin : ∀ (σ2 : St) (w : Value), OT (tmp c) σ σ2 → (∀ r, r < 120 → isv (val r) = true → ss σ2 (c + 149) r = decide ((val r + 64) / 2 ^ m < (u + 64) / 2 ^ m)) → (∀ r, r < 120 → isv (val r) = true → ss σ2 (c + 150) r = decide ((val r + 64) / 2 ^ m = (u + 64) / 2 ^ m)) → (∀ r, isv (val r) = false → ss σ2 (c + 149) r = false ∧ ss σ2 (c + 150) r = false) → Wp 15 (blk 15 1, [.ref c, .int (iv u), .int (iv (i + -1)), w], [], σ2) Q := by
      intro σ2 w g1 g2 g3 g4
      refine ih (i + -1) w σ2 (by omega) (by omega) g1 (fun r => ?_) (fun r => ?_)
      · cases hv : isv (val r)
        · exact (g4 r hv).1
        · refine g2 r ?_ hv
          apply Decidable.byContradiction
          intro hr
          rw [hc.2.1 r (by omega)] at hv
          exact absurd hv (by decide)
      · cases hv : isv (val r)
        · exact (g4 r hv).2
        · refine g3 r ?_ hv
          apply Decidable.byContradiction
          intro hr
          rw [hc.2.1 r (by omega)] at hv
          exact absurd hv (by decide)
    simp only [pw_half] at h1 h2
    rcases dig_c u m (by omega) with ⟨hd, hD⟩ | ⟨hd, hD⟩
    · by_cases h6 : i = 6
      · simp (disch := first | omega | (simp (maxDischargeDepth := 30) only [gK_pS, AWt, ck, r2, r3, r5, r6, r8, kd, nd, kl, ke, kt, hw, kd', rd']; done) | (simp (maxDischargeDepth := 30) only [gK_pS, AWt, ck, r2, r3, r5, r6, r8, kd, nd, kl, ke, kt, hw, kd', rd']; omega)) only [b_15_0, b_15_1, b_15_2, k_15_2, b_15_3, k_15_3, b_15_4, k_15_4, b_15_5, k_15_5, b_15_6, k_15_6, b_15_7, k_15_7, wq_iconst, wq_bipush, wq_fconst, wq_dconst, wq_iload, wq_lload, wq_fload, wq_dload, wq_aload, wq_istore, wq_fstore, wq_astore, wq_lstore, wq_dstore, wq_iinc, wq_iadd, wq_isub, wq_imul, wq_iand, wq_ior, wq_ixor, wq_ishl, wq_ishr, wq_iushr, wq_ladd, wq_lsub, wq_land, wq_lor, wq_lxor, wq_lshl, wq_lushr, wq_idiv, wq_irem, wq_lcmp, wq_fcmp, wq_dcmp, wq_i2l, wq_l2i, wq_i2f, wq_i2d, wq_f2d, wq_fdiv, wq_ddiv, wq_dupi, wq_dupr, wq_dup2, wq_popi, wq_popr, wq_if_eq, wq_ic_eq, wq_if_ne, wq_ic_ne, wq_if_lt, wq_ic_lt, wq_if_ge, wq_ic_ge, wq_if_gt, wq_ic_gt, wq_if_le, wq_ic_le, wq_goto, wq_nop, wq_tsw, wq_getfield, wq_pfi, wq_pfl, wq_pfr, wq_getstatic, wq_iaload, wq_baload, wq_laload, wq_daload, wq_aaload, wq_iastore, wq_bastore, wq_lastore, wq_dastore, wq_aastore, wq_arraylength, wq_new, wq_newarray, wq_anewarray, wq_multi, wq_copy, wq_mmax, wq_mmin, wq_oi, wq_cs0, wq_cs1, wq_cs2, wq_cs3, wq_cs4, wq_cs5, wq_cs6, wq_cs7, wq_cv1, wq_cv2, wq_cv3, wq_cv4, wq_cv5, wq_cv6, wq_ci1, wq_ci2, wq_ci3, wq_ci4, wq_ci5, wq_ci6, wq_athrow, wq_ireturn, wq_freturn, wq_dreturn, wq_areturn, wq_return, wsw_n, wsw_c, aft_i, gf_1, gf_2, gf_3, rv_s, okst_0, okst_s, is2_int, is2_float, is2_ref, is2_retAddr, List.getElem?_cons_zero, List.getElem?_cons_succ, List.set_cons_zero, List.set_cons_succ, List.length_cons, List.length_nil, Option.toList_some, Option.toList_none, List.cons_append, List.nil_append, List.singleton_append, gL_setI, gD_setI, gR_setI, gN_setI, gK_setI, gx_setI, gc_setI, gs_setI, gI_setL, gD_setL, gR_setL, gN_setL, gK_setL, gx_setL, gc_setL, gs_setL, gI_setD, gL_setD, gR_setD, gN_setD, gK_setD, gx_setD, gc_setD, gs_setD, gI_setR, gL_setR, gD_setR, gN_setR, gK_setR, gx_setR, gc_setR, gs_setR, gL_rowI, gD_rowI, gR_rowI, gN_rowI, gK_rowI, gx_rowI, gc_rowI, gs_rowI, gI_I, gL_L, gD_D, gR_R, gI_row, gI_bmp, gL_bmp, gD_bmp, gR_bmp, gN_bmp, gK_bmp, gx_bmp, gc_bmp, gs_bmp, gK_pS, gN_pS, gI_pS, gD_pS, gR_pS, gx_pS, gc_pS, gs_pS, iv_11, ↓iv_max, ↓iv_min, iv_lt_t, iv_lt_f, iv_le_t, iv_le_f, iv_eq_t, iv_eq_f, iv_lt0_t, iv_lt0_f, iv_gt0_t, iv_gt0_f, iv_le0_t, iv_le0_f, iv_ge0_t, iv_ge0_f, iv_eq0_t, iv_eq0_f, iv_add, iv_sub, iv_mul, iv_nat, iv_lt, iv_le, iv_eq, iv_lt0, iv_gt0, iv_le0, iv_ge0, iv_eq0, iv_cl, bv_01, bv_eq0, lcmp_eq0, ↓reduceIte, Nat.reduceLeDiff, Nat.reduceLT, Nat.reduceAdd, Nat.reduceSub, Nat.reduceEqDiff, Nat.reduceMul, Nat.succ_ne_zero, Nat.zero_lt_succ, Nat.lt_add_one, Nat.add_left_cancel_iff, and_true, true_and, and_false, false_and, and_self, Nat.zero_le, eq_self, true_or, or_true, false_or, or_false, Bool.not_false, Bool.not_true, not_true, not_false_iff, Int.reduceEq, Int.reduceLT, Int.reduceLE, Int.reduceAdd, Int.reduceSub, Int.reduceToNat, Int.reduceNeg, Bool.false_eq_true, Bool.true_eq_false, reduceCtorEq, ck, r2, r3, r5, r6, r8, kd, nd, kl, ke, kt, hw, kd', rd', m2, hd, hit, show bz false = 0 from rfl, show bz true = 1 from rfl, x_53, x_57, x_58, x_59, isRA14, iv_inb_t, iv_11]
        refine fin _ _ (OT.st (OT.st ho ?_ _) ?_ _) (fun r hr hv => ?_) (fun r hr hv => ?_) (fun r hv => ?_)
        · unfold tmp; omega
        · unfold tmp; omega
        · rcases dig_c (val r) m (by omega) with ⟨hd9, hE⟩ | ⟨hd9, hE⟩
          all_goals
            simp only [ss_pS, Nat.reduceEqDiff, Nat.add_left_cancel_iff, ↓reduceIte, hdg, h1, h2, hv, decide_true, Bool.true_and, Bool.false_and, Bool.and_false, Bool.or_false, Bool.false_or, and_self, Nat.reduceAdd, show ¬ c + 149 = c + 140 + m by omega, show ¬ c + 150 = c + 140 + m by omega, show ¬ c + 152 = c + 140 + m by omega, show ¬ c + 140 + m = c + 149 by omega, show ¬ c + 140 + m = c + 150 by omega, show ¬ c + 140 + m = c + 152 by omega, hr, hd9]
            generalize (val r + 64) / 2 ^ m = A at hE ⊢
            generalize (u + 64) / 2 ^ m = B at hD ⊢
            rw [Bool.eq_iff_iff]
            simp only [Bool.and_eq_true, Bool.or_eq_true, Bool.not_eq_true', decide_eq_true_iff, decide_eq_false_iff_not, Bool.not_true, Bool.not_false, Bool.and_true, Bool.and_false, Bool.or_false, Bool.false_eq_true, Bool.and_eq_false_iff, Bool.or_true, false_iff, iff_false, not_and, and_false, false_or, or_false, and_true]
            omega
        · rcases dig_c (val r) m (by omega) with ⟨hd9, hE⟩ | ⟨hd9, hE⟩
          all_goals
            simp only [ss_pS, Nat.reduceEqDiff, Nat.add_left_cancel_iff, ↓reduceIte, hdg, h1, h2, hv, decide_true, Bool.true_and, Bool.false_and, Bool.and_false, Bool.or_false, Bool.false_or, and_self, Nat.reduceAdd, show ¬ c + 149 = c + 140 + m by omega, show ¬ c + 150 = c + 140 + m by omega, show ¬ c + 152 = c + 140 + m by omega, show ¬ c + 140 + m = c + 149 by omega, show ¬ c + 140 + m = c + 150 by omega, show ¬ c + 140 + m = c + 152 by omega, hr, hd9]
            generalize (val r + 64) / 2 ^ m = A at hE ⊢
            generalize (u + 64) / 2 ^ m = B at hD ⊢
            rw [Bool.eq_iff_iff]
            simp only [Bool.and_eq_true, Bool.or_eq_true, Bool.not_eq_true', decide_eq_true_iff, decide_eq_false_iff_not, Bool.not_true, Bool.not_false, Bool.and_true, Bool.and_false, Bool.or_false, Bool.false_eq_true, Bool.and_eq_false_iff, Bool.or_true, false_iff, iff_false, not_and, and_false, false_or, or_false, and_true]
            omega
        · constructor <;> simp only [ss_pS, Nat.reduceEqDiff, Nat.add_left_cancel_iff, ↓reduceIte, hdg, h1, h2, hv, decide_true, Bool.true_and, Bool.false_and, Bool.and_false, Bool.or_false, Bool.false_or, and_self, Nat.reduceAdd, show ¬ c + 149 = c + 140 + m by omega, show ¬ c + 150 = c + 140 + m by omega, show ¬ c + 152 = c + 140 + m by omega, show ¬ c + 140 + m = c + 149 by omega, show ¬ c + 140 + m = c + 150 by omega, show ¬ c + 140 + m = c + 152 by omega, Bool.not_true, Bool.not_false, Bool.and_self]
      · simp (disch := first | omega | (simp (maxDischargeDepth := 30) only [gK_pS, AWt, ck, r2, r3, r5, r6, r8, kd, nd, kl, ke, kt, hw, kd', rd']; done) | (simp (maxDischargeDepth := 30) only [gK_pS, AWt, ck, r2, r3, r5, r6, r8, kd, nd, kl, ke, kt, hw, kd', rd']; omega)) only [b_15_0, b_15_1, b_15_2, k_15_2, b_15_3, k_15_3, b_15_4, k_15_4, b_15_5, k_15_5, b_15_6, k_15_6, b_15_7, k_15_7, wq_iconst, wq_bipush, wq_fconst, wq_dconst, wq_iload, wq_lload, wq_fload, wq_dload, wq_aload, wq_istore, wq_fstore, wq_astore, wq_lstore, wq_dstore, wq_iinc, wq_iadd, wq_isub, wq_imul, wq_iand, wq_ior, wq_ixor, wq_ishl, wq_ishr, wq_iushr, wq_ladd, wq_lsub, wq_land, wq_lor, wq_lxor, wq_lshl, wq_lushr, wq_idiv, wq_irem, wq_lcmp, wq_fcmp, wq_dcmp, wq_i2l, wq_l2i, wq_i2f, wq_i2d, wq_f2d, wq_fdiv, wq_ddiv, wq_dupi, wq_dupr, wq_dup2, wq_popi, wq_popr, wq_if_eq, wq_ic_eq, wq_if_ne, wq_ic_ne, wq_if_lt, wq_ic_lt, wq_if_ge, wq_ic_ge, wq_if_gt, wq_ic_gt, wq_if_le, wq_ic_le, wq_goto, wq_nop, wq_tsw, wq_getfield, wq_pfi, wq_pfl, wq_pfr, wq_getstatic, wq_iaload, wq_baload, wq_laload, wq_daload, wq_aaload, wq_iastore, wq_bastore, wq_lastore, wq_dastore, wq_aastore, wq_arraylength, wq_new, wq_newarray, wq_anewarray, wq_multi, wq_copy, wq_mmax, wq_mmin, wq_oi, wq_cs0, wq_cs1, wq_cs2, wq_cs3, wq_cs4, wq_cs5, wq_cs6, wq_cs7, wq_cv1, wq_cv2, wq_cv3, wq_cv4, wq_cv5, wq_cv6, wq_ci1, wq_ci2, wq_ci3, wq_ci4, wq_ci5, wq_ci6, wq_athrow, wq_ireturn, wq_freturn, wq_dreturn, wq_areturn, wq_return, wsw_n, wsw_c, aft_i, gf_1, gf_2, gf_3, rv_s, okst_0, okst_s, is2_int, is2_float, is2_ref, is2_retAddr, List.getElem?_cons_zero, List.getElem?_cons_succ, List.set_cons_zero, List.set_cons_succ, List.length_cons, List.length_nil, Option.toList_some, Option.toList_none, List.cons_append, List.nil_append, List.singleton_append, gL_setI, gD_setI, gR_setI, gN_setI, gK_setI, gx_setI, gc_setI, gs_setI, gI_setL, gD_setL, gR_setL, gN_setL, gK_setL, gx_setL, gc_setL, gs_setL, gI_setD, gL_setD, gR_setD, gN_setD, gK_setD, gx_setD, gc_setD, gs_setD, gI_setR, gL_setR, gD_setR, gN_setR, gK_setR, gx_setR, gc_setR, gs_setR, gL_rowI, gD_rowI, gR_rowI, gN_rowI, gK_rowI, gx_rowI, gc_rowI, gs_rowI, gI_I, gL_L, gD_D, gR_R, gI_row, gI_bmp, gL_bmp, gD_bmp, gR_bmp, gN_bmp, gK_bmp, gx_bmp, gc_bmp, gs_bmp, gK_pS, gN_pS, gI_pS, gD_pS, gR_pS, gx_pS, gc_pS, gs_pS, iv_11, ↓iv_max, ↓iv_min, iv_lt_t, iv_lt_f, iv_le_t, iv_le_f, iv_eq_t, iv_eq_f, iv_lt0_t, iv_lt0_f, iv_gt0_t, iv_gt0_f, iv_le0_t, iv_le0_f, iv_ge0_t, iv_ge0_f, iv_eq0_t, iv_eq0_f, iv_add, iv_sub, iv_mul, iv_nat, iv_lt, iv_le, iv_eq, iv_lt0, iv_gt0, iv_le0, iv_ge0, iv_eq0, iv_cl, bv_01, bv_eq0, lcmp_eq0, ↓reduceIte, Nat.reduceLeDiff, Nat.reduceLT, Nat.reduceAdd, Nat.reduceSub, Nat.reduceEqDiff, Nat.reduceMul, Nat.succ_ne_zero, Nat.zero_lt_succ, Nat.lt_add_one, Nat.add_left_cancel_iff, and_true, true_and, and_false, false_and, and_self, Nat.zero_le, eq_self, true_or, or_true, false_or, or_false, Bool.not_false, Bool.not_true, not_true, not_false_iff, Int.reduceEq, Int.reduceLT, Int.reduceLE, Int.reduceAdd, Int.reduceSub, Int.reduceToNat, Int.reduceNeg, Bool.false_eq_true, Bool.true_eq_false, reduceCtorEq, ck, r2, r3, r5, r6, r8, kd, nd, kl, ke, kt, hw, kd', rd', m2, hd, hit, show bz false = 0 from rfl, show bz true = 1 from rfl, x_53, x_57, x_58, x_59, isRA14, iv_inb_t, iv_11]
        refine fin _ _ (OT.st (OT.st (OT.st (OT.st ho ?_ _) ?_ _) ?_ _) ?_ _) (fun r hr hv => ?_) (fun r hr hv => ?_) (fun r hv => ?_)
        · unfold tmp; omega
        · unfold tmp; omega
        · unfold tmp; omega
        · unfold tmp; omega
        · rcases dig_c (val r) m (by omega) with ⟨hd9, hE⟩ | ⟨hd9, hE⟩
          all_goals
            simp only [ss_pS, Nat.reduceEqDiff, Nat.add_left_cancel_iff, ↓reduceIte, hdg, h1, h2, hv, decide_true, Bool.true_and, Bool.false_and, Bool.and_false, Bool.or_false, Bool.false_or, and_self, Nat.reduceAdd, show ¬ c + 149 = c + 140 + m by omega, show ¬ c + 150 = c + 140 + m by omega, show ¬ c + 152 = c + 140 + m by omega, show ¬ c + 140 + m = c + 149 by omega, show ¬ c + 140 + m = c + 150 by omega, show ¬ c + 140 + m = c + 152 by omega, hr, hd9]
            generalize (val r + 64) / 2 ^ m = A at hE ⊢
            generalize (u + 64) / 2 ^ m = B at hD ⊢
            rw [Bool.eq_iff_iff]
            simp only [Bool.and_eq_true, Bool.or_eq_true, Bool.not_eq_true', decide_eq_true_iff, decide_eq_false_iff_not, Bool.not_true, Bool.not_false, Bool.and_true, Bool.and_false, Bool.or_false, Bool.false_eq_true, Bool.and_eq_false_iff, Bool.or_true, false_iff, iff_false, not_and, and_false, false_or, or_false, and_true]
            omega
        · rcases dig_c (val r) m (by omega) with ⟨hd9, hE⟩ | ⟨hd9, hE⟩
          all_goals
            simp only [ss_pS, Nat.reduceEqDiff, Nat.add_left_cancel_iff, ↓reduceIte, hdg, h1, h2, hv, decide_true, Bool.true_and, Bool.false_and, Bool.and_false, Bool.or_false, Bool.false_or, and_self, Nat.reduceAdd, show ¬ c + 149 = c + 140 + m by omega, show ¬ c + 150 = c + 140 + m by omega, show ¬ c + 152 = c + 140 + m by omega, show ¬ c + 140 + m = c + 149 by omega, show ¬ c + 140 + m = c + 150 by omega, show ¬ c + 140 + m = c + 152 by omega, hr, hd9]
            generalize (val r + 64) / 2 ^ m = A at hE ⊢
            generalize (u + 64) / 2 ^ m = B at hD ⊢
            rw [Bool.eq_iff_iff]
            simp only [Bool.and_eq_true, Bool.or_eq_true, Bool.not_eq_true', decide_eq_true_iff, decide_eq_false_iff_not, Bool.not_true, Bool.not_false, Bool.and_true, Bool.and_false, Bool.or_false, Bool.false_eq_true, Bool.and_eq_false_iff, Bool.or_true, false_iff, iff_false, not_and, and_false, false_or, or_false, and_true]
            omega
        · constructor <;> simp only [ss_pS, Nat.reduceEqDiff, Nat.add_left_cancel_iff, ↓reduceIte, hdg, h1, h2, hv, decide_true, Bool.true_and, Bool.false_and, Bool.and_false, Bool.or_false, Bool.false_or, and_self, Nat.reduceAdd, show ¬ c + 149 = c + 140 + m by omega, show ¬ c + 150 = c + 140 + m by omega, show ¬ c + 152 = c + 140 + m by omega, show ¬ c + 140 + m = c + 149 by omega, show ¬ c + 140 + m = c + 150 by omega, show ¬ c + 140 + m = c + 152 by omega, Bool.not_true, Bool.not_false, Bool.and_self]
    · by_cases h6 : i = 6
      · simp (disch := first | omega | (simp (maxDischargeDepth := 30) only [gK_pS, AWt, ck, r2, r3, r5, r6, r8, kd, nd, kl, ke, kt, hw, kd', rd']; done) | (simp (maxDischargeDepth := 30) only [gK_pS, AWt, ck, r2, r3, r5, r6, r8, kd, nd, kl, ke, kt, hw, kd', rd']; omega)) only [b_15_0, b_15_1, b_15_2, k_15_2, b_15_3, k_15_3, b_15_4, k_15_4, b_15_5, k_15_5, b_15_6, k_15_6, b_15_7, k_15_7, wq_iconst, wq_bipush, wq_fconst, wq_dconst, wq_iload, wq_lload, wq_fload, wq_dload, wq_aload, wq_istore, wq_fstore, wq_astore, wq_lstore, wq_dstore, wq_iinc, wq_iadd, wq_isub, wq_imul, wq_iand, wq_ior, wq_ixor, wq_ishl, wq_ishr, wq_iushr, wq_ladd, wq_lsub, wq_land, wq_lor, wq_lxor, wq_lshl, wq_lushr, wq_idiv, wq_irem, wq_lcmp, wq_fcmp, wq_dcmp, wq_i2l, wq_l2i, wq_i2f, wq_i2d, wq_f2d, wq_fdiv, wq_ddiv, wq_dupi, wq_dupr, wq_dup2, wq_popi, wq_popr, wq_if_eq, wq_ic_eq, wq_if_ne, wq_ic_ne, wq_if_lt, wq_ic_lt, wq_if_ge, wq_ic_ge, wq_if_gt, wq_ic_gt, wq_if_le, wq_ic_le, wq_goto, wq_nop, wq_tsw, wq_getfield, wq_pfi, wq_pfl, wq_pfr, wq_getstatic, wq_iaload, wq_baload, wq_laload, wq_daload, wq_aaload, wq_iastore, wq_bastore, wq_lastore, wq_dastore, wq_aastore, wq_arraylength, wq_new, wq_newarray, wq_anewarray, wq_multi, wq_copy, wq_mmax, wq_mmin, wq_oi, wq_cs0, wq_cs1, wq_cs2, wq_cs3, wq_cs4, wq_cs5, wq_cs6, wq_cs7, wq_cv1, wq_cv2, wq_cv3, wq_cv4, wq_cv5, wq_cv6, wq_ci1, wq_ci2, wq_ci3, wq_ci4, wq_ci5, wq_ci6, wq_athrow, wq_ireturn, wq_freturn, wq_dreturn, wq_areturn, wq_return, wsw_n, wsw_c, aft_i, gf_1, gf_2, gf_3, rv_s, okst_0, okst_s, is2_int, is2_float, is2_ref, is2_retAddr, List.getElem?_cons_zero, List.getElem?_cons_succ, List.set_cons_zero, List.set_cons_succ, List.length_cons, List.length_nil, Option.toList_some, Option.toList_none, List.cons_append, List.nil_append, List.singleton_append, gL_setI, gD_setI, gR_setI, gN_setI, gK_setI, gx_setI, gc_setI, gs_setI, gI_setL, gD_setL, gR_setL, gN_setL, gK_setL, gx_setL, gc_setL, gs_setL, gI_setD, gL_setD, gR_setD, gN_setD, gK_setD, gx_setD, gc_setD, gs_setD, gI_setR, gL_setR, gD_setR, gN_setR, gK_setR, gx_setR, gc_setR, gs_setR, gL_rowI, gD_rowI, gR_rowI, gN_rowI, gK_rowI, gx_rowI, gc_rowI, gs_rowI, gI_I, gL_L, gD_D, gR_R, gI_row, gI_bmp, gL_bmp, gD_bmp, gR_bmp, gN_bmp, gK_bmp, gx_bmp, gc_bmp, gs_bmp, gK_pS, gN_pS, gI_pS, gD_pS, gR_pS, gx_pS, gc_pS, gs_pS, iv_11, ↓iv_max, ↓iv_min, iv_lt_t, iv_lt_f, iv_le_t, iv_le_f, iv_eq_t, iv_eq_f, iv_lt0_t, iv_lt0_f, iv_gt0_t, iv_gt0_f, iv_le0_t, iv_le0_f, iv_ge0_t, iv_ge0_f, iv_eq0_t, iv_eq0_f, iv_add, iv_sub, iv_mul, iv_nat, iv_lt, iv_le, iv_eq, iv_lt0, iv_gt0, iv_le0, iv_ge0, iv_eq0, iv_cl, bv_01, bv_eq0, lcmp_eq0, ↓reduceIte, Nat.reduceLeDiff, Nat.reduceLT, Nat.reduceAdd, Nat.reduceSub, Nat.reduceEqDiff, Nat.reduceMul, Nat.succ_ne_zero, Nat.zero_lt_succ, Nat.lt_add_one, Nat.add_left_cancel_iff, and_true, true_and, and_false, false_and, and_self, Nat.zero_le, eq_self, true_or, or_true, false_or, or_false, Bool.not_false, Bool.not_true, not_true, not_false_iff, Int.reduceEq, Int.reduceLT, Int.reduceLE, Int.reduceAdd, Int.reduceSub, Int.reduceToNat, Int.reduceNeg, Bool.false_eq_true, Bool.true_eq_false, reduceCtorEq, ck, r2, r3, r5, r6, r8, kd, nd, kl, ke, kt, hw, kd', rd', m2, hd, hit, show bz false = 0 from rfl, show bz true = 1 from rfl, x_53, x_57, x_58, x_59, isRA14, iv_inb_t, iv_11]
        refine fin _ _ (OT.st (OT.st (OT.st (OT.st ho ?_ _) ?_ _) ?_ _) ?_ _) (fun r hr hv => ?_) (fun r hr hv => ?_) (fun r hv => ?_)
        · unfold tmp; omega
        · unfold tmp; omega
        · unfold tmp; omega
        · unfold tmp; omega
        · rcases dig_c (val r) m (by omega) with ⟨hd9, hE⟩ | ⟨hd9, hE⟩
          all_goals
            simp only [ss_pS, Nat.reduceEqDiff, Nat.add_left_cancel_iff, ↓reduceIte, hdg, h1, h2, hv, decide_true, Bool.true_and, Bool.false_and, Bool.and_false, Bool.or_false, Bool.false_or, and_self, Nat.reduceAdd, show ¬ c + 149 = c + 140 + m by omega, show ¬ c + 150 = c + 140 + m by omega, show ¬ c + 152 = c + 140 + m by omega, show ¬ c + 140 + m = c + 149 by omega, show ¬ c + 140 + m = c + 150 by omega, show ¬ c + 140 + m = c + 152 by omega, hr, hd9]
            generalize (val r + 64) / 2 ^ m = A at hE ⊢
            generalize (u + 64) / 2 ^ m = B at hD ⊢
            rw [Bool.eq_iff_iff]
            simp only [Bool.and_eq_true, Bool.or_eq_true, Bool.not_eq_true', decide_eq_true_iff, decide_eq_false_iff_not, Bool.not_true, Bool.not_false, Bool.and_true, Bool.and_false, Bool.or_false, Bool.false_eq_true, Bool.and_eq_false_iff, Bool.or_true, false_iff, iff_false, not_and, and_false, false_or, or_false, and_true]
            omega
        · rcases dig_c (val r) m (by omega) with ⟨hd9, hE⟩ | ⟨hd9, hE⟩
          all_goals
            simp only [ss_pS, Nat.reduceEqDiff, Nat.add_left_cancel_iff, ↓reduceIte, hdg, h1, h2, hv, decide_true, Bool.true_and, Bool.false_and, Bool.and_false, Bool.or_false, Bool.false_or, and_self, Nat.reduceAdd, show ¬ c + 149 = c + 140 + m by omega, show ¬ c + 150 = c + 140 + m by omega, show ¬ c + 152 = c + 140 + m by omega, show ¬ c + 140 + m = c + 149 by omega, show ¬ c + 140 + m = c + 150 by omega, show ¬ c + 140 + m = c + 152 by omega, hr, hd9]
            generalize (val r + 64) / 2 ^ m = A at hE ⊢
            generalize (u + 64) / 2 ^ m = B at hD ⊢
            rw [Bool.eq_iff_iff]
            simp only [Bool.and_eq_true, Bool.or_eq_true, Bool.not_eq_true', decide_eq_true_iff, decide_eq_false_iff_not, Bool.not_true, Bool.not_false, Bool.and_true, Bool.and_false, Bool.or_false, Bool.false_eq_true, Bool.and_eq_false_iff, Bool.or_true, false_iff, iff_false, not_and, and_false, false_or, or_false, and_true]
            omega
        · constructor <;> simp only [ss_pS, Nat.reduceEqDiff, Nat.add_left_cancel_iff, ↓reduceIte, hdg, h1, h2, hv, decide_true, Bool.true_and, Bool.false_and, Bool.and_false, Bool.or_false, Bool.false_or, and_self, Nat.reduceAdd, show ¬ c + 149 = c + 140 + m by omega, show ¬ c + 150 = c + 140 + m by omega, show ¬ c + 152 = c + 140 + m by omega, show ¬ c + 140 + m = c + 149 by omega, show ¬ c + 140 + m = c + 150 by omega, show ¬ c + 140 + m = c + 152 by omega, Bool.not_true, Bool.not_false, Bool.and_self]
      · simp (disch := first | omega | (simp (maxDischargeDepth := 30) only [gK_pS, AWt, ck, r2, r3, r5, r6, r8, kd, nd, kl, ke, kt, hw, kd', rd']; done) | (simp (maxDischargeDepth := 30) only [gK_pS, AWt, ck, r2, r3, r5, r6, r8, kd, nd, kl, ke, kt, hw, kd', rd']; omega)) only [b_15_0, b_15_1, b_15_2, k_15_2, b_15_3, k_15_3, b_15_4, k_15_4, b_15_5, k_15_5, b_15_6, k_15_6, b_15_7, k_15_7, wq_iconst, wq_bipush, wq_fconst, wq_dconst, wq_iload, wq_lload, wq_fload, wq_dload, wq_aload, wq_istore, wq_fstore, wq_astore, wq_lstore, wq_dstore, wq_iinc, wq_iadd, wq_isub, wq_imul, wq_iand, wq_ior, wq_ixor, wq_ishl, wq_ishr, wq_iushr, wq_ladd, wq_lsub, wq_land, wq_lor, wq_lxor, wq_lshl, wq_lushr, wq_idiv, wq_irem, wq_lcmp, wq_fcmp, wq_dcmp, wq_i2l, wq_l2i, wq_i2f, wq_i2d, wq_f2d, wq_fdiv, wq_ddiv, wq_dupi, wq_dupr, wq_dup2, wq_popi, wq_popr, wq_if_eq, wq_ic_eq, wq_if_ne, wq_ic_ne, wq_if_lt, wq_ic_lt, wq_if_ge, wq_ic_ge, wq_if_gt, wq_ic_gt, wq_if_le, wq_ic_le, wq_goto, wq_nop, wq_tsw, wq_getfield, wq_pfi, wq_pfl, wq_pfr, wq_getstatic, wq_iaload, wq_baload, wq_laload, wq_daload, wq_aaload, wq_iastore, wq_bastore, wq_lastore, wq_dastore, wq_aastore, wq_arraylength, wq_new, wq_newarray, wq_anewarray, wq_multi, wq_copy, wq_mmax, wq_mmin, wq_oi, wq_cs0, wq_cs1, wq_cs2, wq_cs3, wq_cs4, wq_cs5, wq_cs6, wq_cs7, wq_cv1, wq_cv2, wq_cv3, wq_cv4, wq_cv5, wq_cv6, wq_ci1, wq_ci2, wq_ci3, wq_ci4, wq_ci5, wq_ci6, wq_athrow, wq_ireturn, wq_freturn, wq_dreturn, wq_areturn, wq_return, wsw_n, wsw_c, aft_i, gf_1, gf_2, gf_3, rv_s, okst_0, okst_s, is2_int, is2_float, is2_ref, is2_retAddr, List.getElem?_cons_zero, List.getElem?_cons_succ, List.set_cons_zero, List.set_cons_succ, List.length_cons, List.length_nil, Option.toList_some, Option.toList_none, List.cons_append, List.nil_append, List.singleton_append, gL_setI, gD_setI, gR_setI, gN_setI, gK_setI, gx_setI, gc_setI, gs_setI, gI_setL, gD_setL, gR_setL, gN_setL, gK_setL, gx_setL, gc_setL, gs_setL, gI_setD, gL_setD, gR_setD, gN_setD, gK_setD, gx_setD, gc_setD, gs_setD, gI_setR, gL_setR, gD_setR, gN_setR, gK_setR, gx_setR, gc_setR, gs_setR, gL_rowI, gD_rowI, gR_rowI, gN_rowI, gK_rowI, gx_rowI, gc_rowI, gs_rowI, gI_I, gL_L, gD_D, gR_R, gI_row, gI_bmp, gL_bmp, gD_bmp, gR_bmp, gN_bmp, gK_bmp, gx_bmp, gc_bmp, gs_bmp, gK_pS, gN_pS, gI_pS, gD_pS, gR_pS, gx_pS, gc_pS, gs_pS, iv_11, ↓iv_max, ↓iv_min, iv_lt_t, iv_lt_f, iv_le_t, iv_le_f, iv_eq_t, iv_eq_f, iv_lt0_t, iv_lt0_f, iv_gt0_t, iv_gt0_f, iv_le0_t, iv_le0_f, iv_ge0_t, iv_ge0_f, iv_eq0_t, iv_eq0_f, iv_add, iv_sub, iv_mul, iv_nat, iv_lt, iv_le, iv_eq, iv_lt0, iv_gt0, iv_le0, iv_ge0, iv_eq0, iv_cl, bv_01, bv_eq0, lcmp_eq0, ↓reduceIte, Nat.reduceLeDiff, Nat.reduceLT, Nat.reduceAdd, Nat.reduceSub, Nat.reduceEqDiff, Nat.reduceMul, Nat.succ_ne_zero, Nat.zero_lt_succ, Nat.lt_add_one, Nat.add_left_cancel_iff, and_true, true_and, and_false, false_and, and_self, Nat.zero_le, eq_self, true_or, or_true, false_or, or_false, Bool.not_false, Bool.not_true, not_true, not_false_iff, Int.reduceEq, Int.reduceLT, Int.reduceLE, Int.reduceAdd, Int.reduceSub, Int.reduceToNat, Int.reduceNeg, Bool.false_eq_true, Bool.true_eq_false, reduceCtorEq, ck, r2, r3, r5, r6, r8, kd, nd, kl, ke, kt, hw, kd', rd', m2, hd, hit, show bz false = 0 from rfl, show bz true = 1 from rfl, x_53, x_57, x_58, x_59, isRA14, iv_inb_t, iv_11]
        refine fin _ _ (OT.st (OT.st ho ?_ _) ?_ _) (fun r hr hv => ?_) (fun r hr hv => ?_) (fun r hv => ?_)
        · unfold tmp; omega
        · unfold tmp; omega
        · rcases dig_c (val r) m (by omega) with ⟨hd9, hE⟩ | ⟨hd9, hE⟩
          all_goals
            simp only [ss_pS, Nat.reduceEqDiff, Nat.add_left_cancel_iff, ↓reduceIte, hdg, h1, h2, hv, decide_true, Bool.true_and, Bool.false_and, Bool.and_false, Bool.or_false, Bool.false_or, and_self, Nat.reduceAdd, show ¬ c + 149 = c + 140 + m by omega, show ¬ c + 150 = c + 140 + m by omega, show ¬ c + 152 = c + 140 + m by omega, show ¬ c + 140 + m = c + 149 by omega, show ¬ c + 140 + m = c + 150 by omega, show ¬ c + 140 + m = c + 152 by omega, hr, hd9]
            generalize (val r + 64) / 2 ^ m = A at hE ⊢
            generalize (u + 64) / 2 ^ m = B at hD ⊢
            rw [Bool.eq_iff_iff]
            simp only [Bool.and_eq_true, Bool.or_eq_true, Bool.not_eq_true', decide_eq_true_iff, decide_eq_false_iff_not, Bool.not_true, Bool.not_false, Bool.and_true, Bool.and_false, Bool.or_false, Bool.false_eq_true, Bool.and_eq_false_iff, Bool.or_true, false_iff, iff_false, not_and, and_false, false_or, or_false, and_true]
            omega
        · rcases dig_c (val r) m (by omega) with ⟨hd9, hE⟩ | ⟨hd9, hE⟩
          all_goals
            simp only [ss_pS, Nat.reduceEqDiff, Nat.add_left_cancel_iff, ↓reduceIte, hdg, h1, h2, hv, decide_true, Bool.true_and, Bool.false_and, Bool.and_false, Bool.or_false, Bool.false_or, and_self, Nat.reduceAdd, show ¬ c + 149 = c + 140 + m by omega, show ¬ c + 150 = c + 140 + m by omega, show ¬ c + 152 = c + 140 + m by omega, show ¬ c + 140 + m = c + 149 by omega, show ¬ c + 140 + m = c + 150 by omega, show ¬ c + 140 + m = c + 152 by omega, hr, hd9]
            generalize (val r + 64) / 2 ^ m = A at hE ⊢
            generalize (u + 64) / 2 ^ m = B at hD ⊢
            rw [Bool.eq_iff_iff]
            simp only [Bool.and_eq_true, Bool.or_eq_true, Bool.not_eq_true', decide_eq_true_iff, decide_eq_false_iff_not, Bool.not_true, Bool.not_false, Bool.and_true, Bool.and_false, Bool.or_false, Bool.false_eq_true, Bool.and_eq_false_iff, Bool.or_true, false_iff, iff_false, not_and, and_false, false_or, or_false, and_true]
            omega
        · constructor <;> simp only [ss_pS, Nat.reduceEqDiff, Nat.add_left_cancel_iff, ↓reduceIte, hdg, h1, h2, hv, decide_true, Bool.true_and, Bool.false_and, Bool.and_false, Bool.or_false, Bool.false_or, and_self, Nat.reduceAdd, show ¬ c + 149 = c + 140 + m by omega, show ¬ c + 150 = c + 140 + m by omega, show ¬ c + 152 = c + 140 + m by omega, show ¬ c + 140 + m = c + 149 by omega, show ¬ c + 140 + m = c + 150 by omega, show ¬ c + 140 + m = c + 152 by omega, Bool.not_true, Bool.not_false, Bool.and_self]
theorem x_15 {σ : St} {Q : Out → St → Prop} {c : Nat} {u : Int} {val : Nat → Int} (hu : isv u = true) (hl : CoL σ c) (hw : AW σ) (hc : CC σ c val) (hQ : ∀ σ', OT (tmp c) σ σ' → ss σ' (c + 149) = (fun r => decide (val r < u)) → ss σ' (c + 150) = (fun r => decide (val r = u)) → Q (.inl none) σ') : Ex 15 [.ref c, .int (iv u)] σ Q := by
  have hu' := isv_iff.mp hu
  have hl0 := hl
  obtain ⟨ck, r0, r1, r2, r3, r4, r5, r6, r7, r8, ka, na, ra, kb, nb, rb, kd, nd, rd, kv, kbs, kds, kn, k0, kl, ke, km, kt⟩ := hl
  simp (disch := first | omega | (simp (maxDischargeDepth := 30) only [gK_pS, AWt, ck, r2, r3, r5, r6, r8, kn, kl, ke, kt, hw]; done) | (simp (maxDischargeDepth := 30) only [gK_pS, AWt, ck, r2, r3, r5, r6, r8, kn, kl, ke, kt, hw]; omega)) only [b_15_0, b_15_1, b_15_2, k_15_2, b_15_3, k_15_3, b_15_4, k_15_4, b_15_5, k_15_5, b_15_6, k_15_6, b_15_7, k_15_7, e_15, wq_iconst, wq_bipush, wq_fconst, wq_dconst, wq_iload, wq_lload, wq_fload, wq_dload, wq_aload, wq_istore, wq_fstore, wq_astore, wq_lstore, wq_dstore, wq_iinc, wq_iadd, wq_isub, wq_imul, wq_iand, wq_ior, wq_ixor, wq_ishl, wq_ishr, wq_iushr, wq_ladd, wq_lsub, wq_land, wq_lor, wq_lxor, wq_lshl, wq_lushr, wq_idiv, wq_irem, wq_lcmp, wq_fcmp, wq_dcmp, wq_i2l, wq_l2i, wq_i2f, wq_i2d, wq_f2d, wq_fdiv, wq_ddiv, wq_dupi, wq_dupr, wq_dup2, wq_popi, wq_popr, wq_if_eq, wq_ic_eq, wq_if_ne, wq_ic_ne, wq_if_lt, wq_ic_lt, wq_if_ge, wq_ic_ge, wq_if_gt, wq_ic_gt, wq_if_le, wq_ic_le, wq_goto, wq_nop, wq_tsw, wq_getfield, wq_pfi, wq_pfl, wq_pfr, wq_getstatic, wq_iaload, wq_baload, wq_laload, wq_daload, wq_aaload, wq_iastore, wq_bastore, wq_lastore, wq_dastore, wq_aastore, wq_arraylength, wq_new, wq_newarray, wq_anewarray, wq_multi, wq_copy, wq_mmax, wq_mmin, wq_oi, wq_cs0, wq_cs1, wq_cs2, wq_cs3, wq_cs4, wq_cs5, wq_cs6, wq_cs7, wq_cv1, wq_cv2, wq_cv3, wq_cv4, wq_cv5, wq_cv6, wq_ci1, wq_ci2, wq_ci3, wq_ci4, wq_ci5, wq_ci6, wq_athrow, wq_ireturn, wq_freturn, wq_dreturn, wq_areturn, wq_return, wsw_n, wsw_c, aft_i, gf_1, gf_2, gf_3, rv_s, okst_0, okst_s, is2_int, is2_float, is2_ref, is2_retAddr, List.getElem?_cons_zero, List.getElem?_cons_succ, List.set_cons_zero, List.set_cons_succ, List.length_cons, List.length_nil, Option.toList_some, Option.toList_none, List.cons_append, List.nil_append, List.singleton_append, gL_setI, gD_setI, gR_setI, gN_setI, gK_setI, gx_setI, gc_setI, gs_setI, gI_setL, gD_setL, gR_setL, gN_setL, gK_setL, gx_setL, gc_setL, gs_setL, gI_setD, gL_setD, gR_setD, gN_setD, gK_setD, gx_setD, gc_setD, gs_setD, gI_setR, gL_setR, gD_setR, gN_setR, gK_setR, gx_setR, gc_setR, gs_setR, gL_rowI, gD_rowI, gR_rowI, gN_rowI, gK_rowI, gx_rowI, gc_rowI, gs_rowI, gI_I, gL_L, gD_D, gR_R, gI_row, gI_bmp, gL_bmp, gD_bmp, gR_bmp, gN_bmp, gK_bmp, gx_bmp, gc_bmp, gs_bmp, gK_pS, gN_pS, gI_pS, gD_pS, gR_pS, gx_pS, gc_pS, gs_pS, iv_11, ↓iv_max, ↓iv_min, iv_lt_t, iv_lt_f, iv_le_t, iv_le_f, iv_eq_t, iv_eq_f, iv_lt0_t, iv_lt0_f, iv_gt0_t, iv_gt0_f, iv_le0_t, iv_le0_f, iv_ge0_t, iv_ge0_f, iv_eq0_t, iv_eq0_f, iv_add, iv_sub, iv_mul, iv_nat, iv_lt, iv_le, iv_eq, iv_lt0, iv_gt0, iv_le0, iv_ge0, iv_eq0, iv_cl, bv_01, bv_eq0, lcmp_eq0, ↓reduceIte, Nat.reduceLeDiff, Nat.reduceLT, Nat.reduceAdd, Nat.reduceSub, Nat.reduceEqDiff, Nat.reduceMul, Nat.succ_ne_zero, Nat.zero_lt_succ, Nat.lt_add_one, Nat.add_left_cancel_iff, and_true, true_and, and_false, false_and, and_self, Nat.zero_le, eq_self, true_or, or_true, false_or, or_false, Bool.not_false, Bool.not_true, not_true, not_false_iff, Int.reduceEq, Int.reduceLT, Int.reduceLE, Int.reduceAdd, Int.reduceSub, Int.reduceToNat, Int.reduceNeg, Bool.false_eq_true, Bool.true_eq_false, reduceCtorEq, ck, r2, r3, r5, r6, r8, kn, kl, ke, kt, hw, x_51, x_53]
  have e7 : ∀ r, isv (val r) = true → (val r + 64) / 2 ^ 7 = 0 := fun r h => by
    rw [isv_iff] at h
    simp only [Int.reducePow]
    omega
  have e8 : (u + 64) / 2 ^ 7 = 0 := by
    simp only [Int.reducePow]
    omega
  refine q_15_1 hu hl0 hc hQ 7 6 _ _ (by omega) (by omega) (OT.st (OT.st (OT.rf hw) (by unfold tmp; omega) _) (by unfold tmp; omega) _) (fun r => ?_) (fun r => ?_)
  · simp only [ss_pS, Nat.reduceEqDiff, Nat.add_left_cancel_iff, ↓reduceIte, Bool.and_false]
    cases h : isv (val r)
    · rfl
    · rw [e7 r h, e8]; rfl
  · simp only [ss_pS, Nat.reduceEqDiff, Nat.add_left_cancel_iff, ↓reduceIte, hc.known]
    cases h : isv (val r)
    · simp
    · rw [e7 r h, e8]
      by_cases hr : r < 120
      · simp [hr]
      · rw [hc.2.1 r (by omega)] at h
        exact absurd h (by decide)
