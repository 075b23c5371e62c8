/-! THE MAKING: a state -/
/-- only the ints of a place are laid anew -/
def IFr (C : Nat) (σ σ' : St) : Prop := (∃ I, σ' = (I, σ.2)) ∧ ∀ p, p ≠ C → gI σ' p = gI σ p
theorem IFr.rf {C : Nat} {σ : St} : IFr C σ σ := ⟨⟨σ.1, rfl⟩, fun _ _ => rfl⟩
theorem IFr.si {C k : Nat} {x : Int32} {σ σ' : St} (h : IFr C σ σ') : IFr C σ (setI σ' C k x) := by
  obtain ⟨⟨I, e⟩, h2⟩ := h
  refine ⟨⟨(setI σ' C k x).1, by subst e; rfl⟩, fun p hp => ?_⟩
  rw [← h2 p hp]
  funext j
  rw [gI_I, if_neg (fun h => hp h.1)]
theorem NT.ifr {T : Nat → Prop} {C : Nat} {σ σ' σ'' : St} {d k m : Nat} (h : NT T σ σ' d k m) (h2 : IFr C σ' σ'') (hC : gx σ + 2 ≤ C) : NT T σ σ'' d k m := by
  obtain ⟨⟨I, e⟩, h3⟩ := h2
  obtain ⟨a1, a2, a3, a4, a5⟩ := h
  subst e
  refine ⟨a1, a2, a3, fun p hp => ?_, fun h => a5 h⟩
  obtain ⟨c1, c2, c3, c4, c5⟩ := a4 p hp
  exact ⟨c1, c2, (h3 p (by omega)).trans c3, c4, c5⟩
theorem NT.tf {T T2 : Nat → Prop} {σ σ' σ'' : St} {d k m d2 k2 m2 : Nat} (h : NT T σ σ' d k m) (h2 : NT T2 σ' σ'' d2 k2 m2) (ht : ∀ p, p < gx σ + 2 → T2 p → T p) : NT T σ σ'' (d + d2) (k + k2) (m + m2) := by
  obtain ⟨a1, a2, a3, a4, a5⟩ := h
  obtain ⟨b1, b2, b3, b4, b5⟩ := h2
  refine ⟨by omega, by omega, by omega, fun p hp => ?_, fun h => b5 (a5 h)⟩
  obtain ⟨c1, c2, c3, c4, c5⟩ := a4 p hp
  obtain ⟨d1, d2, d3, d4, d5⟩ := b4 p (by omega)
  exact ⟨d1.trans c1, d2.trans c2, d3.trans c3, d4.trans c4, fun h => (d5 (fun h9 => h (ht p hp h9))).trans (c5 h)⟩
theorem IFr.K {C : Nat} {σ σ' : St} (h : IFr C σ σ') : gK σ' = gK σ := by obtain ⟨⟨I, rfl⟩, -⟩ := h; rfl
theorem IFr.N {C : Nat} {σ σ' : St} (h : IFr C σ σ') : gN σ' = gN σ := by obtain ⟨⟨I, rfl⟩, -⟩ := h; rfl
theorem IFr.R {C : Nat} {σ σ' : St} (h : IFr C σ σ') : gR σ' = gR σ := by obtain ⟨⟨I, rfl⟩, -⟩ := h; rfl
theorem IFr.x {C : Nat} {σ σ' : St} (h : IFr C σ σ') : gx σ' = gx σ := by obtain ⟨⟨I, rfl⟩, -⟩ := h; rfl
theorem q_74_1 {σ : St} {Q : Out → St → Prop} {s : Nat} (k1 : gK σ s = 6) (r1 : gR σ s 1 = some (s + 2)) (k2 : gK σ (s + 2) = 10) (n2 : gN σ (s + 2) = 480) (hQ : ∀ σ', IFr (s + 2) σ σ' → (∀ k, k < 480 → gI σ' (s + 2) k = iv 100) → Wp 74 (blk 74 2, [.ref s, .int (iv 480)], [], σ') Q) : ∀ (k j : Nat) (i : Int) (σ' : St), i = j → j + k = 480 → IFr (s + 2) σ σ' → (∀ k, k < j → gI σ' (s + 2) k = iv 100) → Wp 74 (blk 74 1, [.ref s, .int (iv i)], [], σ') Q := by
  intro k
  induction k with
  | zero =>
    intro j i σ' hi hj hf h1
    have hK := hf.K
    have hN := hf.N
    have hR := hf.R
    have e8 : i = 480 := by omega
    subst e8
    have e2 : Int32.ofNat 480 = iv 480 := rfl
    rw [k_74_1]
    simp (disch := first | omega | (simp (maxDischargeDepth := 30) only [gK_pS, AWt, k1, r1, k2, n2, hK, hN, hR]; done) | (simp (maxDischargeDepth := 30) only [gK_pS, AWt, k1, r1, k2, n2, hK, hN, hR]; omega)) only [b_74_0, b_74_1, b_74_2, b_74_3, k_74_3, b_74_4, k_74_4, wq_iconst, wq_bipush, wq_fconst, wq_dconst, wq_iload, wq_lload, wq_fload, wq_dload, wq_aload, wq_istore, wq_fstore, wq_astore, wq_lstore, wq_dstore, wq_iinc, wq_iadd, wq_isub, wq_imul, wq_iand, wq_ior, wq_ixor, wq_ishl, wq_ishr, wq_iushr, wq_ladd, wq_lsub, wq_land, wq_lor, wq_lxor, wq_lshl, wq_lushr, wq_idiv, wq_irem, wq_lcmp, wq_fcmp, wq_dcmp, wq_i2l, wq_l2i, wq_i2f, wq_i2d, wq_f2d, wq_fdiv, wq_ddiv, wq_dupi, wq_dupr, wq_dup2, wq_popi, wq_popr, wq_if_eq, wq_ic_eq, wq_if_ne, wq_ic_ne, wq_if_lt, wq_ic_lt, wq_if_ge, wq_ic_ge, wq_if_gt, wq_ic_gt, wq_if_le, wq_ic_le, wq_goto, wq_nop, wq_tsw, wq_getfield, wq_pfi, wq_pfl, wq_pfr, wq_getstatic, wq_iaload, wq_baload, wq_laload, wq_daload, wq_aaload, wq_iastore, wq_bastore, wq_lastore, wq_dastore, wq_aastore, wq_arraylength, wq_new, wq_newarray, wq_anewarray, wq_multi, wq_copy, wq_mmax, wq_mmin, wq_oi, wq_cs0, wq_cs1, wq_cs2, wq_cs3, wq_cs4, wq_cs5, wq_cs6, wq_cs7, wq_cv1, wq_cv2, wq_cv3, wq_cv4, wq_cv5, wq_cv6, wq_ci1, wq_ci2, wq_ci3, wq_ci4, wq_ci5, wq_ci6, wq_athrow, wq_ireturn, wq_freturn, wq_dreturn, wq_areturn, wq_return, wsw_n, wsw_c, aft_i, gf_1, gf_2, gf_3, rv_s, okst_0, okst_s, is2_int, is2_float, is2_ref, is2_retAddr, List.getElem?_cons_zero, List.getElem?_cons_succ, List.set_cons_zero, List.set_cons_succ, List.length_cons, List.length_nil, Option.toList_some, Option.toList_none, List.cons_append, List.nil_append, List.singleton_append, gL_setI, gD_setI, gR_setI, gN_setI, gK_setI, gx_setI, gc_setI, gs_setI, gI_setL, gD_setL, gR_setL, gN_setL, gK_setL, gx_setL, gc_setL, gs_setL, gI_setD, gL_setD, gR_setD, gN_setD, gK_setD, gx_setD, gc_setD, gs_setD, gI_setR, gL_setR, gD_setR, gN_setR, gK_setR, gx_setR, gc_setR, gs_setR, gL_rowI, gD_rowI, gR_rowI, gN_rowI, gK_rowI, gx_rowI, gc_rowI, gs_rowI, gI_I, gL_L, gD_D, gR_R, gI_row, gI_bmp, gL_bmp, gD_bmp, gR_bmp, gN_bmp, gK_bmp, gx_bmp, gc_bmp, gs_bmp, gK_pS, gN_pS, gI_pS, gD_pS, gR_pS, gx_pS, gc_pS, gs_pS, iv_11, ↓iv_max, ↓iv_min, iv_lt_t, iv_lt_f, iv_le_t, iv_le_f, iv_eq_t, iv_eq_f, iv_lt0_t, iv_lt0_f, iv_gt0_t, iv_gt0_f, iv_le0_t, iv_le0_f, iv_ge0_t, iv_ge0_f, iv_eq0_t, iv_eq0_f, iv_add, iv_sub, iv_mul, iv_nat, iv_lt, iv_le, iv_eq, iv_lt0, iv_gt0, iv_le0, iv_ge0, iv_eq0, iv_cl, bv_01, bv_eq0, lcmp_eq0, ↓reduceIte, Nat.reduceLeDiff, Nat.reduceLT, Nat.reduceAdd, Nat.reduceSub, Nat.reduceEqDiff, Nat.reduceMul, Nat.succ_ne_zero, Nat.zero_lt_succ, Nat.lt_add_one, Nat.add_left_cancel_iff, and_true, true_and, and_false, false_and, and_self, Nat.zero_le, eq_self, true_or, or_true, false_or, or_false, Bool.not_false, Bool.not_true, not_true, not_false_iff, Int.reduceEq, Int.reduceLT, Int.reduceLE, Int.reduceAdd, Int.reduceSub, Int.reduceToNat, Int.reduceNeg, Bool.false_eq_true, Bool.true_eq_false, reduceCtorEq, k1, r1, k2, n2, hK, hN, hR, isRA14, iv_inb_t, true_or, or_true, show isRA 15 = true from rfl, show isRA 16 = true from rfl, Int.toNat_natCast, e2, Nat.le_refl]
    exact hQ σ' hf (fun k hk => h1 k (by omega))
  | succ k ih =>
    intro j i σ' hi hj hf h1
    have hK := hf.K
    have hN := hf.N
    have hR := hf.R
    have e2 : Int32.ofNat 480 = iv 480 := rfl
    have e3 : i.toNat = j := by omega
    rw [k_74_1]
    simp (disch := first | omega | (simp (maxDischargeDepth := 30) only [gK_pS, AWt, k1, r1, k2, n2, hK, hN, hR]; done) | (simp (maxDischargeDepth := 30) only [gK_pS, AWt, k1, r1, k2, n2, hK, hN, hR]; omega)) only [b_74_0, b_74_1, b_74_2, b_74_3, k_74_3, b_74_4, k_74_4, wq_iconst, wq_bipush, wq_fconst, wq_dconst, wq_iload, wq_lload, wq_fload, wq_dload, wq_aload, wq_istore, wq_fstore, wq_astore, wq_lstore, wq_dstore, wq_iinc, wq_iadd, wq_isub, wq_imul, wq_iand, wq_ior, wq_ixor, wq_ishl, wq_ishr, wq_iushr, wq_ladd, wq_lsub, wq_land, wq_lor, wq_lxor, wq_lshl, wq_lushr, wq_idiv, wq_irem, wq_lcmp, wq_fcmp, wq_dcmp, wq_i2l, wq_l2i, wq_i2f, wq_i2d, wq_f2d, wq_fdiv, wq_ddiv, wq_dupi, wq_dupr, wq_dup2, wq_popi, wq_popr, wq_if_eq, wq_ic_eq, wq_if_ne, wq_ic_ne, wq_if_lt, wq_ic_lt, wq_if_ge, wq_ic_ge, wq_if_gt, wq_ic_gt, wq_if_le, wq_ic_le, wq_goto, wq_nop, wq_tsw, wq_getfield, wq_pfi, wq_pfl, wq_pfr, wq_getstatic, wq_iaload, wq_baload, wq_laload, wq_daload, wq_aaload, wq_iastore, wq_bastore, wq_lastore, wq_dastore, wq_aastore, wq_arraylength, wq_new, wq_newarray, wq_anewarray, wq_multi, wq_copy, wq_mmax, wq_mmin, wq_oi, wq_cs0, wq_cs1, wq_cs2, wq_cs3, wq_cs4, wq_cs5, wq_cs6, wq_cs7, wq_cv1, wq_cv2, wq_cv3, wq_cv4, wq_cv5, wq_cv6, wq_ci1, wq_ci2, wq_ci3, wq_ci4, wq_ci5, wq_ci6, wq_athrow, wq_ireturn, wq_freturn, wq_dreturn, wq_areturn, wq_return, wsw_n, wsw_c, aft_i, gf_1, gf_2, gf_3, rv_s, okst_0, okst_s, is2_int, is2_float, is2_ref, is2_retAddr, List.getElem?_cons_zero, List.getElem?_cons_succ, List.set_cons_zero, List.set_cons_succ, List.length_cons, List.length_nil, Option.toList_some, Option.toList_none, List.cons_append, List.nil_append, List.singleton_append, gL_setI, gD_setI, gR_setI, gN_setI, gK_setI, gx_setI, gc_setI, gs_setI, gI_setL, gD_setL, gR_setL, gN_setL, gK_setL, gx_setL, gc_setL, gs_setL, gI_setD, gL_setD, gR_setD, gN_setD, gK_setD, gx_setD, gc_setD, gs_setD, gI_setR, gL_setR, gD_setR, gN_setR, gK_setR, gx_setR, gc_setR, gs_setR, gL_rowI, gD_rowI, gR_rowI, gN_rowI, gK_rowI, gx_rowI, gc_rowI, gs_rowI, gI_I, gL_L, gD_D, gR_R, gI_row, gI_bmp, gL_bmp, gD_bmp, gR_bmp, gN_bmp, gK_bmp, gx_bmp, gc_bmp, gs_bmp, gK_pS, gN_pS, gI_pS, gD_pS, gR_pS, gx_pS, gc_pS, gs_pS, iv_11, ↓iv_max, ↓iv_min, iv_lt_t, iv_lt_f, iv_le_t, iv_le_f, iv_eq_t, iv_eq_f, iv_lt0_t, iv_lt0_f, iv_gt0_t, iv_gt0_f, iv_le0_t, iv_le0_f, iv_ge0_t, iv_ge0_f, iv_eq0_t, iv_eq0_f, iv_add, iv_sub, iv_mul, iv_nat, iv_lt, iv_le, iv_eq, iv_lt0, iv_gt0, iv_le0, iv_ge0, iv_eq0, iv_cl, bv_01, bv_eq0, lcmp_eq0, ↓reduceIte, Nat.reduceLeDiff, Nat.reduceLT, Nat.reduceAdd, Nat.reduceSub, Nat.reduceEqDiff, Nat.reduceMul, Nat.succ_ne_zero, Nat.zero_lt_succ, Nat.lt_add_one, Nat.add_left_cancel_iff, and_true, true_and, and_false, false_and, and_self, Nat.zero_le, eq_self, true_or, or_true, false_or, or_false, Bool.not_false, Bool.not_true, not_true, not_false_iff, Int.reduceEq, Int.reduceLT, Int.reduceLE, Int.reduceAdd, Int.reduceSub, Int.reduceToNat, Int.reduceNeg, Bool.false_eq_true, Bool.true_eq_false, reduceCtorEq, k1, r1, k2, n2, hK, hN, hR, isRA14, iv_inb_t, true_or, or_true, show isRA 15 = true from rfl, show isRA 16 = true from rfl, Int.toNat_natCast, e2, e3, Nat.le_refl]
    refine ih (j + 1) (i + 1) _ (by omega) (by omega) hf.si (fun k hk => ?_)
    rw [gI_I]
    by_cases e : k = j
    · rw [if_pos ⟨rfl, e⟩]
    · rw [if_neg (fun h => e h.2)]
      exact h1 k (by omega)
theorem q_74_3 {σ : St} {Q : Out → St → Prop} {s : Nat} (hx : gx σ = s + 16) (k1 : gK σ s = 6) (r1 : gR σ s 4 = some (s + 17)) (k2 : gK σ (s + 17) = 16) (n2 : gN σ (s + 17) = 4) (hQ : ∀ σ', NT (fun p => p = s + 17) σ σ' 4 4 12 → (∀ i, i < 4 → gR σ' (s + 17) i = some (s + 18 + i) ∧ gK σ' (s + 18 + i) = 1) → Q (.inl none) σ') : ∀ (k j : Nat) (i : Int) (σ' : St), i = j → j + k = 4 → NT (fun p => p = s + 17) σ σ' j j (3 * j) → (∀ i, i < j → gR σ' (s + 17) i = some (s + 18 + i) ∧ gK σ' (s + 18 + i) = 1) → Wp 74 (blk 74 3, [.ref s, .int (iv i)], [], σ') Q := by
  intro k
  induction k with
  | zero =>
    intro j i σ' hi hj hf h1
    have e4 : j = 4 := by omega
    subst e4
    rw [k_74_3]
    simp (disch := first | omega | (simp (maxDischargeDepth := 30) only [gK_pS, AWt]; done) | (simp (maxDischargeDepth := 30) only [gK_pS, AWt]; omega)) only [b_74_0, b_74_1, k_74_1, b_74_2, k_74_2, b_74_3, b_74_4, k_74_4, wq_iconst, wq_bipush, wq_fconst, wq_dconst, wq_iload, wq_lload, wq_fload, wq_dload, wq_aload, wq_istore, wq_fstore, wq_astore, wq_lstore, wq_dstore, wq_iinc, wq_iadd, wq_isub, wq_imul, wq_iand, wq_ior, wq_ixor, wq_ishl, wq_ishr, wq_iushr, wq_ladd, wq_lsub, wq_land, wq_lor, wq_lxor, wq_lshl, wq_lushr, wq_idiv, wq_irem, wq_lcmp, wq_fcmp, wq_dcmp, wq_i2l, wq_l2i, wq_i2f, wq_i2d, wq_f2d, wq_fdiv, wq_ddiv, wq_dupi, wq_dupr, wq_dup2, wq_popi, wq_popr, wq_if_eq, wq_ic_eq, wq_if_ne, wq_ic_ne, wq_if_lt, wq_ic_lt, wq_if_ge, wq_ic_ge, wq_if_gt, wq_ic_gt, wq_if_le, wq_ic_le, wq_goto, wq_nop, wq_tsw, wq_getfield, wq_pfi, wq_pfl, wq_pfr, wq_getstatic, wq_iaload, wq_baload, wq_laload, wq_daload, wq_aaload, wq_iastore, wq_bastore, wq_lastore, wq_dastore, wq_aastore, wq_arraylength, wq_new, wq_newarray, wq_anewarray, wq_multi, wq_copy, wq_mmax, wq_mmin, wq_oi, wq_cs0, wq_cs1, wq_cs2, wq_cs3, wq_cs4, wq_cs5, wq_cs6, wq_cs7, wq_cv1, wq_cv2, wq_cv3, wq_cv4, wq_cv5, wq_cv6, wq_ci1, wq_ci2, wq_ci3, wq_ci4, wq_ci5, wq_ci6, wq_athrow, wq_ireturn, wq_freturn, wq_dreturn, wq_areturn, wq_return, wsw_n, wsw_c, aft_i, gf_1, gf_2, gf_3, rv_s, okst_0, okst_s, is2_int, is2_float, is2_ref, is2_retAddr, List.getElem?_cons_zero, List.getElem?_cons_succ, List.set_cons_zero, List.set_cons_succ, List.length_cons, List.length_nil, Option.toList_some, Option.toList_none, List.cons_append, List.nil_append, List.singleton_append, gL_setI, gD_setI, gR_setI, gN_setI, gK_setI, gx_setI, gc_setI, gs_setI, gI_setL, gD_setL, gR_setL, gN_setL, gK_setL, gx_setL, gc_setL, gs_setL, gI_setD, gL_setD, gR_setD, gN_setD, gK_setD, gx_setD, gc_setD, gs_setD, gI_setR, gL_setR, gD_setR, gN_setR, gK_setR, gx_setR, gc_setR, gs_setR, gL_rowI, gD_rowI, gR_rowI, gN_rowI, gK_rowI, gx_rowI, gc_rowI, gs_rowI, gI_I, gL_L, gD_D, gR_R, gI_row, gI_bmp, gL_bmp, gD_bmp, gR_bmp, gN_bmp, gK_bmp, gx_bmp, gc_bmp, gs_bmp, gK_pS, gN_pS, gI_pS, gD_pS, gR_pS, gx_pS, gc_pS, gs_pS, iv_11, ↓iv_max, ↓iv_min, iv_lt_t, iv_lt_f, iv_le_t, iv_le_f, iv_eq_t, iv_eq_f, iv_lt0_t, iv_lt0_f, iv_gt0_t, iv_gt0_f, iv_le0_t, iv_le0_f, iv_ge0_t, iv_ge0_f, iv_eq0_t, iv_eq0_f, iv_add, iv_sub, iv_mul, iv_nat, iv_lt, iv_le, iv_eq, iv_lt0, iv_gt0, iv_le0, iv_ge0, iv_eq0, iv_cl, bv_01, bv_eq0, lcmp_eq0, ↓reduceIte, Nat.reduceLeDiff, Nat.reduceLT, Nat.reduceAdd, Nat.reduceSub, Nat.reduceEqDiff, Nat.reduceMul, Nat.succ_ne_zero, Nat.zero_lt_succ, Nat.lt_add_one, Nat.add_left_cancel_iff, and_true, true_and, and_false, false_and, and_self, Nat.zero_le, eq_self, true_or, or_true, false_or, or_false, Bool.not_false, Bool.not_true, not_true, not_false_iff, Int.reduceEq, Int.reduceLT, Int.reduceLE, Int.reduceAdd, Int.reduceSub, Int.reduceToNat, Int.reduceNeg, Bool.false_eq_true, Bool.true_eq_false, reduceCtorEq, isRA14, iv_inb_t, true_or, or_true, show isRA 15 = true from rfl, show isRA 16 = true from rfl, Int.toNat_natCast]
    exact hQ σ' hf h1
  | succ k ih =>
    intro j i σ' hi hj hf h1
    have hx' := hf.1
    have e3 : i.toNat = j := by omega
    have a1 : gK σ' s = 6 := by rw [(hf.2.2.2.1 s (by omega)).1]; exact k1
    have a2 : gR σ' s 4 = some (s + 17) := by rw [(hf.2.2.2.1 s (by omega)).2.2.2.2 (by omega)]; exact r1
    have a3 : gK (al σ' 1 3) (s + 17) = 16 := by rw [al_Kn (by omega), (hf.2.2.2.1 (s + 17) (by omega)).1]; exact k2
    have a4 : gN (al σ' 1 3) (s + 17) = 4 := by rw [al_Nn (by omega), (hf.2.2.2.1 (s + 17) (by omega)).2.1]; exact n2
    have a5 : gK (al σ' 1 3) (gx σ' + 2) = 1 := al_Ke rfl
    have n5 : nf 1 = 3 := rfl
    have e5 : ek 16 = 1 := rfl
    rw [k_74_3]
    simp (disch := first | omega | (simp (maxDischargeDepth := 30) only [gK_pS, AWt, a1, a2, a3, a4, a5]; done) | (simp (maxDischargeDepth := 30) only [gK_pS, AWt, a1, a2, a3, a4, a5]; omega)) only [b_74_0, b_74_1, k_74_1, b_74_2, k_74_2, b_74_3, b_74_4, k_74_4, wq_iconst, wq_bipush, wq_fconst, wq_dconst, wq_iload, wq_lload, wq_fload, wq_dload, wq_aload, wq_istore, wq_fstore, wq_astore, wq_lstore, wq_dstore, wq_iinc, wq_iadd, wq_isub, wq_imul, wq_iand, wq_ior, wq_ixor, wq_ishl, wq_ishr, wq_iushr, wq_ladd, wq_lsub, wq_land, wq_lor, wq_lxor, wq_lshl, wq_lushr, wq_idiv, wq_irem, wq_lcmp, wq_fcmp, wq_dcmp, wq_i2l, wq_l2i, wq_i2f, wq_i2d, wq_f2d, wq_fdiv, wq_ddiv, wq_dupi, wq_dupr, wq_dup2, wq_popi, wq_popr, wq_if_eq, wq_ic_eq, wq_if_ne, wq_ic_ne, wq_if_lt, wq_ic_lt, wq_if_ge, wq_ic_ge, wq_if_gt, wq_ic_gt, wq_if_le, wq_ic_le, wq_goto, wq_nop, wq_tsw, wq_getfield, wq_pfi, wq_pfl, wq_pfr, wq_getstatic, wq_iaload, wq_baload, wq_laload, wq_daload, wq_aaload, wq_iastore, wq_bastore, wq_lastore, wq_dastore, wq_aastore, wq_arraylength, wq_new, wq_newarray, wq_anewarray, wq_multi, wq_copy, wq_mmax, wq_mmin, wq_oi, wq_cs0, wq_cs1, wq_cs2, wq_cs3, wq_cs4, wq_cs5, wq_cs6, wq_cs7, wq_cv1, wq_cv2, wq_cv3, wq_cv4, wq_cv5, wq_cv6, wq_ci1, wq_ci2, wq_ci3, wq_ci4, wq_ci5, wq_ci6, wq_athrow, wq_ireturn, wq_freturn, wq_dreturn, wq_areturn, wq_return, wsw_n, wsw_c, aft_i, gf_1, gf_2, gf_3, rv_s, okst_0, okst_s, is2_int, is2_float, is2_ref, is2_retAddr, List.getElem?_cons_zero, List.getElem?_cons_succ, List.set_cons_zero, List.set_cons_succ, List.length_cons, List.length_nil, Option.toList_some, Option.toList_none, List.cons_append, List.nil_append, List.singleton_append, gL_setI, gD_setI, gR_setI, gN_setI, gK_setI, gx_setI, gc_setI, gs_setI, gI_setL, gD_setL, gR_setL, gN_setL, gK_setL, gx_setL, gc_setL, gs_setL, gI_setD, gL_setD, gR_setD, gN_setD, gK_setD, gx_setD, gc_setD, gs_setD, gI_setR, gL_setR, gD_setR, gN_setR, gK_setR, gx_setR, gc_setR, gs_setR, gL_rowI, gD_rowI, gR_rowI, gN_rowI, gK_rowI, gx_rowI, gc_rowI, gs_rowI, gI_I, gL_L, gD_D, gR_R, gI_row, gI_bmp, gL_bmp, gD_bmp, gR_bmp, gN_bmp, gK_bmp, gx_bmp, gc_bmp, gs_bmp, gK_pS, gN_pS, gI_pS, gD_pS, gR_pS, gx_pS, gc_pS, gs_pS, iv_11, ↓iv_max, ↓iv_min, iv_lt_t, iv_lt_f, iv_le_t, iv_le_f, iv_eq_t, iv_eq_f, iv_lt0_t, iv_lt0_f, iv_gt0_t, iv_gt0_f, iv_le0_t, iv_le0_f, iv_ge0_t, iv_ge0_f, iv_eq0_t, iv_eq0_f, iv_add, iv_sub, iv_mul, iv_nat, iv_lt, iv_le, iv_eq, iv_lt0, iv_gt0, iv_le0, iv_ge0, iv_eq0, iv_cl, bv_01, bv_eq0, lcmp_eq0, ↓reduceIte, Nat.reduceLeDiff, Nat.reduceLT, Nat.reduceAdd, Nat.reduceSub, Nat.reduceEqDiff, Nat.reduceMul, Nat.succ_ne_zero, Nat.zero_lt_succ, Nat.lt_add_one, Nat.add_left_cancel_iff, and_true, true_and, and_false, false_and, and_self, Nat.zero_le, eq_self, true_or, or_true, false_or, or_false, Bool.not_false, Bool.not_true, not_true, not_false_iff, Int.reduceEq, Int.reduceLT, Int.reduceLE, Int.reduceAdd, Int.reduceSub, Int.reduceToNat, Int.reduceNeg, Bool.false_eq_true, Bool.true_eq_false, reduceCtorEq, a1, a2, a3, a4, a5, isRA14, iv_inb_t, true_or, or_true, show isRA 15 = true from rfl, show isRA 16 = true from rfl, Int.toNat_natCast, n5, e3, e5, x_30]
    refine ih (j + 1) (i + 1) _ (by omega) (by omega) ?_ (fun l hl => ?_)
    · have g1 := hf.tr ((NT.al (T := fun p => p = s + 17) (σ := σ') (k := 1) (n := 3)).tr (NT.setR (T := fun p => p = s + 17) (p := s + 17) (j := j) (x := some (gx σ' + 2)) rfl))
      exact ⟨by have := g1.1; omega, by have := g1.2.1; omega, by have := g1.2.2.1; omega, g1.2.2.2.1, g1.2.2.2.2⟩
    · by_cases e : l = j
      · subst e
        refine ⟨?_, ?_⟩
        · rw [gR_Re ⟨rfl, rfl⟩, show gx σ' + 2 = s + 18 + l by omega]
        · rw [gK_setR, al_Ke (by omega)]
      · obtain ⟨b1, b2⟩ := h1 l (by omega)
        refine ⟨?_, ?_⟩
        · rw [gR_Rn (Or.inr e), al_Rn (by omega)]; exact b1
        · rw [gK_setR, al_Kn (by omega)]; exact b2
theorem x_74 {σ : St} {Q : Out → St → Prop} {s : Nat} (hs : s = gx σ + 1) (hk : gK σ s = 6) (hQ : ∀ σ', NT (fun p => p = s) σ σ' 21 21 534 → StL σ' s → (∀ k, k < 480 → gI σ' (s + 2) k = iv 100) → Q (.inl none) σ') : Ex 74 [.ref s] σ Q := by
  have n5 : nf 5 = 2 := rfl
  have a1 : gK (al σ 5 2) s = 6 := by rw [al_Kn (by omega)]; exact hk
  have a2 : ∀ x, gK (al (setR (al σ 5 2) s 0 x) 10 480) s = 6 := fun x => by rw [al_Kn (by rw [gx_setR, al_x]; omega)]; exact a1
  have a3 : ∀ x, gK (al (setR (al σ 5 2) s 0 x) 10 480) (gx σ + 1 + 2) = 10 := fun x => al_Ke (by rw [gx_setR, al_x])
  have a0 : gK (al σ 5 2) (gx σ + 2) = 5 := al_Ke rfl
  simp (disch := first | omega | (simp (maxDischargeDepth := 30) only [gK_pS, AWt, a0, a1, a2, a3, gK_setR, al_x, gx_setR]; done) | (simp (maxDischargeDepth := 30) only [gK_pS, AWt, a0, a1, a2, a3, gK_setR, al_x, gx_setR]; omega)) only [b_74_0, b_74_1, b_74_2, k_74_2, b_74_3, b_74_4, k_74_4, e_74, wq_iconst, wq_bipush, wq_fconst, wq_dconst, wq_iload, wq_lload, wq_fload, wq_dload, wq_aload, wq_istore, wq_fstore, wq_astore, wq_lstore, wq_dstore, wq_iinc, wq_iadd, wq_isub, wq_imul, wq_iand, wq_ior, wq_ixor, wq_ishl, wq_ishr, wq_iushr, wq_ladd, wq_lsub, wq_land, wq_lor, wq_lxor, wq_lshl, wq_lushr, wq_idiv, wq_irem, wq_lcmp, wq_fcmp, wq_dcmp, wq_i2l, wq_l2i, wq_i2f, wq_i2d, wq_f2d, wq_fdiv, wq_ddiv, wq_dupi, wq_dupr, wq_dup2, wq_popi, wq_popr, wq_if_eq, wq_ic_eq, wq_if_ne, wq_ic_ne, wq_if_lt, wq_ic_lt, wq_if_ge, wq_ic_ge, wq_if_gt, wq_ic_gt, wq_if_le, wq_ic_le, wq_goto, wq_nop, wq_tsw, wq_getfield, wq_pfi, wq_pfl, wq_pfr, wq_getstatic, wq_iaload, wq_baload, wq_laload, wq_daload, wq_aaload, wq_iastore, wq_bastore, wq_lastore, wq_dastore, wq_aastore, wq_arraylength, wq_new, wq_newarray, wq_anewarray, wq_multi, wq_copy, wq_mmax, wq_mmin, wq_oi, wq_cs0, wq_cs1, wq_cs2, wq_cs3, wq_cs4, wq_cs5, wq_cs6, wq_cs7, wq_cv1, wq_cv2, wq_cv3, wq_cv4, wq_cv5, wq_cv6, wq_ci1, wq_ci2, wq_ci3, wq_ci4, wq_ci5, wq_ci6, wq_athrow, wq_ireturn, wq_freturn, wq_dreturn, wq_areturn, wq_return, wsw_n, wsw_c, aft_i, gf_1, gf_2, gf_3, rv_s, okst_0, okst_s, is2_int, is2_float, is2_ref, is2_retAddr, List.getElem?_cons_zero, List.getElem?_cons_succ, List.set_cons_zero, List.set_cons_succ, List.length_cons, List.length_nil, Option.toList_some, Option.toList_none, List.cons_append, List.nil_append, List.singleton_append, gL_setI, gD_setI, gR_setI, gN_setI, gK_setI, gx_setI, gc_setI, gs_setI, gI_setL, gD_setL, gR_setL, gN_setL, gK_setL, gx_setL, gc_setL, gs_setL, gI_setD, gL_setD, gR_setD, gN_setD, gK_setD, gx_setD, gc_setD, gs_setD, gI_setR, gL_setR, gD_setR, gN_setR, gK_setR, gx_setR, gc_setR, gs_setR, gL_rowI, gD_rowI, gR_rowI, gN_rowI, gK_rowI, gx_rowI, gc_rowI, gs_rowI, gI_I, gL_L, gD_D, gR_R, gI_row, gI_bmp, gL_bmp, gD_bmp, gR_bmp, gN_bmp, gK_bmp, gx_bmp, gc_bmp, gs_bmp, gK_pS, gN_pS, gI_pS, gD_pS, gR_pS, gx_pS, gc_pS, gs_pS, iv_11, ↓iv_max, ↓iv_min, iv_lt_t, iv_lt_f, iv_le_t, iv_le_f, iv_eq_t, iv_eq_f, iv_lt0_t, iv_lt0_f, iv_gt0_t, iv_gt0_f, iv_le0_t, iv_le0_f, iv_ge0_t, iv_ge0_f, iv_eq0_t, iv_eq0_f, iv_add, iv_sub, iv_mul, iv_nat, iv_lt, iv_le, iv_eq, iv_lt0, iv_gt0, iv_le0, iv_ge0, iv_eq0, iv_cl, bv_01, bv_eq0, lcmp_eq0, ↓reduceIte, Nat.reduceLeDiff, Nat.reduceLT, Nat.reduceAdd, Nat.reduceSub, Nat.reduceEqDiff, Nat.reduceMul, Nat.succ_ne_zero, Nat.zero_lt_succ, Nat.lt_add_one, Nat.add_left_cancel_iff, and_true, true_and, and_false, false_and, and_self, Nat.zero_le, eq_self, true_or, or_true, false_or, or_false, Bool.not_false, Bool.not_true, not_true, not_false_iff, Int.reduceEq, Int.reduceLT, Int.reduceLE, Int.reduceAdd, Int.reduceSub, Int.reduceToNat, Int.reduceNeg, Bool.false_eq_true, Bool.true_eq_false, reduceCtorEq, a0, a1, a2, a3, gK_setR, al_x, gx_setR, isRA14, iv_inb_t, true_or, or_true, show isRA 15 = true from rfl, show isRA 16 = true from rfl, Int.toNat_natCast, n5, x_49]
  have hx0 : gx σ = s - 1 := by omega
  have e0 : gx σ + 2 = s + 1 := by omega
  have e1 : gx σ + 1 + 2 = s + 2 := by omega
  rw [e0, e1]
  obtain ⟨σA, hA⟩ : ∃ x, x = setR (al (setR (al σ 5 2) s 0 (some (s + 1))) 10 480) s 1 (some (s + 2)) := ⟨_, rfl⟩
  rw [← hA]
  have xA : gx σA = s + 1 := by rw [hA, gx_setR, al_x, gx_setR, al_x]; omega
  have NA : NT (fun p => p = s) σ σA 2 2 482 := by
    rw [hA]
    exact (((NT.al (T := fun p => p = s) (σ := σ) (k := 5) (n := 2)).tr (NT.setR (T := fun p => p = s) rfl)).tr (NT.al (k := 10) (n := 480))).tr (NT.setR (T := fun p => p = s) rfl)
  have kA : gK σA s = 6 := by rw [(NA.2.2.2.1 s (by omega)).1]; exact hk
  have A0 : gR σA s 0 = some (s + 1) := by rw [hA]; simp (disch := first | omega | (simp only [gx_setR, gx_setI, al_x]; omega) | (simp only [gx_setR, gx_setI, al_x, hx0]; done) | (simp only [gx_setR, gx_setI, al_x, hx0]; omega)) only [al_Ke, al_Kn, al_Ne, al_Nn, al_Ie, al_In, al_Re, al_Rn, al_x, gx_setR, gx_setI, gK_setR, gN_setR, gI_setR, gR_Re, gR_Rn, gR_setI, gK_setI, gN_setI, hx0]
  have A1 : gR σA s 1 = some (s + 2) := by rw [hA]; simp (disch := first | omega | (simp only [gx_setR, gx_setI, al_x]; omega) | (simp only [gx_setR, gx_setI, al_x, hx0]; done) | (simp only [gx_setR, gx_setI, al_x, hx0]; omega)) only [al_Ke, al_Kn, al_Ne, al_Nn, al_Ie, al_In, al_Re, al_Rn, al_x, gx_setR, gx_setI, gK_setR, gN_setR, gI_setR, gR_Re, gR_Rn, gR_setI, gK_setI, gN_setI, hx0]
  have A2 : gK σA (s + 1) = 5 := by rw [hA]; simp (disch := first | omega | (simp only [gx_setR, gx_setI, al_x]; omega) | (simp only [gx_setR, gx_setI, al_x, hx0]; done) | (simp only [gx_setR, gx_setI, al_x, hx0]; omega)) only [al_Ke, al_Kn, al_Ne, al_Nn, al_Ie, al_In, al_Re, al_Rn, al_x, gx_setR, gx_setI, gK_setR, gN_setR, gI_setR, gR_Re, gR_Rn, gR_setI, gK_setI, gN_setI, hx0]
  have A3 : gK σA (s + 2) = 10 := by rw [hA]; simp (disch := first | omega | (simp only [gx_setR, gx_setI, al_x]; omega) | (simp only [gx_setR, gx_setI, al_x, hx0]; done) | (simp only [gx_setR, gx_setI, al_x, hx0]; omega)) only [al_Ke, al_Kn, al_Ne, al_Nn, al_Ie, al_In, al_Re, al_Rn, al_x, gx_setR, gx_setI, gK_setR, gN_setR, gI_setR, gR_Re, gR_Rn, gR_setI, gK_setI, gN_setI, hx0]
  have A4 : gN σA (s + 2) = 480 := by rw [hA]; simp (disch := first | omega | (simp only [gx_setR, gx_setI, al_x]; omega) | (simp only [gx_setR, gx_setI, al_x, hx0]; done) | (simp only [gx_setR, gx_setI, al_x, hx0]; omega)) only [al_Ke, al_Kn, al_Ne, al_Nn, al_Ie, al_In, al_Re, al_Rn, al_x, gx_setR, gx_setI, gK_setR, gN_setR, gI_setR, gR_Re, gR_Rn, gR_setI, gK_setI, gN_setI, hx0]
  clear hA a0 a1 a2 a3 e0 e1
  refine x_50 (n := 8) (by omega) (fun σ1 g1 s1 => ?_)
  have x1 := g1.1
  rw [show gx σA + 2 = s + 3 by omega] at s1 ⊢
  have k1 : gK σ1 s = 6 := by rw [(g1.2.2.2.1 s (by omega)).1]; exact kA
  have B0 : gR σ1 s 0 = some (s + 1) := by rw [(g1.2.2.2.1 s (by omega)).2.2.2.2 id]; exact A0
  have B1 : gR σ1 s 1 = some (s + 2) := by rw [(g1.2.2.2.1 s (by omega)).2.2.2.2 id]; exact A1
  have B2 : gK σ1 (s + 1) = 5 := by rw [(g1.2.2.2.1 (s + 1) (by omega)).1]; exact A2
  have B3 : gK σ1 (s + 2) = 10 := by rw [(g1.2.2.2.1 (s + 2) (by omega)).1]; exact A3
  have B4 : gN σ1 (s + 2) = 480 := by rw [(g1.2.2.2.1 (s + 2) (by omega)).2.1]; exact A4
  simp (disch := first | omega | (simp (maxDischargeDepth := 30) only [gK_pS, AWt, k1]; done) | (simp (maxDischargeDepth := 30) only [gK_pS, AWt, k1]; omega)) only [b_74_0, b_74_1, b_74_2, k_74_2, b_74_3, b_74_4, k_74_4, e_74, wq_iconst, wq_bipush, wq_fconst, wq_dconst, wq_iload, wq_lload, wq_fload, wq_dload, wq_aload, wq_istore, wq_fstore, wq_astore, wq_lstore, wq_dstore, wq_iinc, wq_iadd, wq_isub, wq_imul, wq_iand, wq_ior, wq_ixor, wq_ishl, wq_ishr, wq_iushr, wq_ladd, wq_lsub, wq_land, wq_lor, wq_lxor, wq_lshl, wq_lushr, wq_idiv, wq_irem, wq_lcmp, wq_fcmp, wq_dcmp, wq_i2l, wq_l2i, wq_i2f, wq_i2d, wq_f2d, wq_fdiv, wq_ddiv, wq_dupi, wq_dupr, wq_dup2, wq_popi, wq_popr, wq_if_eq, wq_ic_eq, wq_if_ne, wq_ic_ne, wq_if_lt, wq_ic_lt, wq_if_ge, wq_ic_ge, wq_if_gt, wq_ic_gt, wq_if_le, wq_ic_le, wq_goto, wq_nop, wq_tsw, wq_getfield, wq_pfi, wq_pfl, wq_pfr, wq_getstatic, wq_iaload, wq_baload, wq_laload, wq_daload, wq_aaload, wq_iastore, wq_bastore, wq_lastore, wq_dastore, wq_aastore, wq_arraylength, wq_new, wq_newarray, wq_anewarray, wq_multi, wq_copy, wq_mmax, wq_mmin, wq_oi, wq_cs0, wq_cs1, wq_cs2, wq_cs3, wq_cs4, wq_cs5, wq_cs6, wq_cs7, wq_cv1, wq_cv2, wq_cv3, wq_cv4, wq_cv5, wq_cv6, wq_ci1, wq_ci2, wq_ci3, wq_ci4, wq_ci5, wq_ci6, wq_athrow, wq_ireturn, wq_freturn, wq_dreturn, wq_areturn, wq_return, wsw_n, wsw_c, aft_i, gf_1, gf_2, gf_3, rv_s, okst_0, okst_s, is2_int, is2_float, is2_ref, is2_retAddr, List.getElem?_cons_zero, List.getElem?_cons_succ, List.set_cons_zero, List.set_cons_succ, List.length_cons, List.length_nil, Option.toList_some, Option.toList_none, List.cons_append, List.nil_append, List.singleton_append, gL_setI, gD_setI, gR_setI, gN_setI, gK_setI, gx_setI, gc_setI, gs_setI, gI_setL, gD_setL, gR_setL, gN_setL, gK_setL, gx_setL, gc_setL, gs_setL, gI_setD, gL_setD, gR_setD, gN_setD, gK_setD, gx_setD, gc_setD, gs_setD, gI_setR, gL_setR, gD_setR, gN_setR, gK_setR, gx_setR, gc_setR, gs_setR, gL_rowI, gD_rowI, gR_rowI, gN_rowI, gK_rowI, gx_rowI, gc_rowI, gs_rowI, gI_I, gL_L, gD_D, gR_R, gI_row, gI_bmp, gL_bmp, gD_bmp, gR_bmp, gN_bmp, gK_bmp, gx_bmp, gc_bmp, gs_bmp, gK_pS, gN_pS, gI_pS, gD_pS, gR_pS, gx_pS, gc_pS, gs_pS, iv_11, ↓iv_max, ↓iv_min, iv_lt_t, iv_lt_f, iv_le_t, iv_le_f, iv_eq_t, iv_eq_f, iv_lt0_t, iv_lt0_f, iv_gt0_t, iv_gt0_f, iv_le0_t, iv_le0_f, iv_ge0_t, iv_ge0_f, iv_eq0_t, iv_eq0_f, iv_add, iv_sub, iv_mul, iv_nat, iv_lt, iv_le, iv_eq, iv_lt0, iv_gt0, iv_le0, iv_ge0, iv_eq0, iv_cl, bv_01, bv_eq0, lcmp_eq0, ↓reduceIte, Nat.reduceLeDiff, Nat.reduceLT, Nat.reduceAdd, Nat.reduceSub, Nat.reduceEqDiff, Nat.reduceMul, Nat.succ_ne_zero, Nat.zero_lt_succ, Nat.lt_add_one, Nat.add_left_cancel_iff, and_true, true_and, and_false, false_and, and_self, Nat.zero_le, eq_self, true_or, or_true, false_or, or_false, Bool.not_false, Bool.not_true, not_true, not_false_iff, Int.reduceEq, Int.reduceLT, Int.reduceLE, Int.reduceAdd, Int.reduceSub, Int.reduceToNat, Int.reduceNeg, Bool.false_eq_true, Bool.true_eq_false, reduceCtorEq, k1, isRA14, iv_inb_t, true_or, or_true, show isRA 15 = true from rfl, show isRA 16 = true from rfl, Int.toNat_natCast]
  refine x_50 (n := 4) (by omega) (fun σ2 g2 s2 => ?_)
  have x2 := g2.1
  rw [gx_setR] at x2 s2 ⊢
  have g2' := (NT.setR (T := fun p => p = s) (σ := σ1) (p := s) (j := 2) (x := some (s + 3)) rfl).tr (g2.wk (T' := fun p => p = s) (fun p _ h => h.elim))
  rw [show gx σ1 + 2 = s + 12 by omega] at s2 ⊢
  have sv1 : SV σ2 (s + 3) 8 := s1.nt g2' (by omega) (by omega)
  have k2 : gK σ2 s = 6 := by rw [(g2'.2.2.2.1 s (by omega)).1]; exact k1
  have C0 : gR σ2 s 0 = some (s + 1) := by rw [(g2.2.2.2.1 s (by rw [gx_setR]; omega)).2.2.2.2 id, gR_Rn (Or.inr (by omega))]; exact B0
  have C1 : gR σ2 s 1 = some (s + 2) := by rw [(g2.2.2.2.1 s (by rw [gx_setR]; omega)).2.2.2.2 id, gR_Rn (Or.inr (by omega))]; exact B1
  have C5 : gR σ2 s 2 = some (s + 3) := by rw [(g2.2.2.2.1 s (by rw [gx_setR]; omega)).2.2.2.2 id, gR_Re ⟨rfl, rfl⟩]
  have C2 : gK σ2 (s + 1) = 5 := by rw [(g2'.2.2.2.1 (s + 1) (by omega)).1]; exact B2
  have C3 : gK σ2 (s + 2) = 10 := by rw [(g2'.2.2.2.1 (s + 2) (by omega)).1]; exact B3
  have C4 : gN σ2 (s + 2) = 480 := by rw [(g2'.2.2.2.1 (s + 2) (by omega)).2.1]; exact B4
  have c3' : ∀ x, gK (al (setR σ2 s 3 x) 16 4) s = 6 := fun x => by rw [al_Kn (by rw [gx_setR]; omega)]; exact k2
  simp (disch := first | omega | (simp (maxDischargeDepth := 30) only [gK_pS, AWt, k2, c3', gK_setR, al_x, gx_setR]; done) | (simp (maxDischargeDepth := 30) only [gK_pS, AWt, k2, c3', gK_setR, al_x, gx_setR]; omega)) only [b_74_0, b_74_1, b_74_2, k_74_2, b_74_3, b_74_4, k_74_4, e_74, wq_iconst, wq_bipush, wq_fconst, wq_dconst, wq_iload, wq_lload, wq_fload, wq_dload, wq_aload, wq_istore, wq_fstore, wq_astore, wq_lstore, wq_dstore, wq_iinc, wq_iadd, wq_isub, wq_imul, wq_iand, wq_ior, wq_ixor, wq_ishl, wq_ishr, wq_iushr, wq_ladd, wq_lsub, wq_land, wq_lor, wq_lxor, wq_lshl, wq_lushr, wq_idiv, wq_irem, wq_lcmp, wq_fcmp, wq_dcmp, wq_i2l, wq_l2i, wq_i2f, wq_i2d, wq_f2d, wq_fdiv, wq_ddiv, wq_dupi, wq_dupr, wq_dup2, wq_popi, wq_popr, wq_if_eq, wq_ic_eq, wq_if_ne, wq_ic_ne, wq_if_lt, wq_ic_lt, wq_if_ge, wq_ic_ge, wq_if_gt, wq_ic_gt, wq_if_le, wq_ic_le, wq_goto, wq_nop, wq_tsw, wq_getfield, wq_pfi, wq_pfl, wq_pfr, wq_getstatic, wq_iaload, wq_baload, wq_laload, wq_daload, wq_aaload, wq_iastore, wq_bastore, wq_lastore, wq_dastore, wq_aastore, wq_arraylength, wq_new, wq_newarray, wq_anewarray, wq_multi, wq_copy, wq_mmax, wq_mmin, wq_oi, wq_cs0, wq_cs1, wq_cs2, wq_cs3, wq_cs4, wq_cs5, wq_cs6, wq_cs7, wq_cv1, wq_cv2, wq_cv3, wq_cv4, wq_cv5, wq_cv6, wq_ci1, wq_ci2, wq_ci3, wq_ci4, wq_ci5, wq_ci6, wq_athrow, wq_ireturn, wq_freturn, wq_dreturn, wq_areturn, wq_return, wsw_n, wsw_c, aft_i, gf_1, gf_2, gf_3, rv_s, okst_0, okst_s, is2_int, is2_float, is2_ref, is2_retAddr, List.getElem?_cons_zero, List.getElem?_cons_succ, List.set_cons_zero, List.set_cons_succ, List.length_cons, List.length_nil, Option.toList_some, Option.toList_none, List.cons_append, List.nil_append, List.singleton_append, gL_setI, gD_setI, gR_setI, gN_setI, gK_setI, gx_setI, gc_setI, gs_setI, gI_setL, gD_setL, gR_setL, gN_setL, gK_setL, gx_setL, gc_setL, gs_setL, gI_setD, gL_setD, gR_setD, gN_setD, gK_setD, gx_setD, gc_setD, gs_setD, gI_setR, gL_setR, gD_setR, gN_setR, gK_setR, gx_setR, gc_setR, gs_setR, gL_rowI, gD_rowI, gR_rowI, gN_rowI, gK_rowI, gx_rowI, gc_rowI, gs_rowI, gI_I, gL_L, gD_D, gR_R, gI_row, gI_bmp, gL_bmp, gD_bmp, gR_bmp, gN_bmp, gK_bmp, gx_bmp, gc_bmp, gs_bmp, gK_pS, gN_pS, gI_pS, gD_pS, gR_pS, gx_pS, gc_pS, gs_pS, iv_11, ↓iv_max, ↓iv_min, iv_lt_t, iv_lt_f, iv_le_t, iv_le_f, iv_eq_t, iv_eq_f, iv_lt0_t, iv_lt0_f, iv_gt0_t, iv_gt0_f, iv_le0_t, iv_le0_f, iv_ge0_t, iv_ge0_f, iv_eq0_t, iv_eq0_f, iv_add, iv_sub, iv_mul, iv_nat, iv_lt, iv_le, iv_eq, iv_lt0, iv_gt0, iv_le0, iv_ge0, iv_eq0, iv_cl, bv_01, bv_eq0, lcmp_eq0, ↓reduceIte, Nat.reduceLeDiff, Nat.reduceLT, Nat.reduceAdd, Nat.reduceSub, Nat.reduceEqDiff, Nat.reduceMul, Nat.succ_ne_zero, Nat.zero_lt_succ, Nat.lt_add_one, Nat.add_left_cancel_iff, and_true, true_and, and_false, false_and, and_self, Nat.zero_le, eq_self, true_or, or_true, false_or, or_false, Bool.not_false, Bool.not_true, not_true, not_false_iff, Int.reduceEq, Int.reduceLT, Int.reduceLE, Int.reduceAdd, Int.reduceSub, Int.reduceToNat, Int.reduceNeg, Bool.false_eq_true, Bool.true_eq_false, reduceCtorEq, k2, c3', gK_setR, al_x, gx_setR, isRA14, iv_inb_t, true_or, or_true, show isRA 15 = true from rfl, show isRA 16 = true from rfl, Int.toNat_natCast]
  rw [show gx σ2 + 2 = s + 17 by omega]
  obtain ⟨σB, hB⟩ : ∃ x, x = setR (al (setR σ2 s 3 (some (s + 12))) 16 4) s 4 (some (s + 17)) := ⟨_, rfl⟩
  rw [← hB]
  have xB : gx σB = s + 16 := by rw [hB, gx_setR, al_x, gx_setR]; omega
  have NB : NT (fun p => p = s) σ2 σB 1 1 4 := by
    rw [hB]
    exact ((NT.setR (T := fun p => p = s) rfl).tr (NT.al (T := fun p => p = s) (k := 16) (n := 4))).tr (NT.setR (T := fun p => p = s) rfl)
  have sv1B : SV σB (s + 3) 8 := sv1.nt NB (by omega) (by omega)
  have sv2B : SV σB (s + 12) 4 := s2.nt NB (by omega) (by omega)
  have D : gK σB s = 6 ∧ gR σB s 0 = some (s + 1) ∧ gR σB s 1 = some (s + 2) ∧ gR σB s 2 = some (s + 3) ∧ gR σB s 3 = some (s + 12) ∧ gR σB s 4 = some (s + 17) ∧ gK σB (s + 1) = 5 ∧ gK σB (s + 2) = 10 ∧ gN σB (s + 2) = 480 ∧ gK σB (s + 17) = 16 ∧ gN σB (s + 17) = 4 := by
    rw [hB]
    refine ⟨?_, ?_, ?_, ?_, ?_, ?_, ?_, ?_, ?_, ?_, ?_⟩
    all_goals simp (disch := first | omega | (simp only [gx_setR, gx_setI, al_x]; done) | (simp only [gx_setR, gx_setI, al_x]; omega)) only [al_Ke, al_Kn, al_Ne, al_Nn, al_Ie, al_In, al_Re, al_Rn, al_x, gx_setR, gx_setI, gK_setR, gN_setR, gI_setR, gR_Re, gR_Rn, gR_setI, gK_setI, gN_setI, k2, C0, C1, C2, C3, C4, C5]
  clear hB c3'
  have N0 : NT (fun p => p = s) σ σB 17 17 522 := ((NA.tr (g1.wk (fun p _ h => h.elim))).tr g2').tr NB
  obtain ⟨d0, d1, d2, d3, d4, d5, d6, d7, d8, d9, d10⟩ := D
  refine q_74_1 d0 d2 d7 d8 (fun σC gC hC => ?_) 480 0 0 σB (by omega) (by omega) IFr.rf (fun k hk => absurd hk (by omega))
  have hK := gC.K
  have hN := gC.N
  have hR := gC.R
  have xC := gC.x
  rw [k_74_2]
  simp (disch := first | omega | (simp (maxDischargeDepth := 30) only [gK_pS, AWt]; done) | (simp (maxDischargeDepth := 30) only [gK_pS, AWt]; omega)) only [b_74_0, b_74_1, k_74_1, b_74_2, k_74_2, b_74_3, b_74_4, k_74_4, e_74, wq_iconst, wq_bipush, wq_fconst, wq_dconst, wq_iload, wq_lload, wq_fload, wq_dload, wq_aload, wq_istore, wq_fstore, wq_astore, wq_lstore, wq_dstore, wq_iinc, wq_iadd, wq_isub, wq_imul, wq_iand, wq_ior, wq_ixor, wq_ishl, wq_ishr, wq_iushr, wq_ladd, wq_lsub, wq_land, wq_lor, wq_lxor, wq_lshl, wq_lushr, wq_idiv, wq_irem, wq_lcmp, wq_fcmp, wq_dcmp, wq_i2l, wq_l2i, wq_i2f, wq_i2d, wq_f2d, wq_fdiv, wq_ddiv, wq_dupi, wq_dupr, wq_dup2, wq_popi, wq_popr, wq_if_eq, wq_ic_eq, wq_if_ne, wq_ic_ne, wq_if_lt, wq_ic_lt, wq_if_ge, wq_ic_ge, wq_if_gt, wq_ic_gt, wq_if_le, wq_ic_le, wq_goto, wq_nop, wq_tsw, wq_getfield, wq_pfi, wq_pfl, wq_pfr, wq_getstatic, wq_iaload, wq_baload, wq_laload, wq_daload, wq_aaload, wq_iastore, wq_bastore, wq_lastore, wq_dastore, wq_aastore, wq_arraylength, wq_new, wq_newarray, wq_anewarray, wq_multi, wq_copy, wq_mmax, wq_mmin, wq_oi, wq_cs0, wq_cs1, wq_cs2, wq_cs3, wq_cs4, wq_cs5, wq_cs6, wq_cs7, wq_cv1, wq_cv2, wq_cv3, wq_cv4, wq_cv5, wq_cv6, wq_ci1, wq_ci2, wq_ci3, wq_ci4, wq_ci5, wq_ci6, wq_athrow, wq_ireturn, wq_freturn, wq_dreturn, wq_areturn, wq_return, wsw_n, wsw_c, aft_i, gf_1, gf_2, gf_3, rv_s, okst_0, okst_s, is2_int, is2_float, is2_ref, is2_retAddr, List.getElem?_cons_zero, List.getElem?_cons_succ, List.set_cons_zero, List.set_cons_succ, List.length_cons, List.length_nil, Option.toList_some, Option.toList_none, List.cons_append, List.nil_append, List.singleton_append, gL_setI, gD_setI, gR_setI, gN_setI, gK_setI, gx_setI, gc_setI, gs_setI, gI_setL, gD_setL, gR_setL, gN_setL, gK_setL, gx_setL, gc_setL, gs_setL, gI_setD, gL_setD, gR_setD, gN_setD, gK_setD, gx_setD, gc_setD, gs_setD, gI_setR, gL_setR, gD_setR, gN_setR, gK_setR, gx_setR, gc_setR, gs_setR, gL_rowI, gD_rowI, gR_rowI, gN_rowI, gK_rowI, gx_rowI, gc_rowI, gs_rowI, gI_I, gL_L, gD_D, gR_R, gI_row, gI_bmp, gL_bmp, gD_bmp, gR_bmp, gN_bmp, gK_bmp, gx_bmp, gc_bmp, gs_bmp, gK_pS, gN_pS, gI_pS, gD_pS, gR_pS, gx_pS, gc_pS, gs_pS, iv_11, ↓iv_max, ↓iv_min, iv_lt_t, iv_lt_f, iv_le_t, iv_le_f, iv_eq_t, iv_eq_f, iv_lt0_t, iv_lt0_f, iv_gt0_t, iv_gt0_f, iv_le0_t, iv_le0_f, iv_ge0_t, iv_ge0_f, iv_eq0_t, iv_eq0_f, iv_add, iv_sub, iv_mul, iv_nat, iv_lt, iv_le, iv_eq, iv_lt0, iv_gt0, iv_le0, iv_ge0, iv_eq0, iv_cl, bv_01, bv_eq0, lcmp_eq0, ↓reduceIte, Nat.reduceLeDiff, Nat.reduceLT, Nat.reduceAdd, Nat.reduceSub, Nat.reduceEqDiff, Nat.reduceMul, Nat.succ_ne_zero, Nat.zero_lt_succ, Nat.lt_add_one, Nat.add_left_cancel_iff, and_true, true_and, and_false, false_and, and_self, Nat.zero_le, eq_self, true_or, or_true, false_or, or_false, Bool.not_false, Bool.not_true, not_true, not_false_iff, Int.reduceEq, Int.reduceLT, Int.reduceLE, Int.reduceAdd, Int.reduceSub, Int.reduceToNat, Int.reduceNeg, Bool.false_eq_true, Bool.true_eq_false, reduceCtorEq, isRA14, iv_inb_t, true_or, or_true, show isRA 15 = true from rfl, show isRA 16 = true from rfl, Int.toNat_natCast]
  refine q_74_3 (by omega) (by rw [hK]; exact d0) (by rw [hR]; exact d5) (by rw [hK]; exact d9) (by rw [hN]; exact d10) (fun σ' gD hD => ?_) 4 0 0 σC (by omega) (by omega) NT.rf (fun i hi => absurd hi (by omega))
  have NC := N0.ifr gC (by omega)
  have NF := NC.tf gD (fun p hp h => by omega)
  have sC : ∀ A n, SV σB A n → A + n < s + 18 → A ≠ s + 17 → SV σ' A n := fun A n hsv hA hne => by
    have h1 : SV σC A n := by
      obtain ⟨q1, q2, q3⟩ := hsv
      refine ⟨by rw [hK]; exact q1, by rw [hN]; exact q2, fun i hi => ?_⟩
      rw [hR, hK]
      exact q3 i hi
    exact h1.nt gD hne (by omega)
  have v1 := sC _ _ sv1B (by omega) (by omega)
  have v2 := sC _ _ sv2B (by omega) (by omega)
  have pl : ∀ p, p < s + 18 → gK σ' p = gK σB p ∧ gN σ' p = gN σB p := fun p hp => by
    have h1 := gD.2.2.2.1 p (by omega)
    rw [h1.1, h1.2.1, hK, hN]
    exact ⟨rfl, rfl⟩
  have rs : gR σ' s = gR σB s := by
    have h1 := gD.2.2.2.1 s (by omega)
    rw [h1.2.2.2.2 (by omega), hR]
  refine hQ σ' NF ⟨?_, ?_, ?_, ?_, ?_, ?_, ?_, ?_, ?_, v1.1, v1.2.1, fun i hi => (v1.2.2 i hi).1, fun i hi => (v1.2.2 i hi).2, v2.1, v2.2.1, fun i hi => (v2.2.2 i hi).1, fun i hi => (v2.2.2 i hi).2, ?_, ?_, fun i hi => (hD i hi).1, fun i hi => (hD i hi).2⟩ (fun k hk => ?_)
  · rw [(pl s (by omega)).1]; exact d0
  · rw [rs]; exact d1
  · rw [rs]; exact d2
  · rw [rs]; exact d3
  · rw [rs]; exact d4
  · rw [rs]; exact d5
  · rw [(pl (s + 1) (by omega)).1]; exact d6
  · rw [(pl (s + 2) (by omega)).1]; exact d7
  · rw [(pl (s + 2) (by omega)).2]; exact d8
  · rw [(pl (s + 17) (by omega)).1]; exact d9
  · rw [(pl (s + 17) (by omega)).2]; exact d10
  · rw [(gD.2.2.2.1 (s + 2) (by omega)).2.2.1]
    exact hC k hk
