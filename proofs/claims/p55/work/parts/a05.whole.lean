/-! THE MAKING: the whole store, together -/
def ps0 : PS := (fun _ => false, fun _ _ => 100, fun _ _ => false, fun _ _ => false, 0, fun _ _ => 0)
theorem wf_ps0 : WF ps0 := ⟨fun _ _ => rfl, fun _ _ _ => rfl, fun _ _ => Or.inl rfl, fun _ _ h => absurd (show false = true from h) Bool.false_ne_true, fun _ _ _ => rfl, Nat.zero_le 4, fun i hi => absurd hi (Nat.not_lt_zero i)⟩
theorem ZL_ss {σ : St} (h : ZL σ) (p : Nat) (hp : p ≠ 0) : ss σ p = fun _ => false := by
  funext n
  unfold ss
  rw [h p 0 hp, h p 1 hp]
  have h0 : ∀ i, bw 0 i = false := fun i => by
    unfold bw
    simp
  rw [h0, h0]
  split <;> rfl
theorem x_79 {σ : St} {Q : Out → St → Prop} (hx : gx σ = 1) (hk : gK σ 2 = 7) (hk0 : gK σ 0 ≠ 5) (hzl : ZL σ) (hQ : ∀ σ' hs, NT (fun p => p = 2) σ σ' 835 835 9137 → BI σ' ps0 0 hs → GrL σ' → GC σ' 0 (fun _ _ => 0) → ZL σ' → Q (.inl none) σ') : Ex 79 [.ref 2] σ Q := by
  have n6 : nf 6 = 6 := rfl
  have n4 : nf 4 = 3 := rfl
  have n3 : nf 3 = 7 := rfl
  have n2 : nf 2 = 1 := rfl
  have n5 : nf 5 = 2 := rfl
  have q1 : gK (al σ 6 6) 3 = 6 := al_Ke (by rw [hx])
  simp (disch := first | omega | (simp (maxDischargeDepth := 30) only [gK_pS, AWt, hk, q1, hx]; done) | (simp (maxDischargeDepth := 30) only [gK_pS, AWt, hk, q1, hx]; omega)) only [b_79_0, b_79_1, b_79_2, k_79_2, e_79, wq_iconst, wq_bipush, wq_fconst, wq_dconst, wq_iload, wq_lload, wq_fload, wq_dload, wq_aload, wq_istore, wq_fstore, wq_astore, wq_lstore, wq_dstore, wq_iinc, wq_iadd, wq_isub, wq_imul, wq_iand, wq_ior, wq_ixor, wq_ishl, wq_ishr, wq_iushr, wq_ladd, wq_lsub, wq_land, wq_lor, wq_lxor, wq_lshl, wq_lushr, wq_idiv, wq_irem, wq_lcmp, wq_fcmp, wq_dcmp, wq_i2l, wq_l2i, wq_i2f, wq_i2d, wq_f2d, wq_fdiv, wq_ddiv, wq_dupi, wq_dupr, wq_dup2, wq_popi, wq_popr, wq_if_eq, wq_ic_eq, wq_if_ne, wq_ic_ne, wq_if_lt, wq_ic_lt, wq_if_ge, wq_ic_ge, wq_if_gt, wq_ic_gt, wq_if_le, wq_ic_le, wq_goto, wq_nop, wq_tsw, wq_getfield, wq_pfi, wq_pfl, wq_pfr, wq_getstatic, wq_iaload, wq_baload, wq_laload, wq_daload, wq_aaload, wq_iastore, wq_bastore, wq_lastore, wq_dastore, wq_aastore, wq_arraylength, wq_new, wq_newarray, wq_anewarray, wq_multi, wq_copy, wq_mmax, wq_mmin, wq_oi, wq_cs0, wq_cs1, wq_cs2, wq_cs3, wq_cs4, wq_cs5, wq_cs6, wq_cs7, wq_cv1, wq_cv2, wq_cv3, wq_cv4, wq_cv5, wq_cv6, wq_ci1, wq_ci2, wq_ci3, wq_ci4, wq_ci5, wq_ci6, wq_athrow, wq_ireturn, wq_freturn, wq_dreturn, wq_areturn, wq_return, wsw_n, wsw_c, aft_i, gf_1, gf_2, gf_3, rv_s, okst_0, okst_s, is2_int, is2_float, is2_ref, is2_retAddr, List.getElem?_cons_zero, List.getElem?_cons_succ, List.set_cons_zero, List.set_cons_succ, List.length_cons, List.length_nil, Option.toList_some, Option.toList_none, List.cons_append, List.nil_append, List.singleton_append, gL_setI, gD_setI, gR_setI, gN_setI, gK_setI, gx_setI, gc_setI, gs_setI, gI_setL, gD_setL, gR_setL, gN_setL, gK_setL, gx_setL, gc_setL, gs_setL, gI_setD, gL_setD, gR_setD, gN_setD, gK_setD, gx_setD, gc_setD, gs_setD, gI_setR, gL_setR, gD_setR, gN_setR, gK_setR, gx_setR, gc_setR, gs_setR, gL_rowI, gD_rowI, gR_rowI, gN_rowI, gK_rowI, gx_rowI, gc_rowI, gs_rowI, gI_I, gL_L, gD_D, gR_R, gI_row, gI_bmp, gL_bmp, gD_bmp, gR_bmp, gN_bmp, gK_bmp, gx_bmp, gc_bmp, gs_bmp, gK_pS, gN_pS, gI_pS, gD_pS, gR_pS, gx_pS, gc_pS, gs_pS, iv_11, ↓iv_max, ↓iv_min, iv_lt_t, iv_lt_f, iv_le_t, iv_le_f, iv_eq_t, iv_eq_f, iv_lt0_t, iv_lt0_f, iv_gt0_t, iv_gt0_f, iv_le0_t, iv_le0_f, iv_ge0_t, iv_ge0_f, iv_eq0_t, iv_eq0_f, iv_add, iv_sub, iv_mul, iv_nat, iv_lt, iv_le, iv_eq, iv_lt0, iv_gt0, iv_le0, iv_ge0, iv_eq0, iv_cl, bv_01, bv_eq0, lcmp_eq0, ↓reduceIte, Nat.reduceLeDiff, Nat.reduceLT, Nat.reduceAdd, Nat.reduceSub, Nat.reduceEqDiff, Nat.reduceMul, Nat.succ_ne_zero, Nat.zero_lt_succ, Nat.lt_add_one, Nat.add_left_cancel_iff, and_true, true_and, and_false, false_and, and_self, Nat.zero_le, eq_self, true_or, or_true, false_or, or_false, Bool.not_false, Bool.not_true, not_true, not_false_iff, Int.reduceEq, Int.reduceLT, Int.reduceLE, Int.reduceAdd, Int.reduceSub, Int.reduceToNat, Int.reduceNeg, Bool.false_eq_true, Bool.true_eq_false, reduceCtorEq, hk, q1, hx, isRA14, iv_inb_t, true_or, or_true, show isRA 15 = true from rfl, show isRA 16 = true from rfl, Int.toNat_natCast, n6]
  refine x_74 (σ := al σ 6 6) (s := 3) (by rw [al_x, hx]) q1 (fun σ1 g1 s1 c1 => ?_)
  have x1 : gx σ1 = 23 := by rw [g1.1, al_x, hx]
  have i1 : gI σ1 3 = gI (al σ 6 6) 3 := (g1.2.2.2.1 3 (by rw [al_x, hx]; omega)).2.2.1
  have i1' : gI σ1 3 5 = iv 0 := by rw [i1, al_Ie (by rw [hx])]; rfl
  have m1 : NT (fun _ => False) σ σ1 22 22 540 := (NT.al (T := fun _ => False) (σ := σ) (k := 6) (n := 6)).tf g1 (fun p hp h => by omega)
  have r0 : RR 0 σ := ⟨hk, fun j hj => absurd hj (by omega)⟩
  have w1 := r0.k m1 (by omega)
  have r1 := r0.st m1 (by omega) (show tbl 0 = 3 from rfl)
  have e1 := NT.setR (T := fun p => p = 2) (σ := σ1) (p := 2) (j := 0) (x := some 3) rfl
  have y1 : gx (setR σ1 2 0 (some 3)) = 23 := x1
  have q2 : gK (al (setR σ1 2 0 (some 3)) 4 3) 25 = 4 := al_Ke (by rw [y1])
  simp (disch := first | omega | (simp (maxDischargeDepth := 30) only [gK_pS, AWt, w1, q2, x1, hx, y1, gK_setR]; done) | (simp (maxDischargeDepth := 30) only [gK_pS, AWt, w1, q2, x1, hx, y1, gK_setR]; omega)) only [b_79_0, b_79_1, b_79_2, k_79_2, e_79, wq_iconst, wq_bipush, wq_fconst, wq_dconst, wq_iload, wq_lload, wq_fload, wq_dload, wq_aload, wq_istore, wq_fstore, wq_astore, wq_lstore, wq_dstore, wq_iinc, wq_iadd, wq_isub, wq_imul, wq_iand, wq_ior, wq_ixor, wq_ishl, wq_ishr, wq_iushr, wq_ladd, wq_lsub, wq_land, wq_lor, wq_lxor, wq_lshl, wq_lushr, wq_idiv, wq_irem, wq_lcmp, wq_fcmp, wq_dcmp, wq_i2l, wq_l2i, wq_i2f, wq_i2d, wq_f2d, wq_fdiv, wq_ddiv, wq_dupi, wq_dupr, wq_dup2, wq_popi, wq_popr, wq_if_eq, wq_ic_eq, wq_if_ne, wq_ic_ne, wq_if_lt, wq_ic_lt, wq_if_ge, wq_ic_ge, wq_if_gt, wq_ic_gt, wq_if_le, wq_ic_le, wq_goto, wq_nop, wq_tsw, wq_getfield, wq_pfi, wq_pfl, wq_pfr, wq_getstatic, wq_iaload, wq_baload, wq_laload, wq_daload, wq_aaload, wq_iastore, wq_bastore, wq_lastore, wq_dastore, wq_aastore, wq_arraylength, wq_new, wq_newarray, wq_anewarray, wq_multi, wq_copy, wq_mmax, wq_mmin, wq_oi, wq_cs0, wq_cs1, wq_cs2, wq_cs3, wq_cs4, wq_cs5, wq_cs6, wq_cs7, wq_cv1, wq_cv2, wq_cv3, wq_cv4, wq_cv5, wq_cv6, wq_ci1, wq_ci2, wq_ci3, wq_ci4, wq_ci5, wq_ci6, wq_athrow, wq_ireturn, wq_freturn, wq_dreturn, wq_areturn, wq_return, wsw_n, wsw_c, aft_i, gf_1, gf_2, gf_3, rv_s, okst_0, okst_s, is2_int, is2_float, is2_ref, is2_retAddr, List.getElem?_cons_zero, List.getElem?_cons_succ, List.set_cons_zero, List.set_cons_succ, List.length_cons, List.length_nil, Option.toList_some, Option.toList_none, List.cons_append, List.nil_append, List.singleton_append, gL_setI, gD_setI, gR_setI, gN_setI, gK_setI, gx_setI, gc_setI, gs_setI, gI_setL, gD_setL, gR_setL, gN_setL, gK_setL, gx_setL, gc_setL, gs_setL, gI_setD, gL_setD, gR_setD, gN_setD, gK_setD, gx_setD, gc_setD, gs_setD, gI_setR, gL_setR, gD_setR, gN_setR, gK_setR, gx_setR, gc_setR, gs_setR, gL_rowI, gD_rowI, gR_rowI, gN_rowI, gK_rowI, gx_rowI, gc_rowI, gs_rowI, gI_I, gL_L, gD_D, gR_R, gI_row, gI_bmp, gL_bmp, gD_bmp, gR_bmp, gN_bmp, gK_bmp, gx_bmp, gc_bmp, gs_bmp, gK_pS, gN_pS, gI_pS, gD_pS, gR_pS, gx_pS, gc_pS, gs_pS, iv_11, ↓iv_max, ↓iv_min, iv_lt_t, iv_lt_f, iv_le_t, iv_le_f, iv_eq_t, iv_eq_f, iv_lt0_t, iv_lt0_f, iv_gt0_t, iv_gt0_f, iv_le0_t, iv_le0_f, iv_ge0_t, iv_ge0_f, iv_eq0_t, iv_eq0_f, iv_add, iv_sub, iv_mul, iv_nat, iv_lt, iv_le, iv_eq, iv_lt0, iv_gt0, iv_le0, iv_ge0, iv_eq0, iv_cl, bv_01, bv_eq0, lcmp_eq0, ↓reduceIte, Nat.reduceLeDiff, Nat.reduceLT, Nat.reduceAdd, Nat.reduceSub, Nat.reduceEqDiff, Nat.reduceMul, Nat.succ_ne_zero, Nat.zero_lt_succ, Nat.lt_add_one, Nat.add_left_cancel_iff, and_true, true_and, and_false, false_and, and_self, Nat.zero_le, eq_self, true_or, or_true, false_or, or_false, Bool.not_false, Bool.not_true, not_true, not_false_iff, Int.reduceEq, Int.reduceLT, Int.reduceLE, Int.reduceAdd, Int.reduceSub, Int.reduceToNat, Int.reduceNeg, Bool.false_eq_true, Bool.true_eq_false, reduceCtorEq, w1, q2, x1, hx, y1, gK_setR, isRA14, iv_inb_t, true_or, or_true, show isRA 15 = true from rfl, show isRA 16 = true from rfl, Int.toNat_natCast, n4]
  generalize setR σ1 2 0 (some 3) = P1 at r1 e1 y1 q2 ⊢
  refine x_45 (σ := al P1 4 3) (h := 25) (by rw [al_x, y1]) q2 (fun σ2 g2 s2 => ?_)
  have x2 : gx σ2 = 201 := by rw [g2.1, al_x, y1]
  have i2 : gI σ2 25 = gI (al P1 4 3) 25 := (g2.2.2.2.1 25 (by rw [al_x, y1]; omega)).2.2.1
  have i2' : ∀ k, gI σ2 25 k = iv 0 := fun k => by rw [i2, al_Ie (by rw [y1])]; rfl
  have m2 : NT (fun _ => False) P1 σ2 178 178 4331 := (NT.al (T := fun _ => False) (σ := P1) (k := 4) (n := 3)).tf g2 (fun p hp h => by omega)
  have w2 := r1.k m2 (by omega)
  have r2 := r1.st m2 (by omega) (show tbl 1 = 25 from rfl)
  have e2 := NT.setR (T := fun p => p = 2) (σ := σ2) (p := 2) (j := 1) (x := some 25) rfl
  have y2 : gx (setR σ2 2 1 (some 25)) = 201 := x2
  have w2' : gK (al (setR σ2 2 1 (some 25)) 15 4) 2 = 7 := by rw [al_Kn (by rw [y2]; omega)]; exact w2
  have q3 : ∀ x, gK (al (setR (al (setR σ2 2 1 (some 25)) 15 4) 2 2 x) 3 7) 204 = 3 := fun x => al_Ke (by rw [gx_setR, al_x, y2])
  simp (disch := first | omega | (simp (maxDischargeDepth := 30) only [gK_pS, AWt, w2, w2', q3, x2, y1, y2, gK_setR, gx_setR, al_x]; done) | (simp (maxDischargeDepth := 30) only [gK_pS, AWt, w2, w2', q3, x2, y1, y2, gK_setR, gx_setR, al_x]; omega)) only [b_79_0, b_79_1, b_79_2, k_79_2, e_79, wq_iconst, wq_bipush, wq_fconst, wq_dconst, wq_iload, wq_lload, wq_fload, wq_dload, wq_aload, wq_istore, wq_fstore, wq_astore, wq_lstore, wq_dstore, wq_iinc, wq_iadd, wq_isub, wq_imul, wq_iand, wq_ior, wq_ixor, wq_ishl, wq_ishr, wq_iushr, wq_ladd, wq_lsub, wq_land, wq_lor, wq_lxor, wq_lshl, wq_lushr, wq_idiv, wq_irem, wq_lcmp, wq_fcmp, wq_dcmp, wq_i2l, wq_l2i, wq_i2f, wq_i2d, wq_f2d, wq_fdiv, wq_ddiv, wq_dupi, wq_dupr, wq_dup2, wq_popi, wq_popr, wq_if_eq, wq_ic_eq, wq_if_ne, wq_ic_ne, wq_if_lt, wq_ic_lt, wq_if_ge, wq_ic_ge, wq_if_gt, wq_ic_gt, wq_if_le, wq_ic_le, wq_goto, wq_nop, wq_tsw, wq_getfield, wq_pfi, wq_pfl, wq_pfr, wq_getstatic, wq_iaload, wq_baload, wq_laload, wq_daload, wq_aaload, wq_iastore, wq_bastore, wq_lastore, wq_dastore, wq_aastore, wq_arraylength, wq_new, wq_newarray, wq_anewarray, wq_multi, wq_copy, wq_mmax, wq_mmin, wq_oi, wq_cs0, wq_cs1, wq_cs2, wq_cs3, wq_cs4, wq_cs5, wq_cs6, wq_cs7, wq_cv1, wq_cv2, wq_cv3, wq_cv4, wq_cv5, wq_cv6, wq_ci1, wq_ci2, wq_ci3, wq_ci4, wq_ci5, wq_ci6, wq_athrow, wq_ireturn, wq_freturn, wq_dreturn, wq_areturn, wq_return, wsw_n, wsw_c, aft_i, gf_1, gf_2, gf_3, rv_s, okst_0, okst_s, is2_int, is2_float, is2_ref, is2_retAddr, List.getElem?_cons_zero, List.getElem?_cons_succ, List.set_cons_zero, List.set_cons_succ, List.length_cons, List.length_nil, Option.toList_some, Option.toList_none, List.cons_append, List.nil_append, List.singleton_append, gL_setI, gD_setI, gR_setI, gN_setI, gK_setI, gx_setI, gc_setI, gs_setI, gI_setL, gD_setL, gR_setL, gN_setL, gK_setL, gx_setL, gc_setL, gs_setL, gI_setD, gL_setD, gR_setD, gN_setD, gK_setD, gx_setD, gc_setD, gs_setD, gI_setR, gL_setR, gD_setR, gN_setR, gK_setR, gx_setR, gc_setR, gs_setR, gL_rowI, gD_rowI, gR_rowI, gN_rowI, gK_rowI, gx_rowI, gc_rowI, gs_rowI, gI_I, gL_L, gD_D, gR_R, gI_row, gI_bmp, gL_bmp, gD_bmp, gR_bmp, gN_bmp, gK_bmp, gx_bmp, gc_bmp, gs_bmp, gK_pS, gN_pS, gI_pS, gD_pS, gR_pS, gx_pS, gc_pS, gs_pS, iv_11, ↓iv_max, ↓iv_min, iv_lt_t, iv_lt_f, iv_le_t, iv_le_f, iv_eq_t, iv_eq_f, iv_lt0_t, iv_lt0_f, iv_gt0_t, iv_gt0_f, iv_le0_t, iv_le0_f, iv_ge0_t, iv_ge0_f, iv_eq0_t, iv_eq0_f, iv_add, iv_sub, iv_mul, iv_nat, iv_lt, iv_le, iv_eq, iv_lt0, iv_gt0, iv_le0, iv_ge0, iv_eq0, iv_cl, bv_01, bv_eq0, lcmp_eq0, ↓reduceIte, Nat.reduceLeDiff, Nat.reduceLT, Nat.reduceAdd, Nat.reduceSub, Nat.reduceEqDiff, Nat.reduceMul, Nat.succ_ne_zero, Nat.zero_lt_succ, Nat.lt_add_one, Nat.add_left_cancel_iff, and_true, true_and, and_false, false_and, and_self, Nat.zero_le, eq_self, true_or, or_true, false_or, or_false, Bool.not_false, Bool.not_true, not_true, not_false_iff, Int.reduceEq, Int.reduceLT, Int.reduceLE, Int.reduceAdd, Int.reduceSub, Int.reduceToNat, Int.reduceNeg, Bool.false_eq_true, Bool.true_eq_false, reduceCtorEq, w2, w2', q3, x2, y1, y2, gK_setR, gx_setR, al_x, isRA14, iv_inb_t, true_or, or_true, show isRA 15 = true from rfl, show isRA 16 = true from rfl, Int.toNat_natCast, n3]
  generalize setR σ2 2 1 (some 25) = P2 at r2 e2 y2 w2' q3 ⊢
  have m3 : NT (fun _ => False) P2 (al P2 15 4) 1 1 4 := NT.al
  have r3 := r2.st m3 (by omega) (show tbl 2 = 203 from rfl)
  have e3 := m3.tf (NT.setR (T := fun p => p = 2) (σ := al P2 15 4) (p := 2) (j := 2) (x := some 203) rfl)
  have e3' : NT (fun p => p = 2) P2 (setR (al P2 15 4) 2 2 (some 203)) 1 1 4 := (NT.al (T := fun p => p = 2) (σ := P2) (k := 15) (n := 4)).tr (NT.setR (T := fun p => p = 2) rfl)
  have y3 : gx (setR (al P2 15 4) 2 2 (some 203)) = 202 := by rw [gx_setR, al_x, y2]
  have k203 : gK (setR (al P2 15 4) 2 2 (some 203)) 203 = 15 := by rw [gK_setR]; exact al_Ke (by rw [y2])
  have n203 : gN (setR (al P2 15 4) 2 2 (some 203)) 203 = 4 := by rw [gN_setR]; exact al_Ne (by rw [y2])
  have q3' := q3 (some 203)
  clear e3
  generalize setR (al P2 15 4) 2 2 (some 203) = P3 at r3 e3' y3 k203 n203 q3' ⊢
  refine x_36 (σ := al P3 3 7) (by rw [al_x, y3]) q3' (fun σ4 g4 s4 => ?_)
  have x4 : gx σ4 = 217 := by rw [g4.1, al_x, y3]
  have i4 : gI σ4 204 = gI (al P3 3 7) 204 := (g4.2.2.2.1 204 (by rw [al_x, y3]; omega)).2.2.1
  have i4' : gI σ4 204 6 = iv 0 := by rw [i4, al_Ie (by rw [y3])]; rfl
  have m4 : NT (fun _ => False) P3 σ4 15 15 2447 := (NT.al (T := fun _ => False) (σ := P3) (k := 3) (n := 7)).tf g4 (fun p hp h => by omega)
  have w4 := r3.k m4 (by omega)
  have r4 := r3.st m4 (by omega) (show tbl 3 = 204 from rfl)
  have e4 := NT.setR (T := fun p => p = 2) (σ := σ4) (p := 2) (j := 3) (x := some 204) rfl
  have y4 : gx (setR σ4 2 3 (some 204)) = 217 := x4
  have w4' : gK (setR σ4 2 3 (some 204)) 2 = 7 := w4
  simp (disch := first | omega | (simp (maxDischargeDepth := 30) only [gK_pS, AWt, w4, w4', x4, y3, y4, gK_setR, gx_setR, al_x]; done) | (simp (maxDischargeDepth := 30) only [gK_pS, AWt, w4, w4', x4, y3, y4, gK_setR, gx_setR, al_x]; omega)) only [b_79_0, b_79_1, b_79_2, k_79_2, e_79, wq_iconst, wq_bipush, wq_fconst, wq_dconst, wq_iload, wq_lload, wq_fload, wq_dload, wq_aload, wq_istore, wq_fstore, wq_astore, wq_lstore, wq_dstore, wq_iinc, wq_iadd, wq_isub, wq_imul, wq_iand, wq_ior, wq_ixor, wq_ishl, wq_ishr, wq_iushr, wq_ladd, wq_lsub, wq_land, wq_lor, wq_lxor, wq_lshl, wq_lushr, wq_idiv, wq_irem, wq_lcmp, wq_fcmp, wq_dcmp, wq_i2l, wq_l2i, wq_i2f, wq_i2d, wq_f2d, wq_fdiv, wq_ddiv, wq_dupi, wq_dupr, wq_dup2, wq_popi, wq_popr, wq_if_eq, wq_ic_eq, wq_if_ne, wq_ic_ne, wq_if_lt, wq_ic_lt, wq_if_ge, wq_ic_ge, wq_if_gt, wq_ic_gt, wq_if_le, wq_ic_le, wq_goto, wq_nop, wq_tsw, wq_getfield, wq_pfi, wq_pfl, wq_pfr, wq_getstatic, wq_iaload, wq_baload, wq_laload, wq_daload, wq_aaload, wq_iastore, wq_bastore, wq_lastore, wq_dastore, wq_aastore, wq_arraylength, wq_new, wq_newarray, wq_anewarray, wq_multi, wq_copy, wq_mmax, wq_mmin, wq_oi, wq_cs0, wq_cs1, wq_cs2, wq_cs3, wq_cs4, wq_cs5, wq_cs6, wq_cs7, wq_cv1, wq_cv2, wq_cv3, wq_cv4, wq_cv5, wq_cv6, wq_ci1, wq_ci2, wq_ci3, wq_ci4, wq_ci5, wq_ci6, wq_athrow, wq_ireturn, wq_freturn, wq_dreturn, wq_areturn, wq_return, wsw_n, wsw_c, aft_i, gf_1, gf_2, gf_3, rv_s, okst_0, okst_s, is2_int, is2_float, is2_ref, is2_retAddr, List.getElem?_cons_zero, List.getElem?_cons_succ, List.set_cons_zero, List.set_cons_succ, List.length_cons, List.length_nil, Option.toList_some, Option.toList_none, List.cons_append, List.nil_append, List.singleton_append, gL_setI, gD_setI, gR_setI, gN_setI, gK_setI, gx_setI, gc_setI, gs_setI, gI_setL, gD_setL, gR_setL, gN_setL, gK_setL, gx_setL, gc_setL, gs_setL, gI_setD, gL_setD, gR_setD, gN_setD, gK_setD, gx_setD, gc_setD, gs_setD, gI_setR, gL_setR, gD_setR, gN_setR, gK_setR, gx_setR, gc_setR, gs_setR, gL_rowI, gD_rowI, gR_rowI, gN_rowI, gK_rowI, gx_rowI, gc_rowI, gs_rowI, gI_I, gL_L, gD_D, gR_R, gI_row, gI_bmp, gL_bmp, gD_bmp, gR_bmp, gN_bmp, gK_bmp, gx_bmp, gc_bmp, gs_bmp, gK_pS, gN_pS, gI_pS, gD_pS, gR_pS, gx_pS, gc_pS, gs_pS, iv_11, ↓iv_max, ↓iv_min, iv_lt_t, iv_lt_f, iv_le_t, iv_le_f, iv_eq_t, iv_eq_f, iv_lt0_t, iv_lt0_f, iv_gt0_t, iv_gt0_f, iv_le0_t, iv_le0_f, iv_ge0_t, iv_ge0_f, iv_eq0_t, iv_eq0_f, iv_add, iv_sub, iv_mul, iv_nat, iv_lt, iv_le, iv_eq, iv_lt0, iv_gt0, iv_le0, iv_ge0, iv_eq0, iv_cl, bv_01, bv_eq0, lcmp_eq0, ↓reduceIte, Nat.reduceLeDiff, Nat.reduceLT, Nat.reduceAdd, Nat.reduceSub, Nat.reduceEqDiff, Nat.reduceMul, Nat.succ_ne_zero, Nat.zero_lt_succ, Nat.lt_add_one, Nat.add_left_cancel_iff, and_true, true_and, and_false, false_and, and_self, Nat.zero_le, eq_self, true_or, or_true, false_or, or_false, Bool.not_false, Bool.not_true, not_true, not_false_iff, Int.reduceEq, Int.reduceLT, Int.reduceLE, Int.reduceAdd, Int.reduceSub, Int.reduceToNat, Int.reduceNeg, Bool.false_eq_true, Bool.true_eq_false, reduceCtorEq, w4, w4', x4, y3, y4, gK_setR, gx_setR, al_x, isRA14, iv_inb_t, true_or, or_true, show isRA 15 = true from rfl, show isRA 16 = true from rfl, Int.toNat_natCast, n2, n5, x_33, x_49, al_Kn, al_Ke]
  generalize setR σ4 2 3 (some 204) = P4 at r4 e4 y4 w4' ⊢
  have r5 := r4.st (NT.al (T := fun _ => False) (σ := P4) (k := 2) (n := 1)) (by omega) (show tbl 4 = 219 from rfl)
  have e5 : NT (fun p => p = 2) P4 _ 1 1 1 := (NT.al (T := fun p => p = 2) (σ := P4) (k := 2) (n := 1)).tr (NT.setR (T := fun p => p = 2) (p := 2) (j := 4) (x := some 219) rfl)
  have y5 : gx (setR (al P4 2 1) 2 4 (some 219)) = 218 := by rw [gx_setR, al_x, y4]
  have k5 : gK (setR (al P4 2 1) 2 4 (some 219)) 219 = 2 := by rw [gK_setR]; exact al_Ke (by rw [y4])
  generalize setR (al P4 2 1) 2 4 (some 219) = P5 at r5 e5 y5 k5 ⊢
  have r6 := r5.st (NT.al (T := fun _ => False) (σ := P5) (k := 10) (n := 4)) (by omega) (show tbl 5 = 220 from rfl)
  have e6 : NT (fun p => p = 2) P5 _ 1 1 4 := (NT.al (T := fun p => p = 2) (σ := P5) (k := 10) (n := 4)).tr (NT.setR (T := fun p => p = 2) (p := 2) (j := 5) (x := some 220) rfl)
  have y6 : gx (setR (al P5 10 4) 2 5 (some 220)) = 219 := by rw [gx_setR, al_x, y5]
  have k6 : gK (setR (al P5 10 4) 2 5 (some 220)) 220 = 10 := by rw [gK_setR]; exact al_Ke (by rw [y5])
  have n6' : gN (setR (al P5 10 4) 2 5 (some 220)) 220 = 4 := by rw [gN_setR]; exact al_Ne (by rw [y5])
  generalize setR (al P5 10 4) 2 5 (some 220) = P6 at r6 e6 y6 k6 n6' ⊢
  have r7 := r6.st (NT.al (T := fun _ => False) (σ := P6) (k := 5) (n := 2)) (by omega) (show tbl 6 = 221 from rfl)
  have e7 : NT (fun p => p = 2) P6 _ 1 1 2 := (NT.al (T := fun p => p = 2) (σ := P6) (k := 5) (n := 2)).tr (NT.setR (T := fun p => p = 2) (p := 2) (j := 6) (x := some 221) rfl)
  have y7 : gx (setR (al P6 5 2) 2 6 (some 221)) = 220 := by rw [gx_setR, al_x, y6]
  have k7 : gK (setR (al P6 5 2) 2 6 (some 221)) 221 = 5 := by rw [gK_setR]; exact al_Ke (by rw [y6])
  generalize setR (al P6 5 2) 2 6 (some 221) = P7 at r7 e7 y7 k7 ⊢
  have r8 := r7.st (NT.al (T := fun _ => False) (σ := P7) (k := 5) (n := 2)) (by omega) (show tbl 7 = 222 from rfl)
  have e8 : NT (fun p => p = 2) P7 _ 1 1 2 := (NT.al (T := fun p => p = 2) (σ := P7) (k := 5) (n := 2)).tr (NT.setR (T := fun p => p = 2) (p := 2) (j := 7) (x := some 222) rfl)
  have y8 : gx (setR (al P7 5 2) 2 7 (some 222)) = 221 := by rw [gx_setR, al_x, y7]
  have k8 : gK (setR (al P7 5 2) 2 7 (some 222)) 222 = 5 := by rw [gK_setR]; exact al_Ke (by rw [y7])
  generalize setR (al P7 5 2) 2 7 (some 222) = P8 at r8 e8 y8 k8 ⊢
  have r9 := r8.st (NT.al (T := fun _ => False) (σ := P8) (k := 5) (n := 2)) (by omega) (show tbl 8 = 223 from rfl)
  have e9 : NT (fun p => p = 2) P8 _ 1 1 2 := (NT.al (T := fun p => p = 2) (σ := P8) (k := 5) (n := 2)).tr (NT.setR (T := fun p => p = 2) (p := 2) (j := 8) (x := some 223) rfl)
  have y9 : gx (setR (al P8 5 2) 2 8 (some 223)) = 222 := by rw [gx_setR, al_x, y8]
  have k9 : gK (setR (al P8 5 2) 2 8 (some 223)) 223 = 5 := by rw [gK_setR]; exact al_Ke (by rw [y8])
  generalize setR (al P8 5 2) 2 8 (some 223) = P9 at r9 e9 y9 k9 ⊢
  have r10 := r9.st (NT.al (T := fun _ => False) (σ := P9) (k := 5) (n := 2)) (by omega) (show tbl 9 = 224 from rfl)
  have e10 : NT (fun p => p = 2) P9 _ 1 1 2 := (NT.al (T := fun p => p = 2) (σ := P9) (k := 5) (n := 2)).tr (NT.setR (T := fun p => p = 2) (p := 2) (j := 9) (x := some 224) rfl)
  have y10 : gx (setR (al P9 5 2) 2 9 (some 224)) = 223 := by rw [gx_setR, al_x, y9]
  have k10 : gK (setR (al P9 5 2) 2 9 (some 224)) 224 = 5 := by rw [gK_setR]; exact al_Ke (by rw [y9])
  generalize setR (al P9 5 2) 2 9 (some 224) = P10 at r10 e10 y10 k10 ⊢
  have r11 := r10.st (NT.al (T := fun _ => False) (σ := P10) (k := 5) (n := 2)) (by omega) (show tbl 10 = 225 from rfl)
  have e11 : NT (fun p => p = 2) P10 _ 1 1 2 := (NT.al (T := fun p => p = 2) (σ := P10) (k := 5) (n := 2)).tr (NT.setR (T := fun p => p = 2) (p := 2) (j := 10) (x := some 225) rfl)
  have y11 : gx (setR (al P10 5 2) 2 10 (some 225)) = 224 := by rw [gx_setR, al_x, y10]
  have k11 : gK (setR (al P10 5 2) 2 10 (some 225)) 225 = 5 := by rw [gK_setR]; exact al_Ke (by rw [y10])
  generalize setR (al P10 5 2) 2 10 (some 225) = P11 at r11 e11 y11 k11 ⊢
  have wk : ∀ {σ σ' : St} {d a b : Nat}, NT (fun _ => False) σ σ' d a b → NT (fun p => p = 2) σ σ' d a b := fun h => h.wk (fun p _ h => h.elim)
  have E0 := (wk m1).tr e1
  have E1 := (wk m2).tr e2
  have EL := (((((e5.tr e6).tr e7).tr e8).tr e9).tr e10).tr e11
  have E3 := ((wk m4).tr e4).tr EL
  refine q_79_1 y11 r11 ?_ ?_ (fun σ' gf hf => ?_) 4 0 0 P11 (by omega) (by omega) NT.rf (fun i hi => absurd hi (by omega))
  · rw [(E3.2.2.2.1 203 (by omega)).1]; exact k203
  · rw [(E3.2.2.2.1 203 (by omega)).2.1]; exact n203
  · have N0 := (((E0.tr E1).tr e3').tr E3).tf gf (fun p hp h => by omega)
    have F1 := e1.tr (E1.tr (e3'.tr E3))
    have F2 := e2.tr (e3'.tr E3)
    have F4 := e4.tr EL
    have hz := N0.2.2.2.2 hzl
    have hss := ZL_ss hz
    have hst : StL σ' 3 := (s1.nt F1 (fun p h1 h2 => by omega)).nt gf (fun p h1 h2 => by omega)
    have hhi : HiL σ' 25 := (s2.nt F2 (fun p h1 h2 => by omega)).nt gf (fun p h1 h2 => by omega)
    have hgr : GrL σ' := (s4.nt F4 (fun p h1 h2 => by omega)).nt gf (fun p h1 h2 => by omega)
    have kk : ∀ (P : St) (p v d a b : Nat), NT (fun p => p = 2) P P11 d a b → p < gx P + 2 → p < 226 → gK P p = v → gK σ' p = v := fun P p v d a b h1 h2 h3 h4 => by
      rw [(gf.2.2.2.1 p (by omega)).1, (h1.2.2.2.1 p h2).1]; exact h4
    have g2 := gf.2.2.2.1 2 (by omega)
    have tr : ∀ j, j < 11 → gR σ' 2 j = some (tbl j) := fun j hj => by
      rw [g2.2.2.2.2 (by omega)]
      exact r11.2 j hj
    have ii : ∀ (P : St) (p d a b : Nat), NT (fun p => p = 2) P P11 d a b → p < gx P + 2 → p < 226 → gI σ' p = gI P p := fun P p d a b h1 h2 h3 => by
      rw [(gf.2.2.2.1 p (by omega)).2.2.1, (h1.2.2.2.1 p h2).2.2.1]
    have h35 : gI σ' 3 5 = iv 0 := by rw [ii σ1 3 _ _ _ F1 (by omega) (by omega)]; exact i1'
    have h5k : ∀ k, k < 480 → gI σ' 5 k = iv 100 := fun k hk => by rw [ii σ1 5 _ _ _ F1 (by omega) (by omega)]; exact c1 k hk
    have h25 : ∀ k, gI σ' 25 k = iv 0 := fun k => by rw [ii σ2 25 _ _ _ F2 (by omega) (by omega)]; exact i2' k
    have h204 : gI σ' 204 6 = iv 0 := by rw [ii σ4 204 _ _ _ F4 (by omega) (by omega)]; exact i4'
    have hcs : CS σ' 3 ps0 := ⟨hss 4 (by omega), fun r hr c hc => h5k _ (by omega), fun f hf => hss _ (by omega), fun p hp => hss _ (by omega), h35, fun i hi => absurd hi (Nat.not_lt_zero i)⟩
    have hkc : KC σ' ps0 := fun c hc => ⟨fun _ => Or.inl rfl, fun _ _ => rfl, fun p r hp => ⟨fun h => (by rw [hss p (by unfold perm at hp; omega)] at h; cases h), fun h => absurd h.1 (fun h9 => Bool.noConfusion (h9 : false = true))⟩⟩
    refine hQ σ' (fun _ => ps0) N0 ⟨⟨g2.1.trans r11.1, tr 0 (by omega), tr 1 (by omega), tr 2 (by omega), tr 3 (by omega), tr 4 (by omega), tr 5 (by omega), tr 6 (by omega), tr 7 (by omega), tr 8 (by omega), tr 9 (by omega), tr 10 (by omega), ?_, ?_, fun i hi => (hf i hi).1, ?_, ?_, ?_, ?_, ?_, ?_, ?_, ?_, hst, hhi, fun i hi => (hf i hi).2⟩, fun p hk9 n _ => by rw [hss p (fun e => hk0 ((N0.2.2.2.1 0 (by omega)).1.symm.trans (e ▸ hk9)))], wf_ps0, hcs, hkc, 0, ⟨h25 1, h25 2, by omega, by omega⟩, fun i hi => absurd hi (Nat.not_lt_zero i)⟩ hgr ⟨h204, fun i hi => absurd hi (Nat.not_lt_zero i)⟩ hz
    · exact kk P3 203 15 _ _ _ E3 (by omega) (by omega) k203
    · rw [(gf.2.2.2.1 203 (by omega)).2.1, (E3.2.2.2.1 203 (by omega)).2.1]; exact n203
    · exact kk P5 219 2 _ _ _ (((((e6.tr e7).tr e8).tr e9).tr e10).tr e11) (by omega) (by omega) k5
    · exact kk P6 220 10 _ _ _ ((((e7.tr e8).tr e9).tr e10).tr e11) (by omega) (by omega) k6
    · rw [(gf.2.2.2.1 220 (by omega)).2.1, (((((e7.tr e8).tr e9).tr e10).tr e11).2.2.2.1 220 (by omega)).2.1]; exact n6'
    · exact kk P7 221 5 _ _ _ (((e8.tr e9).tr e10).tr e11) (by omega) (by omega) k7
    · exact kk P8 222 5 _ _ _ ((e9.tr e10).tr e11) (by omega) (by omega) k8
    · exact kk P9 223 5 _ _ _ (e10.tr e11) (by omega) (by omega) k9
    · exact kk P10 224 5 _ _ _ e11 (by omega) (by omega) k10
    · exact kk P11 225 5 _ _ _ NT.rf (by omega) (by omega) k11
