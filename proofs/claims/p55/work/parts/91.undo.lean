/-! CHANGES: undo -/
/-- cells of a row are the earlier ones up to a place -/
def BBI (b : PS) (a : PS) (s : Nat) (σ σ' : St) (t : Nat) : Prop := OF cellT σ σ' ∧ (∀ r, r < 120 → ∀ c, c < 4 → gI σ' 5 (r * 4 + c) = iv (if r * 4 + c < t then pV b r c else pV a r c)) ∧ ∀ c, c < 4 → CC σ' (226 + 153 * c) (fun r => if r * 4 + c < t then pV b r c else pV a r c)
theorem cel_s {σ : St} {s : Nat} {a : PS} (hcs : CS σ s a) {r c : Nat} (hr : r < 120) (hc : c < 4) (hv : -64 ≤ pV a r c ∧ pV a r c ≤ 100) : cel σ s (r : Int) (c : Int) = pV a r c := by
  unfold cel isc
  rw [if_pos (decide_eq_true (by omega)), show ((r : Int) * 4 + (c : Int)).toNat = r * 4 + c by omega, hcs.2.1 r hr c hc, iv_toInt (by omega) (by omega)]
theorem q_148_2 {σ : St} {Q : Out → St → Prop} {a b : PS} {s : Nat} (hly : LY σ) (hwa : WF a) (hwb : WF b) (hst2 : StL σ s) (hs2 : 27 ≤ s ∧ s ≤ 181) (hcb : CS σ s b) {r : Nat} (hr : r < 120) (hQ : ∀ σ' v3 v4, BBI b a s σ σ' ((r + 1) * 4) → Wp 148 (blk 148 1, [.ref 2, .ref s, .int (iv ((r : Int) + 1)), v3, v4], [], σ') Q) : ∀ (k j : Nat) (i : Int) (v4 : Value) (σ' : St), i = j → j + k = 4 → BBI b a s σ σ' (r * 4 + j) → Wp 148 (blk 148 2, [.ref 2, .ref s, .int (iv (r : Int)), .int (iv i), v4], [], σ') Q := by
  intro k
  induction k with
  | zero =>
    intro j i v4 σ' hi hj hbb
    rw [k_148_2]
    simp (disch := first | omega | (simp (maxDischargeDepth := 30) only [gK_pS, AWt]; done) | (simp (maxDischargeDepth := 30) only [gK_pS, AWt]; omega)) only [b_148_0, b_148_1, b_148_2, b_148_3, k_148_3, b_148_4, k_148_4, b_148_5, k_148_5, wq_iconst, wq_bipush, wq_fconst, wq_dconst, wq_iload, wq_lload, wq_fload, wq_dload, wq_aload, wq_istore, wq_fstore, wq_astore, wq_lstore, wq_dstore, wq_iinc, wq_iadd, wq_isub, wq_imul, wq_iand, wq_ior, wq_ixor, wq_ishl, wq_ishr, wq_iushr, wq_ladd, wq_lsub, wq_land, wq_lor, wq_lxor, wq_lshl, wq_lushr, wq_idiv, wq_irem, wq_lcmp, wq_fcmp, wq_dcmp, wq_i2l, wq_l2i, wq_i2f, wq_i2d, wq_f2d, wq_fdiv, wq_ddiv, wq_dupi, wq_dupr, wq_dup2, wq_popi, wq_popr, wq_if_eq, wq_ic_eq, wq_if_ne, wq_ic_ne, wq_if_lt, wq_ic_lt, wq_if_ge, wq_ic_ge, wq_if_gt, wq_ic_gt, wq_if_le, wq_ic_le, wq_goto, wq_nop, wq_tsw, wq_getfield, wq_pfi, wq_pfl, wq_pfr, wq_getstatic, wq_iaload, wq_baload, wq_laload, wq_daload, wq_aaload, wq_iastore, wq_bastore, wq_lastore, wq_dastore, wq_aastore, wq_arraylength, wq_new, wq_newarray, wq_anewarray, wq_multi, wq_copy, wq_mmax, wq_mmin, wq_oi, wq_cs0, wq_cs1, wq_cs2, wq_cs3, wq_cs4, wq_cs5, wq_cs6, wq_cs7, wq_cv1, wq_cv2, wq_cv3, wq_cv4, wq_cv5, wq_cv6, wq_ci1, wq_ci2, wq_ci3, wq_ci4, wq_ci5, wq_ci6, wq_athrow, wq_ireturn, wq_freturn, wq_dreturn, wq_areturn, wq_return, wsw_n, wsw_c, aft_i, gf_1, gf_2, gf_3, rv_s, okst_0, okst_s, is2_int, is2_float, is2_ref, is2_retAddr, List.getElem?_cons_zero, List.getElem?_cons_succ, List.set_cons_zero, List.set_cons_succ, List.length_cons, List.length_nil, Option.toList_some, Option.toList_none, List.cons_append, List.nil_append, List.singleton_append, gL_setI, gD_setI, gR_setI, gN_setI, gK_setI, gx_setI, gc_setI, gs_setI, gI_setL, gD_setL, gR_setL, gN_setL, gK_setL, gx_setL, gc_setL, gs_setL, gI_setD, gL_setD, gR_setD, gN_setD, gK_setD, gx_setD, gc_setD, gs_setD, gI_setR, gL_setR, gD_setR, gN_setR, gK_setR, gx_setR, gc_setR, gs_setR, gL_rowI, gD_rowI, gR_rowI, gN_rowI, gK_rowI, gx_rowI, gc_rowI, gs_rowI, gI_I, gL_L, gD_D, gR_R, gI_row, gI_bmp, gL_bmp, gD_bmp, gR_bmp, gN_bmp, gK_bmp, gx_bmp, gc_bmp, gs_bmp, gK_pS, gN_pS, gI_pS, gD_pS, gR_pS, gx_pS, gc_pS, gs_pS, iv_11, ↓iv_max, ↓iv_min, iv_lt_t, iv_lt_f, iv_le_t, iv_le_f, iv_eq_t, iv_eq_f, iv_lt0_t, iv_lt0_f, iv_gt0_t, iv_gt0_f, iv_le0_t, iv_le0_f, iv_ge0_t, iv_ge0_f, iv_eq0_t, iv_eq0_f, iv_add, iv_sub, iv_mul, iv_nat, iv_lt, iv_le, iv_eq, iv_lt0, iv_gt0, iv_le0, iv_ge0, iv_eq0, iv_cl, bv_01, bv_eq0, lcmp_eq0, ↓reduceIte, Nat.reduceLeDiff, Nat.reduceLT, Nat.reduceAdd, Nat.reduceSub, Nat.reduceEqDiff, Nat.reduceMul, Nat.succ_ne_zero, Nat.zero_lt_succ, Nat.lt_add_one, Nat.add_left_cancel_iff, and_true, true_and, and_false, false_and, and_self, Nat.zero_le, eq_self, true_or, or_true, false_or, or_false, Bool.not_false, Bool.not_true, not_true, not_false_iff, Int.reduceEq, Int.reduceLT, Int.reduceLE, Int.reduceAdd, Int.reduceSub, Int.reduceToNat, Int.reduceNeg, Bool.false_eq_true, Bool.true_eq_false, reduceCtorEq, isRA14, iv_inb_t, true_or, or_true, show isRA 15 = true from rfl, show isRA 16 = true from rfl, Int.toNat_natCast]
    refine hQ σ' _ _ ?_
    rw [show (r + 1) * 4 = r * 4 + j by omega]
    exact hbb
  | succ k ih =>
    intro j i v4 σ' hi hj hbb
    obtain ⟨hf, h1, h2⟩ := hbb
    have hly0' := hly.of hf
    have hly := hly.of hf
    have hw := hf.2.1
    have hst2' := hst2.of hf
    have hcb' := hcb.of hf (fun p hp hx => by unfold inS at hp; unfold cellT at hx; omega) hwb.2.2.2.2.2.1
    have sk2 := hst2'.1
    have hly0 := hly
    obtain ⟨tk, t0, t1, t2, t3, t4, t5, t6, t7, t8, t9, t10, kcs, ncs, rcs, kdr, ksa, nsa, ks1, ks2, ks3, ks4, ks5, hst, hhi, hco⟩ := hly
    have hst0 := hst
    obtain ⟨sk, s0, s1, s2, s3, s4, kp, kc, nc, kf, nf8, rf, kfs, kq, nq, rq, kqs, ko, no, ro, kos⟩ := hst
    have sk : gK σ' 3 = 6 := sk
    have s0 : gR σ' 3 0 = some 4 := s0
    have s1 : gR σ' 3 1 = some 5 := s1
    have s2 : gR σ' 3 2 = some 6 := s2
    have s3 : gR σ' 3 3 = some 15 := s3
    have s4 : gR σ' 3 4 = some 20 := s4
    have kp : gK σ' 4 = 5 := kp
    have kc : gK σ' 5 = 10 := kc
    have nc : gN σ' 5 = 480 := nc
    have kf : gK σ' 6 = 14 := kf
    have nf8 : gN σ' 6 = 8 := nf8
    have rf : ∀ i, i < 8 → gR σ' 6 i = some (7 + i) := rf
    have kfs : ∀ i, i < 8 → gK σ' (7 + i) = 5 := kfs
    have kq : gK σ' 15 = 14 := kq
    have nq : gN σ' 15 = 4 := nq
    have rq : ∀ i, i < 4 → gR σ' 15 i = some (16 + i) := rq
    have kqs : ∀ i, i < 4 → gK σ' (16 + i) = 5 := kqs
    have ko : gK σ' 20 = 16 := ko
    have no : gN σ' 20 = 4 := no
    have ro : ∀ i, i < 4 → gR σ' 20 i = some (21 + i) := ro
    have kos : ∀ i, i < 4 → gK σ' (21 + i) = 1 := kos
    have hi0 : (0 : Int) ≤ i ∧ i < 4 := by omega
    have e1 : cel σ' s (r : Int) i = pV b r j := by rw [hi]; exact cel_s hcb' hr (by omega) (hwb.rg _ _)
    have e2 : cel σ' 3 (r : Int) i = pV a r j := by
      rw [hi]
      unfold cel isc
      have hrg := hwa.rg r j
      rw [if_pos (decide_eq_true (by omega)), show ((r : Int) * 4 + (j : Int)).toNat = r * 4 + j by omega, h1 r hr j (by omega), if_neg (by omega), iv_toInt (by omega) (by omega)]
    have m1 := fun Q => x_76 (Q := Q) (r := (r : Int)) (c := i) (by omega) (by omega) hst2'
    have m2 := fun Q => x_76 (Q := Q) (r := (r : Int)) (c := i) (by omega) (by omega) hst0
    rw [e1] at m1
    rw [e2] at m2
    have g1 := hwa.rg r j
    have g2 := hwb.rg r j
    have hgo : pV b r j = pV a r j → BBI b a s σ σ' (r * 4 + (j + 1)) := fun e => by
      have ee : ∀ k d, d < 4 → (if k * 4 + d < r * 4 + j then pV b k d else pV a k d) = if k * 4 + d < r * 4 + (j + 1) then pV b k d else pV a k d := fun k d hd => by
        by_cases h : k * 4 + d = r * 4 + j
        · have hk : k = r := by omega
          have hd2 : d = j := by omega
          rw [if_neg (by omega), if_pos (by omega), hk, hd2, e]
        · by_cases h3 : k * 4 + d < r * 4 + j
          · rw [if_pos h3, if_pos (by omega)]
          · rw [if_neg h3, if_neg (by omega)]
      refine ⟨hf, fun k hk d hd => ?_, fun d hd => ?_⟩
      · rw [h1 k hk d hd, ee k d hd]
      · have := h2 d hd
        rw [funext (fun k => ee k d hd)] at this
        exact this
    rw [k_148_2]
    by_cases h9 : pV b r j = pV a r j
    · rw [h9] at m1
      simp (disch := first | omega | (simp (maxDischargeDepth := 30) only [gK_pS, AWt, tk, t0, t1, t2, t3, t4, t5, t6, t7, t8, t9, t10, kcs, ncs, kdr, ksa, nsa, ks1, ks2, ks3, ks4, ks5, sk, s0, s1, s2, s3, s4, kp, kc, nc, kf, nf8, kq, nq, ko, no, hw, sk2]; done) | (simp (maxDischargeDepth := 30) only [gK_pS, AWt, tk, t0, t1, t2, t3, t4, t5, t6, t7, t8, t9, t10, kcs, ncs, kdr, ksa, nsa, ks1, ks2, ks3, ks4, ks5, sk, s0, s1, s2, s3, s4, kp, kc, nc, kf, nf8, kq, nq, ko, no, hw, sk2]; omega)) only [b_148_0, b_148_1, b_148_2, b_148_3, k_148_3, b_148_4, k_148_4, b_148_5, k_148_5, wq_iconst, wq_bipush, wq_fconst, wq_dconst, wq_iload, wq_lload, wq_fload, wq_dload, wq_aload, wq_istore, wq_fstore, wq_astore, wq_lstore, wq_dstore, wq_iinc, wq_iadd, wq_isub, wq_imul, wq_iand, wq_ior, wq_ixor, wq_ishl, wq_ishr, wq_iushr, wq_ladd, wq_lsub, wq_land, wq_lor, wq_lxor, wq_lshl, wq_lushr, wq_idiv, wq_irem, wq_lcmp, wq_fcmp, wq_dcmp, wq_i2l, wq_l2i, wq_i2f, wq_i2d, wq_f2d, wq_fdiv, wq_ddiv, wq_dupi, wq_dupr, wq_dup2, wq_popi, wq_popr, wq_if_eq, wq_ic_eq, wq_if_ne, wq_ic_ne, wq_if_lt, wq_ic_lt, wq_if_ge, wq_ic_ge, wq_if_gt, wq_ic_gt, wq_if_le, wq_ic_le, wq_goto, wq_nop, wq_tsw, wq_getfield, wq_pfi, wq_pfl, wq_pfr, wq_getstatic, wq_iaload, wq_baload, wq_laload, wq_daload, wq_aaload, wq_iastore, wq_bastore, wq_lastore, wq_dastore, wq_aastore, wq_arraylength, wq_new, wq_newarray, wq_anewarray, wq_multi, wq_copy, wq_mmax, wq_mmin, wq_oi, wq_cs0, wq_cs1, wq_cs2, wq_cs3, wq_cs4, wq_cs5, wq_cs6, wq_cs7, wq_cv1, wq_cv2, wq_cv3, wq_cv4, wq_cv5, wq_cv6, wq_ci1, wq_ci2, wq_ci3, wq_ci4, wq_ci5, wq_ci6, wq_athrow, wq_ireturn, wq_freturn, wq_dreturn, wq_areturn, wq_return, wsw_n, wsw_c, aft_i, gf_1, gf_2, gf_3, rv_s, okst_0, okst_s, is2_int, is2_float, is2_ref, is2_retAddr, List.getElem?_cons_zero, List.getElem?_cons_succ, List.set_cons_zero, List.set_cons_succ, List.length_cons, List.length_nil, Option.toList_some, Option.toList_none, List.cons_append, List.nil_append, List.singleton_append, gL_setI, gD_setI, gR_setI, gN_setI, gK_setI, gx_setI, gc_setI, gs_setI, gI_setL, gD_setL, gR_setL, gN_setL, gK_setL, gx_setL, gc_setL, gs_setL, gI_setD, gL_setD, gR_setD, gN_setD, gK_setD, gx_setD, gc_setD, gs_setD, gI_setR, gL_setR, gD_setR, gN_setR, gK_setR, gx_setR, gc_setR, gs_setR, gL_rowI, gD_rowI, gR_rowI, gN_rowI, gK_rowI, gx_rowI, gc_rowI, gs_rowI, gI_I, gL_L, gD_D, gR_R, gI_row, gI_bmp, gL_bmp, gD_bmp, gR_bmp, gN_bmp, gK_bmp, gx_bmp, gc_bmp, gs_bmp, gK_pS, gN_pS, gI_pS, gD_pS, gR_pS, gx_pS, gc_pS, gs_pS, iv_11, ↓iv_max, ↓iv_min, iv_lt_t, iv_lt_f, iv_le_t, iv_le_f, iv_eq_t, iv_eq_f, iv_lt0_t, iv_lt0_f, iv_gt0_t, iv_gt0_f, iv_le0_t, iv_le0_f, iv_ge0_t, iv_ge0_f, iv_eq0_t, iv_eq0_f, iv_add, iv_sub, iv_mul, iv_nat, iv_lt, iv_le, iv_eq, iv_lt0, iv_gt0, iv_le0, iv_ge0, iv_eq0, iv_cl, bv_01, bv_eq0, lcmp_eq0, ↓reduceIte, Nat.reduceLeDiff, Nat.reduceLT, Nat.reduceAdd, Nat.reduceSub, Nat.reduceEqDiff, Nat.reduceMul, Nat.succ_ne_zero, Nat.zero_lt_succ, Nat.lt_add_one, Nat.add_left_cancel_iff, and_true, true_and, and_false, false_and, and_self, Nat.zero_le, eq_self, true_or, or_true, false_or, or_false, Bool.not_false, Bool.not_true, not_true, not_false_iff, Int.reduceEq, Int.reduceLT, Int.reduceLE, Int.reduceAdd, Int.reduceSub, Int.reduceToNat, Int.reduceNeg, Bool.false_eq_true, Bool.true_eq_false, reduceCtorEq, tk, t0, t1, t2, t3, t4, t5, t6, t7, t8, t9, t10, kcs, ncs, kdr, ksa, nsa, ks1, ks2, ks3, ks4, ks5, sk, s0, s1, s2, s3, s4, kp, kc, nc, kf, nf8, kq, nq, ko, no, hw, sk2, isRA14, iv_inb_t, true_or, or_true, show isRA 15 = true from rfl, show isRA 16 = true from rfl, Int.toNat_natCast, m1, m2]
      exact ih (j + 1) (i + 1) _ σ' (by omega) (by omega) (hgo h9)
    · have hne : pV b r j < pV a r j ∨ pV a r j < pV b r j := by omega
      simp (disch := first | omega | (simp (maxDischargeDepth := 30) only [gK_pS, AWt, tk, t0, t1, t2, t3, t4, t5, t6, t7, t8, t9, t10, kcs, ncs, kdr, ksa, nsa, ks1, ks2, ks3, ks4, ks5, sk, s0, s1, s2, s3, s4, kp, kc, nc, kf, nf8, kq, nq, ko, no, hw, sk2]; done) | (simp (maxDischargeDepth := 30) only [gK_pS, AWt, tk, t0, t1, t2, t3, t4, t5, t6, t7, t8, t9, t10, kcs, ncs, kdr, ksa, nsa, ks1, ks2, ks3, ks4, ks5, sk, s0, s1, s2, s3, s4, kp, kc, nc, kf, nf8, kq, nq, ko, no, hw, sk2]; omega)) only [b_148_0, b_148_1, b_148_2, b_148_3, k_148_3, b_148_4, k_148_4, b_148_5, k_148_5, wq_iconst, wq_bipush, wq_fconst, wq_dconst, wq_iload, wq_lload, wq_fload, wq_dload, wq_aload, wq_istore, wq_fstore, wq_astore, wq_lstore, wq_dstore, wq_iinc, wq_iadd, wq_isub, wq_imul, wq_iand, wq_ior, wq_ixor, wq_ishl, wq_ishr, wq_iushr, wq_ladd, wq_lsub, wq_land, wq_lor, wq_lxor, wq_lshl, wq_lushr, wq_idiv, wq_irem, wq_lcmp, wq_fcmp, wq_dcmp, wq_i2l, wq_l2i, wq_i2f, wq_i2d, wq_f2d, wq_fdiv, wq_ddiv, wq_dupi, wq_dupr, wq_dup2, wq_popi, wq_popr, wq_if_eq, wq_ic_eq, wq_if_ne, wq_ic_ne, wq_if_lt, wq_ic_lt, wq_if_ge, wq_ic_ge, wq_if_gt, wq_ic_gt, wq_if_le, wq_ic_le, wq_goto, wq_nop, wq_tsw, wq_getfield, wq_pfi, wq_pfl, wq_pfr, wq_getstatic, wq_iaload, wq_baload, wq_laload, wq_daload, wq_aaload, wq_iastore, wq_bastore, wq_lastore, wq_dastore, wq_aastore, wq_arraylength, wq_new, wq_newarray, wq_anewarray, wq_multi, wq_copy, wq_mmax, wq_mmin, wq_oi, wq_cs0, wq_cs1, wq_cs2, wq_cs3, wq_cs4, wq_cs5, wq_cs6, wq_cs7, wq_cv1, wq_cv2, wq_cv3, wq_cv4, wq_cv5, wq_cv6, wq_ci1, wq_ci2, wq_ci3, wq_ci4, wq_ci5, wq_ci6, wq_athrow, wq_ireturn, wq_freturn, wq_dreturn, wq_areturn, wq_return, wsw_n, wsw_c, aft_i, gf_1, gf_2, gf_3, rv_s, okst_0, okst_s, is2_int, is2_float, is2_ref, is2_retAddr, List.getElem?_cons_zero, List.getElem?_cons_succ, List.set_cons_zero, List.set_cons_succ, List.length_cons, List.length_nil, Option.toList_some, Option.toList_none, List.cons_append, List.nil_append, List.singleton_append, gL_setI, gD_setI, gR_setI, gN_setI, gK_setI, gx_setI, gc_setI, gs_setI, gI_setL, gD_setL, gR_setL, gN_setL, gK_setL, gx_setL, gc_setL, gs_setL, gI_setD, gL_setD, gR_setD, gN_setD, gK_setD, gx_setD, gc_setD, gs_setD, gI_setR, gL_setR, gD_setR, gN_setR, gK_setR, gx_setR, gc_setR, gs_setR, gL_rowI, gD_rowI, gR_rowI, gN_rowI, gK_rowI, gx_rowI, gc_rowI, gs_rowI, gI_I, gL_L, gD_D, gR_R, gI_row, gI_bmp, gL_bmp, gD_bmp, gR_bmp, gN_bmp, gK_bmp, gx_bmp, gc_bmp, gs_bmp, gK_pS, gN_pS, gI_pS, gD_pS, gR_pS, gx_pS, gc_pS, gs_pS, iv_11, ↓iv_max, ↓iv_min, iv_lt_t, iv_lt_f, iv_le_t, iv_le_f, iv_eq_t, iv_eq_f, iv_lt0_t, iv_lt0_f, iv_gt0_t, iv_gt0_f, iv_le0_t, iv_le0_f, iv_ge0_t, iv_ge0_f, iv_eq0_t, iv_eq0_f, iv_add, iv_sub, iv_mul, iv_nat, iv_lt, iv_le, iv_eq, iv_lt0, iv_gt0, iv_le0, iv_ge0, iv_eq0, iv_cl, bv_01, bv_eq0, lcmp_eq0, ↓reduceIte, Nat.reduceLeDiff, Nat.reduceLT, Nat.reduceAdd, Nat.reduceSub, Nat.reduceEqDiff, Nat.reduceMul, Nat.succ_ne_zero, Nat.zero_lt_succ, Nat.lt_add_one, Nat.add_left_cancel_iff, and_true, true_and, and_false, false_and, and_self, Nat.zero_le, eq_self, true_or, or_true, false_or, or_false, Bool.not_false, Bool.not_true, not_true, not_false_iff, Int.reduceEq, Int.reduceLT, Int.reduceLE, Int.reduceAdd, Int.reduceSub, Int.reduceToNat, Int.reduceNeg, Bool.false_eq_true, Bool.true_eq_false, reduceCtorEq, tk, t0, t1, t2, t3, t4, t5, t6, t7, t8, t9, t10, kcs, ncs, kdr, ksa, nsa, ks1, ks2, ks3, ks4, ks5, sk, s0, s1, s2, s3, s4, kp, kc, nc, kf, nf8, kq, nq, ko, no, hw, sk2, isRA14, iv_inb_t, true_or, or_true, show isRA 15 = true from rfl, show isRA 16 = true from rfl, Int.toNat_natCast, m1, m2]
      have hcc := h2 i.toNat (by omega)
      refine x_147 (r := (r : Int)) (c := i) (v := pV b r j) (val := fun k => if k * 4 + i.toNat < r * 4 + j then pV b k i.toNat else pV a k i.toNat) hly0' hw (by omega) (by omega) (hwb.2.2.1 r j) hcc ?_ (fun σ2 f1 f2 f3 => ?_)
      · rw [e2]
        show pV a r j = if (r : Int).toNat * 4 + i.toNat < r * 4 + j then pV b (r : Int).toNat i.toNat else pV a (r : Int).toNat i.toNat
        rw [if_neg (by omega), Int.toNat_natCast, show i.toNat = j by omega]
      · simp (disch := first | omega | (simp (maxDischargeDepth := 30) only [gK_pS, AWt]; done) | (simp (maxDischargeDepth := 30) only [gK_pS, AWt]; omega)) only [b_148_0, b_148_1, b_148_2, b_148_3, k_148_3, b_148_4, k_148_4, b_148_5, k_148_5, wq_iconst, wq_bipush, wq_fconst, wq_dconst, wq_iload, wq_lload, wq_fload, wq_dload, wq_aload, wq_istore, wq_fstore, wq_astore, wq_lstore, wq_dstore, wq_iinc, wq_iadd, wq_isub, wq_imul, wq_iand, wq_ior, wq_ixor, wq_ishl, wq_ishr, wq_iushr, wq_ladd, wq_lsub, wq_land, wq_lor, wq_lxor, wq_lshl, wq_lushr, wq_idiv, wq_irem, wq_lcmp, wq_fcmp, wq_dcmp, wq_i2l, wq_l2i, wq_i2f, wq_i2d, wq_f2d, wq_fdiv, wq_ddiv, wq_dupi, wq_dupr, wq_dup2, wq_popi, wq_popr, wq_if_eq, wq_ic_eq, wq_if_ne, wq_ic_ne, wq_if_lt, wq_ic_lt, wq_if_ge, wq_ic_ge, wq_if_gt, wq_ic_gt, wq_if_le, wq_ic_le, wq_goto, wq_nop, wq_tsw, wq_getfield, wq_pfi, wq_pfl, wq_pfr, wq_getstatic, wq_iaload, wq_baload, wq_laload, wq_daload, wq_aaload, wq_iastore, wq_bastore, wq_lastore, wq_dastore, wq_aastore, wq_arraylength, wq_new, wq_newarray, wq_anewarray, wq_multi, wq_copy, wq_mmax, wq_mmin, wq_oi, wq_cs0, wq_cs1, wq_cs2, wq_cs3, wq_cs4, wq_cs5, wq_cs6, wq_cs7, wq_cv1, wq_cv2, wq_cv3, wq_cv4, wq_cv5, wq_cv6, wq_ci1, wq_ci2, wq_ci3, wq_ci4, wq_ci5, wq_ci6, wq_athrow, wq_ireturn, wq_freturn, wq_dreturn, wq_areturn, wq_return, wsw_n, wsw_c, aft_i, gf_1, gf_2, gf_3, rv_s, okst_0, okst_s, is2_int, is2_float, is2_ref, is2_retAddr, List.getElem?_cons_zero, List.getElem?_cons_succ, List.set_cons_zero, List.set_cons_succ, List.length_cons, List.length_nil, Option.toList_some, Option.toList_none, List.cons_append, List.nil_append, List.singleton_append, gL_setI, gD_setI, gR_setI, gN_setI, gK_setI, gx_setI, gc_setI, gs_setI, gI_setL, gD_setL, gR_setL, gN_setL, gK_setL, gx_setL, gc_setL, gs_setL, gI_setD, gL_setD, gR_setD, gN_setD, gK_setD, gx_setD, gc_setD, gs_setD, gI_setR, gL_setR, gD_setR, gN_setR, gK_setR, gx_setR, gc_setR, gs_setR, gL_rowI, gD_rowI, gR_rowI, gN_rowI, gK_rowI, gx_rowI, gc_rowI, gs_rowI, gI_I, gL_L, gD_D, gR_R, gI_row, gI_bmp, gL_bmp, gD_bmp, gR_bmp, gN_bmp, gK_bmp, gx_bmp, gc_bmp, gs_bmp, gK_pS, gN_pS, gI_pS, gD_pS, gR_pS, gx_pS, gc_pS, gs_pS, iv_11, ↓iv_max, ↓iv_min, iv_lt_t, iv_lt_f, iv_le_t, iv_le_f, iv_eq_t, iv_eq_f, iv_lt0_t, iv_lt0_f, iv_gt0_t, iv_gt0_f, iv_le0_t, iv_le0_f, iv_ge0_t, iv_ge0_f, iv_eq0_t, iv_eq0_f, iv_add, iv_sub, iv_mul, iv_nat, iv_lt, iv_le, iv_eq, iv_lt0, iv_gt0, iv_le0, iv_ge0, iv_eq0, iv_cl, bv_01, bv_eq0, lcmp_eq0, ↓reduceIte, Nat.reduceLeDiff, Nat.reduceLT, Nat.reduceAdd, Nat.reduceSub, Nat.reduceEqDiff, Nat.reduceMul, Nat.succ_ne_zero, Nat.zero_lt_succ, Nat.lt_add_one, Nat.add_left_cancel_iff, and_true, true_and, and_false, false_and, and_self, Nat.zero_le, eq_self, true_or, or_true, false_or, or_false, Bool.not_false, Bool.not_true, not_true, not_false_iff, Int.reduceEq, Int.reduceLT, Int.reduceLE, Int.reduceAdd, Int.reduceSub, Int.reduceToNat, Int.reduceNeg, Bool.false_eq_true, Bool.true_eq_false, reduceCtorEq, isRA14, iv_inb_t, true_or, or_true, show isRA 15 = true from rfl, show isRA 16 = true from rfl, Int.toNat_natCast]
        refine ih (j + 1) (i + 1) _ σ2 (by omega) (by omega) ⟨hf.tr (f1.wk (fun p hp => ?_)), fun k hk d hd => ?_, fun d hd => ?_⟩
        · unfold perm at hp
          unfold cellT
          omega
        · rw [f2]
          by_cases h : k * 4 + d = r * 4 + j
          · have hk : k = r := by omega
            have hd2 : d = j := by omega
            rw [if_pos (by omega), if_pos (by omega), hk, hd2]
          · rw [if_neg (by omega), h1 k hk d hd]
            by_cases h3 : k * 4 + d < r * 4 + j
            · rw [if_pos h3, if_pos (by omega)]
            · rw [if_neg h3, if_neg (by omega)]
        · by_cases e : d = i.toNat
          · subst e
            rw [show (fun k => if k * 4 + i.toNat < r * 4 + (j + 1) then pV b k i.toNat else pV a k i.toNat) = fun k => if k = (r : Int).toNat then pV b r j else (if k * 4 + i.toNat < r * 4 + j then pV b k i.toNat else pV a k i.toNat) from funext (fun k => ?_)]
            · exact f3
            · by_cases h : k = r
              · rw [if_pos (by omega), if_pos (by omega), h, show i.toNat = j by omega]
              · rw [if_neg (show ¬ k = (r : Int).toNat by omega)]
                by_cases h3 : k * 4 + i.toNat < r * 4 + j
                · rw [if_pos h3, if_pos (by omega)]
                · rw [if_neg h3, if_neg (by omega)]
          · rw [show (fun k => if k * 4 + d < r * 4 + (j + 1) then pV b k d else pV a k d) = fun k => if k * 4 + d < r * 4 + j then pV b k d else pV a k d from funext (fun k => ?_)]
            · exact (h2 d hd).of2 f1 (fun p hp hx => by unfold perm at hp hx; omega)
            · by_cases h3 : k * 4 + d < r * 4 + j
              · rw [if_pos h3, if_pos (by omega)]
              · rw [if_neg h3, if_neg (by omega)]
theorem q_148_1 {σ : St} {Q : Out → St → Prop} {a b : PS} {s : Nat} (hly : LY σ) (hwa : WF a) (hwb : WF b) (hst2 : StL σ s) (hs2 : 27 ≤ s ∧ s ≤ 181) (hcb : CS σ s b) (hQ : ∀ σ', OF (fun p => cellT p ∨ inS 3 p) σ σ' → CS σ' 3 b → KC σ' b → Q (.inl none) σ') : ∀ (k j : Nat) (i : Int) (v3 v4 : Value) (σ' : St), i = j → j + k = 120 → BBI b a s σ σ' (j * 4) → Wp 148 (blk 148 1, [.ref 2, .ref s, .int (iv i), v3, v4], [], σ') Q := by
  intro k
  induction k with
  | zero =>
    intro j i v3 v4 σ' hi hj hbb
    obtain ⟨hf, h1, h2⟩ := hbb
    have hly := hly.of hf
    have hw := hf.2.1
    have hst2' := hst2.of hf
    have sk2 := hst2'.1
    have hcb' := hcb.of hf (fun p hp hx => by unfold inS at hp; unfold cellT at hx; omega) hwb.2.2.2.2.2.1
    have hly0 := hly
    obtain ⟨tk, t0, t1, t2, t3, t4, t5, t6, t7, t8, t9, t10, kcs, ncs, rcs, kdr, ksa, nsa, ks1, ks2, ks3, ks4, ks5, hst, hhi, hco⟩ := hly
    have hst0 := hst
    obtain ⟨sk, s0, s1, s2, s3, s4, kp, kc, nc, kf, nf8, rf, kfs, kq, nq, rq, kqs, ko, no, ro, kos⟩ := hst
    have sk : gK σ' 3 = 6 := sk
    have s0 : gR σ' 3 0 = some 4 := s0
    have s1 : gR σ' 3 1 = some 5 := s1
    have s2 : gR σ' 3 2 = some 6 := s2
    have s3 : gR σ' 3 3 = some 15 := s3
    have s4 : gR σ' 3 4 = some 20 := s4
    have kp : gK σ' 4 = 5 := kp
    have kc : gK σ' 5 = 10 := kc
    have nc : gN σ' 5 = 480 := nc
    have kf : gK σ' 6 = 14 := kf
    have nf8 : gN σ' 6 = 8 := nf8
    have rf : ∀ i, i < 8 → gR σ' 6 i = some (7 + i) := rf
    have kfs : ∀ i, i < 8 → gK σ' (7 + i) = 5 := kfs
    have kq : gK σ' 15 = 14 := kq
    have nq : gN σ' 15 = 4 := nq
    have rq : ∀ i, i < 4 → gR σ' 15 i = some (16 + i) := rq
    have kqs : ∀ i, i < 4 → gK σ' (16 + i) = 5 := kqs
    have ko : gK σ' 20 = 16 := ko
    have no : gN σ' 20 = 4 := no
    have ro : ∀ i, i < 4 → gR σ' 20 i = some (21 + i) := ro
    have kos : ∀ i, i < 4 → gK σ' (21 + i) = 1 := kos
    rw [k_148_1]
    simp (disch := first | omega | (simp (maxDischargeDepth := 30) only [gK_pS, AWt, tk, t0, t1, t2, t3, t4, t5, t6, t7, t8, t9, t10, kcs, ncs, kdr, ksa, nsa, ks1, ks2, ks3, ks4, ks5, sk, s0, s1, s2, s3, s4, kp, kc, nc, kf, nf8, kq, nq, ko, no, sk2]; done) | (simp (maxDischargeDepth := 30) only [gK_pS, AWt, tk, t0, t1, t2, t3, t4, t5, t6, t7, t8, t9, t10, kcs, ncs, kdr, ksa, nsa, ks1, ks2, ks3, ks4, ks5, sk, s0, s1, s2, s3, s4, kp, kc, nc, kf, nf8, kq, nq, ko, no, sk2]; omega)) only [b_148_0, b_148_1, b_148_2, b_148_3, k_148_3, b_148_4, k_148_4, b_148_5, k_148_5, wq_iconst, wq_bipush, wq_fconst, wq_dconst, wq_iload, wq_lload, wq_fload, wq_dload, wq_aload, wq_istore, wq_fstore, wq_astore, wq_lstore, wq_dstore, wq_iinc, wq_iadd, wq_isub, wq_imul, wq_iand, wq_ior, wq_ixor, wq_ishl, wq_ishr, wq_iushr, wq_ladd, wq_lsub, wq_land, wq_lor, wq_lxor, wq_lshl, wq_lushr, wq_idiv, wq_irem, wq_lcmp, wq_fcmp, wq_dcmp, wq_i2l, wq_l2i, wq_i2f, wq_i2d, wq_f2d, wq_fdiv, wq_ddiv, wq_dupi, wq_dupr, wq_dup2, wq_popi, wq_popr, wq_if_eq, wq_ic_eq, wq_if_ne, wq_ic_ne, wq_if_lt, wq_ic_lt, wq_if_ge, wq_ic_ge, wq_if_gt, wq_ic_gt, wq_if_le, wq_ic_le, wq_goto, wq_nop, wq_tsw, wq_getfield, wq_pfi, wq_pfl, wq_pfr, wq_getstatic, wq_iaload, wq_baload, wq_laload, wq_daload, wq_aaload, wq_iastore, wq_bastore, wq_lastore, wq_dastore, wq_aastore, wq_arraylength, wq_new, wq_newarray, wq_anewarray, wq_multi, wq_copy, wq_mmax, wq_mmin, wq_oi, wq_cs0, wq_cs1, wq_cs2, wq_cs3, wq_cs4, wq_cs5, wq_cs6, wq_cs7, wq_cv1, wq_cv2, wq_cv3, wq_cv4, wq_cv5, wq_cv6, wq_ci1, wq_ci2, wq_ci3, wq_ci4, wq_ci5, wq_ci6, wq_athrow, wq_ireturn, wq_freturn, wq_dreturn, wq_areturn, wq_return, wsw_n, wsw_c, aft_i, gf_1, gf_2, gf_3, rv_s, okst_0, okst_s, is2_int, is2_float, is2_ref, is2_retAddr, List.getElem?_cons_zero, List.getElem?_cons_succ, List.set_cons_zero, List.set_cons_succ, List.length_cons, List.length_nil, Option.toList_some, Option.toList_none, List.cons_append, List.nil_append, List.singleton_append, gL_setI, gD_setI, gR_setI, gN_setI, gK_setI, gx_setI, gc_setI, gs_setI, gI_setL, gD_setL, gR_setL, gN_setL, gK_setL, gx_setL, gc_setL, gs_setL, gI_setD, gL_setD, gR_setD, gN_setD, gK_setD, gx_setD, gc_setD, gs_setD, gI_setR, gL_setR, gD_setR, gN_setR, gK_setR, gx_setR, gc_setR, gs_setR, gL_rowI, gD_rowI, gR_rowI, gN_rowI, gK_rowI, gx_rowI, gc_rowI, gs_rowI, gI_I, gL_L, gD_D, gR_R, gI_row, gI_bmp, gL_bmp, gD_bmp, gR_bmp, gN_bmp, gK_bmp, gx_bmp, gc_bmp, gs_bmp, gK_pS, gN_pS, gI_pS, gD_pS, gR_pS, gx_pS, gc_pS, gs_pS, iv_11, ↓iv_max, ↓iv_min, iv_lt_t, iv_lt_f, iv_le_t, iv_le_f, iv_eq_t, iv_eq_f, iv_lt0_t, iv_lt0_f, iv_gt0_t, iv_gt0_f, iv_le0_t, iv_le0_f, iv_ge0_t, iv_ge0_f, iv_eq0_t, iv_eq0_f, iv_add, iv_sub, iv_mul, iv_nat, iv_lt, iv_le, iv_eq, iv_lt0, iv_gt0, iv_le0, iv_ge0, iv_eq0, iv_cl, bv_01, bv_eq0, lcmp_eq0, ↓reduceIte, Nat.reduceLeDiff, Nat.reduceLT, Nat.reduceAdd, Nat.reduceSub, Nat.reduceEqDiff, Nat.reduceMul, Nat.succ_ne_zero, Nat.zero_lt_succ, Nat.lt_add_one, Nat.add_left_cancel_iff, and_true, true_and, and_false, false_and, and_self, Nat.zero_le, eq_self, true_or, or_true, false_or, or_false, Bool.not_false, Bool.not_true, not_true, not_false_iff, Int.reduceEq, Int.reduceLT, Int.reduceLE, Int.reduceAdd, Int.reduceSub, Int.reduceToNat, Int.reduceNeg, Bool.false_eq_true, Bool.true_eq_false, reduceCtorEq, tk, t0, t1, t2, t3, t4, t5, t6, t7, t8, t9, t10, kcs, ncs, kdr, ksa, nsa, ks1, ks2, ks3, ks4, ks5, sk, s0, s1, s2, s3, s4, kp, kc, nc, kf, nf8, kq, nq, ko, no, sk2, isRA14, iv_inb_t, true_or, or_true, show isRA 15 = true from rfl, show isRA 16 = true from rfl, Int.toNat_natCast]
    refine x_78 hst0 hst2' hw (by omega) (fun σ2 g1 g2 => ?_)
    simp (disch := first | omega | (simp (maxDischargeDepth := 30) only [gK_pS, AWt]; done) | (simp (maxDischargeDepth := 30) only [gK_pS, AWt]; omega)) only [b_148_0, b_148_1, b_148_2, b_148_3, k_148_3, b_148_4, k_148_4, b_148_5, k_148_5, wq_iconst, wq_bipush, wq_fconst, wq_dconst, wq_iload, wq_lload, wq_fload, wq_dload, wq_aload, wq_istore, wq_fstore, wq_astore, wq_lstore, wq_dstore, wq_iinc, wq_iadd, wq_isub, wq_imul, wq_iand, wq_ior, wq_ixor, wq_ishl, wq_ishr, wq_iushr, wq_ladd, wq_lsub, wq_land, wq_lor, wq_lxor, wq_lshl, wq_lushr, wq_idiv, wq_irem, wq_lcmp, wq_fcmp, wq_dcmp, wq_i2l, wq_l2i, wq_i2f, wq_i2d, wq_f2d, wq_fdiv, wq_ddiv, wq_dupi, wq_dupr, wq_dup2, wq_popi, wq_popr, wq_if_eq, wq_ic_eq, wq_if_ne, wq_ic_ne, wq_if_lt, wq_ic_lt, wq_if_ge, wq_ic_ge, wq_if_gt, wq_ic_gt, wq_if_le, wq_ic_le, wq_goto, wq_nop, wq_tsw, wq_getfield, wq_pfi, wq_pfl, wq_pfr, wq_getstatic, wq_iaload, wq_baload, wq_laload, wq_daload, wq_aaload, wq_iastore, wq_bastore, wq_lastore, wq_dastore, wq_aastore, wq_arraylength, wq_new, wq_newarray, wq_anewarray, wq_multi, wq_copy, wq_mmax, wq_mmin, wq_oi, wq_cs0, wq_cs1, wq_cs2, wq_cs3, wq_cs4, wq_cs5, wq_cs6, wq_cs7, wq_cv1, wq_cv2, wq_cv3, wq_cv4, wq_cv5, wq_cv6, wq_ci1, wq_ci2, wq_ci3, wq_ci4, wq_ci5, wq_ci6, wq_athrow, wq_ireturn, wq_freturn, wq_dreturn, wq_areturn, wq_return, wsw_n, wsw_c, aft_i, gf_1, gf_2, gf_3, rv_s, okst_0, okst_s, is2_int, is2_float, is2_ref, is2_retAddr, List.getElem?_cons_zero, List.getElem?_cons_succ, List.set_cons_zero, List.set_cons_succ, List.length_cons, List.length_nil, Option.toList_some, Option.toList_none, List.cons_append, List.nil_append, List.singleton_append, gL_setI, gD_setI, gR_setI, gN_setI, gK_setI, gx_setI, gc_setI, gs_setI, gI_setL, gD_setL, gR_setL, gN_setL, gK_setL, gx_setL, gc_setL, gs_setL, gI_setD, gL_setD, gR_setD, gN_setD, gK_setD, gx_setD, gc_setD, gs_setD, gI_setR, gL_setR, gD_setR, gN_setR, gK_setR, gx_setR, gc_setR, gs_setR, gL_rowI, gD_rowI, gR_rowI, gN_rowI, gK_rowI, gx_rowI, gc_rowI, gs_rowI, gI_I, gL_L, gD_D, gR_R, gI_row, gI_bmp, gL_bmp, gD_bmp, gR_bmp, gN_bmp, gK_bmp, gx_bmp, gc_bmp, gs_bmp, gK_pS, gN_pS, gI_pS, gD_pS, gR_pS, gx_pS, gc_pS, gs_pS, iv_11, ↓iv_max, ↓iv_min, iv_lt_t, iv_lt_f, iv_le_t, iv_le_f, iv_eq_t, iv_eq_f, iv_lt0_t, iv_lt0_f, iv_gt0_t, iv_gt0_f, iv_le0_t, iv_le0_f, iv_ge0_t, iv_ge0_f, iv_eq0_t, iv_eq0_f, iv_add, iv_sub, iv_mul, iv_nat, iv_lt, iv_le, iv_eq, iv_lt0, iv_gt0, iv_le0, iv_ge0, iv_eq0, iv_cl, bv_01, bv_eq0, lcmp_eq0, ↓reduceIte, Nat.reduceLeDiff, Nat.reduceLT, Nat.reduceAdd, Nat.reduceSub, Nat.reduceEqDiff, Nat.reduceMul, Nat.succ_ne_zero, Nat.zero_lt_succ, Nat.lt_add_one, Nat.add_left_cancel_iff, and_true, true_and, and_false, false_and, and_self, Nat.zero_le, eq_self, true_or, or_true, false_or, or_false, Bool.not_false, Bool.not_true, not_true, not_false_iff, Int.reduceEq, Int.reduceLT, Int.reduceLE, Int.reduceAdd, Int.reduceSub, Int.reduceToNat, Int.reduceNeg, Bool.false_eq_true, Bool.true_eq_false, reduceCtorEq, isRA14, iv_inb_t, true_or, or_true, show isRA 15 = true from rfl, show isRA 16 = true from rfl, Int.toNat_natCast]
    refine hQ σ2 ((hf.wk (fun _ hp => Or.inl hp)).tr (g1.wk (fun _ hp => Or.inr hp))) (CS.se g2 hwb.2.2.2.2.2.1 hcb') (fun c hc => ?_)
    have h3 := (h2 c hc).of2 g1 (fun p hp hx => by unfold perm at hp; unfold inS at hx; omega)
    rw [show (fun r => if r * 4 + c < j * 4 then pV b r c else pV a r c) = fun r => pV b r c from funext (fun r => ?_)] at h3
    · exact h3
    · by_cases h : r * 4 + c < j * 4
      · rw [if_pos h]
      · rw [if_neg h, hwa.2.1 r c (hwa.1 r (by omega)), hwb.2.1 r c (hwb.1 r (by omega))]
  | succ k ih =>
    intro j i v3 v4 σ' hi hj hbb
    subst hi
    rw [k_148_1]
    simp (disch := first | omega | (simp (maxDischargeDepth := 30) only [gK_pS, AWt]; done) | (simp (maxDischargeDepth := 30) only [gK_pS, AWt]; omega)) only [b_148_0, b_148_1, b_148_2, b_148_3, k_148_3, b_148_4, k_148_4, b_148_5, k_148_5, wq_iconst, wq_bipush, wq_fconst, wq_dconst, wq_iload, wq_lload, wq_fload, wq_dload, wq_aload, wq_istore, wq_fstore, wq_astore, wq_lstore, wq_dstore, wq_iinc, wq_iadd, wq_isub, wq_imul, wq_iand, wq_ior, wq_ixor, wq_ishl, wq_ishr, wq_iushr, wq_ladd, wq_lsub, wq_land, wq_lor, wq_lxor, wq_lshl, wq_lushr, wq_idiv, wq_irem, wq_lcmp, wq_fcmp, wq_dcmp, wq_i2l, wq_l2i, wq_i2f, wq_i2d, wq_f2d, wq_fdiv, wq_ddiv, wq_dupi, wq_dupr, wq_dup2, wq_popi, wq_popr, wq_if_eq, wq_ic_eq, wq_if_ne, wq_ic_ne, wq_if_lt, wq_ic_lt, wq_if_ge, wq_ic_ge, wq_if_gt, wq_ic_gt, wq_if_le, wq_ic_le, wq_goto, wq_nop, wq_tsw, wq_getfield, wq_pfi, wq_pfl, wq_pfr, wq_getstatic, wq_iaload, wq_baload, wq_laload, wq_daload, wq_aaload, wq_iastore, wq_bastore, wq_lastore, wq_dastore, wq_aastore, wq_arraylength, wq_new, wq_newarray, wq_anewarray, wq_multi, wq_copy, wq_mmax, wq_mmin, wq_oi, wq_cs0, wq_cs1, wq_cs2, wq_cs3, wq_cs4, wq_cs5, wq_cs6, wq_cs7, wq_cv1, wq_cv2, wq_cv3, wq_cv4, wq_cv5, wq_cv6, wq_ci1, wq_ci2, wq_ci3, wq_ci4, wq_ci5, wq_ci6, wq_athrow, wq_ireturn, wq_freturn, wq_dreturn, wq_areturn, wq_return, wsw_n, wsw_c, aft_i, gf_1, gf_2, gf_3, rv_s, okst_0, okst_s, is2_int, is2_float, is2_ref, is2_retAddr, List.getElem?_cons_zero, List.getElem?_cons_succ, List.set_cons_zero, List.set_cons_succ, List.length_cons, List.length_nil, Option.toList_some, Option.toList_none, List.cons_append, List.nil_append, List.singleton_append, gL_setI, gD_setI, gR_setI, gN_setI, gK_setI, gx_setI, gc_setI, gs_setI, gI_setL, gD_setL, gR_setL, gN_setL, gK_setL, gx_setL, gc_setL, gs_setL, gI_setD, gL_setD, gR_setD, gN_setD, gK_setD, gx_setD, gc_setD, gs_setD, gI_setR, gL_setR, gD_setR, gN_setR, gK_setR, gx_setR, gc_setR, gs_setR, gL_rowI, gD_rowI, gR_rowI, gN_rowI, gK_rowI, gx_rowI, gc_rowI, gs_rowI, gI_I, gL_L, gD_D, gR_R, gI_row, gI_bmp, gL_bmp, gD_bmp, gR_bmp, gN_bmp, gK_bmp, gx_bmp, gc_bmp, gs_bmp, gK_pS, gN_pS, gI_pS, gD_pS, gR_pS, gx_pS, gc_pS, gs_pS, iv_11, ↓iv_max, ↓iv_min, iv_lt_t, iv_lt_f, iv_le_t, iv_le_f, iv_eq_t, iv_eq_f, iv_lt0_t, iv_lt0_f, iv_gt0_t, iv_gt0_f, iv_le0_t, iv_le0_f, iv_ge0_t, iv_ge0_f, iv_eq0_t, iv_eq0_f, iv_add, iv_sub, iv_mul, iv_nat, iv_lt, iv_le, iv_eq, iv_lt0, iv_gt0, iv_le0, iv_ge0, iv_eq0, iv_cl, bv_01, bv_eq0, lcmp_eq0, ↓reduceIte, Nat.reduceLeDiff, Nat.reduceLT, Nat.reduceAdd, Nat.reduceSub, Nat.reduceEqDiff, Nat.reduceMul, Nat.succ_ne_zero, Nat.zero_lt_succ, Nat.lt_add_one, Nat.add_left_cancel_iff, and_true, true_and, and_false, false_and, and_self, Nat.zero_le, eq_self, true_or, or_true, false_or, or_false, Bool.not_false, Bool.not_true, not_true, not_false_iff, Int.reduceEq, Int.reduceLT, Int.reduceLE, Int.reduceAdd, Int.reduceSub, Int.reduceToNat, Int.reduceNeg, Bool.false_eq_true, Bool.true_eq_false, reduceCtorEq, isRA14, iv_inb_t, true_or, or_true, show isRA 15 = true from rfl, show isRA 16 = true from rfl, Int.toNat_natCast]
    exact q_148_2 hly hwa hwb hst2 hs2 hcb (r := j) (by omega) (fun σ2 v3 v4 g1 => ih (j + 1) (j + 1) v3 v4 σ2 (by omega) (by omega) g1) 4 0 0 _ σ' (by omega) (by omega) hbb
theorem c_undo_t {σ : St} {Q : Out → St → Prop} {a : PS} {n : Nat} {hs : Nat → PS} (hb : BI σ a n hs) (hn : 0 < n) (hQ : ∀ σ', OF ow σ σ' → BI σ' (hs 0) (n - 1) (fun i => hs (i + 1)) → Q (.inl (some (.int (iv ((n - 1 : Nat) : Int))))) σ') : Ex 100 [.ref 2] σ Q := by
  obtain ⟨hly, hw, hwf, hcs, hkc, free, hHi, h9⟩ := hb
  have hly0 := hly
  obtain ⟨tk, t0, t1, t2, t3, t4, t5, t6, t7, t8, t9, t10, kcs, ncs, rcs, kdr, ksa, nsa, ks1, ks2, ks3, ks4, ks5, hst, hhi, hco⟩ := hly
  have hst0 := hst
  obtain ⟨sk, s0, s1, s2, s3, s4, kp, kc, nc, kf, nf8, rf, kfs, kq, nq, rq, kqs, ko, no, ro, kos⟩ := hst
  have sk : gK σ 3 = 6 := sk
  have s0 : gR σ 3 0 = some 4 := s0
  have s1 : gR σ 3 1 = some 5 := s1
  have s2 : gR σ 3 2 = some 6 := s2
  have s3 : gR σ 3 3 = some 15 := s3
  have s4 : gR σ 3 4 = some 20 := s4
  have kp : gK σ 4 = 5 := kp
  have kc : gK σ 5 = 10 := kc
  have nc : gN σ 5 = 480 := nc
  have kf : gK σ 6 = 14 := kf
  have nf8 : gN σ 6 = 8 := nf8
  have rf : ∀ i, i < 8 → gR σ 6 i = some (7 + i) := rf
  have kfs : ∀ i, i < 8 → gK σ (7 + i) = 5 := kfs
  have kq : gK σ 15 = 14 := kq
  have nq : gN σ 15 = 4 := nq
  have rq : ∀ i, i < 4 → gR σ 15 i = some (16 + i) := rq
  have kqs : ∀ i, i < 4 → gK σ (16 + i) = 5 := kqs
  have ko : gK σ 20 = 16 := ko
  have no : gN σ 20 = 4 := no
  have ro : ∀ i, i < 4 → gR σ 20 i = some (21 + i) := ro
  have kos : ∀ i, i < 4 → gK σ (21 + i) = 1 := kos
  have hk4 := hhi.1
  have hn8 := hHi.2.2.2
  have hf8 := hHi.2.2.1
  have m0 := fun Q => x_145t (Q := Q) hly0 hHi hn
  simp (disch := first | omega | (simp (maxDischargeDepth := 30) only [gK_pS, AWt, tk, t0, t1, t2, t3, t4, t5, t6, t7, t8, t9, t10, kcs, ncs, kdr, ksa, nsa, ks1, ks2, ks3, ks4, ks5, sk, s0, s1, s2, s3, s4, kp, kc, nc, kf, nf8, kq, nq, ko, no, hk4]; done) | (simp (maxDischargeDepth := 30) only [gK_pS, AWt, tk, t0, t1, t2, t3, t4, t5, t6, t7, t8, t9, t10, kcs, ncs, kdr, ksa, nsa, ks1, ks2, ks3, ks4, ks5, sk, s0, s1, s2, s3, s4, kp, kc, nc, kf, nf8, kq, nq, ko, no, hk4]; omega)) only [b_100_0, e_100, wq_iconst, wq_bipush, wq_fconst, wq_dconst, wq_iload, wq_lload, wq_fload, wq_dload, wq_aload, wq_istore, wq_fstore, wq_astore, wq_lstore, wq_dstore, wq_iinc, wq_iadd, wq_isub, wq_imul, wq_iand, wq_ior, wq_ixor, wq_ishl, wq_ishr, wq_iushr, wq_ladd, wq_lsub, wq_land, wq_lor, wq_lxor, wq_lshl, wq_lushr, wq_idiv, wq_irem, wq_lcmp, wq_fcmp, wq_dcmp, wq_i2l, wq_l2i, wq_i2f, wq_i2d, wq_f2d, wq_fdiv, wq_ddiv, wq_dupi, wq_dupr, wq_dup2, wq_popi, wq_popr, wq_if_eq, wq_ic_eq, wq_if_ne, wq_ic_ne, wq_if_lt, wq_ic_lt, wq_if_ge, wq_ic_ge, wq_if_gt, wq_ic_gt, wq_if_le, wq_ic_le, wq_goto, wq_nop, wq_tsw, wq_getfield, wq_pfi, wq_pfl, wq_pfr, wq_getstatic, wq_iaload, wq_baload, wq_laload, wq_daload, wq_aaload, wq_iastore, wq_bastore, wq_lastore, wq_dastore, wq_aastore, wq_arraylength, wq_new, wq_newarray, wq_anewarray, wq_multi, wq_copy, wq_mmax, wq_mmin, wq_oi, wq_cs0, wq_cs1, wq_cs2, wq_cs3, wq_cs4, wq_cs5, wq_cs6, wq_cs7, wq_cv1, wq_cv2, wq_cv3, wq_cv4, wq_cv5, wq_cv6, wq_ci1, wq_ci2, wq_ci3, wq_ci4, wq_ci5, wq_ci6, wq_athrow, wq_ireturn, wq_freturn, wq_dreturn, wq_areturn, wq_return, wsw_n, wsw_c, aft_i, gf_1, gf_2, gf_3, rv_s, okst_0, okst_s, is2_int, is2_float, is2_ref, is2_retAddr, List.getElem?_cons_zero, List.getElem?_cons_succ, List.set_cons_zero, List.set_cons_succ, List.length_cons, List.length_nil, Option.toList_some, Option.toList_none, List.cons_append, List.nil_append, List.singleton_append, gL_setI, gD_setI, gR_setI, gN_setI, gK_setI, gx_setI, gc_setI, gs_setI, gI_setL, gD_setL, gR_setL, gN_setL, gK_setL, gx_setL, gc_setL, gs_setL, gI_setD, gL_setD, gR_setD, gN_setD, gK_setD, gx_setD, gc_setD, gs_setD, gI_setR, gL_setR, gD_setR, gN_setR, gK_setR, gx_setR, gc_setR, gs_setR, gL_rowI, gD_rowI, gR_rowI, gN_rowI, gK_rowI, gx_rowI, gc_rowI, gs_rowI, gI_I, gL_L, gD_D, gR_R, gI_row, gI_bmp, gL_bmp, gD_bmp, gR_bmp, gN_bmp, gK_bmp, gx_bmp, gc_bmp, gs_bmp, gK_pS, gN_pS, gI_pS, gD_pS, gR_pS, gx_pS, gc_pS, gs_pS, iv_11, ↓iv_max, ↓iv_min, iv_lt_t, iv_lt_f, iv_le_t, iv_le_f, iv_eq_t, iv_eq_f, iv_lt0_t, iv_lt0_f, iv_gt0_t, iv_gt0_f, iv_le0_t, iv_le0_f, iv_ge0_t, iv_ge0_f, iv_eq0_t, iv_eq0_f, iv_add, iv_sub, iv_mul, iv_nat, iv_lt, iv_le, iv_eq, iv_lt0, iv_gt0, iv_le0, iv_ge0, iv_eq0, iv_cl, bv_01, bv_eq0, lcmp_eq0, ↓reduceIte, Nat.reduceLeDiff, Nat.reduceLT, Nat.reduceAdd, Nat.reduceSub, Nat.reduceEqDiff, Nat.reduceMul, Nat.succ_ne_zero, Nat.zero_lt_succ, Nat.lt_add_one, Nat.add_left_cancel_iff, and_true, true_and, and_false, false_and, and_self, Nat.zero_le, eq_self, true_or, or_true, false_or, or_false, Bool.not_false, Bool.not_true, not_true, not_false_iff, Int.reduceEq, Int.reduceLT, Int.reduceLE, Int.reduceAdd, Int.reduceSub, Int.reduceToNat, Int.reduceNeg, Bool.false_eq_true, Bool.true_eq_false, reduceCtorEq, tk, t0, t1, t2, t3, t4, t5, t6, t7, t8, t9, t10, kcs, ncs, kdr, ksa, nsa, ks1, ks2, ks3, ks4, ks5, sk, s0, s1, s2, s3, s4, kp, kc, nc, kf, nf8, kq, nq, ko, no, hk4, isRA14, iv_inb_t, true_or, or_true, show isRA 15 = true from rfl, show isRA 16 = true from rfl, Int.toNat_natCast, m0]
  refine x_48 hhi hHi hn (fun σ1 ⟨I, e0⟩ h1 h2 => ?_)
  have e1 : OF (fun p => p = 25) σ σ1 := ⟨⟨I, σ.2.1, by subst e0; rfl⟩, by subst e0; exact hw, fun p hp => ⟨by subst e0; rfl, h1 p hp⟩⟩
  have hly1 := hly0.of e1
  have hK := e1.K
  have hR := e1.R
  have hb0 := h9 0 hn
  have es : 25 + 2 + 22 * ((free + 7) % 8) = 27 + 22 * ((free + 7 - 0) % 8) := by omega
  rw [es]
  generalize hsd : 27 + 22 * ((free + 7 - 0) % 8) = s at hb0
  have hss : 27 ≤ s ∧ s ≤ 181 := by omega
  have hst2 : StL σ1 s := by
    have h7 := hhi.2.2.2.2.2 ((free + 7 - 0) % 8) (by omega)
    rw [show 25 + 2 + 22 * ((free + 7 - 0) % 8) = s by omega] at h7
    exact h7.of e1
  have sk2 : gK σ s = 6 := by rw [← hK]; exact hst2.1
  have hm := hwf.2.2.2.2.2.1
  have hcb1 := hb0.2.of e1 (fun p hp hx => by unfold inS at hp; omega) hb0.1.2.2.2.2.2.1
  simp (disch := first | omega | (simp (maxDischargeDepth := 30) only [gK_pS, AWt, tk, t0, t1, t2, t3, t4, t5, t6, t7, t8, t9, t10, kcs, ncs, kdr, ksa, nsa, ks1, ks2, ks3, ks4, ks5, sk, s0, s1, s2, s3, s4, kp, kc, nc, kf, nf8, kq, nq, ko, no, hK, hR, sk2]; done) | (simp (maxDischargeDepth := 30) only [gK_pS, AWt, tk, t0, t1, t2, t3, t4, t5, t6, t7, t8, t9, t10, kcs, ncs, kdr, ksa, nsa, ks1, ks2, ks3, ks4, ks5, sk, s0, s1, s2, s3, s4, kp, kc, nc, kf, nf8, kq, nq, ko, no, hK, hR, sk2]; omega)) only [b_100_0, e_100, b_148_0, b_148_1, b_148_2, k_148_2, b_148_3, k_148_3, b_148_4, k_148_4, b_148_5, k_148_5, e_148, wq_iconst, wq_bipush, wq_fconst, wq_dconst, wq_iload, wq_lload, wq_fload, wq_dload, wq_aload, wq_istore, wq_fstore, wq_astore, wq_lstore, wq_dstore, wq_iinc, wq_iadd, wq_isub, wq_imul, wq_iand, wq_ior, wq_ixor, wq_ishl, wq_ishr, wq_iushr, wq_ladd, wq_lsub, wq_land, wq_lor, wq_lxor, wq_lshl, wq_lushr, wq_idiv, wq_irem, wq_lcmp, wq_fcmp, wq_dcmp, wq_i2l, wq_l2i, wq_i2f, wq_i2d, wq_f2d, wq_fdiv, wq_ddiv, wq_dupi, wq_dupr, wq_dup2, wq_popi, wq_popr, wq_if_eq, wq_ic_eq, wq_if_ne, wq_ic_ne, wq_if_lt, wq_ic_lt, wq_if_ge, wq_ic_ge, wq_if_gt, wq_ic_gt, wq_if_le, wq_ic_le, wq_goto, wq_nop, wq_tsw, wq_getfield, wq_pfi, wq_pfl, wq_pfr, wq_getstatic, wq_iaload, wq_baload, wq_laload, wq_daload, wq_aaload, wq_iastore, wq_bastore, wq_lastore, wq_dastore, wq_aastore, wq_arraylength, wq_new, wq_newarray, wq_anewarray, wq_multi, wq_copy, wq_mmax, wq_mmin, wq_oi, wq_cs0, wq_cs1, wq_cs2, wq_cs3, wq_cs4, wq_cs5, wq_cs6, wq_cs7, wq_cv1, wq_cv2, wq_cv3, wq_cv4, wq_cv5, wq_cv6, wq_ci1, wq_ci2, wq_ci3, wq_ci4, wq_ci5, wq_ci6, wq_athrow, wq_ireturn, wq_freturn, wq_dreturn, wq_areturn, wq_return, wsw_n, wsw_c, aft_i, gf_1, gf_2, gf_3, rv_s, okst_0, okst_s, is2_int, is2_float, is2_ref, is2_retAddr, List.getElem?_cons_zero, List.getElem?_cons_succ, List.set_cons_zero, List.set_cons_succ, List.length_cons, List.length_nil, Option.toList_some, Option.toList_none, List.cons_append, List.nil_append, List.singleton_append, gL_setI, gD_setI, gR_setI, gN_setI, gK_setI, gx_setI, gc_setI, gs_setI, gI_setL, gD_setL, gR_setL, gN_setL, gK_setL, gx_setL, gc_setL, gs_setL, gI_setD, gL_setD, gR_setD, gN_setD, gK_setD, gx_setD, gc_setD, gs_setD, gI_setR, gL_setR, gD_setR, gN_setR, gK_setR, gx_setR, gc_setR, gs_setR, gL_rowI, gD_rowI, gR_rowI, gN_rowI, gK_rowI, gx_rowI, gc_rowI, gs_rowI, gI_I, gL_L, gD_D, gR_R, gI_row, gI_bmp, gL_bmp, gD_bmp, gR_bmp, gN_bmp, gK_bmp, gx_bmp, gc_bmp, gs_bmp, gK_pS, gN_pS, gI_pS, gD_pS, gR_pS, gx_pS, gc_pS, gs_pS, iv_11, ↓iv_max, ↓iv_min, iv_lt_t, iv_lt_f, iv_le_t, iv_le_f, iv_eq_t, iv_eq_f, iv_lt0_t, iv_lt0_f, iv_gt0_t, iv_gt0_f, iv_le0_t, iv_le0_f, iv_ge0_t, iv_ge0_f, iv_eq0_t, iv_eq0_f, iv_add, iv_sub, iv_mul, iv_nat, iv_lt, iv_le, iv_eq, iv_lt0, iv_gt0, iv_le0, iv_ge0, iv_eq0, iv_cl, bv_01, bv_eq0, lcmp_eq0, ↓reduceIte, Nat.reduceLeDiff, Nat.reduceLT, Nat.reduceAdd, Nat.reduceSub, Nat.reduceEqDiff, Nat.reduceMul, Nat.succ_ne_zero, Nat.zero_lt_succ, Nat.lt_add_one, Nat.add_left_cancel_iff, and_true, true_and, and_false, false_and, and_self, Nat.zero_le, eq_self, true_or, or_true, false_or, or_false, Bool.not_false, Bool.not_true, not_true, not_false_iff, Int.reduceEq, Int.reduceLT, Int.reduceLE, Int.reduceAdd, Int.reduceSub, Int.reduceToNat, Int.reduceNeg, Bool.false_eq_true, Bool.true_eq_false, reduceCtorEq, tk, t0, t1, t2, t3, t4, t5, t6, t7, t8, t9, t10, kcs, ncs, kdr, ksa, nsa, ks1, ks2, ks3, ks4, ks5, sk, s0, s1, s2, s3, s4, kp, kc, nc, kf, nf8, kq, nq, ko, no, hK, hR, sk2, isRA14, iv_inb_t, true_or, or_true, show isRA 15 = true from rfl, show isRA 16 = true from rfl, Int.toNat_natCast]
  refine q_148_1 hly1 hwf hb0.1 hst2 hss hcb1 (fun σ2 g1 g2 g3 => ?_) 120 0 0 _ _ σ1 (by omega) (by omega) ⟨OF.rf e1.2.1, fun r hr c hc => ?_, fun c hc => ?_⟩
  · have hly2 := hly1.of g1
    have hK2 := g1.K
    have hR2 := g1.R
    have hH2 : HiS σ2 25 ((free + 7) % 8) (n - 1) := by
      obtain ⟨q1, q2, q3, q4⟩ := h2
      refine ⟨?_, ?_, q3, q4⟩
      · rw [(g1.2.2 25 (by unfold cellT inS; omega)).2]; exact q1
      · rw [(g1.2.2 25 (by unfold cellT inS; omega)).2]; exact q2
    have hhi2 : HiL σ2 25 := (hhi.of e1).of g1
    have m46 := fun Q => x_46 (Q := Q) hhi2 hH2
    simp (disch := first | omega | (simp (maxDischargeDepth := 30) only [gK_pS, AWt, tk, t0, t1, t2, t3, t4, t5, t6, t7, t8, t9, t10, kcs, ncs, kdr, ksa, nsa, ks1, ks2, ks3, ks4, ks5, sk, s0, s1, s2, s3, s4, kp, kc, nc, kf, nf8, kq, nq, ko, no, hK, hR, hK2, hR2, hk4]; done) | (simp (maxDischargeDepth := 30) only [gK_pS, AWt, tk, t0, t1, t2, t3, t4, t5, t6, t7, t8, t9, t10, kcs, ncs, kdr, ksa, nsa, ks1, ks2, ks3, ks4, ks5, sk, s0, s1, s2, s3, s4, kp, kc, nc, kf, nf8, kq, nq, ko, no, hK, hR, hK2, hR2, hk4]; omega)) only [b_100_0, e_100, wq_iconst, wq_bipush, wq_fconst, wq_dconst, wq_iload, wq_lload, wq_fload, wq_dload, wq_aload, wq_istore, wq_fstore, wq_astore, wq_lstore, wq_dstore, wq_iinc, wq_iadd, wq_isub, wq_imul, wq_iand, wq_ior, wq_ixor, wq_ishl, wq_ishr, wq_iushr, wq_ladd, wq_lsub, wq_land, wq_lor, wq_lxor, wq_lshl, wq_lushr, wq_idiv, wq_irem, wq_lcmp, wq_fcmp, wq_dcmp, wq_i2l, wq_l2i, wq_i2f, wq_i2d, wq_f2d, wq_fdiv, wq_ddiv, wq_dupi, wq_dupr, wq_dup2, wq_popi, wq_popr, wq_if_eq, wq_ic_eq, wq_if_ne, wq_ic_ne, wq_if_lt, wq_ic_lt, wq_if_ge, wq_ic_ge, wq_if_gt, wq_ic_gt, wq_if_le, wq_ic_le, wq_goto, wq_nop, wq_tsw, wq_getfield, wq_pfi, wq_pfl, wq_pfr, wq_getstatic, wq_iaload, wq_baload, wq_laload, wq_daload, wq_aaload, wq_iastore, wq_bastore, wq_lastore, wq_dastore, wq_aastore, wq_arraylength, wq_new, wq_newarray, wq_anewarray, wq_multi, wq_copy, wq_mmax, wq_mmin, wq_oi, wq_cs0, wq_cs1, wq_cs2, wq_cs3, wq_cs4, wq_cs5, wq_cs6, wq_cs7, wq_cv1, wq_cv2, wq_cv3, wq_cv4, wq_cv5, wq_cv6, wq_ci1, wq_ci2, wq_ci3, wq_ci4, wq_ci5, wq_ci6, wq_athrow, wq_ireturn, wq_freturn, wq_dreturn, wq_areturn, wq_return, wsw_n, wsw_c, aft_i, gf_1, gf_2, gf_3, rv_s, okst_0, okst_s, is2_int, is2_float, is2_ref, is2_retAddr, List.getElem?_cons_zero, List.getElem?_cons_succ, List.set_cons_zero, List.set_cons_succ, List.length_cons, List.length_nil, Option.toList_some, Option.toList_none, List.cons_append, List.nil_append, List.singleton_append, gL_setI, gD_setI, gR_setI, gN_setI, gK_setI, gx_setI, gc_setI, gs_setI, gI_setL, gD_setL, gR_setL, gN_setL, gK_setL, gx_setL, gc_setL, gs_setL, gI_setD, gL_setD, gR_setD, gN_setD, gK_setD, gx_setD, gc_setD, gs_setD, gI_setR, gL_setR, gD_setR, gN_setR, gK_setR, gx_setR, gc_setR, gs_setR, gL_rowI, gD_rowI, gR_rowI, gN_rowI, gK_rowI, gx_rowI, gc_rowI, gs_rowI, gI_I, gL_L, gD_D, gR_R, gI_row, gI_bmp, gL_bmp, gD_bmp, gR_bmp, gN_bmp, gK_bmp, gx_bmp, gc_bmp, gs_bmp, gK_pS, gN_pS, gI_pS, gD_pS, gR_pS, gx_pS, gc_pS, gs_pS, iv_11, ↓iv_max, ↓iv_min, iv_lt_t, iv_lt_f, iv_le_t, iv_le_f, iv_eq_t, iv_eq_f, iv_lt0_t, iv_lt0_f, iv_gt0_t, iv_gt0_f, iv_le0_t, iv_le0_f, iv_ge0_t, iv_ge0_f, iv_eq0_t, iv_eq0_f, iv_add, iv_sub, iv_mul, iv_nat, iv_lt, iv_le, iv_eq, iv_lt0, iv_gt0, iv_le0, iv_ge0, iv_eq0, iv_cl, bv_01, bv_eq0, lcmp_eq0, ↓reduceIte, Nat.reduceLeDiff, Nat.reduceLT, Nat.reduceAdd, Nat.reduceSub, Nat.reduceEqDiff, Nat.reduceMul, Nat.succ_ne_zero, Nat.zero_lt_succ, Nat.lt_add_one, Nat.add_left_cancel_iff, and_true, true_and, and_false, false_and, and_self, Nat.zero_le, eq_self, true_or, or_true, false_or, or_false, Bool.not_false, Bool.not_true, not_true, not_false_iff, Int.reduceEq, Int.reduceLT, Int.reduceLE, Int.reduceAdd, Int.reduceSub, Int.reduceToNat, Int.reduceNeg, Bool.false_eq_true, Bool.true_eq_false, reduceCtorEq, tk, t0, t1, t2, t3, t4, t5, t6, t7, t8, t9, t10, kcs, ncs, kdr, ksa, nsa, ks1, ks2, ks3, ks4, ks5, sk, s0, s1, s2, s3, s4, kp, kc, nc, kf, nf8, kq, nq, ko, no, hK, hR, hK2, hR2, hk4, isRA14, iv_inb_t, true_or, or_true, show isRA 15 = true from rfl, show isRA 16 = true from rfl, Int.toNat_natCast, m46]
    have e3 := (e1.wk (T' := ow) (fun p hp => by unfold ow; omega)).tr (g1.wk (T' := ow) (fun p hp => by unfold cellT inS at hp; unfold ow; omega))
    refine hQ σ2 e3 ⟨hly2, g1.2.1, hb0.1, g2, g3, (free + 7) % 8, hH2, fun i hi => ?_⟩
    have h5 := h9 (i + 1) (by omega)
    rw [show ((free + 7) % 8 + 7 - i) % 8 = (free + 7 - (i + 1)) % 8 by omega]
    refine ⟨h5.1, (h5.2.of e1 (fun p hp hx => by unfold inS at hp; omega) h5.1.2.2.2.2.2.1).of g1 (fun p hp hx => by unfold inS at hp; unfold cellT inS at hx; omega) h5.1.2.2.2.2.2.1⟩
  · have c2 := hcs.2.1 r hr c hc
    rw [(e1.2.2 5 (by omega)).2, if_neg (by omega)]
    exact c2
  · have := (hkc c hc).of2 e1 (fun p hp hx => by unfold perm at hp; omega)
    simp only [Nat.zero_mul, Nat.not_lt_zero, if_false]
    exact this
