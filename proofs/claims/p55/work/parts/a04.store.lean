/-! THE MAKING: the whole store -/
theorem CoL.nt {T : Nat → Prop} {σ σ' : St} {c d k m : Nat} (h : NT T σ σ' d k m) (ht : ∀ p, c ≤ p → p ≤ c + 152 → p < gx σ + 2 ∧ ¬ T p) (hl : CoL σ c) : CoL σ' c := by
  have g : ∀ p, c ≤ p → p ≤ c + 152 → gK σ' p = gK σ p ∧ gN σ' p = gN σ p ∧ gR σ' p = gR σ p := fun p h1 h2 => by
    obtain ⟨c1, c2, -, -, c5⟩ := h.2.2.2.1 p (ht p h1 h2).1
    exact ⟨c1, c2, c5 (ht p h1 h2).2⟩
  obtain ⟨f0, f1, f2, f3, f4, f5, f6, f7, f8, f9, f10, f11, f12, f13, f14, f15, f16, f17, f18, f19, f20, f21, f22, f23, f24, f25, f26, f27⟩ := hl
  refine ⟨?_, ?_, ?_, ?_, ?_, ?_, ?_, ?_, ?_, ?_, ?_, ?_, fun i hi => ?_, ?_, ?_, fun i hi => ?_, ?_, ?_, fun i hi => ?_, fun i hi => ?_, fun i hi => ?_, fun i hi => ?_, ?_, ?_, ?_, ?_, ?_, ?_⟩
  · rw [(g _ (by omega) (by omega)).1]; exact f0
  · rw [(g _ (by omega) (by omega)).2.2]; exact f1
  · rw [(g _ (by omega) (by omega)).2.2]; exact f2
  · rw [(g _ (by omega) (by omega)).2.2]; exact f3
  · rw [(g _ (by omega) (by omega)).2.2]; exact f4
  · rw [(g _ (by omega) (by omega)).2.2]; exact f5
  · rw [(g _ (by omega) (by omega)).2.2]; exact f6
  · rw [(g _ (by omega) (by omega)).2.2]; exact f7
  · rw [(g _ (by omega) (by omega)).2.2]; exact f8
  · rw [(g _ (by omega) (by omega)).2.2]; exact f9
  · rw [(g _ (by omega) (by omega)).1]; exact f10
  · rw [(g _ (by omega) (by omega)).2.1]; exact f11
  · rw [(g _ (by omega) (by omega)).2.2]; exact f12 i hi
  · rw [(g _ (by omega) (by omega)).1]; exact f13
  · rw [(g _ (by omega) (by omega)).2.1]; exact f14
  · rw [(g _ (by omega) (by omega)).2.2]; exact f15 i hi
  · rw [(g _ (by omega) (by omega)).1]; exact f16
  · rw [(g _ (by omega) (by omega)).2.1]; exact f17
  · rw [(g _ (by omega) (by omega)).2.2]; exact f18 i hi
  · rw [(g _ (by omega) (by omega)).1]; exact f19 i hi
  · rw [(g _ (by omega) (by omega)).1]; exact f20 i hi
  · rw [(g _ (by omega) (by omega)).1]; exact f21 i hi
  · rw [(g _ (by omega) (by omega)).1]; exact f22
  · rw [(g _ (by omega) (by omega)).1]; exact f23
  · rw [(g _ (by omega) (by omega)).1]; exact f24
  · rw [(g _ (by omega) (by omega)).1]; exact f25
  · rw [(g _ (by omega) (by omega)).1]; exact f26
  · rw [(g _ (by omega) (by omega)).1]; exact f27
theorem GrL.nt {T : Nat → Prop} {σ σ' : St} {d k m : Nat} (h : NT T σ σ' d k m) (ht : ∀ p, 204 ≤ p → p ≤ 218 → p < gx σ + 2 ∧ ¬ T p) (hl : GrL σ) : GrL σ' := by
  have g : ∀ p, 204 ≤ p → p ≤ 218 → gK σ' p = gK σ p ∧ gN σ' p = gN σ p ∧ gR σ' p = gR σ p := fun p h1 h2 => by
    obtain ⟨c1, c2, -, -, c5⟩ := h.2.2.2.1 p (ht p h1 h2).1
    exact ⟨c1, c2, c5 (ht p h1 h2).2⟩
  obtain ⟨gk, gr0, gr1, gr2, gr3, gr4, gka, gna, gkb, gnb, gkc, gnc, gkd, gnd, gd0, gd1, gd2, gd3, gd4, gs0, gs1, gs2, gs3, gs4, gke, gne, ge0, ge1, ge2, ge3, gt0, gt1, gt2, gt3⟩ := hl
  refine ⟨?_, ?_, ?_, ?_, ?_, ?_, ?_, ?_, ?_, ?_, ?_, ?_, ?_, ?_, ?_, ?_, ?_, ?_, ?_, ?_, ?_, ?_, ?_, ?_, ?_, ?_, ?_, ?_, ?_, ?_, ?_, ?_, ?_, ?_⟩
  · rw [(g _ (by omega) (by omega)).1]; exact gk
  · rw [(g _ (by omega) (by omega)).2.2]; exact gr0
  · rw [(g _ (by omega) (by omega)).2.2]; exact gr1
  · rw [(g _ (by omega) (by omega)).2.2]; exact gr2
  · rw [(g _ (by omega) (by omega)).2.2]; exact gr3
  · rw [(g _ (by omega) (by omega)).2.2]; exact gr4
  · rw [(g _ (by omega) (by omega)).1]; exact gka
  · rw [(g _ (by omega) (by omega)).2.1]; exact gna
  · rw [(g _ (by omega) (by omega)).1]; exact gkb
  · rw [(g _ (by omega) (by omega)).2.1]; exact gnb
  · rw [(g _ (by omega) (by omega)).1]; exact gkc
  · rw [(g _ (by omega) (by omega)).2.1]; exact gnc
  · rw [(g _ (by omega) (by omega)).1]; exact gkd
  · rw [(g _ (by omega) (by omega)).2.1]; exact gnd
  · rw [(g _ (by omega) (by omega)).2.2]; exact gd0
  · rw [(g _ (by omega) (by omega)).2.2]; exact gd1
  · rw [(g _ (by omega) (by omega)).2.2]; exact gd2
  · rw [(g _ (by omega) (by omega)).2.2]; exact gd3
  · rw [(g _ (by omega) (by omega)).2.2]; exact gd4
  · rw [(g _ (by omega) (by omega)).1]; exact gs0
  · rw [(g _ (by omega) (by omega)).1]; exact gs1
  · rw [(g _ (by omega) (by omega)).1]; exact gs2
  · rw [(g _ (by omega) (by omega)).1]; exact gs3
  · rw [(g _ (by omega) (by omega)).1]; exact gs4
  · rw [(g _ (by omega) (by omega)).1]; exact gke
  · rw [(g _ (by omega) (by omega)).2.1]; exact gne
  · rw [(g _ (by omega) (by omega)).2.2]; exact ge0
  · rw [(g _ (by omega) (by omega)).2.2]; exact ge1
  · rw [(g _ (by omega) (by omega)).2.2]; exact ge2
  · rw [(g _ (by omega) (by omega)).2.2]; exact ge3
  · rw [(g _ (by omega) (by omega)).1]; exact gt0
  · rw [(g _ (by omega) (by omega)).1]; exact gt1
  · rw [(g _ (by omega) (by omega)).1]; exact gt2
  · rw [(g _ (by omega) (by omega)).1]; exact gt3
theorem HiL.nt {T : Nat → Prop} {σ σ' : St} {s d k m : Nat} (h : NT T σ σ' d k m) (ht : ∀ p, s ≤ p → p ≤ s + 177 → p < gx σ + 2 ∧ ¬ T p) (hl : HiL σ s) : HiL σ' s := by
  obtain ⟨a1, a2, a3, a4, a5, a6⟩ := hl
  obtain ⟨b1, b2, -, -, b5⟩ := h.2.2.2.1 s (ht s (by omega) (by omega)).1
  obtain ⟨c1, c2, -, -, c5⟩ := h.2.2.2.1 (s + 1) (ht (s + 1) (by omega) (by omega)).1
  refine ⟨by rw [b1]; exact a1, by rw [b5 (ht s (by omega) (by omega)).2]; exact a2, by rw [c1]; exact a3, by rw [c2]; exact a4, fun i hi => by rw [c5 (ht (s + 1) (by omega) (by omega)).2]; exact a5 i hi, fun i hi => (a6 i hi).nt h (fun p h1 h2 => ht p (by omega) (by omega))⟩
def tbl : Nat → Nat := fun j => ([3, 25, 203, 204, 219, 220, 221, 222, 223, 224, 225] : List Nat).getD j 0
def RR (k : Nat) (σ : St) : Prop := gK σ 2 = 7 ∧ ∀ j, j < k → gR σ 2 j = some (tbl j)
theorem RR.st {k x d a b : Nat} {σ σ' : St} (h : RR k σ) (hn : NT (fun _ => False) σ σ' d a b) (hx : 1 ≤ gx σ) (ht : tbl k = x) : RR (k + 1) (setR σ' 2 k (some x)) := by
  obtain ⟨c1, -, -, -, c5⟩ := hn.2.2.2.1 2 (by omega)
  refine ⟨c1.trans h.1, fun j hj => ?_⟩
  by_cases e : j = k
  · rw [gR_Re ⟨rfl, e⟩, e, ht]
  · rw [gR_Rn (Or.inr e), c5 id]
    exact h.2 j (by omega)
theorem RR.k {k d a b : Nat} {σ σ' : St} (h : RR k σ) (hn : NT (fun _ => False) σ σ' d a b) (hx : 1 ≤ gx σ) : gK σ' 2 = 7 := (hn.2.2.2.1 2 (by omega)).1.trans h.1
theorem q_79_1 {σ : St} {Q : Out → St → Prop} (hx : gx σ = 224) (h2 : RR 11 σ) (k2 : gK σ 203 = 15) (n2 : gN σ 203 = 4) (hQ : ∀ σ', NT (fun p => p = 203) σ σ' 612 612 1800 → (∀ i, i < 4 → gR σ' 203 i = some (226 + 153 * i) ∧ CoL σ' (226 + 153 * i)) → Q (.inl none) σ') : ∀ (k j : Nat) (i : Int) (σ' : St), i = j → j + k = 4 → NT (fun p => p = 203) σ σ' (153 * j) (153 * j) (450 * j) → (∀ i, i < j → gR σ' 203 i = some (226 + 153 * i) ∧ CoL σ' (226 + 153 * i)) → Wp 79 (blk 79 1, [.ref 2, .int (iv i)], [], σ') Q := by
  intro k
  induction k with
  | zero =>
    intro j i σ' hi hj hf h1
    have e4 : j = 4 := by omega
    subst e4
    rw [k_79_1]
    simp (disch := first | omega | (simp (maxDischargeDepth := 30) only [gK_pS, AWt]; done) | (simp (maxDischargeDepth := 30) only [gK_pS, AWt]; omega)) only [b_79_0, b_79_1, b_79_2, k_79_2, wq_iconst, wq_bipush, wq_fconst, wq_dconst, wq_iload, wq_lload, wq_fload, wq_dload, wq_aload, wq_istore, wq_fstore, wq_astore, wq_lstore, wq_dstore, wq_iinc, wq_iadd, wq_isub, wq_imul, wq_iand, wq_ior, wq_ixor, wq_ishl, wq_ishr, wq_iushr, wq_ladd, wq_lsub, wq_land, wq_lor, wq_lxor, wq_lshl, wq_lushr, wq_idiv, wq_irem, wq_lcmp, wq_fcmp, wq_dcmp, wq_i2l, wq_l2i, wq_i2f, wq_i2d, wq_f2d, wq_fdiv, wq_ddiv, wq_dupi, wq_dupr, wq_dup2, wq_popi, wq_popr, wq_if_eq, wq_ic_eq, wq_if_ne, wq_ic_ne, wq_if_lt, wq_ic_lt, wq_if_ge, wq_ic_ge, wq_if_gt, wq_ic_gt, wq_if_le, wq_ic_le, wq_goto, wq_nop, wq_tsw, wq_getfield, wq_pfi, wq_pfl, wq_pfr, wq_getstatic, wq_iaload, wq_baload, wq_laload, wq_daload, wq_aaload, wq_iastore, wq_bastore, wq_lastore, wq_dastore, wq_aastore, wq_arraylength, wq_new, wq_newarray, wq_anewarray, wq_multi, wq_copy, wq_mmax, wq_mmin, wq_oi, wq_cs0, wq_cs1, wq_cs2, wq_cs3, wq_cs4, wq_cs5, wq_cs6, wq_cs7, wq_cv1, wq_cv2, wq_cv3, wq_cv4, wq_cv5, wq_cv6, wq_ci1, wq_ci2, wq_ci3, wq_ci4, wq_ci5, wq_ci6, wq_athrow, wq_ireturn, wq_freturn, wq_dreturn, wq_areturn, wq_return, wsw_n, wsw_c, aft_i, gf_1, gf_2, gf_3, rv_s, okst_0, okst_s, is2_int, is2_float, is2_ref, is2_retAddr, List.getElem?_cons_zero, List.getElem?_cons_succ, List.set_cons_zero, List.set_cons_succ, List.length_cons, List.length_nil, Option.toList_some, Option.toList_none, List.cons_append, List.nil_append, List.singleton_append, gL_setI, gD_setI, gR_setI, gN_setI, gK_setI, gx_setI, gc_setI, gs_setI, gI_setL, gD_setL, gR_setL, gN_setL, gK_setL, gx_setL, gc_setL, gs_setL, gI_setD, gL_setD, gR_setD, gN_setD, gK_setD, gx_setD, gc_setD, gs_setD, gI_setR, gL_setR, gD_setR, gN_setR, gK_setR, gx_setR, gc_setR, gs_setR, gL_rowI, gD_rowI, gR_rowI, gN_rowI, gK_rowI, gx_rowI, gc_rowI, gs_rowI, gI_I, gL_L, gD_D, gR_R, gI_row, gI_bmp, gL_bmp, gD_bmp, gR_bmp, gN_bmp, gK_bmp, gx_bmp, gc_bmp, gs_bmp, gK_pS, gN_pS, gI_pS, gD_pS, gR_pS, gx_pS, gc_pS, gs_pS, iv_11, ↓iv_max, ↓iv_min, iv_lt_t, iv_lt_f, iv_le_t, iv_le_f, iv_eq_t, iv_eq_f, iv_lt0_t, iv_lt0_f, iv_gt0_t, iv_gt0_f, iv_le0_t, iv_le0_f, iv_ge0_t, iv_ge0_f, iv_eq0_t, iv_eq0_f, iv_add, iv_sub, iv_mul, iv_nat, iv_lt, iv_le, iv_eq, iv_lt0, iv_gt0, iv_le0, iv_ge0, iv_eq0, iv_cl, bv_01, bv_eq0, lcmp_eq0, ↓reduceIte, Nat.reduceLeDiff, Nat.reduceLT, Nat.reduceAdd, Nat.reduceSub, Nat.reduceEqDiff, Nat.reduceMul, Nat.succ_ne_zero, Nat.zero_lt_succ, Nat.lt_add_one, Nat.add_left_cancel_iff, and_true, true_and, and_false, false_and, and_self, Nat.zero_le, eq_self, true_or, or_true, false_or, or_false, Bool.not_false, Bool.not_true, not_true, not_false_iff, Int.reduceEq, Int.reduceLT, Int.reduceLE, Int.reduceAdd, Int.reduceSub, Int.reduceToNat, Int.reduceNeg, Bool.false_eq_true, Bool.true_eq_false, reduceCtorEq, isRA14, iv_inb_t, true_or, or_true, show isRA 15 = true from rfl, show isRA 16 = true from rfl, Int.toNat_natCast]
    exact hQ σ' hf h1
  | succ k ih =>
    intro j i σ' hi hj hf h1
    have hx' := hf.1
    have e3 : i.toNat = j := by omega
    have a1 : gK σ' 2 = 7 := by rw [(hf.2.2.2.1 2 (by omega)).1]; exact h2.1
    have a2 : gR σ' 2 2 = some 203 := by rw [(hf.2.2.2.1 2 (by omega)).2.2.2.2 (by omega)]; exact h2.2 2 (by omega)
    have n5 : nf 0 = 9 := rfl
    have a6 : gK (al σ' 0 9) (gx σ' + 2) = 0 := al_Ke rfl
    rw [k_79_1]
    simp (disch := first | omega | (simp (maxDischargeDepth := 30) only [gK_pS, AWt, a1, a2, a6]; done) | (simp (maxDischargeDepth := 30) only [gK_pS, AWt, a1, a2, a6]; omega)) only [b_79_0, b_79_1, b_79_2, k_79_2, wq_iconst, wq_bipush, wq_fconst, wq_dconst, wq_iload, wq_lload, wq_fload, wq_dload, wq_aload, wq_istore, wq_fstore, wq_astore, wq_lstore, wq_dstore, wq_iinc, wq_iadd, wq_isub, wq_imul, wq_iand, wq_ior, wq_ixor, wq_ishl, wq_ishr, wq_iushr, wq_ladd, wq_lsub, wq_land, wq_lor, wq_lxor, wq_lshl, wq_lushr, wq_idiv, wq_irem, wq_lcmp, wq_fcmp, wq_dcmp, wq_i2l, wq_l2i, wq_i2f, wq_i2d, wq_f2d, wq_fdiv, wq_ddiv, wq_dupi, wq_dupr, wq_dup2, wq_popi, wq_popr, wq_if_eq, wq_ic_eq, wq_if_ne, wq_ic_ne, wq_if_lt, wq_ic_lt, wq_if_ge, wq_ic_ge, wq_if_gt, wq_ic_gt, wq_if_le, wq_ic_le, wq_goto, wq_nop, wq_tsw, wq_getfield, wq_pfi, wq_pfl, wq_pfr, wq_getstatic, wq_iaload, wq_baload, wq_laload, wq_daload, wq_aaload, wq_iastore, wq_bastore, wq_lastore, wq_dastore, wq_aastore, wq_arraylength, wq_new, wq_newarray, wq_anewarray, wq_multi, wq_copy, wq_mmax, wq_mmin, wq_oi, wq_cs0, wq_cs1, wq_cs2, wq_cs3, wq_cs4, wq_cs5, wq_cs6, wq_cs7, wq_cv1, wq_cv2, wq_cv3, wq_cv4, wq_cv5, wq_cv6, wq_ci1, wq_ci2, wq_ci3, wq_ci4, wq_ci5, wq_ci6, wq_athrow, wq_ireturn, wq_freturn, wq_dreturn, wq_areturn, wq_return, wsw_n, wsw_c, aft_i, gf_1, gf_2, gf_3, rv_s, okst_0, okst_s, is2_int, is2_float, is2_ref, is2_retAddr, List.getElem?_cons_zero, List.getElem?_cons_succ, List.set_cons_zero, List.set_cons_succ, List.length_cons, List.length_nil, Option.toList_some, Option.toList_none, List.cons_append, List.nil_append, List.singleton_append, gL_setI, gD_setI, gR_setI, gN_setI, gK_setI, gx_setI, gc_setI, gs_setI, gI_setL, gD_setL, gR_setL, gN_setL, gK_setL, gx_setL, gc_setL, gs_setL, gI_setD, gL_setD, gR_setD, gN_setD, gK_setD, gx_setD, gc_setD, gs_setD, gI_setR, gL_setR, gD_setR, gN_setR, gK_setR, gx_setR, gc_setR, gs_setR, gL_rowI, gD_rowI, gR_rowI, gN_rowI, gK_rowI, gx_rowI, gc_rowI, gs_rowI, gI_I, gL_L, gD_D, gR_R, gI_row, gI_bmp, gL_bmp, gD_bmp, gR_bmp, gN_bmp, gK_bmp, gx_bmp, gc_bmp, gs_bmp, gK_pS, gN_pS, gI_pS, gD_pS, gR_pS, gx_pS, gc_pS, gs_pS, iv_11, ↓iv_max, ↓iv_min, iv_lt_t, iv_lt_f, iv_le_t, iv_le_f, iv_eq_t, iv_eq_f, iv_lt0_t, iv_lt0_f, iv_gt0_t, iv_gt0_f, iv_le0_t, iv_le0_f, iv_ge0_t, iv_ge0_f, iv_eq0_t, iv_eq0_f, iv_add, iv_sub, iv_mul, iv_nat, iv_lt, iv_le, iv_eq, iv_lt0, iv_gt0, iv_le0, iv_ge0, iv_eq0, iv_cl, bv_01, bv_eq0, lcmp_eq0, ↓reduceIte, Nat.reduceLeDiff, Nat.reduceLT, Nat.reduceAdd, Nat.reduceSub, Nat.reduceEqDiff, Nat.reduceMul, Nat.succ_ne_zero, Nat.zero_lt_succ, Nat.lt_add_one, Nat.add_left_cancel_iff, and_true, true_and, and_false, false_and, and_self, Nat.zero_le, eq_self, true_or, or_true, false_or, or_false, Bool.not_false, Bool.not_true, not_true, not_false_iff, Int.reduceEq, Int.reduceLT, Int.reduceLE, Int.reduceAdd, Int.reduceSub, Int.reduceToNat, Int.reduceNeg, Bool.false_eq_true, Bool.true_eq_false, reduceCtorEq, a1, a2, a6, isRA14, iv_inb_t, true_or, or_true, show isRA 15 = true from rfl, show isRA 16 = true from rfl, Int.toNat_natCast, n5, e3]
    refine x_0 (σ := al σ' 0 9) (c := gx σ' + 2) (by rw [al_x]) (al_Ke rfl) (fun σ1 g1 s1 => ?_)
    have x1 := g1.1
    rw [al_x] at x1
    have gg := (NT.al (T := fun p => p = 203) (σ := σ') (k := 0) (n := 9)).tf g1 (fun p hp h => by omega)
    have a3 : gK σ1 203 = 15 := by rw [(gg.2.2.2.1 203 (by omega)).1, (hf.2.2.2.1 203 (by omega)).1]; exact k2
    have a4 : gN σ1 203 = 4 := by rw [(gg.2.2.2.1 203 (by omega)).2.1, (hf.2.2.2.1 203 (by omega)).2.1]; exact n2
    have a5 : gK σ1 (gx σ' + 2) = 0 := s1.1
    have e5 : ek 15 = 0 := rfl
    simp (disch := first | omega | (simp (maxDischargeDepth := 30) only [gK_pS, AWt, a3, a4, a5]; done) | (simp (maxDischargeDepth := 30) only [gK_pS, AWt, a3, a4, a5]; omega)) only [b_79_0, b_79_1, b_79_2, k_79_2, wq_iconst, wq_bipush, wq_fconst, wq_dconst, wq_iload, wq_lload, wq_fload, wq_dload, wq_aload, wq_istore, wq_fstore, wq_astore, wq_lstore, wq_dstore, wq_iinc, wq_iadd, wq_isub, wq_imul, wq_iand, wq_ior, wq_ixor, wq_ishl, wq_ishr, wq_iushr, wq_ladd, wq_lsub, wq_land, wq_lor, wq_lxor, wq_lshl, wq_lushr, wq_idiv, wq_irem, wq_lcmp, wq_fcmp, wq_dcmp, wq_i2l, wq_l2i, wq_i2f, wq_i2d, wq_f2d, wq_fdiv, wq_ddiv, wq_dupi, wq_dupr, wq_dup2, wq_popi, wq_popr, wq_if_eq, wq_ic_eq, wq_if_ne, wq_ic_ne, wq_if_lt, wq_ic_lt, wq_if_ge, wq_ic_ge, wq_if_gt, wq_ic_gt, wq_if_le, wq_ic_le, wq_goto, wq_nop, wq_tsw, wq_getfield, wq_pfi, wq_pfl, wq_pfr, wq_getstatic, wq_iaload, wq_baload, wq_laload, wq_daload, wq_aaload, wq_iastore, wq_bastore, wq_lastore, wq_dastore, wq_aastore, wq_arraylength, wq_new, wq_newarray, wq_anewarray, wq_multi, wq_copy, wq_mmax, wq_mmin, wq_oi, wq_cs0, wq_cs1, wq_cs2, wq_cs3, wq_cs4, wq_cs5, wq_cs6, wq_cs7, wq_cv1, wq_cv2, wq_cv3, wq_cv4, wq_cv5, wq_cv6, wq_ci1, wq_ci2, wq_ci3, wq_ci4, wq_ci5, wq_ci6, wq_athrow, wq_ireturn, wq_freturn, wq_dreturn, wq_areturn, wq_return, wsw_n, wsw_c, aft_i, gf_1, gf_2, gf_3, rv_s, okst_0, okst_s, is2_int, is2_float, is2_ref, is2_retAddr, List.getElem?_cons_zero, List.getElem?_cons_succ, List.set_cons_zero, List.set_cons_succ, List.length_cons, List.length_nil, Option.toList_some, Option.toList_none, List.cons_append, List.nil_append, List.singleton_append, gL_setI, gD_setI, gR_setI, gN_setI, gK_setI, gx_setI, gc_setI, gs_setI, gI_setL, gD_setL, gR_setL, gN_setL, gK_setL, gx_setL, gc_setL, gs_setL, gI_setD, gL_setD, gR_setD, gN_setD, gK_setD, gx_setD, gc_setD, gs_setD, gI_setR, gL_setR, gD_setR, gN_setR, gK_setR, gx_setR, gc_setR, gs_setR, gL_rowI, gD_rowI, gR_rowI, gN_rowI, gK_rowI, gx_rowI, gc_rowI, gs_rowI, gI_I, gL_L, gD_D, gR_R, gI_row, gI_bmp, gL_bmp, gD_bmp, gR_bmp, gN_bmp, gK_bmp, gx_bmp, gc_bmp, gs_bmp, gK_pS, gN_pS, gI_pS, gD_pS, gR_pS, gx_pS, gc_pS, gs_pS, iv_11, ↓iv_max, ↓iv_min, iv_lt_t, iv_lt_f, iv_le_t, iv_le_f, iv_eq_t, iv_eq_f, iv_lt0_t, iv_lt0_f, iv_gt0_t, iv_gt0_f, iv_le0_t, iv_le0_f, iv_ge0_t, iv_ge0_f, iv_eq0_t, iv_eq0_f, iv_add, iv_sub, iv_mul, iv_nat, iv_lt, iv_le, iv_eq, iv_lt0, iv_gt0, iv_le0, iv_ge0, iv_eq0, iv_cl, bv_01, bv_eq0, lcmp_eq0, ↓reduceIte, Nat.reduceLeDiff, Nat.reduceLT, Nat.reduceAdd, Nat.reduceSub, Nat.reduceEqDiff, Nat.reduceMul, Nat.succ_ne_zero, Nat.zero_lt_succ, Nat.lt_add_one, Nat.add_left_cancel_iff, and_true, true_and, and_false, false_and, and_self, Nat.zero_le, eq_self, true_or, or_true, false_or, or_false, Bool.not_false, Bool.not_true, not_true, not_false_iff, Int.reduceEq, Int.reduceLT, Int.reduceLE, Int.reduceAdd, Int.reduceSub, Int.reduceToNat, Int.reduceNeg, Bool.false_eq_true, Bool.true_eq_false, reduceCtorEq, a3, a4, a5, isRA14, iv_inb_t, true_or, or_true, show isRA 15 = true from rfl, show isRA 16 = true from rfl, Int.toNat_natCast, e3, e5, show isRA 15 = true from rfl]
    have g3 := gg.tr (NT.setR (T := fun p => p = 203) (p := 203) (j := j) (x := some (gx σ' + 2)) rfl)
    refine ih (j + 1) (i + 1) _ (by omega) (by omega) ?_ (fun l hl => ?_)
    · have g4 := hf.tr g3
      exact ⟨by have := g4.1; omega, by have := g4.2.1; omega, by have := g4.2.2.1; omega, g4.2.2.2.1, g4.2.2.2.2⟩
    · by_cases e : l = j
      · subst e
        have es : gx σ' + 2 = 226 + 153 * l := by omega
        rw [es] at s1 ⊢
        refine ⟨gR_Re ⟨rfl, rfl⟩, s1.nt (NT.setR (T := fun p => p = 203) rfl) (fun p h1 h2 => by omega)⟩
      · obtain ⟨b1, b2⟩ := h1 l (by omega)
        refine ⟨?_, b2.nt g3 (fun p h1 h2 => by omega)⟩
        have h9 : gR σ1 203 = gR (al σ' 0 9) 203 := (g1.2.2.2.1 203 (by rw [al_x]; omega)).2.2.2.2 (by omega)
        rw [gR_Rn (Or.inr e), h9, al_Rn (by omega)]
        exact b1
