/-! GROUPS: how they lie; one group more, a look at one -/
def GrL (σ : St) : Prop := gK σ 204 = 3 ∧ gR σ 204 0 = some 205 ∧ gR σ 204 1 = some 206 ∧ gR σ 204 2 = some 207 ∧ gR σ 204 3 = some 208 ∧ gR σ 204 4 = some 214 ∧ gK σ 205 = 10 ∧ gN σ 205 = 2405 ∧ gK σ 206 = 10 ∧ gN σ 206 = 4 ∧ gK σ 207 = 10 ∧ gN σ 207 = 4 ∧ gK σ 208 = 14 ∧ gN σ 208 = 5 ∧ gR σ 208 0 = some 209 ∧ gR σ 208 1 = some 210 ∧ gR σ 208 2 = some 211 ∧ gR σ 208 3 = some 212 ∧ gR σ 208 4 = some 213 ∧ gK σ 209 = 5 ∧ gK σ 210 = 5 ∧ gK σ 211 = 5 ∧ gK σ 212 = 5 ∧ gK σ 213 = 5 ∧ gK σ 214 = 14 ∧ gN σ 214 = 4 ∧ gR σ 214 0 = some 215 ∧ gR σ 214 1 = some 216 ∧ gR σ 214 2 = some 217 ∧ gR σ 214 3 = some 218 ∧ gK σ 215 = 5 ∧ gK σ 216 = 5 ∧ gK σ 217 = 5 ∧ gK σ 218 = 5
theorem GrL.of {T : Nat → Prop} {σ σ' : St} (h : OF T σ σ') (hl : GrL σ) : GrL σ' := by
  unfold GrL at hl ⊢
  rw [h.K, h.N, h.R]
  exact hl
def gsc (p : Nat) : Prop := sc p ∨ (204 ≤ p ∧ p ≤ 218)
theorem BI.scg {σ σ' : St} {a : PS} {n : Nat} {hs : Nat → PS} (hb : BI σ a n hs) (h : OF gsc σ σ') : BI σ' a n hs := by
  obtain ⟨hly, hw, hwf, hcs, hkc, hh⟩ := hb
  refine ⟨hly.of h, h.2.1, hwf, hcs.of h (fun p hp hx => ?_) hwf.2.2.2.2.2.1, hkc.of h (fun p h1 h2 h3 hx => ?_), hh.of h (fun p h1 h2 hx => ?_)⟩
  · unfold inS at hp
    unfold gsc sc tmp at hx
    omega
  · have g0 := h3 0 (by omega)
    have g1 := h3 1 (by omega)
    have g2 := h3 2 (by omega)
    have g3 := h3 3 (by omega)
    unfold gsc sc at hx
    simp only [Nat.mul_zero, Nat.add_zero, Nat.mul_one, Nat.reduceMul, Nat.reduceAdd] at g0 g1 g2 g3
    rcases hx with (hx | hx | hx | hx | hx) | hx
    · omega
    · exact g0 hx
    · exact g1 hx
    · exact g2 hx
    · exact g3 hx
    · omega
  · unfold gsc sc tmp at hx
    omega
/-- the groups that are there -/
def GC (σ : St) (n : Nat) (g : Nat → Nat → Int) : Prop := gI σ 204 6 = iv (n : Nat) ∧ ∀ i, i < n → ∀ k, k < 5 → gI σ 205 (i * 5 + k) = iv (g i k)
theorem GC.of {T : Nat → Prop} {σ σ' : St} {n : Nat} {g : Nat → Nat → Int} (h : OF T σ σ') (ht : ¬ T 204 ∧ ¬ T 205) (hg : GC σ n g) : GC σ' n g := by
  refine ⟨?_, fun i hi k hk => ?_⟩
  · rw [(h.2.2 204 ht.1).2]; exact hg.1
  · rw [(h.2.2 205 ht.2).2]; exact hg.2 i hi k hk
def grA (g : Nat → Nat → Int) (n : Nat) (cur : Nat → Int) (m : Int) (i k : Nat) : Int := if i = n then (if k < 4 then cur k else m) else g i k
theorem x_44 {σ : St} {Q : Out → St → Prop} {n : Nat} {g : Nat → Nat → Int} {cur : Nat → Int} {m : Int} (hgl : GrL σ) (hw : AW σ) (hgc : GC σ n g) (hn : n < 481) (hcu : ∀ c, c < 4 → gI σ 206 c = iv (cur c)) (hQ : ∀ σ', OF (fun p => p = 204 ∨ p = 205) σ σ' → (∀ k, k ≠ 6 → gI σ' 204 k = gI σ 204 k) → GC σ' (n + 1) (grA g n cur m) → Q (.inl none) σ') : Ex 44 [.ref 204, .int (iv m)] σ Q := by
  obtain ⟨gk, gr0, gr1, gr2, gr3, gr4, gka, gna, gkb, gnb, gkc, gnc, gkd, gnd, gd0, gd1, gd2, gd3, gd4, gs0, gs1, gs2, gs3, gs4, gke, gne, ge0, ge1, ge2, ge3, gt0, gt1, gt2, gt3⟩ := hgl
  obtain ⟨h6, hc⟩ := hgc
  have hn5 := eq_true (show ((n : Int) * 5).toNat ≤ 2401 by omega)
  simp (disch := first | omega | (simp (maxDischargeDepth := 30) only [gK_pS, AWt, gk, gr0, gr1, gr2, gr3, gr4, gka, gna, gkb, gnb, gkc, gnc, gkd, gnd, gd0, gd1, gd2, gd3, gd4, gs0, gs1, gs2, gs3, gs4, gke, gne, ge0, ge1, ge2, ge3, gt0, gt1, gt2, gt3, h6]; done) | (simp (maxDischargeDepth := 30) only [gK_pS, AWt, gk, gr0, gr1, gr2, gr3, gr4, gka, gna, gkb, gnb, gkc, gnc, gkd, gnd, gd0, gd1, gd2, gd3, gd4, gs0, gs1, gs2, gs3, gs4, gke, gne, ge0, ge1, ge2, ge3, gt0, gt1, gt2, gt3, h6]; omega)) only [b_44_0, b_44_1, k_44_1, e_44, wq_iconst, wq_bipush, wq_fconst, wq_dconst, wq_iload, wq_lload, wq_fload, wq_dload, wq_aload, wq_istore, wq_fstore, wq_astore, wq_lstore, wq_dstore, wq_iinc, wq_iadd, wq_isub, wq_imul, wq_iand, wq_ior, wq_ixor, wq_ishl, wq_ishr, wq_iushr, wq_ladd, wq_lsub, wq_land, wq_lor, wq_lxor, wq_lshl, wq_lushr, wq_idiv, wq_irem, wq_lcmp, wq_fcmp, wq_dcmp, wq_i2l, wq_l2i, wq_i2f, wq_i2d, wq_f2d, wq_fdiv, wq_ddiv, wq_dupi, wq_dupr, wq_dup2, wq_popi, wq_popr, wq_if_eq, wq_ic_eq, wq_if_ne, wq_ic_ne, wq_if_lt, wq_ic_lt, wq_if_ge, wq_ic_ge, wq_if_gt, wq_ic_gt, wq_if_le, wq_ic_le, wq_goto, wq_nop, wq_tsw, wq_getfield, wq_pfi, wq_pfl, wq_pfr, wq_getstatic, wq_iaload, wq_baload, wq_laload, wq_daload, wq_aaload, wq_iastore, wq_bastore, wq_lastore, wq_dastore, wq_aastore, wq_arraylength, wq_new, wq_newarray, wq_anewarray, wq_multi, wq_copy, wq_mmax, wq_mmin, wq_oi, wq_cs0, wq_cs1, wq_cs2, wq_cs3, wq_cs4, wq_cs5, wq_cs6, wq_cs7, wq_cv1, wq_cv2, wq_cv3, wq_cv4, wq_cv5, wq_cv6, wq_ci1, wq_ci2, wq_ci3, wq_ci4, wq_ci5, wq_ci6, wq_athrow, wq_ireturn, wq_freturn, wq_dreturn, wq_areturn, wq_return, wsw_n, wsw_c, aft_i, gf_1, gf_2, gf_3, rv_s, okst_0, okst_s, is2_int, is2_float, is2_ref, is2_retAddr, List.getElem?_cons_zero, List.getElem?_cons_succ, List.set_cons_zero, List.set_cons_succ, List.length_cons, List.length_nil, Option.toList_some, Option.toList_none, List.cons_append, List.nil_append, List.singleton_append, gL_setI, gD_setI, gR_setI, gN_setI, gK_setI, gx_setI, gc_setI, gs_setI, gI_setL, gD_setL, gR_setL, gN_setL, gK_setL, gx_setL, gc_setL, gs_setL, gI_setD, gL_setD, gR_setD, gN_setD, gK_setD, gx_setD, gc_setD, gs_setD, gI_setR, gL_setR, gD_setR, gN_setR, gK_setR, gx_setR, gc_setR, gs_setR, gL_rowI, gD_rowI, gR_rowI, gN_rowI, gK_rowI, gx_rowI, gc_rowI, gs_rowI, gI_I, gL_L, gD_D, gR_R, gI_row, gI_bmp, gL_bmp, gD_bmp, gR_bmp, gN_bmp, gK_bmp, gx_bmp, gc_bmp, gs_bmp, gK_pS, gN_pS, gI_pS, gD_pS, gR_pS, gx_pS, gc_pS, gs_pS, iv_11, ↓iv_max, ↓iv_min, iv_lt_t, iv_lt_f, iv_le_t, iv_le_f, iv_eq_t, iv_eq_f, iv_lt0_t, iv_lt0_f, iv_gt0_t, iv_gt0_f, iv_le0_t, iv_le0_f, iv_ge0_t, iv_ge0_f, iv_eq0_t, iv_eq0_f, iv_add, iv_sub, iv_mul, iv_nat, iv_lt, iv_le, iv_eq, iv_lt0, iv_gt0, iv_le0, iv_ge0, iv_eq0, iv_cl, bv_01, bv_eq0, lcmp_eq0, ↓reduceIte, Nat.reduceLeDiff, Nat.reduceLT, Nat.reduceAdd, Nat.reduceSub, Nat.reduceEqDiff, Nat.reduceMul, Nat.succ_ne_zero, Nat.zero_lt_succ, Nat.lt_add_one, Nat.add_left_cancel_iff, and_true, true_and, and_false, false_and, and_self, Nat.zero_le, eq_self, true_or, or_true, false_or, or_false, Bool.not_false, Bool.not_true, not_true, not_false_iff, Int.reduceEq, Int.reduceLT, Int.reduceLE, Int.reduceAdd, Int.reduceSub, Int.reduceToNat, Int.reduceNeg, Bool.false_eq_true, Bool.true_eq_false, reduceCtorEq, gk, gr0, gr1, gr2, gr3, gr4, gka, gna, gkb, gnb, gkc, gnc, gkd, gnd, gd0, gd1, gd2, gd3, gd4, gs0, gs1, gs2, gs3, gs4, gke, gne, ge0, ge1, ge2, ge3, gt0, gt1, gt2, gt3, h6, isRA14, iv_inb_t, true_or, or_true, show isRA 15 = true from rfl, show isRA 16 = true from rfl, Int.toNat_natCast, iv_nat, hn5]
  refine hQ _ (((OF.ri (T := fun p => p = 204 ∨ p = 205) (OF.rf hw) (Or.inr rfl) _).si (Or.inr rfl) _ _).si (Or.inl rfl) _ _) (fun k hk => ?_) ⟨?_, fun i hi k hk => ?_⟩
  · rw [gI_I, if_neg (fun e => hk e.2), gI_I, if_neg (by omega), gI_row, if_neg (by omega)]
  · rw [gI_I, if_pos ⟨rfl, rfl⟩, Int.natCast_succ]
  · rw [gI_I, if_neg (by omega), gI_I]
    unfold grA
    by_cases e : i = n
    · subst e
      by_cases e4 : k < 4
      · rw [if_neg (by omega), gI_row, if_pos rfl, if_pos rfl, if_pos e4]
        unfold va_cpy
        rw [if_pos (by omega), ← hcu k e4]
        congr 1
        omega
      · rw [if_pos (by omega), if_pos rfl, if_neg e4]
    · rw [if_neg (by omega), gI_row, if_pos rfl, if_neg e]
      unfold va_cpy
      rw [if_neg (by omega)]
      exact hc i (by omega) k hk
theorem x_37 {σ : St} {Q : Out → St → Prop} {n : Nat} {g : Nat → Nat → Int} {i k : Int} (hgl : GrL σ) (hgc : GC σ n g) (hn : n ≤ 481) (hi : 0 ≤ i ∧ i < n) (hk : 0 ≤ k ∧ k < 5) : Ex 37 [.ref 204, .int (iv i), .int (iv k)] σ Q = Q (.inl (some (.int (iv (g i.toNat k.toNat))))) σ := by
  obtain ⟨gk, gr0, gr1, gr2, gr3, gr4, gka, gna, gkb, gnb, gkc, gnc, gkd, gnd, gd0, gd1, gd2, gd3, gd4, gs0, gs1, gs2, gs3, gs4, gke, gne, ge0, ge1, ge2, ge3, gt0, gt1, gt2, gt3⟩ := hgl
  obtain ⟨h6, hc⟩ := hgc
  have hc1 := hc i.toNat (by omega) k.toNat (by omega)
  have e1 : (i * 5 + k).toNat = i.toNat * 5 + k.toNat := by omega
  simp (disch := first | omega | (simp (maxDischargeDepth := 30) only [gK_pS, AWt, gk, gr0, gr1, gr2, gr3, gr4, gka, gna, gkb, gnb, gkc, gnc, gkd, gnd, gd0, gd1, gd2, gd3, gd4, gs0, gs1, gs2, gs3, gs4, gke, gne, ge0, ge1, ge2, ge3, gt0, gt1, gt2, gt3, h6]; done) | (simp (maxDischargeDepth := 30) only [gK_pS, AWt, gk, gr0, gr1, gr2, gr3, gr4, gka, gna, gkb, gnb, gkc, gnc, gkd, gnd, gd0, gd1, gd2, gd3, gd4, gs0, gs1, gs2, gs3, gs4, gke, gne, ge0, ge1, ge2, ge3, gt0, gt1, gt2, gt3, h6]; omega)) only [b_37_0, b_37_1, k_37_1, b_37_2, k_37_2, b_37_3, k_37_3, b_37_4, k_37_4, e_37, wq_iconst, wq_bipush, wq_fconst, wq_dconst, wq_iload, wq_lload, wq_fload, wq_dload, wq_aload, wq_istore, wq_fstore, wq_astore, wq_lstore, wq_dstore, wq_iinc, wq_iadd, wq_isub, wq_imul, wq_iand, wq_ior, wq_ixor, wq_ishl, wq_ishr, wq_iushr, wq_ladd, wq_lsub, wq_land, wq_lor, wq_lxor, wq_lshl, wq_lushr, wq_idiv, wq_irem, wq_lcmp, wq_fcmp, wq_dcmp, wq_i2l, wq_l2i, wq_i2f, wq_i2d, wq_f2d, wq_fdiv, wq_ddiv, wq_dupi, wq_dupr, wq_dup2, wq_popi, wq_popr, wq_if_eq, wq_ic_eq, wq_if_ne, wq_ic_ne, wq_if_lt, wq_ic_lt, wq_if_ge, wq_ic_ge, wq_if_gt, wq_ic_gt, wq_if_le, wq_ic_le, wq_goto, wq_nop, wq_tsw, wq_getfield, wq_pfi, wq_pfl, wq_pfr, wq_getstatic, wq_iaload, wq_baload, wq_laload, wq_daload, wq_aaload, wq_iastore, wq_bastore, wq_lastore, wq_dastore, wq_aastore, wq_arraylength, wq_new, wq_newarray, wq_anewarray, wq_multi, wq_copy, wq_mmax, wq_mmin, wq_oi, wq_cs0, wq_cs1, wq_cs2, wq_cs3, wq_cs4, wq_cs5, wq_cs6, wq_cs7, wq_cv1, wq_cv2, wq_cv3, wq_cv4, wq_cv5, wq_cv6, wq_ci1, wq_ci2, wq_ci3, wq_ci4, wq_ci5, wq_ci6, wq_athrow, wq_ireturn, wq_freturn, wq_dreturn, wq_areturn, wq_return, wsw_n, wsw_c, aft_i, gf_1, gf_2, gf_3, rv_s, okst_0, okst_s, is2_int, is2_float, is2_ref, is2_retAddr, List.getElem?_cons_zero, List.getElem?_cons_succ, List.set_cons_zero, List.set_cons_succ, List.length_cons, List.length_nil, Option.toList_some, Option.toList_none, List.cons_append, List.nil_append, List.singleton_append, gL_setI, gD_setI, gR_setI, gN_setI, gK_setI, gx_setI, gc_setI, gs_setI, gI_setL, gD_setL, gR_setL, gN_setL, gK_setL, gx_setL, gc_setL, gs_setL, gI_setD, gL_setD, gR_setD, gN_setD, gK_setD, gx_setD, gc_setD, gs_setD, gI_setR, gL_setR, gD_setR, gN_setR, gK_setR, gx_setR, gc_setR, gs_setR, gL_rowI, gD_rowI, gR_rowI, gN_rowI, gK_rowI, gx_rowI, gc_rowI, gs_rowI, gI_I, gL_L, gD_D, gR_R, gI_row, gI_bmp, gL_bmp, gD_bmp, gR_bmp, gN_bmp, gK_bmp, gx_bmp, gc_bmp, gs_bmp, gK_pS, gN_pS, gI_pS, gD_pS, gR_pS, gx_pS, gc_pS, gs_pS, iv_11, ↓iv_max, ↓iv_min, iv_lt_t, iv_lt_f, iv_le_t, iv_le_f, iv_eq_t, iv_eq_f, iv_lt0_t, iv_lt0_f, iv_gt0_t, iv_gt0_f, iv_le0_t, iv_le0_f, iv_ge0_t, iv_ge0_f, iv_eq0_t, iv_eq0_f, iv_add, iv_sub, iv_mul, iv_nat, iv_lt, iv_le, iv_eq, iv_lt0, iv_gt0, iv_le0, iv_ge0, iv_eq0, iv_cl, bv_01, bv_eq0, lcmp_eq0, ↓reduceIte, Nat.reduceLeDiff, Nat.reduceLT, Nat.reduceAdd, Nat.reduceSub, Nat.reduceEqDiff, Nat.reduceMul, Nat.succ_ne_zero, Nat.zero_lt_succ, Nat.lt_add_one, Nat.add_left_cancel_iff, and_true, true_and, and_false, false_and, and_self, Nat.zero_le, eq_self, true_or, or_true, false_or, or_false, Bool.not_false, Bool.not_true, not_true, not_false_iff, Int.reduceEq, Int.reduceLT, Int.reduceLE, Int.reduceAdd, Int.reduceSub, Int.reduceToNat, Int.reduceNeg, Bool.false_eq_true, Bool.true_eq_false, reduceCtorEq, gk, gr0, gr1, gr2, gr3, gr4, gka, gna, gkb, gnb, gkc, gnc, gkd, gnd, gd0, gd1, gd2, gd3, gd4, gs0, gs1, gs2, gs3, gs4, gke, gne, ge0, ge1, ge2, ge3, gt0, gt1, gt2, gt3, h6, isRA14, iv_inb_t, true_or, or_true, show isRA 15 = true from rfl, show isRA 16 = true from rfl, Int.toNat_natCast, e1, hc1, iv_11]
theorem c_groupAt_t {σ : St} {Q : Out → St → Prop} {a : PS} {n : Nat} {hs : Nat → PS} (hb : BI σ a n hs) {m : Nat} {g : Nat → Nat → Int} {i k : Int} (hgl : GrL σ) (hgc : GC σ m g) (hn : m ≤ 481) (hi : 0 ≤ i ∧ i < m) (hk : 0 ≤ k ∧ k < 5) : Ex 121 [.ref 2, .int (iv i), .int (iv k)] σ Q = Q (.inl (some (.int (iv (g i.toNat k.toNat))))) σ := by
  obtain ⟨hly, hw, hwf, hcs, hkc, -⟩ := hb
  have m1 := fun Q => x_37 (Q := Q) hgl hgc hn hi hk
  have hly0 := hly
  obtain ⟨tk, t0, t1, t2, t3, t4, t5, t6, t7, t8, t9, t10, kcs, ncs, rcs, kdr, ksa, nsa, ks1, ks2, ks3, ks4, ks5, hst, hhi, hco⟩ := hly
  have hst0 := hst
  obtain ⟨sk, s0, s1, s2, s3, s4, kp, kc, nc, kf, nf8, rf, kfs, kq, nq, rq, kqs, ko, no, ro, kos⟩ := hst
  have sk : gK σ 3 = 6 := sk
  have s0 : gR σ 3 0 = some 4 := s0
  have s1 : gR σ 3 1 = some 5 := s1
  have s2 : gR σ 3 2 = some 6 := s2
  have s3 : gR σ 3 3 = some 15 := s3
  have s4 : gR σ 3 4 = some 20 := s4
  have kp : gK σ 4 = 5 := kp
  have kc : gK σ 5 = 10 := kc
  have nc : gN σ 5 = 480 := nc
  have kf : gK σ 6 = 14 := kf
  have nf8 : gN σ 6 = 8 := nf8
  have rf : ∀ i, i < 8 → gR σ 6 i = some (7 + i) := rf
  have kfs : ∀ i, i < 8 → gK σ (7 + i) = 5 := kfs
  have kq : gK σ 15 = 14 := kq
  have nq : gN σ 15 = 4 := nq
  have rq : ∀ i, i < 4 → gR σ 15 i = some (16 + i) := rq
  have kqs : ∀ i, i < 4 → gK σ (16 + i) = 5 := kqs
  have ko : gK σ 20 = 16 := ko
  have no : gN σ 20 = 4 := no
  have ro : ∀ i, i < 4 → gR σ 20 i = some (21 + i) := ro
  have kos : ∀ i, i < 4 → gK σ (21 + i) = 1 := kos
  obtain ⟨gk, gr0, gr1, gr2, gr3, gr4, gka, gna, gkb, gnb, gkc, gnc, gkd, gnd, gd0, gd1, gd2, gd3, gd4, gs0, gs1, gs2, gs3, gs4, gke, gne, ge0, ge1, ge2, ge3, gt0, gt1, gt2, gt3⟩ := hgl
  have h6 := hgc.1
  simp (disch := first | omega | (simp (maxDischargeDepth := 30) only [gK_pS, AWt, tk, t0, t1, t2, t3, t4, t5, t6, t7, t8, t9, t10, kcs, ncs, kdr, ksa, nsa, ks1, ks2, ks3, ks4, ks5, sk, s0, s1, s2, s3, s4, kp, kc, nc, kf, nf8, kq, nq, ko, no, gk, gr0, gr1, gr2, gr3, gr4, gka, gna, gkb, gnb, gkc, gnc, gkd, gnd, gd0, gd1, gd2, gd3, gd4, gs0, gs1, gs2, gs3, gs4, gke, gne, ge0, ge1, ge2, ge3, gt0, gt1, gt2, gt3, h6]; done) | (simp (maxDischargeDepth := 30) only [gK_pS, AWt, tk, t0, t1, t2, t3, t4, t5, t6, t7, t8, t9, t10, kcs, ncs, kdr, ksa, nsa, ks1, ks2, ks3, ks4, ks5, sk, s0, s1, s2, s3, s4, kp, kc, nc, kf, nf8, kq, nq, ko, no, gk, gr0, gr1, gr2, gr3, gr4, gka, gna, gkb, gnb, gkc, gnc, gkd, gnd, gd0, gd1, gd2, gd3, gd4, gs0, gs1, gs2, gs3, gs4, gke, gne, ge0, ge1, ge2, ge3, gt0, gt1, gt2, gt3, h6]; omega)) only [b_121_0, e_121, wq_iconst, wq_bipush, wq_fconst, wq_dconst, wq_iload, wq_lload, wq_fload, wq_dload, wq_aload, wq_istore, wq_fstore, wq_astore, wq_lstore, wq_dstore, wq_iinc, wq_iadd, wq_isub, wq_imul, wq_iand, wq_ior, wq_ixor, wq_ishl, wq_ishr, wq_iushr, wq_ladd, wq_lsub, wq_land, wq_lor, wq_lxor, wq_lshl, wq_lushr, wq_idiv, wq_irem, wq_lcmp, wq_fcmp, wq_dcmp, wq_i2l, wq_l2i, wq_i2f, wq_i2d, wq_f2d, wq_fdiv, wq_ddiv, wq_dupi, wq_dupr, wq_dup2, wq_popi, wq_popr, wq_if_eq, wq_ic_eq, wq_if_ne, wq_ic_ne, wq_if_lt, wq_ic_lt, wq_if_ge, wq_ic_ge, wq_if_gt, wq_ic_gt, wq_if_le, wq_ic_le, wq_goto, wq_nop, wq_tsw, wq_getfield, wq_pfi, wq_pfl, wq_pfr, wq_getstatic, wq_iaload, wq_baload, wq_laload, wq_daload, wq_aaload, wq_iastore, wq_bastore, wq_lastore, wq_dastore, wq_aastore, wq_arraylength, wq_new, wq_newarray, wq_anewarray, wq_multi, wq_copy, wq_mmax, wq_mmin, wq_oi, wq_cs0, wq_cs1, wq_cs2, wq_cs3, wq_cs4, wq_cs5, wq_cs6, wq_cs7, wq_cv1, wq_cv2, wq_cv3, wq_cv4, wq_cv5, wq_cv6, wq_ci1, wq_ci2, wq_ci3, wq_ci4, wq_ci5, wq_ci6, wq_athrow, wq_ireturn, wq_freturn, wq_dreturn, wq_areturn, wq_return, wsw_n, wsw_c, aft_i, gf_1, gf_2, gf_3, rv_s, okst_0, okst_s, is2_int, is2_float, is2_ref, is2_retAddr, List.getElem?_cons_zero, List.getElem?_cons_succ, List.set_cons_zero, List.set_cons_succ, List.length_cons, List.length_nil, Option.toList_some, Option.toList_none, List.cons_append, List.nil_append, List.singleton_append, gL_setI, gD_setI, gR_setI, gN_setI, gK_setI, gx_setI, gc_setI, gs_setI, gI_setL, gD_setL, gR_setL, gN_setL, gK_setL, gx_setL, gc_setL, gs_setL, gI_setD, gL_setD, gR_setD, gN_setD, gK_setD, gx_setD, gc_setD, gs_setD, gI_setR, gL_setR, gD_setR, gN_setR, gK_setR, gx_setR, gc_setR, gs_setR, gL_rowI, gD_rowI, gR_rowI, gN_rowI, gK_rowI, gx_rowI, gc_rowI, gs_rowI, gI_I, gL_L, gD_D, gR_R, gI_row, gI_bmp, gL_bmp, gD_bmp, gR_bmp, gN_bmp, gK_bmp, gx_bmp, gc_bmp, gs_bmp, gK_pS, gN_pS, gI_pS, gD_pS, gR_pS, gx_pS, gc_pS, gs_pS, iv_11, ↓iv_max, ↓iv_min, iv_lt_t, iv_lt_f, iv_le_t, iv_le_f, iv_eq_t, iv_eq_f, iv_lt0_t, iv_lt0_f, iv_gt0_t, iv_gt0_f, iv_le0_t, iv_le0_f, iv_ge0_t, iv_ge0_f, iv_eq0_t, iv_eq0_f, iv_add, iv_sub, iv_mul, iv_nat, iv_lt, iv_le, iv_eq, iv_lt0, iv_gt0, iv_le0, iv_ge0, iv_eq0, iv_cl, bv_01, bv_eq0, lcmp_eq0, ↓reduceIte, Nat.reduceLeDiff, Nat.reduceLT, Nat.reduceAdd, Nat.reduceSub, Nat.reduceEqDiff, Nat.reduceMul, Nat.succ_ne_zero, Nat.zero_lt_succ, Nat.lt_add_one, Nat.add_left_cancel_iff, and_true, true_and, and_false, false_and, and_self, Nat.zero_le, eq_self, true_or, or_true, false_or, or_false, Bool.not_false, Bool.not_true, not_true, not_false_iff, Int.reduceEq, Int.reduceLT, Int.reduceLE, Int.reduceAdd, Int.reduceSub, Int.reduceToNat, Int.reduceNeg, Bool.false_eq_true, Bool.true_eq_false, reduceCtorEq, tk, t0, t1, t2, t3, t4, t5, t6, t7, t8, t9, t10, kcs, ncs, kdr, ksa, nsa, ks1, ks2, ks3, ks4, ks5, sk, s0, s1, s2, s3, s4, kp, kc, nc, kf, nf8, kq, nq, ko, no, gk, gr0, gr1, gr2, gr3, gr4, gka, gna, gkb, gnb, gkc, gnc, gkd, gnd, gd0, gd1, gd2, gd3, gd4, gs0, gs1, gs2, gs3, gs4, gke, gne, ge0, ge1, ge2, ge3, gt0, gt1, gt2, gt3, h6, isRA14, iv_inb_t, true_or, or_true, show isRA 15 = true from rfl, show isRA 16 = true from rfl, Int.toNat_natCast, m1, x_132t, x_140t]
theorem c_groupAt_f1 {σ : St} {Q : Out → St → Prop} {a : PS} {n : Nat} {hs : Nat → PS} (hb : BI σ a n hs) {m : Nat} {g : Nat → Nat → Int} {i k : Int} (hgl : GrL σ) (hgc : GC σ m g) (hn : m ≤ 481) (gi : -2147483648 ≤ i ∧ i < 2147483648) (hi : i < 0 ∨ m ≤ i) : Ex 121 [.ref 2, .int (iv i), .int (iv k)] σ Q = Q (.inr 1) (bmp σ) := by
  obtain ⟨hly, hw, hwf, hcs, hkc, -⟩ := hb
  have hly0 := hly
  obtain ⟨tk, t0, t1, t2, t3, t4, t5, t6, t7, t8, t9, t10, kcs, ncs, rcs, kdr, ksa, nsa, ks1, ks2, ks3, ks4, ks5, hst, hhi, hco⟩ := hly
  have hst0 := hst
  obtain ⟨sk, s0, s1, s2, s3, s4, kp, kc, nc, kf, nf8, rf, kfs, kq, nq, rq, kqs, ko, no, ro, kos⟩ := hst
  have sk : gK σ 3 = 6 := sk
  have s0 : gR σ 3 0 = some 4 := s0
  have s1 : gR σ 3 1 = some 5 := s1
  have s2 : gR σ 3 2 = some 6 := s2
  have s3 : gR σ 3 3 = some 15 := s3
  have s4 : gR σ 3 4 = some 20 := s4
  have kp : gK σ 4 = 5 := kp
  have kc : gK σ 5 = 10 := kc
  have nc : gN σ 5 = 480 := nc
  have kf : gK σ 6 = 14 := kf
  have nf8 : gN σ 6 = 8 := nf8
  have rf : ∀ i, i < 8 → gR σ 6 i = some (7 + i) := rf
  have kfs : ∀ i, i < 8 → gK σ (7 + i) = 5 := kfs
  have kq : gK σ 15 = 14 := kq
  have nq : gN σ 15 = 4 := nq
  have rq : ∀ i, i < 4 → gR σ 15 i = some (16 + i) := rq
  have kqs : ∀ i, i < 4 → gK σ (16 + i) = 5 := kqs
  have ko : gK σ 20 = 16 := ko
  have no : gN σ 20 = 4 := no
  have ro : ∀ i, i < 4 → gR σ 20 i = some (21 + i) := ro
  have kos : ∀ i, i < 4 → gK σ (21 + i) = 1 := kos
  obtain ⟨gk, gr0, gr1, gr2, gr3, gr4, gka, gna, gkb, gnb, gkc, gnc, gkd, gnd, gd0, gd1, gd2, gd3, gd4, gs0, gs1, gs2, gs3, gs4, gke, gne, ge0, ge1, ge2, ge3, gt0, gt1, gt2, gt3⟩ := hgl
  have h6 := hgc.1
  simp (disch := first | omega | (simp (maxDischargeDepth := 30) only [gK_pS, AWt, tk, t0, t1, t2, t3, t4, t5, t6, t7, t8, t9, t10, kcs, ncs, kdr, ksa, nsa, ks1, ks2, ks3, ks4, ks5, sk, s0, s1, s2, s3, s4, kp, kc, nc, kf, nf8, kq, nq, ko, no, gk, gr0, gr1, gr2, gr3, gr4, gka, gna, gkb, gnb, gkc, gnc, gkd, gnd, gd0, gd1, gd2, gd3, gd4, gs0, gs1, gs2, gs3, gs4, gke, gne, ge0, ge1, ge2, ge3, gt0, gt1, gt2, gt3, h6]; done) | (simp (maxDischargeDepth := 30) only [gK_pS, AWt, tk, t0, t1, t2, t3, t4, t5, t6, t7, t8, t9, t10, kcs, ncs, kdr, ksa, nsa, ks1, ks2, ks3, ks4, ks5, sk, s0, s1, s2, s3, s4, kp, kc, nc, kf, nf8, kq, nq, ko, no, gk, gr0, gr1, gr2, gr3, gr4, gka, gna, gkb, gnb, gkc, gnc, gkd, gnd, gd0, gd1, gd2, gd3, gd4, gs0, gs1, gs2, gs3, gs4, gke, gne, ge0, ge1, ge2, ge3, gt0, gt1, gt2, gt3, h6]; omega)) only [b_121_0, e_121, wq_iconst, wq_bipush, wq_fconst, wq_dconst, wq_iload, wq_lload, wq_fload, wq_dload, wq_aload, wq_istore, wq_fstore, wq_astore, wq_lstore, wq_dstore, wq_iinc, wq_iadd, wq_isub, wq_imul, wq_iand, wq_ior, wq_ixor, wq_ishl, wq_ishr, wq_iushr, wq_ladd, wq_lsub, wq_land, wq_lor, wq_lxor, wq_lshl, wq_lushr, wq_idiv, wq_irem, wq_lcmp, wq_fcmp, wq_dcmp, wq_i2l, wq_l2i, wq_i2f, wq_i2d, wq_f2d, wq_fdiv, wq_ddiv, wq_dupi, wq_dupr, wq_dup2, wq_popi, wq_popr, wq_if_eq, wq_ic_eq, wq_if_ne, wq_ic_ne, wq_if_lt, wq_ic_lt, wq_if_ge, wq_ic_ge, wq_if_gt, wq_ic_gt, wq_if_le, wq_ic_le, wq_goto, wq_nop, wq_tsw, wq_getfield, wq_pfi, wq_pfl, wq_pfr, wq_getstatic, wq_iaload, wq_baload, wq_laload, wq_daload, wq_aaload, wq_iastore, wq_bastore, wq_lastore, wq_dastore, wq_aastore, wq_arraylength, wq_new, wq_newarray, wq_anewarray, wq_multi, wq_copy, wq_mmax, wq_mmin, wq_oi, wq_cs0, wq_cs1, wq_cs2, wq_cs3, wq_cs4, wq_cs5, wq_cs6, wq_cs7, wq_cv1, wq_cv2, wq_cv3, wq_cv4, wq_cv5, wq_cv6, wq_ci1, wq_ci2, wq_ci3, wq_ci4, wq_ci5, wq_ci6, wq_athrow, wq_ireturn, wq_freturn, wq_dreturn, wq_areturn, wq_return, wsw_n, wsw_c, aft_i, gf_1, gf_2, gf_3, rv_s, okst_0, okst_s, is2_int, is2_float, is2_ref, is2_retAddr, List.getElem?_cons_zero, List.getElem?_cons_succ, List.set_cons_zero, List.set_cons_succ, List.length_cons, List.length_nil, Option.toList_some, Option.toList_none, List.cons_append, List.nil_append, List.singleton_append, gL_setI, gD_setI, gR_setI, gN_setI, gK_setI, gx_setI, gc_setI, gs_setI, gI_setL, gD_setL, gR_setL, gN_setL, gK_setL, gx_setL, gc_setL, gs_setL, gI_setD, gL_setD, gR_setD, gN_setD, gK_setD, gx_setD, gc_setD, gs_setD, gI_setR, gL_setR, gD_setR, gN_setR, gK_setR, gx_setR, gc_setR, gs_setR, gL_rowI, gD_rowI, gR_rowI, gN_rowI, gK_rowI, gx_rowI, gc_rowI, gs_rowI, gI_I, gL_L, gD_D, gR_R, gI_row, gI_bmp, gL_bmp, gD_bmp, gR_bmp, gN_bmp, gK_bmp, gx_bmp, gc_bmp, gs_bmp, gK_pS, gN_pS, gI_pS, gD_pS, gR_pS, gx_pS, gc_pS, gs_pS, iv_11, ↓iv_max, ↓iv_min, iv_lt_t, iv_lt_f, iv_le_t, iv_le_f, iv_eq_t, iv_eq_f, iv_lt0_t, iv_lt0_f, iv_gt0_t, iv_gt0_f, iv_le0_t, iv_le0_f, iv_ge0_t, iv_ge0_f, iv_eq0_t, iv_eq0_f, iv_add, iv_sub, iv_mul, iv_nat, iv_lt, iv_le, iv_eq, iv_lt0, iv_gt0, iv_le0, iv_ge0, iv_eq0, iv_cl, bv_01, bv_eq0, lcmp_eq0, ↓reduceIte, Nat.reduceLeDiff, Nat.reduceLT, Nat.reduceAdd, Nat.reduceSub, Nat.reduceEqDiff, Nat.reduceMul, Nat.succ_ne_zero, Nat.zero_lt_succ, Nat.lt_add_one, Nat.add_left_cancel_iff, and_true, true_and, and_false, false_and, and_self, Nat.zero_le, eq_self, true_or, or_true, false_or, or_false, Bool.not_false, Bool.not_true, not_true, not_false_iff, Int.reduceEq, Int.reduceLT, Int.reduceLE, Int.reduceAdd, Int.reduceSub, Int.reduceToNat, Int.reduceNeg, Bool.false_eq_true, Bool.true_eq_false, reduceCtorEq, tk, t0, t1, t2, t3, t4, t5, t6, t7, t8, t9, t10, kcs, ncs, kdr, ksa, nsa, ks1, ks2, ks3, ks4, ks5, sk, s0, s1, s2, s3, s4, kp, kc, nc, kf, nf8, kq, nq, ko, no, gk, gr0, gr1, gr2, gr3, gr4, gka, gna, gkb, gnb, gkc, gnc, gkd, gnd, gd0, gd1, gd2, gd3, gd4, gs0, gs1, gs2, gs3, gs4, gke, gne, ge0, ge1, ge2, ge3, gt0, gt1, gt2, gt3, h6, isRA14, iv_inb_t, true_or, or_true, show isRA 15 = true from rfl, show isRA 16 = true from rfl, Int.toNat_natCast, x_132t, x_132f, x_140f, aft_x (z := 121) rfl]
theorem c_groupAt_f2 {σ : St} {Q : Out → St → Prop} {a : PS} {n : Nat} {hs : Nat → PS} (hb : BI σ a n hs) {m : Nat} {g : Nat → Nat → Int} {i k : Int} (hgl : GrL σ) (hgc : GC σ m g) (hn : m ≤ 481) (hi : 0 ≤ i ∧ i < m) (gk9 : -2147483648 ≤ k ∧ k < 2147483648) (hk : k < 0 ∨ 4 < k) : Ex 121 [.ref 2, .int (iv i), .int (iv k)] σ Q = Q (.inr 2) (bmp σ) := by
  obtain ⟨hly, hw, hwf, hcs, hkc, -⟩ := hb
  have hly0 := hly
  obtain ⟨tk, t0, t1, t2, t3, t4, t5, t6, t7, t8, t9, t10, kcs, ncs, rcs, kdr, ksa, nsa, ks1, ks2, ks3, ks4, ks5, hst, hhi, hco⟩ := hly
  have hst0 := hst
  obtain ⟨sk, s0, s1, s2, s3, s4, kp, kc, nc, kf, nf8, rf, kfs, kq, nq, rq, kqs, ko, no, ro, kos⟩ := hst
  have sk : gK σ 3 = 6 := sk
  have s0 : gR σ 3 0 = some 4 := s0
  have s1 : gR σ 3 1 = some 5 := s1
  have s2 : gR σ 3 2 = some 6 := s2
  have s3 : gR σ 3 3 = some 15 := s3
  have s4 : gR σ 3 4 = some 20 := s4
  have kp : gK σ 4 = 5 := kp
  have kc : gK σ 5 = 10 := kc
  have nc : gN σ 5 = 480 := nc
  have kf : gK σ 6 = 14 := kf
  have nf8 : gN σ 6 = 8 := nf8
  have rf : ∀ i, i < 8 → gR σ 6 i = some (7 + i) := rf
  have kfs : ∀ i, i < 8 → gK σ (7 + i) = 5 := kfs
  have kq : gK σ 15 = 14 := kq
  have nq : gN σ 15 = 4 := nq
  have rq : ∀ i, i < 4 → gR σ 15 i = some (16 + i) := rq
  have kqs : ∀ i, i < 4 → gK σ (16 + i) = 5 := kqs
  have ko : gK σ 20 = 16 := ko
  have no : gN σ 20 = 4 := no
  have ro : ∀ i, i < 4 → gR σ 20 i = some (21 + i) := ro
  have kos : ∀ i, i < 4 → gK σ (21 + i) = 1 := kos
  obtain ⟨gk, gr0, gr1, gr2, gr3, gr4, gka, gna, gkb, gnb, gkc, gnc, gkd, gnd, gd0, gd1, gd2, gd3, gd4, gs0, gs1, gs2, gs3, gs4, gke, gne, ge0, ge1, ge2, ge3, gt0, gt1, gt2, gt3⟩ := hgl
  have h6 := hgc.1
  simp (disch := first | omega | (simp (maxDischargeDepth := 30) only [gK_pS, AWt, tk, t0, t1, t2, t3, t4, t5, t6, t7, t8, t9, t10, kcs, ncs, kdr, ksa, nsa, ks1, ks2, ks3, ks4, ks5, sk, s0, s1, s2, s3, s4, kp, kc, nc, kf, nf8, kq, nq, ko, no, gk, gr0, gr1, gr2, gr3, gr4, gka, gna, gkb, gnb, gkc, gnc, gkd, gnd, gd0, gd1, gd2, gd3, gd4, gs0, gs1, gs2, gs3, gs4, gke, gne, ge0, ge1, ge2, ge3, gt0, gt1, gt2, gt3, h6]; done) | (simp (maxDischargeDepth := 30) only [gK_pS, AWt, tk, t0, t1, t2, t3, t4, t5, t6, t7, t8, t9, t10, kcs, ncs, kdr, ksa, nsa, ks1, ks2, ks3, ks4, ks5, sk, s0, s1, s2, s3, s4, kp, kc, nc, kf, nf8, kq, nq, ko, no, gk, gr0, gr1, gr2, gr3, gr4, gka, gna, gkb, gnb, gkc, gnc, gkd, gnd, gd0, gd1, gd2, gd3, gd4, gs0, gs1, gs2, gs3, gs4, gke, gne, ge0, ge1, ge2, ge3, gt0, gt1, gt2, gt3, h6]; omega)) only [b_121_0, e_121, wq_iconst, wq_bipush, wq_fconst, wq_dconst, wq_iload, wq_lload, wq_fload, wq_dload, wq_aload, wq_istore, wq_fstore, wq_astore, wq_lstore, wq_dstore, wq_iinc, wq_iadd, wq_isub, wq_imul, wq_iand, wq_ior, wq_ixor, wq_ishl, wq_ishr, wq_iushr, wq_ladd, wq_lsub, wq_land, wq_lor, wq_lxor, wq_lshl, wq_lushr, wq_idiv, wq_irem, wq_lcmp, wq_fcmp, wq_dcmp, wq_i2l, wq_l2i, wq_i2f, wq_i2d, wq_f2d, wq_fdiv, wq_ddiv, wq_dupi, wq_dupr, wq_dup2, wq_popi, wq_popr, wq_if_eq, wq_ic_eq, wq_if_ne, wq_ic_ne, wq_if_lt, wq_ic_lt, wq_if_ge, wq_ic_ge, wq_if_gt, wq_ic_gt, wq_if_le, wq_ic_le, wq_goto, wq_nop, wq_tsw, wq_getfield, wq_pfi, wq_pfl, wq_pfr, wq_getstatic, wq_iaload, wq_baload, wq_laload, wq_daload, wq_aaload, wq_iastore, wq_bastore, wq_lastore, wq_dastore, wq_aastore, wq_arraylength, wq_new, wq_newarray, wq_anewarray, wq_multi, wq_copy, wq_mmax, wq_mmin, wq_oi, wq_cs0, wq_cs1, wq_cs2, wq_cs3, wq_cs4, wq_cs5, wq_cs6, wq_cs7, wq_cv1, wq_cv2, wq_cv3, wq_cv4, wq_cv5, wq_cv6, wq_ci1, wq_ci2, wq_ci3, wq_ci4, wq_ci5, wq_ci6, wq_athrow, wq_ireturn, wq_freturn, wq_dreturn, wq_areturn, wq_return, wsw_n, wsw_c, aft_i, gf_1, gf_2, gf_3, rv_s, okst_0, okst_s, is2_int, is2_float, is2_ref, is2_retAddr, List.getElem?_cons_zero, List.getElem?_cons_succ, List.set_cons_zero, List.set_cons_succ, List.length_cons, List.length_nil, Option.toList_some, Option.toList_none, List.cons_append, List.nil_append, List.singleton_append, gL_setI, gD_setI, gR_setI, gN_setI, gK_setI, gx_setI, gc_setI, gs_setI, gI_setL, gD_setL, gR_setL, gN_setL, gK_setL, gx_setL, gc_setL, gs_setL, gI_setD, gL_setD, gR_setD, gN_setD, gK_setD, gx_setD, gc_setD, gs_setD, gI_setR, gL_setR, gD_setR, gN_setR, gK_setR, gx_setR, gc_setR, gs_setR, gL_rowI, gD_rowI, gR_rowI, gN_rowI, gK_rowI, gx_rowI, gc_rowI, gs_rowI, gI_I, gL_L, gD_D, gR_R, gI_row, gI_bmp, gL_bmp, gD_bmp, gR_bmp, gN_bmp, gK_bmp, gx_bmp, gc_bmp, gs_bmp, gK_pS, gN_pS, gI_pS, gD_pS, gR_pS, gx_pS, gc_pS, gs_pS, iv_11, ↓iv_max, ↓iv_min, iv_lt_t, iv_lt_f, iv_le_t, iv_le_f, iv_eq_t, iv_eq_f, iv_lt0_t, iv_lt0_f, iv_gt0_t, iv_gt0_f, iv_le0_t, iv_le0_f, iv_ge0_t, iv_ge0_f, iv_eq0_t, iv_eq0_f, iv_add, iv_sub, iv_mul, iv_nat, iv_lt, iv_le, iv_eq, iv_lt0, iv_gt0, iv_le0, iv_ge0, iv_eq0, iv_cl, bv_01, bv_eq0, lcmp_eq0, ↓reduceIte, Nat.reduceLeDiff, Nat.reduceLT, Nat.reduceAdd, Nat.reduceSub, Nat.reduceEqDiff, Nat.reduceMul, Nat.succ_ne_zero, Nat.zero_lt_succ, Nat.lt_add_one, Nat.add_left_cancel_iff, and_true, true_and, and_false, false_and, and_self, Nat.zero_le, eq_self, true_or, or_true, false_or, or_false, Bool.not_false, Bool.not_true, not_true, not_false_iff, Int.reduceEq, Int.reduceLT, Int.reduceLE, Int.reduceAdd, Int.reduceSub, Int.reduceToNat, Int.reduceNeg, Bool.false_eq_true, Bool.true_eq_false, reduceCtorEq, tk, t0, t1, t2, t3, t4, t5, t6, t7, t8, t9, t10, kcs, ncs, kdr, ksa, nsa, ks1, ks2, ks3, ks4, ks5, sk, s0, s1, s2, s3, s4, kp, kc, nc, kf, nf8, kq, nq, ko, no, gk, gr0, gr1, gr2, gr3, gr4, gka, gna, gkb, gnb, gkc, gnc, gkd, gnd, gd0, gd1, gd2, gd3, gd4, gs0, gs1, gs2, gs3, gs4, gke, gne, ge0, ge1, ge2, ge3, gt0, gt1, gt2, gt3, h6, isRA14, iv_inb_t, true_or, or_true, show isRA 15 = true from rfl, show isRA 16 = true from rfl, Int.toNat_natCast, x_132t, x_132f, x_140f, aft_x (z := 121) rfl]
/-- the least value of rows, 100 if they have none -/
theorem x_20m {σ : St} {Q : Out → St → Prop} {c q : Nat} {val : Nat → Int} {R : Nat → Bool} (hl : CoL σ c) (hw : AW σ) (hc : CC σ c val) (hq : gK σ q = 5) (hR : ss σ q = R) (hne : ∃ r, r < 120 ∧ R r = true) (hQ : ∀ σ' v, OT (tmp c) σ σ' → (v = 100 ∨ isv v = true) → (∀ r, R r = true → v ≤ val r) → (∃ r, r < 120 ∧ R r = true ∧ val r = v) → Q (.inl (some (.int (iv v)))) σ') : Ex 20 [.ref c, .ref q, .int (iv 0)] σ Q := by
  have hlt : ∀ r, R r = true → r < 120 := fun r hr => by
    by_cases h : r < 120
    · exact h
    · rw [← hR, hw q hq r (by omega)] at hr
      cases hr
  refine x_20 (by omega) hl hw hc hq (fun h σ' h1 => ?_) (fun h0 h2 σ' v h1 hkl => ?_)
  · rw [hR] at h
    have hz : fb_ct (fun r => R r && isv (val r)) 120 = 0 := by omega
    have hz2 := fb_ct_zero.mp hz
    have h100 : ∀ r, R r = true → val r = 100 := fun r hr => by
      have h3 := hz2 r (hlt r hr)
      rw [hr, Bool.true_and] at h3
      rcases hc.1 r with h4 | h4
      · exact h4
      · rw [h3] at h4; cases h4
    obtain ⟨r, hr, hRr⟩ := hne
    exact hQ σ' 100 h1 (Or.inl rfl) (fun r hr => by rw [h100 r hr]; exact Int.le_refl _) ⟨r, hr, hRr, h100 r hRr⟩
  · rw [hR] at hkl
    obtain ⟨k1, k2, k3⟩ := hkl
    have k2 : ((fb_ct (fun r => (R r && isv (val r)) && decide (val r < v)) 120 : Nat) : Int) ≤ 0 := k2
    have k3 : 0 < ((fb_ct (fun r => (R r && isv (val r)) && decide (val r ≤ v)) 120 : Nat) : Int) := k3
    have hz : fb_ct (fun r => (R r && isv (val r)) && decide (val r < v)) 120 = 0 := by omega
    have hz2 := fb_ct_zero.mp hz
    have hp : 0 < fb_ct (fun r => (R r && isv (val r)) && decide (val r ≤ v)) 120 := by omega
    obtain ⟨r, hr, h4⟩ := fb_ct_pos.mp hp
    simp only [Bool.and_eq_true, decide_eq_true_eq] at h4
    have hge : ∀ r, R r = true → v ≤ val r := fun r hr => by
      rcases hc.1 r with h5 | h5
      · have := isv_iff.mp k1
        omega
      · have h6 := hz2 r (hlt r hr)
        rw [hr, h5, Bool.true_and, Bool.true_and, decide_eq_false_iff_not] at h6
        omega
    exact hQ σ' v h1 (Or.inr k1) hge ⟨r, hr, h4.1.1, by have := hge r h4.1.1; omega⟩
