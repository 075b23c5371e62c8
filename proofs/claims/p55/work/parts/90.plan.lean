/-! CHANGES: runPlan; conditions -/
theorem q_93_1 {σ : St} {Q : Out → St → Prop} {a : PS} {n : Nat} {hs : Nat → PS} (hb : BI σ a n hs) {f : Int} (hf8 : 0 ≤ f ∧ f < 8) (hQ : ∀ σ', OF (fun p => p = 7 + f.toNat ∨ sc p) σ σ' → ss σ' (7 + f.toNat) = plS a (pM a) → Q (.inl (some (.int (iv (fb_ct (plS a (pM a)) 120 : Nat))))) σ') : ∀ (k j : Nat) (i : Int) (v3 : Value) (σ' : St), i = j → j + k = pM a → OF sc σ σ' → PLI a σ' j 0 → Wp 93 (blk 93 1, [.ref 2, .int (iv f), .int (iv i), v3], [], σ') Q := by
  intro k
  induction k with
  | zero =>
    intro j i v3 σ' hi hj hf hpl
    have hb' := hb.scr hf
    obtain ⟨hly, hw, hwf, hcs, hkc, -⟩ := hb'
    have hm := hwf.2.2.2.2.2.1
    have hly0 := hly
    obtain ⟨tk, t0, t1, t2, t3, t4, t5, t6, t7, t8, t9, t10, kcs, ncs, rcs, kdr, ksa, nsa, ks1, ks2, ks3, ks4, ks5, hst, hhi, hco⟩ := hly
    have hst0 := hst
    obtain ⟨sk, s0, s1, s2, s3, s4, kp, kc, nc, kf, nf8, rf, kfs, kq, nq, rq, kqs, ko, no, ro, kos⟩ := hst
    have sk : gK σ' 3 = 6 := sk
    have s0 : gR σ' 3 0 = some 4 := s0
    have s1 : gR σ' 3 1 = some 5 := s1
    have s2 : gR σ' 3 2 = some 6 := s2
    have s3 : gR σ' 3 3 = some 15 := s3
    have s4 : gR σ' 3 4 = some 20 := s4
    have kp : gK σ' 4 = 5 := kp
    have kc : gK σ' 5 = 10 := kc
    have nc : gN σ' 5 = 480 := nc
    have kf : gK σ' 6 = 14 := kf
    have nf8 : gN σ' 6 = 8 := nf8
    have rf : ∀ i, i < 8 → gR σ' 6 i = some (7 + i) := rf
    have kfs : ∀ i, i < 8 → gK σ' (7 + i) = 5 := kfs
    have kq : gK σ' 15 = 14 := kq
    have nq : gN σ' 15 = 4 := nq
    have rq : ∀ i, i < 4 → gR σ' 15 i = some (16 + i) := rq
    have kqs : ∀ i, i < 4 → gK σ' (16 + i) = 5 := kqs
    have ko : gK σ' 20 = 16 := ko
    have no : gN σ' 20 = 4 := no
    have ro : ∀ i, i < 4 → gR σ' 20 i = some (21 + i) := ro
    have kos : ∀ i, i < 4 → gK σ' (21 + i) = 1 := kos
    obtain ⟨a1, a2, a3, a4, a5, a6⟩ := hcs
    have fk := kfs f.toNat (by omega)
    have fr := rf f.toNat (by omega)
    have h221 : ss σ' 221 = plS a (pM a) := by
      funext r
      have h1 := hpl.2 r
      have h2 := plS_iff a r (pM a)
      have h3 : (pT a r = true ∧ ∀ i, i < pM a → (plK a i < j ∨ (plK a i = j ∧ i < 0)) → cnd a i r = true) ↔ (pT a r = true ∧ ∀ i, i < pM a → cnd a i r = true) := by
        constructor
        · intro ⟨q1, q2⟩
          exact ⟨q1, fun i hi => q2 i hi (Or.inl (by have := plK_lt hi; omega))⟩
        · intro ⟨q1, q2⟩
          exact ⟨q1, fun i hi _ => q2 i hi⟩
      have h4 := h1.trans (h3.trans h2.symm)
      cases h5 : ss σ' 221 r <;> cases h6 : plS a (pM a) r
      · rfl
      · rw [h5, h6] at h4; exact absurd (h4.mpr rfl) (by decide)
      · rw [h5, h6] at h4; exact absurd (h4.mp rfl) (by decide)
      · rfl
    have m1 : ∀ Q, Ex 53 [.ref (7 + f.toNat), .ref 221] σ' Q = Q (.inl none) (pS σ' (7 + f.toNat) (plS a (pM a))) := fun Q => by
      rw [x_53 fk ks1 hw, h221]
    have m2 : ∀ Q, Ex 67 [.ref 221] (pS σ' (7 + f.toNat) (plS a (pM a))) Q = Q (.inl (some (.int (iv (fb_ct (plS a (pM a)) 120 : Nat))))) (pS σ' (7 + f.toNat) (plS a (pM a))) := fun Q => by
      rw [x_67 (σ := pS σ' _ _) ks1 (AW_pS hw _ _), ss_ne (p := 7 + f.toNat) (q := 221) _ _ (by omega), h221]
    have hS2 : ∀ r, plS a (pM a) r = true → r < 120 := fun r hr => T_le hwf ((plS_iff a r (pM a)).mp hr).1
    rw [k_93_1]
    simp (disch := first | omega | (simp (maxDischargeDepth := 30) only [gK_pS, AWt, tk, t0, t1, t2, t3, t4, t5, t6, t7, t8, t9, t10, kcs, ncs, kdr, ksa, nsa, ks1, ks2, ks3, ks4, ks5, sk, s0, s1, s2, s3, s4, kp, kc, nc, kf, nf8, kq, nq, ko, no, hw, a5, fk, fr]; done) | (simp (maxDischargeDepth := 30) only [gK_pS, AWt, tk, t0, t1, t2, t3, t4, t5, t6, t7, t8, t9, t10, kcs, ncs, kdr, ksa, nsa, ks1, ks2, ks3, ks4, ks5, sk, s0, s1, s2, s3, s4, kp, kc, nc, kf, nf8, kq, nq, ko, no, hw, a5, fk, fr]; omega)) only [b_93_0, b_93_1, b_93_2, b_93_3, k_93_3, b_93_4, k_93_4, b_93_5, k_93_5, wq_iconst, wq_bipush, wq_fconst, wq_dconst, wq_iload, wq_lload, wq_fload, wq_dload, wq_aload, wq_istore, wq_fstore, wq_astore, wq_lstore, wq_dstore, wq_iinc, wq_iadd, wq_isub, wq_imul, wq_iand, wq_ior, wq_ixor, wq_ishl, wq_ishr, wq_iushr, wq_ladd, wq_lsub, wq_land, wq_lor, wq_lxor, wq_lshl, wq_lushr, wq_idiv, wq_irem, wq_lcmp, wq_fcmp, wq_dcmp, wq_i2l, wq_l2i, wq_i2f, wq_i2d, wq_f2d, wq_fdiv, wq_ddiv, wq_dupi, wq_dupr, wq_dup2, wq_popi, wq_popr, wq_if_eq, wq_ic_eq, wq_if_ne, wq_ic_ne, wq_if_lt, wq_ic_lt, wq_if_ge, wq_ic_ge, wq_if_gt, wq_ic_gt, wq_if_le, wq_ic_le, wq_goto, wq_nop, wq_tsw, wq_getfield, wq_pfi, wq_pfl, wq_pfr, wq_getstatic, wq_iaload, wq_baload, wq_laload, wq_daload, wq_aaload, wq_iastore, wq_bastore, wq_lastore, wq_dastore, wq_aastore, wq_arraylength, wq_new, wq_newarray, wq_anewarray, wq_multi, wq_copy, wq_mmax, wq_mmin, wq_oi, wq_cs0, wq_cs1, wq_cs2, wq_cs3, wq_cs4, wq_cs5, wq_cs6, wq_cs7, wq_cv1, wq_cv2, wq_cv3, wq_cv4, wq_cv5, wq_cv6, wq_ci1, wq_ci2, wq_ci3, wq_ci4, wq_ci5, wq_ci6, wq_athrow, wq_ireturn, wq_freturn, wq_dreturn, wq_areturn, wq_return, wsw_n, wsw_c, aft_i, gf_1, gf_2, gf_3, rv_s, okst_0, okst_s, is2_int, is2_float, is2_ref, is2_retAddr, List.getElem?_cons_zero, List.getElem?_cons_succ, List.set_cons_zero, List.set_cons_succ, List.length_cons, List.length_nil, Option.toList_some, Option.toList_none, List.cons_append, List.nil_append, List.singleton_append, gL_setI, gD_setI, gR_setI, gN_setI, gK_setI, gx_setI, gc_setI, gs_setI, gI_setL, gD_setL, gR_setL, gN_setL, gK_setL, gx_setL, gc_setL, gs_setL, gI_setD, gL_setD, gR_setD, gN_setD, gK_setD, gx_setD, gc_setD, gs_setD, gI_setR, gL_setR, gD_setR, gN_setR, gK_setR, gx_setR, gc_setR, gs_setR, gL_rowI, gD_rowI, gR_rowI, gN_rowI, gK_rowI, gx_rowI, gc_rowI, gs_rowI, gI_I, gL_L, gD_D, gR_R, gI_row, gI_bmp, gL_bmp, gD_bmp, gR_bmp, gN_bmp, gK_bmp, gx_bmp, gc_bmp, gs_bmp, gK_pS, gN_pS, gI_pS, gD_pS, gR_pS, gx_pS, gc_pS, gs_pS, iv_11, ↓iv_max, ↓iv_min, iv_lt_t, iv_lt_f, iv_le_t, iv_le_f, iv_eq_t, iv_eq_f, iv_lt0_t, iv_lt0_f, iv_gt0_t, iv_gt0_f, iv_le0_t, iv_le0_f, iv_ge0_t, iv_ge0_f, iv_eq0_t, iv_eq0_f, iv_add, iv_sub, iv_mul, iv_nat, iv_lt, iv_le, iv_eq, iv_lt0, iv_gt0, iv_le0, iv_ge0, iv_eq0, iv_cl, bv_01, bv_eq0, lcmp_eq0, ↓reduceIte, Nat.reduceLeDiff, Nat.reduceLT, Nat.reduceAdd, Nat.reduceSub, Nat.reduceEqDiff, Nat.reduceMul, Nat.succ_ne_zero, Nat.zero_lt_succ, Nat.lt_add_one, Nat.add_left_cancel_iff, and_true, true_and, and_false, false_and, and_self, Nat.zero_le, eq_self, true_or, or_true, false_or, or_false, Bool.not_false, Bool.not_true, not_true, not_false_iff, Int.reduceEq, Int.reduceLT, Int.reduceLE, Int.reduceAdd, Int.reduceSub, Int.reduceToNat, Int.reduceNeg, Bool.false_eq_true, Bool.true_eq_false, reduceCtorEq, tk, t0, t1, t2, t3, t4, t5, t6, t7, t8, t9, t10, kcs, ncs, kdr, ksa, nsa, ks1, ks2, ks3, ks4, ks5, sk, s0, s1, s2, s3, s4, kp, kc, nc, kf, nf8, kq, nq, ko, no, hw, a5, fk, fr, isRA14, iv_inb_t, true_or, or_true, show isRA 15 = true from rfl, show isRA 16 = true from rfl, Int.toNat_natCast, m1, m2]
    exact hQ _ (OF.st (T := fun p => p = 7 + f.toNat ∨ sc p) (hf.wk (fun _ hp => Or.inr hp)) (Or.inl rfl) _) (ss_S hS2)
  | succ k ih =>
    intro j i v3 σ' hi hj hf hpl
    have hb' := hb.scr hf
    obtain ⟨hly, hw, hwf, hcs, hkc, -⟩ := hb'
    have hm := hwf.2.2.2.2.2.1
    have hly0 := hly
    obtain ⟨tk, t0, t1, t2, t3, t4, t5, t6, t7, t8, t9, t10, kcs, ncs, rcs, kdr, ksa, nsa, ks1, ks2, ks3, ks4, ks5, hst, hhi, hco⟩ := hly
    have hst0 := hst
    obtain ⟨sk, s0, s1, s2, s3, s4, kp, kc, nc, kf, nf8, rf, kfs, kq, nq, rq, kqs, ko, no, ro, kos⟩ := hst
    have sk : gK σ' 3 = 6 := sk
    have s0 : gR σ' 3 0 = some 4 := s0
    have s1 : gR σ' 3 1 = some 5 := s1
    have s2 : gR σ' 3 2 = some 6 := s2
    have s3 : gR σ' 3 3 = some 15 := s3
    have s4 : gR σ' 3 4 = some 20 := s4
    have kp : gK σ' 4 = 5 := kp
    have kc : gK σ' 5 = 10 := kc
    have nc : gN σ' 5 = 480 := nc
    have kf : gK σ' 6 = 14 := kf
    have nf8 : gN σ' 6 = 8 := nf8
    have rf : ∀ i, i < 8 → gR σ' 6 i = some (7 + i) := rf
    have kfs : ∀ i, i < 8 → gK σ' (7 + i) = 5 := kfs
    have kq : gK σ' 15 = 14 := kq
    have nq : gN σ' 15 = 4 := nq
    have rq : ∀ i, i < 4 → gR σ' 15 i = some (16 + i) := rq
    have kqs : ∀ i, i < 4 → gK σ' (16 + i) = 5 := kqs
    have ko : gK σ' 20 = 16 := ko
    have no : gN σ' 20 = 4 := no
    have ro : ∀ i, i < 4 → gR σ' 20 i = some (21 + i) := ro
    have kos : ∀ i, i < 4 → gK σ' (21 + i) = 1 := kos
    obtain ⟨a1, a2, a3, a4, a5, a6⟩ := hcs
    rw [k_93_1]
    simp (disch := first | omega | (simp (maxDischargeDepth := 30) only [gK_pS, AWt, tk, t0, t1, t2, t3, t4, t5, t6, t7, t8, t9, t10, kcs, ncs, kdr, ksa, nsa, ks1, ks2, ks3, ks4, ks5, sk, s0, s1, s2, s3, s4, kp, kc, nc, kf, nf8, kq, nq, ko, no, hw, a5]; done) | (simp (maxDischargeDepth := 30) only [gK_pS, AWt, tk, t0, t1, t2, t3, t4, t5, t6, t7, t8, t9, t10, kcs, ncs, kdr, ksa, nsa, ks1, ks2, ks3, ks4, ks5, sk, s0, s1, s2, s3, s4, kp, kc, nc, kf, nf8, kq, nq, ko, no, hw, a5]; omega)) only [b_93_0, b_93_1, b_93_2, b_93_3, k_93_3, b_93_4, k_93_4, b_93_5, k_93_5, wq_iconst, wq_bipush, wq_fconst, wq_dconst, wq_iload, wq_lload, wq_fload, wq_dload, wq_aload, wq_istore, wq_fstore, wq_astore, wq_lstore, wq_dstore, wq_iinc, wq_iadd, wq_isub, wq_imul, wq_iand, wq_ior, wq_ixor, wq_ishl, wq_ishr, wq_iushr, wq_ladd, wq_lsub, wq_land, wq_lor, wq_lxor, wq_lshl, wq_lushr, wq_idiv, wq_irem, wq_lcmp, wq_fcmp, wq_dcmp, wq_i2l, wq_l2i, wq_i2f, wq_i2d, wq_f2d, wq_fdiv, wq_ddiv, wq_dupi, wq_dupr, wq_dup2, wq_popi, wq_popr, wq_if_eq, wq_ic_eq, wq_if_ne, wq_ic_ne, wq_if_lt, wq_ic_lt, wq_if_ge, wq_ic_ge, wq_if_gt, wq_ic_gt, wq_if_le, wq_ic_le, wq_goto, wq_nop, wq_tsw, wq_getfield, wq_pfi, wq_pfl, wq_pfr, wq_getstatic, wq_iaload, wq_baload, wq_laload, wq_daload, wq_aaload, wq_iastore, wq_bastore, wq_lastore, wq_dastore, wq_aastore, wq_arraylength, wq_new, wq_newarray, wq_anewarray, wq_multi, wq_copy, wq_mmax, wq_mmin, wq_oi, wq_cs0, wq_cs1, wq_cs2, wq_cs3, wq_cs4, wq_cs5, wq_cs6, wq_cs7, wq_cv1, wq_cv2, wq_cv3, wq_cv4, wq_cv5, wq_cv6, wq_ci1, wq_ci2, wq_ci3, wq_ci4, wq_ci5, wq_ci6, wq_athrow, wq_ireturn, wq_freturn, wq_dreturn, wq_areturn, wq_return, wsw_n, wsw_c, aft_i, gf_1, gf_2, gf_3, rv_s, okst_0, okst_s, is2_int, is2_float, is2_ref, is2_retAddr, List.getElem?_cons_zero, List.getElem?_cons_succ, List.set_cons_zero, List.set_cons_succ, List.length_cons, List.length_nil, Option.toList_some, Option.toList_none, List.cons_append, List.nil_append, List.singleton_append, gL_setI, gD_setI, gR_setI, gN_setI, gK_setI, gx_setI, gc_setI, gs_setI, gI_setL, gD_setL, gR_setL, gN_setL, gK_setL, gx_setL, gc_setL, gs_setL, gI_setD, gL_setD, gR_setD, gN_setD, gK_setD, gx_setD, gc_setD, gs_setD, gI_setR, gL_setR, gD_setR, gN_setR, gK_setR, gx_setR, gc_setR, gs_setR, gL_rowI, gD_rowI, gR_rowI, gN_rowI, gK_rowI, gx_rowI, gc_rowI, gs_rowI, gI_I, gL_L, gD_D, gR_R, gI_row, gI_bmp, gL_bmp, gD_bmp, gR_bmp, gN_bmp, gK_bmp, gx_bmp, gc_bmp, gs_bmp, gK_pS, gN_pS, gI_pS, gD_pS, gR_pS, gx_pS, gc_pS, gs_pS, iv_11, ↓iv_max, ↓iv_min, iv_lt_t, iv_lt_f, iv_le_t, iv_le_f, iv_eq_t, iv_eq_f, iv_lt0_t, iv_lt0_f, iv_gt0_t, iv_gt0_f, iv_le0_t, iv_le0_f, iv_ge0_t, iv_ge0_f, iv_eq0_t, iv_eq0_f, iv_add, iv_sub, iv_mul, iv_nat, iv_lt, iv_le, iv_eq, iv_lt0, iv_gt0, iv_le0, iv_ge0, iv_eq0, iv_cl, bv_01, bv_eq0, lcmp_eq0, ↓reduceIte, Nat.reduceLeDiff, Nat.reduceLT, Nat.reduceAdd, Nat.reduceSub, Nat.reduceEqDiff, Nat.reduceMul, Nat.succ_ne_zero, Nat.zero_lt_succ, Nat.lt_add_one, Nat.add_left_cancel_iff, and_true, true_and, and_false, false_and, and_self, Nat.zero_le, eq_self, true_or, or_true, false_or, or_false, Bool.not_false, Bool.not_true, not_true, not_false_iff, Int.reduceEq, Int.reduceLT, Int.reduceLE, Int.reduceAdd, Int.reduceSub, Int.reduceToNat, Int.reduceNeg, Bool.false_eq_true, Bool.true_eq_false, reduceCtorEq, tk, t0, t1, t2, t3, t4, t5, t6, t7, t8, t9, t10, kcs, ncs, kdr, ksa, nsa, ks1, ks2, ks3, ks4, ks5, sk, s0, s1, s2, s3, s4, kp, kc, nc, kf, nf8, kq, nq, ko, no, hw, a5, isRA14, iv_inb_t, true_or, or_true, show isRA 15 = true from rfl, show isRA 16 = true from rfl, Int.toNat_natCast]
    subst hi
    refine q_93_2 hb (p := j) (by omega) (fun σ2 v4 g1 g2 => ?_) (pM a) 0 0 σ' (by omega) (by omega) hf ⟨hpl.1, fun r => ?_⟩
    · exact ih (j + 1) (j + 1) v4 σ2 (by omega) (by omega) g1 g2
    · exact hpl.2 r
theorem c_runPlan_t {σ : St} {Q : Out → St → Prop} {a : PS} {n : Nat} {hs : Nat → PS} (hb : BI σ a n hs) {f : Int} (hf : 0 ≤ f ∧ f < 8) (hQ : ∀ σ', OF ow σ σ' → BI σ' (wF a f.toNat (plS a (pM a))) (min (n + 1) 8) (psh a hs) → Q (.inl (some (.int (iv (fb_ct (plS a (pM a)) 120 : Nat))))) σ') : Ex 93 [.ref 2, .int (iv f)] σ Q := by
  have hb0 := hb
  obtain ⟨hly, hw, hwf, hcs, hkc, -⟩ := hb
  have hly0 := hly
  obtain ⟨tk, t0, t1, t2, t3, t4, t5, t6, t7, t8, t9, t10, kcs, ncs, rcs, kdr, ksa, nsa, ks1, ks2, ks3, ks4, ks5, hst, hhi, hco⟩ := hly
  have hst0 := hst
  obtain ⟨sk, s0, s1, s2, s3, s4, kp, kc, nc, kf, nf8, rf, kfs, kq, nq, rq, kqs, ko, no, ro, kos⟩ := hst
  have sk : gK σ 3 = 6 := sk
  have s0 : gR σ 3 0 = some 4 := s0
  have s1 : gR σ 3 1 = some 5 := s1
  have s2 : gR σ 3 2 = some 6 := s2
  have s3 : gR σ 3 3 = some 15 := s3
  have s4 : gR σ 3 4 = some 20 := s4
  have kp : gK σ 4 = 5 := kp
  have kc : gK σ 5 = 10 := kc
  have nc : gN σ 5 = 480 := nc
  have kf : gK σ 6 = 14 := kf
  have nf8 : gN σ 6 = 8 := nf8
  have rf : ∀ i, i < 8 → gR σ 6 i = some (7 + i) := rf
  have kfs : ∀ i, i < 8 → gK σ (7 + i) = 5 := kfs
  have kq : gK σ 15 = 14 := kq
  have nq : gN σ 15 = 4 := nq
  have rq : ∀ i, i < 4 → gR σ 15 i = some (16 + i) := rq
  have kqs : ∀ i, i < 4 → gK σ (16 + i) = 5 := kqs
  have ko : gK σ 20 = 16 := ko
  have no : gN σ 20 = 4 := no
  have ro : ∀ i, i < 4 → gR σ 20 i = some (21 + i) := ro
  have kos : ∀ i, i < 4 → gK σ (21 + i) = 1 := kos
  have hk4 := hhi.1
  simp (disch := first | omega | (simp (maxDischargeDepth := 30) only [gK_pS, AWt, tk, t0, t1, t2, t3, t4, t5, t6, t7, t8, t9, t10, kcs, ncs, kdr, ksa, nsa, ks1, ks2, ks3, ks4, ks5, sk, s0, s1, s2, s3, s4, kp, kc, nc, kf, nf8, kq, nq, ko, no, hw, hk4]; done) | (simp (maxDischargeDepth := 30) only [gK_pS, AWt, tk, t0, t1, t2, t3, t4, t5, t6, t7, t8, t9, t10, kcs, ncs, kdr, ksa, nsa, ks1, ks2, ks3, ks4, ks5, sk, s0, s1, s2, s3, s4, kp, kc, nc, kf, nf8, kq, nq, ko, no, hw, hk4]; omega)) only [b_93_0, b_93_1, k_93_1, b_93_2, k_93_2, b_93_3, k_93_3, b_93_4, k_93_4, b_93_5, k_93_5, e_93, wq_iconst, wq_bipush, wq_fconst, wq_dconst, wq_iload, wq_lload, wq_fload, wq_dload, wq_aload, wq_istore, wq_fstore, wq_astore, wq_lstore, wq_dstore, wq_iinc, wq_iadd, wq_isub, wq_imul, wq_iand, wq_ior, wq_ixor, wq_ishl, wq_ishr, wq_iushr, wq_ladd, wq_lsub, wq_land, wq_lor, wq_lxor, wq_lshl, wq_lushr, wq_idiv, wq_irem, wq_lcmp, wq_fcmp, wq_dcmp, wq_i2l, wq_l2i, wq_i2f, wq_i2d, wq_f2d, wq_fdiv, wq_ddiv, wq_dupi, wq_dupr, wq_dup2, wq_popi, wq_popr, wq_if_eq, wq_ic_eq, wq_if_ne, wq_ic_ne, wq_if_lt, wq_ic_lt, wq_if_ge, wq_ic_ge, wq_if_gt, wq_ic_gt, wq_if_le, wq_ic_le, wq_goto, wq_nop, wq_tsw, wq_getfield, wq_pfi, wq_pfl, wq_pfr, wq_getstatic, wq_iaload, wq_baload, wq_laload, wq_daload, wq_aaload, wq_iastore, wq_bastore, wq_lastore, wq_dastore, wq_aastore, wq_arraylength, wq_new, wq_newarray, wq_anewarray, wq_multi, wq_copy, wq_mmax, wq_mmin, wq_oi, wq_cs0, wq_cs1, wq_cs2, wq_cs3, wq_cs4, wq_cs5, wq_cs6, wq_cs7, wq_cv1, wq_cv2, wq_cv3, wq_cv4, wq_cv5, wq_cv6, wq_ci1, wq_ci2, wq_ci3, wq_ci4, wq_ci5, wq_ci6, wq_athrow, wq_ireturn, wq_freturn, wq_dreturn, wq_areturn, wq_return, wsw_n, wsw_c, aft_i, gf_1, gf_2, gf_3, rv_s, okst_0, okst_s, is2_int, is2_float, is2_ref, is2_retAddr, List.getElem?_cons_zero, List.getElem?_cons_succ, List.set_cons_zero, List.set_cons_succ, List.length_cons, List.length_nil, Option.toList_some, Option.toList_none, List.cons_append, List.nil_append, List.singleton_append, gL_setI, gD_setI, gR_setI, gN_setI, gK_setI, gx_setI, gc_setI, gs_setI, gI_setL, gD_setL, gR_setL, gN_setL, gK_setL, gx_setL, gc_setL, gs_setL, gI_setD, gL_setD, gR_setD, gN_setD, gK_setD, gx_setD, gc_setD, gs_setD, gI_setR, gL_setR, gD_setR, gN_setR, gK_setR, gx_setR, gc_setR, gs_setR, gL_rowI, gD_rowI, gR_rowI, gN_rowI, gK_rowI, gx_rowI, gc_rowI, gs_rowI, gI_I, gL_L, gD_D, gR_R, gI_row, gI_bmp, gL_bmp, gD_bmp, gR_bmp, gN_bmp, gK_bmp, gx_bmp, gc_bmp, gs_bmp, gK_pS, gN_pS, gI_pS, gD_pS, gR_pS, gx_pS, gc_pS, gs_pS, iv_11, ↓iv_max, ↓iv_min, iv_lt_t, iv_lt_f, iv_le_t, iv_le_f, iv_eq_t, iv_eq_f, iv_lt0_t, iv_lt0_f, iv_gt0_t, iv_gt0_f, iv_le0_t, iv_le0_f, iv_ge0_t, iv_ge0_f, iv_eq0_t, iv_eq0_f, iv_add, iv_sub, iv_mul, iv_nat, iv_lt, iv_le, iv_eq, iv_lt0, iv_gt0, iv_le0, iv_ge0, iv_eq0, iv_cl, bv_01, bv_eq0, lcmp_eq0, ↓reduceIte, Nat.reduceLeDiff, Nat.reduceLT, Nat.reduceAdd, Nat.reduceSub, Nat.reduceEqDiff, Nat.reduceMul, Nat.succ_ne_zero, Nat.zero_lt_succ, Nat.lt_add_one, Nat.add_left_cancel_iff, and_true, true_and, and_false, false_and, and_self, Nat.zero_le, eq_self, true_or, or_true, false_or, or_false, Bool.not_false, Bool.not_true, not_true, not_false_iff, Int.reduceEq, Int.reduceLT, Int.reduceLE, Int.reduceAdd, Int.reduceSub, Int.reduceToNat, Int.reduceNeg, Bool.false_eq_true, Bool.true_eq_false, reduceCtorEq, tk, t0, t1, t2, t3, t4, t5, t6, t7, t8, t9, t10, kcs, ncs, kdr, ksa, nsa, ks1, ks2, ks3, ks4, ks5, sk, s0, s1, s2, s3, s4, kp, kc, nc, kf, nf8, kq, nq, ko, no, hw, hk4, isRA14, iv_inb_t, true_or, or_true, show isRA 15 = true from rfl, show isRA 16 = true from rfl, Int.toNat_natCast, x_134t]
  refine c_rem hb0 (fun σ1 g1 b1 => ?_)
  have b0 := b1
  clear hk4 hw hwf hcs hkc hly0 hst0 hhi hco kos ro no ko kqs rq nq kq kfs rf nf8 kf nc kc kp s4 s3 s2 s1 s0 sk ks5 ks4 ks3 ks2 ks1 nsa ksa kdr rcs ncs kcs t10 t9 t8 t7 t6 t5 t4 t3 t2 t1 t0 tk
  obtain ⟨hly, hw, hwf, hcs, hkc, -⟩ := b1
  have hly0 := hly
  obtain ⟨tk, t0, t1, t2, t3, t4, t5, t6, t7, t8, t9, t10, kcs, ncs, rcs, kdr, ksa, nsa, ks1, ks2, ks3, ks4, ks5, hst, hhi, hco⟩ := hly
  have hst0 := hst
  obtain ⟨sk, s0, s1, s2, s3, s4, kp, kc, nc, kf, nf8, rf, kfs, kq, nq, rq, kqs, ko, no, ro, kos⟩ := hst
  have sk : gK σ1 3 = 6 := sk
  have s0 : gR σ1 3 0 = some 4 := s0
  have s1 : gR σ1 3 1 = some 5 := s1
  have s2 : gR σ1 3 2 = some 6 := s2
  have s3 : gR σ1 3 3 = some 15 := s3
  have s4 : gR σ1 3 4 = some 20 := s4
  have kp : gK σ1 4 = 5 := kp
  have kc : gK σ1 5 = 10 := kc
  have nc : gN σ1 5 = 480 := nc
  have kf : gK σ1 6 = 14 := kf
  have nf8 : gN σ1 6 = 8 := nf8
  have rf : ∀ i, i < 8 → gR σ1 6 i = some (7 + i) := rf
  have kfs : ∀ i, i < 8 → gK σ1 (7 + i) = 5 := kfs
  have kq : gK σ1 15 = 14 := kq
  have nq : gN σ1 15 = 4 := nq
  have rq : ∀ i, i < 4 → gR σ1 15 i = some (16 + i) := rq
  have kqs : ∀ i, i < 4 → gK σ1 (16 + i) = 5 := kqs
  have ko : gK σ1 20 = 16 := ko
  have no : gN σ1 20 = 4 := no
  have ro : ∀ i, i < 4 → gR σ1 20 i = some (21 + i) := ro
  have kos : ∀ i, i < 4 → gK σ1 (21 + i) = 1 := kos
  obtain ⟨a1, a2, a3, a4, a5, a6⟩ := hcs
  have fk := kfs f.toNat (by omega)
  have fr := rf f.toNat (by omega)
  have fa : ss σ1 (7 + f.toNat) = pF a f.toNat := a3 f.toNat (by omega)
  have hm := hwf.2.2.2.2.2.1
  simp (disch := first | omega | (simp (maxDischargeDepth := 30) only [gK_pS, AWt, tk, t0, t1, t2, t3, t4, t5, t6, t7, t8, t9, t10, kcs, ncs, kdr, ksa, nsa, ks1, ks2, ks3, ks4, ks5, sk, s0, s1, s2, s3, s4, kp, kc, nc, kf, nf8, kq, nq, ko, no, hw, a5]; done) | (simp (maxDischargeDepth := 30) only [gK_pS, AWt, tk, t0, t1, t2, t3, t4, t5, t6, t7, t8, t9, t10, kcs, ncs, kdr, ksa, nsa, ks1, ks2, ks3, ks4, ks5, sk, s0, s1, s2, s3, s4, kp, kc, nc, kf, nf8, kq, nq, ko, no, hw, a5]; omega)) only [b_93_0, b_93_1, b_93_2, b_93_3, k_93_3, b_93_4, k_93_4, b_93_5, k_93_5, e_93, wq_iconst, wq_bipush, wq_fconst, wq_dconst, wq_iload, wq_lload, wq_fload, wq_dload, wq_aload, wq_istore, wq_fstore, wq_astore, wq_lstore, wq_dstore, wq_iinc, wq_iadd, wq_isub, wq_imul, wq_iand, wq_ior, wq_ixor, wq_ishl, wq_ishr, wq_iushr, wq_ladd, wq_lsub, wq_land, wq_lor, wq_lxor, wq_lshl, wq_lushr, wq_idiv, wq_irem, wq_lcmp, wq_fcmp, wq_dcmp, wq_i2l, wq_l2i, wq_i2f, wq_i2d, wq_f2d, wq_fdiv, wq_ddiv, wq_dupi, wq_dupr, wq_dup2, wq_popi, wq_popr, wq_if_eq, wq_ic_eq, wq_if_ne, wq_ic_ne, wq_if_lt, wq_ic_lt, wq_if_ge, wq_ic_ge, wq_if_gt, wq_ic_gt, wq_if_le, wq_ic_le, wq_goto, wq_nop, wq_tsw, wq_getfield, wq_pfi, wq_pfl, wq_pfr, wq_getstatic, wq_iaload, wq_baload, wq_laload, wq_daload, wq_aaload, wq_iastore, wq_bastore, wq_lastore, wq_dastore, wq_aastore, wq_arraylength, wq_new, wq_newarray, wq_anewarray, wq_multi, wq_copy, wq_mmax, wq_mmin, wq_oi, wq_cs0, wq_cs1, wq_cs2, wq_cs3, wq_cs4, wq_cs5, wq_cs6, wq_cs7, wq_cv1, wq_cv2, wq_cv3, wq_cv4, wq_cv5, wq_cv6, wq_ci1, wq_ci2, wq_ci3, wq_ci4, wq_ci5, wq_ci6, wq_athrow, wq_ireturn, wq_freturn, wq_dreturn, wq_areturn, wq_return, wsw_n, wsw_c, aft_i, gf_1, gf_2, gf_3, rv_s, okst_0, okst_s, is2_int, is2_float, is2_ref, is2_retAddr, List.getElem?_cons_zero, List.getElem?_cons_succ, List.set_cons_zero, List.set_cons_succ, List.length_cons, List.length_nil, Option.toList_some, Option.toList_none, List.cons_append, List.nil_append, List.singleton_append, gL_setI, gD_setI, gR_setI, gN_setI, gK_setI, gx_setI, gc_setI, gs_setI, gI_setL, gD_setL, gR_setL, gN_setL, gK_setL, gx_setL, gc_setL, gs_setL, gI_setD, gL_setD, gR_setD, gN_setD, gK_setD, gx_setD, gc_setD, gs_setD, gI_setR, gL_setR, gD_setR, gN_setR, gK_setR, gx_setR, gc_setR, gs_setR, gL_rowI, gD_rowI, gR_rowI, gN_rowI, gK_rowI, gx_rowI, gc_rowI, gs_rowI, gI_I, gL_L, gD_D, gR_R, gI_row, gI_bmp, gL_bmp, gD_bmp, gR_bmp, gN_bmp, gK_bmp, gx_bmp, gc_bmp, gs_bmp, gK_pS, gN_pS, gI_pS, gD_pS, gR_pS, gx_pS, gc_pS, gs_pS, iv_11, ↓iv_max, ↓iv_min, iv_lt_t, iv_lt_f, iv_le_t, iv_le_f, iv_eq_t, iv_eq_f, iv_lt0_t, iv_lt0_f, iv_gt0_t, iv_gt0_f, iv_le0_t, iv_le0_f, iv_ge0_t, iv_ge0_f, iv_eq0_t, iv_eq0_f, iv_add, iv_sub, iv_mul, iv_nat, iv_lt, iv_le, iv_eq, iv_lt0, iv_gt0, iv_le0, iv_ge0, iv_eq0, iv_cl, bv_01, bv_eq0, lcmp_eq0, ↓reduceIte, Nat.reduceLeDiff, Nat.reduceLT, Nat.reduceAdd, Nat.reduceSub, Nat.reduceEqDiff, Nat.reduceMul, Nat.succ_ne_zero, Nat.zero_lt_succ, Nat.lt_add_one, Nat.add_left_cancel_iff, and_true, true_and, and_false, false_and, and_self, Nat.zero_le, eq_self, true_or, or_true, false_or, or_false, Bool.not_false, Bool.not_true, not_true, not_false_iff, Int.reduceEq, Int.reduceLT, Int.reduceLE, Int.reduceAdd, Int.reduceSub, Int.reduceToNat, Int.reduceNeg, Bool.false_eq_true, Bool.true_eq_false, reduceCtorEq, tk, t0, t1, t2, t3, t4, t5, t6, t7, t8, t9, t10, kcs, ncs, kdr, ksa, nsa, ks1, ks2, ks3, ks4, ks5, sk, s0, s1, s2, s3, s4, kp, kc, nc, kf, nf8, kq, nq, ko, no, hw, a5, isRA14, iv_inb_t, true_or, or_true, show isRA 15 = true from rfl, show isRA 16 = true from rfl, Int.toNat_natCast]
  refine x_151 b0 (fun σ2 g2 h2 => ?_)
  have b2 := b0.scr g2
  have e0 := b2.2.2.2.1.1
  have hw2 := g2.2.1
  have hK := g2.K
  have hR := g2.R
  have kt1 : gK σ2 221 = 5 := by rw [hK]; exact ks1
  have kt2 : gK σ2 4 = 5 := by rw [hK]; exact kp
  have m53 : ∀ Q, Ex 53 [.ref 221, .ref 4] σ2 Q = Q (.inl none) (pS σ2 221 (pT a)) := fun Q => by
    rw [x_53 kt1 kt2 hw2]
    exact congrArg (fun f => Q (.inl none) (pS σ2 221 f)) e0
  simp (disch := first | omega | (simp (maxDischargeDepth := 30) only [gK_pS, AWt, tk, t0, t1, t2, t3, t4, t5, t6, t7, t8, t9, t10, kcs, ncs, kdr, ksa, nsa, ks1, ks2, ks3, ks4, ks5, sk, s0, s1, s2, s3, s4, kp, kc, nc, kf, nf8, kq, nq, ko, no, hK, hR]; done) | (simp (maxDischargeDepth := 30) only [gK_pS, AWt, tk, t0, t1, t2, t3, t4, t5, t6, t7, t8, t9, t10, kcs, ncs, kdr, ksa, nsa, ks1, ks2, ks3, ks4, ks5, sk, s0, s1, s2, s3, s4, kp, kc, nc, kf, nf8, kq, nq, ko, no, hK, hR]; omega)) only [b_93_0, b_93_1, b_93_2, b_93_3, k_93_3, b_93_4, k_93_4, b_93_5, k_93_5, e_93, wq_iconst, wq_bipush, wq_fconst, wq_dconst, wq_iload, wq_lload, wq_fload, wq_dload, wq_aload, wq_istore, wq_fstore, wq_astore, wq_lstore, wq_dstore, wq_iinc, wq_iadd, wq_isub, wq_imul, wq_iand, wq_ior, wq_ixor, wq_ishl, wq_ishr, wq_iushr, wq_ladd, wq_lsub, wq_land, wq_lor, wq_lxor, wq_lshl, wq_lushr, wq_idiv, wq_irem, wq_lcmp, wq_fcmp, wq_dcmp, wq_i2l, wq_l2i, wq_i2f, wq_i2d, wq_f2d, wq_fdiv, wq_ddiv, wq_dupi, wq_dupr, wq_dup2, wq_popi, wq_popr, wq_if_eq, wq_ic_eq, wq_if_ne, wq_ic_ne, wq_if_lt, wq_ic_lt, wq_if_ge, wq_ic_ge, wq_if_gt, wq_ic_gt, wq_if_le, wq_ic_le, wq_goto, wq_nop, wq_tsw, wq_getfield, wq_pfi, wq_pfl, wq_pfr, wq_getstatic, wq_iaload, wq_baload, wq_laload, wq_daload, wq_aaload, wq_iastore, wq_bastore, wq_lastore, wq_dastore, wq_aastore, wq_arraylength, wq_new, wq_newarray, wq_anewarray, wq_multi, wq_copy, wq_mmax, wq_mmin, wq_oi, wq_cs0, wq_cs1, wq_cs2, wq_cs3, wq_cs4, wq_cs5, wq_cs6, wq_cs7, wq_cv1, wq_cv2, wq_cv3, wq_cv4, wq_cv5, wq_cv6, wq_ci1, wq_ci2, wq_ci3, wq_ci4, wq_ci5, wq_ci6, wq_athrow, wq_ireturn, wq_freturn, wq_dreturn, wq_areturn, wq_return, wsw_n, wsw_c, aft_i, gf_1, gf_2, gf_3, rv_s, okst_0, okst_s, is2_int, is2_float, is2_ref, is2_retAddr, List.getElem?_cons_zero, List.getElem?_cons_succ, List.set_cons_zero, List.set_cons_succ, List.length_cons, List.length_nil, Option.toList_some, Option.toList_none, List.cons_append, List.nil_append, List.singleton_append, gL_setI, gD_setI, gR_setI, gN_setI, gK_setI, gx_setI, gc_setI, gs_setI, gI_setL, gD_setL, gR_setL, gN_setL, gK_setL, gx_setL, gc_setL, gs_setL, gI_setD, gL_setD, gR_setD, gN_setD, gK_setD, gx_setD, gc_setD, gs_setD, gI_setR, gL_setR, gD_setR, gN_setR, gK_setR, gx_setR, gc_setR, gs_setR, gL_rowI, gD_rowI, gR_rowI, gN_rowI, gK_rowI, gx_rowI, gc_rowI, gs_rowI, gI_I, gL_L, gD_D, gR_R, gI_row, gI_bmp, gL_bmp, gD_bmp, gR_bmp, gN_bmp, gK_bmp, gx_bmp, gc_bmp, gs_bmp, gK_pS, gN_pS, gI_pS, gD_pS, gR_pS, gx_pS, gc_pS, gs_pS, iv_11, ↓iv_max, ↓iv_min, iv_lt_t, iv_lt_f, iv_le_t, iv_le_f, iv_eq_t, iv_eq_f, iv_lt0_t, iv_lt0_f, iv_gt0_t, iv_gt0_f, iv_le0_t, iv_le0_f, iv_ge0_t, iv_ge0_f, iv_eq0_t, iv_eq0_f, iv_add, iv_sub, iv_mul, iv_nat, iv_lt, iv_le, iv_eq, iv_lt0, iv_gt0, iv_le0, iv_ge0, iv_eq0, iv_cl, bv_01, bv_eq0, lcmp_eq0, ↓reduceIte, Nat.reduceLeDiff, Nat.reduceLT, Nat.reduceAdd, Nat.reduceSub, Nat.reduceEqDiff, Nat.reduceMul, Nat.succ_ne_zero, Nat.zero_lt_succ, Nat.lt_add_one, Nat.add_left_cancel_iff, and_true, true_and, and_false, false_and, and_self, Nat.zero_le, eq_self, true_or, or_true, false_or, or_false, Bool.not_false, Bool.not_true, not_true, not_false_iff, Int.reduceEq, Int.reduceLT, Int.reduceLE, Int.reduceAdd, Int.reduceSub, Int.reduceToNat, Int.reduceNeg, Bool.false_eq_true, Bool.true_eq_false, reduceCtorEq, tk, t0, t1, t2, t3, t4, t5, t6, t7, t8, t9, t10, kcs, ncs, kdr, ksa, nsa, ks1, ks2, ks3, ks4, ks5, sk, s0, s1, s2, s3, s4, kp, kc, nc, kf, nf8, kq, nq, ko, no, hK, hR, isRA14, iv_inb_t, true_or, or_true, show isRA 15 = true from rfl, show isRA 16 = true from rfl, Int.toNat_natCast, m53]
  have e1 : OF sc σ2 (pS σ2 221 (pT a)) := OF.st (OF.rf hw2) (Or.inl (by omega)) _
  refine q_93_1 (b2.scr e1) hf (fun σ3 g3 h3 => ?_) (pM a) 0 0 _ _ (by omega) (by omega) (OF.rf e1.2.1) ⟨h2, fun r => ?_⟩
  · exact c_doneF b0 g1 (by omega) (fun r hr => ((plS_iff a r (pM a)).mp hr).1) (((g2.tr e1).wk (fun _ hp => Or.inr hp)).tr g3) h3 hQ
  · rw [ss_S (fun r hr => T_le hwf hr)]
    exact ⟨fun h => ⟨h, fun i hi h9 => absurd h9 (by omega)⟩, fun h => h.1⟩
def condA (a : PS) (c t u : Int) (i k : Nat) : Int := if i = pM a then (if k = 0 then c else if k = 1 then t else u) else pC a i k
theorem c_addCondition_t {σ : St} {Q : Out → St → Prop} {a : PS} {n : Nat} {hs : Nat → PS} (hb : BI σ a n hs) {c t u : Int} (hc : 0 ≤ c ∧ c < 4) (ht : 0 ≤ t ∧ t ≤ 7) (hu : -64 ≤ u ∧ u ≤ 63) (h4 : pM a < 4) (hQ : ∀ σ', OF ow σ σ' → BI σ' (wC a (pM a + 1) (condA a c t u)) (min (n + 1) 8) (psh a hs) → Q (.inl (some (.int (iv (pM a : Nat))))) σ') : Ex 98 [.ref 2, .int (iv c), .int (iv t), .int (iv u)] σ Q := by
  have hb0 := hb
  obtain ⟨hly, hw, hwf, hcs, hkc, -⟩ := hb
  have hly0 := hly
  obtain ⟨tk, t0, t1, t2, t3, t4, t5, t6, t7, t8, t9, t10, kcs, ncs, rcs, kdr, ksa, nsa, ks1, ks2, ks3, ks4, ks5, hst, hhi, hco⟩ := hly
  have hst0 := hst
  obtain ⟨sk, s0, s1, s2, s3, s4, kp, kc, nc, kf, nf8, rf, kfs, kq, nq, rq, kqs, ko, no, ro, kos⟩ := hst
  have sk : gK σ 3 = 6 := sk
  have s0 : gR σ 3 0 = some 4 := s0
  have s1 : gR σ 3 1 = some 5 := s1
  have s2 : gR σ 3 2 = some 6 := s2
  have s3 : gR σ 3 3 = some 15 := s3
  have s4 : gR σ 3 4 = some 20 := s4
  have kp : gK σ 4 = 5 := kp
  have kc : gK σ 5 = 10 := kc
  have nc : gN σ 5 = 480 := nc
  have kf : gK σ 6 = 14 := kf
  have nf8 : gN σ 6 = 8 := nf8
  have rf : ∀ i, i < 8 → gR σ 6 i = some (7 + i) := rf
  have kfs : ∀ i, i < 8 → gK σ (7 + i) = 5 := kfs
  have kq : gK σ 15 = 14 := kq
  have nq : gN σ 15 = 4 := nq
  have rq : ∀ i, i < 4 → gR σ 15 i = some (16 + i) := rq
  have kqs : ∀ i, i < 4 → gK σ (16 + i) = 5 := kqs
  have ko : gK σ 20 = 16 := ko
  have no : gN σ 20 = 4 := no
  have ro : ∀ i, i < 4 → gR σ 20 i = some (21 + i) := ro
  have kos : ∀ i, i < 4 → gK σ (21 + i) = 1 := kos
  have a5 : gI σ 3 5 = iv (pM a) := hcs.2.2.2.2.1
  have m0 := fun Q => x_144t (Q := Q) hly0 a5 h4
  have hk4 := hhi.1
  simp (disch := first | omega | (simp (maxDischargeDepth := 30) only [gK_pS, AWt, tk, t0, t1, t2, t3, t4, t5, t6, t7, t8, t9, t10, kcs, ncs, kdr, ksa, nsa, ks1, ks2, ks3, ks4, ks5, sk, s0, s1, s2, s3, s4, kp, kc, nc, kf, nf8, kq, nq, ko, no, hw, hk4]; done) | (simp (maxDischargeDepth := 30) only [gK_pS, AWt, tk, t0, t1, t2, t3, t4, t5, t6, t7, t8, t9, t10, kcs, ncs, kdr, ksa, nsa, ks1, ks2, ks3, ks4, ks5, sk, s0, s1, s2, s3, s4, kp, kc, nc, kf, nf8, kq, nq, ko, no, hw, hk4]; omega)) only [b_98_0, e_98, wq_iconst, wq_bipush, wq_fconst, wq_dconst, wq_iload, wq_lload, wq_fload, wq_dload, wq_aload, wq_istore, wq_fstore, wq_astore, wq_lstore, wq_dstore, wq_iinc, wq_iadd, wq_isub, wq_imul, wq_iand, wq_ior, wq_ixor, wq_ishl, wq_ishr, wq_iushr, wq_ladd, wq_lsub, wq_land, wq_lor, wq_lxor, wq_lshl, wq_lushr, wq_idiv, wq_irem, wq_lcmp, wq_fcmp, wq_dcmp, wq_i2l, wq_l2i, wq_i2f, wq_i2d, wq_f2d, wq_fdiv, wq_ddiv, wq_dupi, wq_dupr, wq_dup2, wq_popi, wq_popr, wq_if_eq, wq_ic_eq, wq_if_ne, wq_ic_ne, wq_if_lt, wq_ic_lt, wq_if_ge, wq_ic_ge, wq_if_gt, wq_ic_gt, wq_if_le, wq_ic_le, wq_goto, wq_nop, wq_tsw, wq_getfield, wq_pfi, wq_pfl, wq_pfr, wq_getstatic, wq_iaload, wq_baload, wq_laload, wq_daload, wq_aaload, wq_iastore, wq_bastore, wq_lastore, wq_dastore, wq_aastore, wq_arraylength, wq_new, wq_newarray, wq_anewarray, wq_multi, wq_copy, wq_mmax, wq_mmin, wq_oi, wq_cs0, wq_cs1, wq_cs2, wq_cs3, wq_cs4, wq_cs5, wq_cs6, wq_cs7, wq_cv1, wq_cv2, wq_cv3, wq_cv4, wq_cv5, wq_cv6, wq_ci1, wq_ci2, wq_ci3, wq_ci4, wq_ci5, wq_ci6, wq_athrow, wq_ireturn, wq_freturn, wq_dreturn, wq_areturn, wq_return, wsw_n, wsw_c, aft_i, gf_1, gf_2, gf_3, rv_s, okst_0, okst_s, is2_int, is2_float, is2_ref, is2_retAddr, List.getElem?_cons_zero, List.getElem?_cons_succ, List.set_cons_zero, List.set_cons_succ, List.length_cons, List.length_nil, Option.toList_some, Option.toList_none, List.cons_append, List.nil_append, List.singleton_append, gL_setI, gD_setI, gR_setI, gN_setI, gK_setI, gx_setI, gc_setI, gs_setI, gI_setL, gD_setL, gR_setL, gN_setL, gK_setL, gx_setL, gc_setL, gs_setL, gI_setD, gL_setD, gR_setD, gN_setD, gK_setD, gx_setD, gc_setD, gs_setD, gI_setR, gL_setR, gD_setR, gN_setR, gK_setR, gx_setR, gc_setR, gs_setR, gL_rowI, gD_rowI, gR_rowI, gN_rowI, gK_rowI, gx_rowI, gc_rowI, gs_rowI, gI_I, gL_L, gD_D, gR_R, gI_row, gI_bmp, gL_bmp, gD_bmp, gR_bmp, gN_bmp, gK_bmp, gx_bmp, gc_bmp, gs_bmp, gK_pS, gN_pS, gI_pS, gD_pS, gR_pS, gx_pS, gc_pS, gs_pS, iv_11, ↓iv_max, ↓iv_min, iv_lt_t, iv_lt_f, iv_le_t, iv_le_f, iv_eq_t, iv_eq_f, iv_lt0_t, iv_lt0_f, iv_gt0_t, iv_gt0_f, iv_le0_t, iv_le0_f, iv_ge0_t, iv_ge0_f, iv_eq0_t, iv_eq0_f, iv_add, iv_sub, iv_mul, iv_nat, iv_lt, iv_le, iv_eq, iv_lt0, iv_gt0, iv_le0, iv_ge0, iv_eq0, iv_cl, bv_01, bv_eq0, lcmp_eq0, ↓reduceIte, Nat.reduceLeDiff, Nat.reduceLT, Nat.reduceAdd, Nat.reduceSub, Nat.reduceEqDiff, Nat.reduceMul, Nat.succ_ne_zero, Nat.zero_lt_succ, Nat.lt_add_one, Nat.add_left_cancel_iff, and_true, true_and, and_false, false_and, and_self, Nat.zero_le, eq_self, true_or, or_true, false_or, or_false, Bool.not_false, Bool.not_true, not_true, not_false_iff, Int.reduceEq, Int.reduceLT, Int.reduceLE, Int.reduceAdd, Int.reduceSub, Int.reduceToNat, Int.reduceNeg, Bool.false_eq_true, Bool.true_eq_false, reduceCtorEq, tk, t0, t1, t2, t3, t4, t5, t6, t7, t8, t9, t10, kcs, ncs, kdr, ksa, nsa, ks1, ks2, ks3, ks4, ks5, sk, s0, s1, s2, s3, s4, kp, kc, nc, kf, nf8, kq, nq, ko, no, hw, hk4, isRA14, iv_inb_t, true_or, or_true, show isRA 15 = true from rfl, show isRA 16 = true from rfl, Int.toNat_natCast, x_133t, x_140t, x_141t, m0]
  refine c_rem hb0 (fun σ1 g1 b1 => ?_)
  have b0 := b1
  clear hk4 hw hwf hcs hkc hly0 hst0 hhi hco kos ro no ko kqs rq nq kq kfs rf nf8 kf nc kc kp s4 s3 s2 s1 s0 sk ks5 ks4 ks3 ks2 ks1 nsa ksa kdr rcs ncs kcs t10 t9 t8 t7 t6 t5 t4 t3 t2 t1 t0 tk
  obtain ⟨hly, hw, hwf, hcs, hkc, -⟩ := b1
  have hly0 := hly
  obtain ⟨tk, t0, t1, t2, t3, t4, t5, t6, t7, t8, t9, t10, kcs, ncs, rcs, kdr, ksa, nsa, ks1, ks2, ks3, ks4, ks5, hst, hhi, hco⟩ := hly
  have hst0 := hst
  obtain ⟨sk, s0, s1, s2, s3, s4, kp, kc, nc, kf, nf8, rf, kfs, kq, nq, rq, kqs, ko, no, ro, kos⟩ := hst
  have sk : gK σ1 3 = 6 := sk
  have s0 : gR σ1 3 0 = some 4 := s0
  have s1 : gR σ1 3 1 = some 5 := s1
  have s2 : gR σ1 3 2 = some 6 := s2
  have s3 : gR σ1 3 3 = some 15 := s3
  have s4 : gR σ1 3 4 = some 20 := s4
  have kp : gK σ1 4 = 5 := kp
  have kc : gK σ1 5 = 10 := kc
  have nc : gN σ1 5 = 480 := nc
  have kf : gK σ1 6 = 14 := kf
  have nf8 : gN σ1 6 = 8 := nf8
  have rf : ∀ i, i < 8 → gR σ1 6 i = some (7 + i) := rf
  have kfs : ∀ i, i < 8 → gK σ1 (7 + i) = 5 := kfs
  have kq : gK σ1 15 = 14 := kq
  have nq : gN σ1 15 = 4 := nq
  have rq : ∀ i, i < 4 → gR σ1 15 i = some (16 + i) := rq
  have kqs : ∀ i, i < 4 → gK σ1 (16 + i) = 5 := kqs
  have ko : gK σ1 20 = 16 := ko
  have no : gN σ1 20 = 4 := no
  have ro : ∀ i, i < 4 → gR σ1 20 i = some (21 + i) := ro
  have kos : ∀ i, i < 4 → gK σ1 (21 + i) = 1 := kos
  obtain ⟨a1, a2, a3, a4, a5, a6⟩ := hcs
  have hm := hwf.2.2.2.2.2.1
  have kc1 := kos (pM a) (by omega)
  have ro1 := ro (pM a) (by omega)
  have m31 := fun Q => x_31 (σ := σ1) (Q := Q) (a := iv c) (b := iv t) (c := iv u) kc1
  have hgi : ∀ y : Int32, gI (setI (setI (setI σ1 (21 + pM a) 0 (iv c)) (21 + pM a) 1 (iv t)) (21 + pM a) 2 (iv u)) 3 5 = iv (pM a : Nat) := fun _ => by
    rw [gI_I, if_neg (by omega), gI_I, if_neg (by omega), gI_I, if_neg (by omega)]
    exact a5
  simp (disch := first | omega | (simp (maxDischargeDepth := 30) only [gK_pS, AWt, tk, t0, t1, t2, t3, t4, t5, t6, t7, t8, t9, t10, kcs, ncs, kdr, ksa, nsa, ks1, ks2, ks3, ks4, ks5, sk, s0, s1, s2, s3, s4, kp, kc, nc, kf, nf8, kq, nq, ko, no, hw, a5, kc1, ro1, hgi]; done) | (simp (maxDischargeDepth := 30) only [gK_pS, AWt, tk, t0, t1, t2, t3, t4, t5, t6, t7, t8, t9, t10, kcs, ncs, kdr, ksa, nsa, ks1, ks2, ks3, ks4, ks5, sk, s0, s1, s2, s3, s4, kp, kc, nc, kf, nf8, kq, nq, ko, no, hw, a5, kc1, ro1, hgi]; omega)) only [b_98_0, e_98, wq_iconst, wq_bipush, wq_fconst, wq_dconst, wq_iload, wq_lload, wq_fload, wq_dload, wq_aload, wq_istore, wq_fstore, wq_astore, wq_lstore, wq_dstore, wq_iinc, wq_iadd, wq_isub, wq_imul, wq_iand, wq_ior, wq_ixor, wq_ishl, wq_ishr, wq_iushr, wq_ladd, wq_lsub, wq_land, wq_lor, wq_lxor, wq_lshl, wq_lushr, wq_idiv, wq_irem, wq_lcmp, wq_fcmp, wq_dcmp, wq_i2l, wq_l2i, wq_i2f, wq_i2d, wq_f2d, wq_fdiv, wq_ddiv, wq_dupi, wq_dupr, wq_dup2, wq_popi, wq_popr, wq_if_eq, wq_ic_eq, wq_if_ne, wq_ic_ne, wq_if_lt, wq_ic_lt, wq_if_ge, wq_ic_ge, wq_if_gt, wq_ic_gt, wq_if_le, wq_ic_le, wq_goto, wq_nop, wq_tsw, wq_getfield, wq_pfi, wq_pfl, wq_pfr, wq_getstatic, wq_iaload, wq_baload, wq_laload, wq_daload, wq_aaload, wq_iastore, wq_bastore, wq_lastore, wq_dastore, wq_aastore, wq_arraylength, wq_new, wq_newarray, wq_anewarray, wq_multi, wq_copy, wq_mmax, wq_mmin, wq_oi, wq_cs0, wq_cs1, wq_cs2, wq_cs3, wq_cs4, wq_cs5, wq_cs6, wq_cs7, wq_cv1, wq_cv2, wq_cv3, wq_cv4, wq_cv5, wq_cv6, wq_ci1, wq_ci2, wq_ci3, wq_ci4, wq_ci5, wq_ci6, wq_athrow, wq_ireturn, wq_freturn, wq_dreturn, wq_areturn, wq_return, wsw_n, wsw_c, aft_i, gf_1, gf_2, gf_3, rv_s, okst_0, okst_s, is2_int, is2_float, is2_ref, is2_retAddr, List.getElem?_cons_zero, List.getElem?_cons_succ, List.set_cons_zero, List.set_cons_succ, List.length_cons, List.length_nil, Option.toList_some, Option.toList_none, List.cons_append, List.nil_append, List.singleton_append, gL_setI, gD_setI, gR_setI, gN_setI, gK_setI, gx_setI, gc_setI, gs_setI, gI_setL, gD_setL, gR_setL, gN_setL, gK_setL, gx_setL, gc_setL, gs_setL, gI_setD, gL_setD, gR_setD, gN_setD, gK_setD, gx_setD, gc_setD, gs_setD, gI_setR, gL_setR, gD_setR, gN_setR, gK_setR, gx_setR, gc_setR, gs_setR, gL_rowI, gD_rowI, gR_rowI, gN_rowI, gK_rowI, gx_rowI, gc_rowI, gs_rowI, gI_I, gL_L, gD_D, gR_R, gI_row, gI_bmp, gL_bmp, gD_bmp, gR_bmp, gN_bmp, gK_bmp, gx_bmp, gc_bmp, gs_bmp, gK_pS, gN_pS, gI_pS, gD_pS, gR_pS, gx_pS, gc_pS, gs_pS, iv_11, ↓iv_max, ↓iv_min, iv_lt_t, iv_lt_f, iv_le_t, iv_le_f, iv_eq_t, iv_eq_f, iv_lt0_t, iv_lt0_f, iv_gt0_t, iv_gt0_f, iv_le0_t, iv_le0_f, iv_ge0_t, iv_ge0_f, iv_eq0_t, iv_eq0_f, iv_add, iv_sub, iv_mul, iv_nat, iv_lt, iv_le, iv_eq, iv_lt0, iv_gt0, iv_le0, iv_ge0, iv_eq0, iv_cl, bv_01, bv_eq0, lcmp_eq0, ↓reduceIte, Nat.reduceLeDiff, Nat.reduceLT, Nat.reduceAdd, Nat.reduceSub, Nat.reduceEqDiff, Nat.reduceMul, Nat.succ_ne_zero, Nat.zero_lt_succ, Nat.lt_add_one, Nat.add_left_cancel_iff, and_true, true_and, and_false, false_and, and_self, Nat.zero_le, eq_self, true_or, or_true, false_or, or_false, Bool.not_false, Bool.not_true, not_true, not_false_iff, Int.reduceEq, Int.reduceLT, Int.reduceLE, Int.reduceAdd, Int.reduceSub, Int.reduceToNat, Int.reduceNeg, Bool.false_eq_true, Bool.true_eq_false, reduceCtorEq, tk, t0, t1, t2, t3, t4, t5, t6, t7, t8, t9, t10, kcs, ncs, kdr, ksa, nsa, ks1, ks2, ks3, ks4, ks5, sk, s0, s1, s2, s3, s4, kp, kc, nc, kf, nf8, kq, nq, ko, no, hw, a5, kc1, ro1, hgi, isRA14, iv_inb_t, true_or, or_true, show isRA 15 = true from rfl, show isRA 16 = true from rfl, Int.toNat_natCast, m31]
  obtain ⟨w1, w2, w3, w4, w5, w6, w7⟩ := hwf
  have e1 : OF (fun p => (3 ≤ p ∧ p ≤ 24) ∨ sc p) σ1 (setI (setI (setI (setI σ1 (21 + pM a) 0 (iv c)) (21 + pM a) 1 (iv t)) (21 + pM a) 2 (iv u)) 3 5 (iv ((pM a : Int) + 1))) := (((((OF.rf hw).si (Or.inl (by omega)) _ _).si (Or.inl (by omega)) _ _).si (Or.inl (by omega)) _ _).si (Or.inl (by omega)) _ _)
  refine hQ _ ((g1.wk (fun _ hp => hsT_ow hp)).tr (e1.wk (fun p hp => hp.elim (fun h => by unfold ow; omega) sc_ow))) (BI.S b0 e1 ⟨w1, w2, w3, w4, w5, ?_, fun i hi => ?_⟩ ⟨a1, fun r hr c hc => ?_, a3, a4, ?_, fun i hi k hk => ?_⟩ (fun _ _ _ => rfl))
  · show pM a + 1 ≤ 4
    omega
  · have hi : i < pM a + 1 := hi
    show (0 ≤ condA a c t u i 0 ∧ condA a c t u i 0 ≤ 3) ∧ (0 ≤ condA a c t u i 1 ∧ condA a c t u i 1 ≤ 7) ∧ isv (condA a c t u i 2) = true
    unfold condA
    by_cases e : i = pM a
    · simp only [e, if_true]
      refine ⟨by omega, ?_, ?_⟩
      · simp only [Nat.one_ne_zero, if_false, if_true]; omega
      · rw [if_neg (by omega), if_neg (by omega)]; exact isv_iff.mpr hu
    · simp only [e, if_false]
      exact w7 i (by omega)
  · rw [gI_I, if_neg (by omega), gI_I, if_neg (by omega), gI_I, if_neg (by omega), gI_I, if_neg (by omega)]
    exact a2 r hr c hc
  · rw [gI_I, if_pos ⟨rfl, rfl⟩]
    show iv ((pM a : Int) + 1) = iv ((pM a + 1 : Nat) : Int)
    rw [Int.natCast_succ]
  · have hi : i < pM a + 1 := hi
    show gI _ (3 + 18 + i) k = iv (condA a c t u i k)
    unfold condA
    rw [gI_I, if_neg (by omega), gI_I, gI_I, gI_I]
    by_cases e : i = pM a
    · subst e
      have h3 : k = 0 ∨ k = 1 ∨ k = 2 := by omega
      rcases h3 with h | h | h
      · subst h
        rw [if_neg (by omega), if_neg (by omega), if_pos ⟨rfl, rfl⟩, if_pos rfl, if_pos rfl]
      · subst h
        rw [if_neg (by omega), if_pos ⟨rfl, rfl⟩, if_pos rfl, if_neg (by omega), if_pos rfl]
      · subst h
        rw [if_pos ⟨rfl, rfl⟩, if_pos rfl, if_neg (by omega), if_neg (by omega)]
    · rw [if_neg (by omega), if_neg (by omega), if_neg (by omega), if_neg e]
      exact a6 i (by omega) k hk
def condD (a : PS) (d i k : Nat) : Int := if i < d then pC a i k else pC a (i + 1) k
theorem q_99_1 {σ : St} {Q : Out → St → Prop} {a : PS} {d : Nat} (hly : LY σ) (hd : d < pM a) (hm4 : pM a ≤ 4) (h5 : gI σ 3 5 = iv (pM a)) (h6 : ∀ i, i < pM a → ∀ k, k < 3 → gI σ (21 + i) k = iv (pC a i k)) (hQ : ∀ σ', OF (fun p => p = 3 ∨ (21 ≤ p ∧ p ≤ 24)) σ σ' → gI σ' 3 5 = iv ((pM a - 1 : Nat) : Int) → (∀ i, i < pM a - 1 → ∀ k, k < 3 → gI σ' (21 + i) k = iv (condD a d i k)) → Q (.inl (some (.int (iv ((pM a - 1 : Nat) : Int))))) σ') : ∀ (k j : Nat) (i : Int) (σ' : St), i = j → j + k = pM a → d < j → OF (fun p => p = 3 ∨ (21 ≤ p ∧ p ≤ 24)) σ σ' → gI σ' 3 5 = iv (pM a) → (∀ i, i < pM a → ∀ k, k < 3 → gI σ' (21 + i) k = iv (if i + 1 < j then condD a d i k else pC a i k)) → Wp 99 (blk 99 1, [.ref 2, .int (iv (d : Int)), .int (iv i)], [], σ') Q := by
  intro k
  induction k with
  | zero =>
    intro j i σ' hi hj hdj hf h7 h8
    have hly := hly.of hf
    have hw := hf.2.1
    have hly0 := hly
    obtain ⟨tk, t0, t1, t2, t3, t4, t5, t6, t7, t8, t9, t10, kcs, ncs, rcs, kdr, ksa, nsa, ks1, ks2, ks3, ks4, ks5, hst, hhi, hco⟩ := hly
    have hst0 := hst
    obtain ⟨sk, s0, s1, s2, s3, s4, kp, kc, nc, kf, nf8, rf, kfs, kq, nq, rq, kqs, ko, no, ro, kos⟩ := hst
    have sk : gK σ' 3 = 6 := sk
    have s0 : gR σ' 3 0 = some 4 := s0
    have s1 : gR σ' 3 1 = some 5 := s1
    have s2 : gR σ' 3 2 = some 6 := s2
    have s3 : gR σ' 3 3 = some 15 := s3
    have s4 : gR σ' 3 4 = some 20 := s4
    have kp : gK σ' 4 = 5 := kp
    have kc : gK σ' 5 = 10 := kc
    have nc : gN σ' 5 = 480 := nc
    have kf : gK σ' 6 = 14 := kf
    have nf8 : gN σ' 6 = 8 := nf8
    have rf : ∀ i, i < 8 → gR σ' 6 i = some (7 + i) := rf
    have kfs : ∀ i, i < 8 → gK σ' (7 + i) = 5 := kfs
    have kq : gK σ' 15 = 14 := kq
    have nq : gN σ' 15 = 4 := nq
    have rq : ∀ i, i < 4 → gR σ' 15 i = some (16 + i) := rq
    have kqs : ∀ i, i < 4 → gK σ' (16 + i) = 5 := kqs
    have ko : gK σ' 20 = 16 := ko
    have no : gN σ' 20 = 4 := no
    have ro : ∀ i, i < 4 → gR σ' 20 i = some (21 + i) := ro
    have kos : ∀ i, i < 4 → gK σ' (21 + i) = 1 := kos
    have e1 : (pM a : Int) - 1 = ((pM a - 1 : Nat) : Int) := by omega
    rw [k_99_1]
    simp (disch := first | omega | (simp (maxDischargeDepth := 30) only [gK_pS, AWt, tk, t0, t1, t2, t3, t4, t5, t6, t7, t8, t9, t10, kcs, ncs, kdr, ksa, nsa, ks1, ks2, ks3, ks4, ks5, sk, s0, s1, s2, s3, s4, kp, kc, nc, kf, nf8, kq, nq, ko, no, hw, h7]; done) | (simp (maxDischargeDepth := 30) only [gK_pS, AWt, tk, t0, t1, t2, t3, t4, t5, t6, t7, t8, t9, t10, kcs, ncs, kdr, ksa, nsa, ks1, ks2, ks3, ks4, ks5, sk, s0, s1, s2, s3, s4, kp, kc, nc, kf, nf8, kq, nq, ko, no, hw, h7]; omega)) only [b_99_0, b_99_1, b_99_2, k_99_2, wq_iconst, wq_bipush, wq_fconst, wq_dconst, wq_iload, wq_lload, wq_fload, wq_dload, wq_aload, wq_istore, wq_fstore, wq_astore, wq_lstore, wq_dstore, wq_iinc, wq_iadd, wq_isub, wq_imul, wq_iand, wq_ior, wq_ixor, wq_ishl, wq_ishr, wq_iushr, wq_ladd, wq_lsub, wq_land, wq_lor, wq_lxor, wq_lshl, wq_lushr, wq_idiv, wq_irem, wq_lcmp, wq_fcmp, wq_dcmp, wq_i2l, wq_l2i, wq_i2f, wq_i2d, wq_f2d, wq_fdiv, wq_ddiv, wq_dupi, wq_dupr, wq_dup2, wq_popi, wq_popr, wq_if_eq, wq_ic_eq, wq_if_ne, wq_ic_ne, wq_if_lt, wq_ic_lt, wq_if_ge, wq_ic_ge, wq_if_gt, wq_ic_gt, wq_if_le, wq_ic_le, wq_goto, wq_nop, wq_tsw, wq_getfield, wq_pfi, wq_pfl, wq_pfr, wq_getstatic, wq_iaload, wq_baload, wq_laload, wq_daload, wq_aaload, wq_iastore, wq_bastore, wq_lastore, wq_dastore, wq_aastore, wq_arraylength, wq_new, wq_newarray, wq_anewarray, wq_multi, wq_copy, wq_mmax, wq_mmin, wq_oi, wq_cs0, wq_cs1, wq_cs2, wq_cs3, wq_cs4, wq_cs5, wq_cs6, wq_cs7, wq_cv1, wq_cv2, wq_cv3, wq_cv4, wq_cv5, wq_cv6, wq_ci1, wq_ci2, wq_ci3, wq_ci4, wq_ci5, wq_ci6, wq_athrow, wq_ireturn, wq_freturn, wq_dreturn, wq_areturn, wq_return, wsw_n, wsw_c, aft_i, gf_1, gf_2, gf_3, rv_s, okst_0, okst_s, is2_int, is2_float, is2_ref, is2_retAddr, List.getElem?_cons_zero, List.getElem?_cons_succ, List.set_cons_zero, List.set_cons_succ, List.length_cons, List.length_nil, Option.toList_some, Option.toList_none, List.cons_append, List.nil_append, List.singleton_append, gL_setI, gD_setI, gR_setI, gN_setI, gK_setI, gx_setI, gc_setI, gs_setI, gI_setL, gD_setL, gR_setL, gN_setL, gK_setL, gx_setL, gc_setL, gs_setL, gI_setD, gL_setD, gR_setD, gN_setD, gK_setD, gx_setD, gc_setD, gs_setD, gI_setR, gL_setR, gD_setR, gN_setR, gK_setR, gx_setR, gc_setR, gs_setR, gL_rowI, gD_rowI, gR_rowI, gN_rowI, gK_rowI, gx_rowI, gc_rowI, gs_rowI, gI_I, gL_L, gD_D, gR_R, gI_row, gI_bmp, gL_bmp, gD_bmp, gR_bmp, gN_bmp, gK_bmp, gx_bmp, gc_bmp, gs_bmp, gK_pS, gN_pS, gI_pS, gD_pS, gR_pS, gx_pS, gc_pS, gs_pS, iv_11, ↓iv_max, ↓iv_min, iv_lt_t, iv_lt_f, iv_le_t, iv_le_f, iv_eq_t, iv_eq_f, iv_lt0_t, iv_lt0_f, iv_gt0_t, iv_gt0_f, iv_le0_t, iv_le0_f, iv_ge0_t, iv_ge0_f, iv_eq0_t, iv_eq0_f, iv_add, iv_sub, iv_mul, iv_nat, iv_lt, iv_le, iv_eq, iv_lt0, iv_gt0, iv_le0, iv_ge0, iv_eq0, iv_cl, bv_01, bv_eq0, lcmp_eq0, ↓reduceIte, Nat.reduceLeDiff, Nat.reduceLT, Nat.reduceAdd, Nat.reduceSub, Nat.reduceEqDiff, Nat.reduceMul, Nat.succ_ne_zero, Nat.zero_lt_succ, Nat.lt_add_one, Nat.add_left_cancel_iff, and_true, true_and, and_false, false_and, and_self, Nat.zero_le, eq_self, true_or, or_true, false_or, or_false, Bool.not_false, Bool.not_true, not_true, not_false_iff, Int.reduceEq, Int.reduceLT, Int.reduceLE, Int.reduceAdd, Int.reduceSub, Int.reduceToNat, Int.reduceNeg, Bool.false_eq_true, Bool.true_eq_false, reduceCtorEq, tk, t0, t1, t2, t3, t4, t5, t6, t7, t8, t9, t10, kcs, ncs, kdr, ksa, nsa, ks1, ks2, ks3, ks4, ks5, sk, s0, s1, s2, s3, s4, kp, kc, nc, kf, nf8, kq, nq, ko, no, hw, h7, isRA14, iv_inb_t, true_or, or_true, show isRA 15 = true from rfl, show isRA 16 = true from rfl, Int.toNat_natCast, e1]
    refine hQ _ (hf.si (Or.inl rfl) _ _) ?_ (fun i hi k hk => ?_)
    · rw [gI_I, if_pos ⟨rfl, rfl⟩]
    · rw [gI_I, if_neg (by omega), h8 i (by omega) k hk, if_pos (by omega)]
  | succ k ih =>
    intro j i σ' hi hj hdj hf h7 h8
    have hly := hly.of hf
    have hw := hf.2.1
    have hly0 := hly
    obtain ⟨tk, t0, t1, t2, t3, t4, t5, t6, t7, t8, t9, t10, kcs, ncs, rcs, kdr, ksa, nsa, ks1, ks2, ks3, ks4, ks5, hst, hhi, hco⟩ := hly
    have hst0 := hst
    obtain ⟨sk, s0, s1, s2, s3, s4, kp, kc, nc, kf, nf8, rf, kfs, kq, nq, rq, kqs, ko, no, ro, kos⟩ := hst
    have sk : gK σ' 3 = 6 := sk
    have s0 : gR σ' 3 0 = some 4 := s0
    have s1 : gR σ' 3 1 = some 5 := s1
    have s2 : gR σ' 3 2 = some 6 := s2
    have s3 : gR σ' 3 3 = some 15 := s3
    have s4 : gR σ' 3 4 = some 20 := s4
    have kp : gK σ' 4 = 5 := kp
    have kc : gK σ' 5 = 10 := kc
    have nc : gN σ' 5 = 480 := nc
    have kf : gK σ' 6 = 14 := kf
    have nf8 : gN σ' 6 = 8 := nf8
    have rf : ∀ i, i < 8 → gR σ' 6 i = some (7 + i) := rf
    have kfs : ∀ i, i < 8 → gK σ' (7 + i) = 5 := kfs
    have kq : gK σ' 15 = 14 := kq
    have nq : gN σ' 15 = 4 := nq
    have rq : ∀ i, i < 4 → gR σ' 15 i = some (16 + i) := rq
    have kqs : ∀ i, i < 4 → gK σ' (16 + i) = 5 := kqs
    have ko : gK σ' 20 = 16 := ko
    have no : gN σ' 20 = 4 := no
    have ro : ∀ i, i < 4 → gR σ' 20 i = some (21 + i) := ro
    have kos : ∀ i, i < 4 → gK σ' (21 + i) = 1 := kos
    have e1 : (i - 1).toNat = j - 1 := by omega
    have e2 : i.toNat = j := by omega
    have r1 := ro (j - 1) (by omega)
    have r2 := ro j (by omega)
    have k1 := kos (j - 1) (by omega)
    have k2 := kos j (by omega)
    have m32 := fun Q => x_32 (Q := Q) k1 k2
    rw [h8 j (by omega) 0 (by omega), h8 j (by omega) 1 (by omega), h8 j (by omega) 2 (by omega)] at m32
    simp only [show ¬ j + 1 < j by omega, if_false] at m32
    rw [k_99_1]
    simp (disch := first | omega | (simp (maxDischargeDepth := 30) only [gK_pS, AWt, tk, t0, t1, t2, t3, t4, t5, t6, t7, t8, t9, t10, kcs, ncs, kdr, ksa, nsa, ks1, ks2, ks3, ks4, ks5, sk, s0, s1, s2, s3, s4, kp, kc, nc, kf, nf8, kq, nq, ko, no, hw, h7, r1, r2, k1, k2]; done) | (simp (maxDischargeDepth := 30) only [gK_pS, AWt, tk, t0, t1, t2, t3, t4, t5, t6, t7, t8, t9, t10, kcs, ncs, kdr, ksa, nsa, ks1, ks2, ks3, ks4, ks5, sk, s0, s1, s2, s3, s4, kp, kc, nc, kf, nf8, kq, nq, ko, no, hw, h7, r1, r2, k1, k2]; omega)) only [b_99_0, b_99_1, b_99_2, k_99_2, wq_iconst, wq_bipush, wq_fconst, wq_dconst, wq_iload, wq_lload, wq_fload, wq_dload, wq_aload, wq_istore, wq_fstore, wq_astore, wq_lstore, wq_dstore, wq_iinc, wq_iadd, wq_isub, wq_imul, wq_iand, wq_ior, wq_ixor, wq_ishl, wq_ishr, wq_iushr, wq_ladd, wq_lsub, wq_land, wq_lor, wq_lxor, wq_lshl, wq_lushr, wq_idiv, wq_irem, wq_lcmp, wq_fcmp, wq_dcmp, wq_i2l, wq_l2i, wq_i2f, wq_i2d, wq_f2d, wq_fdiv, wq_ddiv, wq_dupi, wq_dupr, wq_dup2, wq_popi, wq_popr, wq_if_eq, wq_ic_eq, wq_if_ne, wq_ic_ne, wq_if_lt, wq_ic_lt, wq_if_ge, wq_ic_ge, wq_if_gt, wq_ic_gt, wq_if_le, wq_ic_le, wq_goto, wq_nop, wq_tsw, wq_getfield, wq_pfi, wq_pfl, wq_pfr, wq_getstatic, wq_iaload, wq_baload, wq_laload, wq_daload, wq_aaload, wq_iastore, wq_bastore, wq_lastore, wq_dastore, wq_aastore, wq_arraylength, wq_new, wq_newarray, wq_anewarray, wq_multi, wq_copy, wq_mmax, wq_mmin, wq_oi, wq_cs0, wq_cs1, wq_cs2, wq_cs3, wq_cs4, wq_cs5, wq_cs6, wq_cs7, wq_cv1, wq_cv2, wq_cv3, wq_cv4, wq_cv5, wq_cv6, wq_ci1, wq_ci2, wq_ci3, wq_ci4, wq_ci5, wq_ci6, wq_athrow, wq_ireturn, wq_freturn, wq_dreturn, wq_areturn, wq_return, wsw_n, wsw_c, aft_i, gf_1, gf_2, gf_3, rv_s, okst_0, okst_s, is2_int, is2_float, is2_ref, is2_retAddr, List.getElem?_cons_zero, List.getElem?_cons_succ, List.set_cons_zero, List.set_cons_succ, List.length_cons, List.length_nil, Option.toList_some, Option.toList_none, List.cons_append, List.nil_append, List.singleton_append, gL_setI, gD_setI, gR_setI, gN_setI, gK_setI, gx_setI, gc_setI, gs_setI, gI_setL, gD_setL, gR_setL, gN_setL, gK_setL, gx_setL, gc_setL, gs_setL, gI_setD, gL_setD, gR_setD, gN_setD, gK_setD, gx_setD, gc_setD, gs_setD, gI_setR, gL_setR, gD_setR, gN_setR, gK_setR, gx_setR, gc_setR, gs_setR, gL_rowI, gD_rowI, gR_rowI, gN_rowI, gK_rowI, gx_rowI, gc_rowI, gs_rowI, gI_I, gL_L, gD_D, gR_R, gI_row, gI_bmp, gL_bmp, gD_bmp, gR_bmp, gN_bmp, gK_bmp, gx_bmp, gc_bmp, gs_bmp, gK_pS, gN_pS, gI_pS, gD_pS, gR_pS, gx_pS, gc_pS, gs_pS, iv_11, ↓iv_max, ↓iv_min, iv_lt_t, iv_lt_f, iv_le_t, iv_le_f, iv_eq_t, iv_eq_f, iv_lt0_t, iv_lt0_f, iv_gt0_t, iv_gt0_f, iv_le0_t, iv_le0_f, iv_ge0_t, iv_ge0_f, iv_eq0_t, iv_eq0_f, iv_add, iv_sub, iv_mul, iv_nat, iv_lt, iv_le, iv_eq, iv_lt0, iv_gt0, iv_le0, iv_ge0, iv_eq0, iv_cl, bv_01, bv_eq0, lcmp_eq0, ↓reduceIte, Nat.reduceLeDiff, Nat.reduceLT, Nat.reduceAdd, Nat.reduceSub, Nat.reduceEqDiff, Nat.reduceMul, Nat.succ_ne_zero, Nat.zero_lt_succ, Nat.lt_add_one, Nat.add_left_cancel_iff, and_true, true_and, and_false, false_and, and_self, Nat.zero_le, eq_self, true_or, or_true, false_or, or_false, Bool.not_false, Bool.not_true, not_true, not_false_iff, Int.reduceEq, Int.reduceLT, Int.reduceLE, Int.reduceAdd, Int.reduceSub, Int.reduceToNat, Int.reduceNeg, Bool.false_eq_true, Bool.true_eq_false, reduceCtorEq, tk, t0, t1, t2, t3, t4, t5, t6, t7, t8, t9, t10, kcs, ncs, kdr, ksa, nsa, ks1, ks2, ks3, ks4, ks5, sk, s0, s1, s2, s3, s4, kp, kc, nc, kf, nf8, kq, nq, ko, no, hw, h7, r1, r2, k1, k2, isRA14, iv_inb_t, true_or, or_true, show isRA 15 = true from rfl, show isRA 16 = true from rfl, Int.toNat_natCast, m32, e1, e2]
    refine ih (j + 1) (i + 1) _ (by omega) (by omega) (by omega) (((hf.si (Or.inr (by omega)) _ _).si (Or.inr (by omega)) _ _).si (Or.inr (by omega)) _ _) ?_ (fun l hl k hk => ?_)
    · rw [gI_I, if_neg (by omega), gI_I, if_neg (by omega), gI_I, if_neg (by omega)]
      exact h7
    · rw [gI_I, gI_I, gI_I]
      by_cases e : l = j - 1
      · have h3 : k = 0 ∨ k = 1 ∨ k = 2 := by omega
        have ec : ∀ k, condD a d l k = pC a j k := fun k => by
          unfold condD
          rw [if_neg (by omega), show l + 1 = j by omega]
        rw [if_pos (show l + 1 < j + 1 by omega), ec]
        rcases h3 with h | h | h
        · subst h
          rw [if_neg (by omega), if_neg (by omega), if_pos ⟨by omega, rfl⟩]
        · subst h
          rw [if_neg (by omega), if_pos ⟨by omega, rfl⟩]
        · subst h
          rw [if_pos ⟨by omega, rfl⟩]
      · rw [if_neg (by omega), if_neg (by omega), if_neg (by omega), h8 l hl k hk]
        by_cases e2 : l + 1 < j
        · rw [if_pos e2, if_pos (by omega)]
        · rw [if_neg e2, if_neg (by omega)]
theorem c_dropCondition_t {σ : St} {Q : Out → St → Prop} {a : PS} {n : Nat} {hs : Nat → PS} (hb : BI σ a n hs) {d : Int} (hd : 0 ≤ d ∧ d < pM a) (hQ : ∀ σ', OF ow σ σ' → BI σ' (wC a (pM a - 1) (condD a d.toNat)) (min (n + 1) 8) (psh a hs) → Q (.inl (some (.int (iv ((pM a - 1 : Nat) : Int))))) σ') : Ex 99 [.ref 2, .int (iv d)] σ Q := by
  have hb0 := hb
  obtain ⟨hly, hw, hwf, hcs, hkc, -⟩ := hb
  have hly0 := hly
  obtain ⟨tk, t0, t1, t2, t3, t4, t5, t6, t7, t8, t9, t10, kcs, ncs, rcs, kdr, ksa, nsa, ks1, ks2, ks3, ks4, ks5, hst, hhi, hco⟩ := hly
  have hst0 := hst
  obtain ⟨sk, s0, s1, s2, s3, s4, kp, kc, nc, kf, nf8, rf, kfs, kq, nq, rq, kqs, ko, no, ro, kos⟩ := hst
  have sk : gK σ 3 = 6 := sk
  have s0 : gR σ 3 0 = some 4 := s0
  have s1 : gR σ 3 1 = some 5 := s1
  have s2 : gR σ 3 2 = some 6 := s2
  have s3 : gR σ 3 3 = some 15 := s3
  have s4 : gR σ 3 4 = some 20 := s4
  have kp : gK σ 4 = 5 := kp
  have kc : gK σ 5 = 10 := kc
  have nc : gN σ 5 = 480 := nc
  have kf : gK σ 6 = 14 := kf
  have nf8 : gN σ 6 = 8 := nf8
  have rf : ∀ i, i < 8 → gR σ 6 i = some (7 + i) := rf
  have kfs : ∀ i, i < 8 → gK σ (7 + i) = 5 := kfs
  have kq : gK σ 15 = 14 := kq
  have nq : gN σ 15 = 4 := nq
  have rq : ∀ i, i < 4 → gR σ 15 i = some (16 + i) := rq
  have kqs : ∀ i, i < 4 → gK σ (16 + i) = 5 := kqs
  have ko : gK σ 20 = 16 := ko
  have no : gN σ 20 = 4 := no
  have ro : ∀ i, i < 4 → gR σ 20 i = some (21 + i) := ro
  have kos : ∀ i, i < 4 → gK σ (21 + i) = 1 := kos
  have hm := hwf.2.2.2.2.2.1
  have a5 : gI σ 3 5 = iv (pM a) := hcs.2.2.2.2.1
  have m0 := fun Q => x_136t (Q := Q) (i := d) hly0 a5 hm hd
  have hk4 := hhi.1
  simp (disch := first | omega | (simp (maxDischargeDepth := 30) only [gK_pS, AWt, tk, t0, t1, t2, t3, t4, t5, t6, t7, t8, t9, t10, kcs, ncs, kdr, ksa, nsa, ks1, ks2, ks3, ks4, ks5, sk, s0, s1, s2, s3, s4, kp, kc, nc, kf, nf8, kq, nq, ko, no, hw, hk4]; done) | (simp (maxDischargeDepth := 30) only [gK_pS, AWt, tk, t0, t1, t2, t3, t4, t5, t6, t7, t8, t9, t10, kcs, ncs, kdr, ksa, nsa, ks1, ks2, ks3, ks4, ks5, sk, s0, s1, s2, s3, s4, kp, kc, nc, kf, nf8, kq, nq, ko, no, hw, hk4]; omega)) only [b_99_0, b_99_1, k_99_1, b_99_2, k_99_2, e_99, wq_iconst, wq_bipush, wq_fconst, wq_dconst, wq_iload, wq_lload, wq_fload, wq_dload, wq_aload, wq_istore, wq_fstore, wq_astore, wq_lstore, wq_dstore, wq_iinc, wq_iadd, wq_isub, wq_imul, wq_iand, wq_ior, wq_ixor, wq_ishl, wq_ishr, wq_iushr, wq_ladd, wq_lsub, wq_land, wq_lor, wq_lxor, wq_lshl, wq_lushr, wq_idiv, wq_irem, wq_lcmp, wq_fcmp, wq_dcmp, wq_i2l, wq_l2i, wq_i2f, wq_i2d, wq_f2d, wq_fdiv, wq_ddiv, wq_dupi, wq_dupr, wq_dup2, wq_popi, wq_popr, wq_if_eq, wq_ic_eq, wq_if_ne, wq_ic_ne, wq_if_lt, wq_ic_lt, wq_if_ge, wq_ic_ge, wq_if_gt, wq_ic_gt, wq_if_le, wq_ic_le, wq_goto, wq_nop, wq_tsw, wq_getfield, wq_pfi, wq_pfl, wq_pfr, wq_getstatic, wq_iaload, wq_baload, wq_laload, wq_daload, wq_aaload, wq_iastore, wq_bastore, wq_lastore, wq_dastore, wq_aastore, wq_arraylength, wq_new, wq_newarray, wq_anewarray, wq_multi, wq_copy, wq_mmax, wq_mmin, wq_oi, wq_cs0, wq_cs1, wq_cs2, wq_cs3, wq_cs4, wq_cs5, wq_cs6, wq_cs7, wq_cv1, wq_cv2, wq_cv3, wq_cv4, wq_cv5, wq_cv6, wq_ci1, wq_ci2, wq_ci3, wq_ci4, wq_ci5, wq_ci6, wq_athrow, wq_ireturn, wq_freturn, wq_dreturn, wq_areturn, wq_return, wsw_n, wsw_c, aft_i, gf_1, gf_2, gf_3, rv_s, okst_0, okst_s, is2_int, is2_float, is2_ref, is2_retAddr, List.getElem?_cons_zero, List.getElem?_cons_succ, List.set_cons_zero, List.set_cons_succ, List.length_cons, List.length_nil, Option.toList_some, Option.toList_none, List.cons_append, List.nil_append, List.singleton_append, gL_setI, gD_setI, gR_setI, gN_setI, gK_setI, gx_setI, gc_setI, gs_setI, gI_setL, gD_setL, gR_setL, gN_setL, gK_setL, gx_setL, gc_setL, gs_setL, gI_setD, gL_setD, gR_setD, gN_setD, gK_setD, gx_setD, gc_setD, gs_setD, gI_setR, gL_setR, gD_setR, gN_setR, gK_setR, gx_setR, gc_setR, gs_setR, gL_rowI, gD_rowI, gR_rowI, gN_rowI, gK_rowI, gx_rowI, gc_rowI, gs_rowI, gI_I, gL_L, gD_D, gR_R, gI_row, gI_bmp, gL_bmp, gD_bmp, gR_bmp, gN_bmp, gK_bmp, gx_bmp, gc_bmp, gs_bmp, gK_pS, gN_pS, gI_pS, gD_pS, gR_pS, gx_pS, gc_pS, gs_pS, iv_11, ↓iv_max, ↓iv_min, iv_lt_t, iv_lt_f, iv_le_t, iv_le_f, iv_eq_t, iv_eq_f, iv_lt0_t, iv_lt0_f, iv_gt0_t, iv_gt0_f, iv_le0_t, iv_le0_f, iv_ge0_t, iv_ge0_f, iv_eq0_t, iv_eq0_f, iv_add, iv_sub, iv_mul, iv_nat, iv_lt, iv_le, iv_eq, iv_lt0, iv_gt0, iv_le0, iv_ge0, iv_eq0, iv_cl, bv_01, bv_eq0, lcmp_eq0, ↓reduceIte, Nat.reduceLeDiff, Nat.reduceLT, Nat.reduceAdd, Nat.reduceSub, Nat.reduceEqDiff, Nat.reduceMul, Nat.succ_ne_zero, Nat.zero_lt_succ, Nat.lt_add_one, Nat.add_left_cancel_iff, and_true, true_and, and_false, false_and, and_self, Nat.zero_le, eq_self, true_or, or_true, false_or, or_false, Bool.not_false, Bool.not_true, not_true, not_false_iff, Int.reduceEq, Int.reduceLT, Int.reduceLE, Int.reduceAdd, Int.reduceSub, Int.reduceToNat, Int.reduceNeg, Bool.false_eq_true, Bool.true_eq_false, reduceCtorEq, tk, t0, t1, t2, t3, t4, t5, t6, t7, t8, t9, t10, kcs, ncs, kdr, ksa, nsa, ks1, ks2, ks3, ks4, ks5, sk, s0, s1, s2, s3, s4, kp, kc, nc, kf, nf8, kq, nq, ko, no, hw, hk4, isRA14, iv_inb_t, true_or, or_true, show isRA 15 = true from rfl, show isRA 16 = true from rfl, Int.toNat_natCast, m0]
  refine c_rem hb0 (fun σ1 g1 b1 => ?_)
  have b0 := b1
  clear hk4 hw hwf hcs hkc hly0 hst0 hhi hco kos ro no ko kqs rq nq kq kfs rf nf8 kf nc kc kp s4 s3 s2 s1 s0 sk ks5 ks4 ks3 ks2 ks1 nsa ksa kdr rcs ncs kcs t10 t9 t8 t7 t6 t5 t4 t3 t2 t1 t0 tk
  obtain ⟨hly, hw, hwf, hcs, hkc, -⟩ := b1
  have hly0 := hly
  obtain ⟨tk, t0, t1, t2, t3, t4, t5, t6, t7, t8, t9, t10, kcs, ncs, rcs, kdr, ksa, nsa, ks1, ks2, ks3, ks4, ks5, hst, hhi, hco⟩ := hly
  have hst0 := hst
  obtain ⟨sk, s0, s1, s2, s3, s4, kp, kc, nc, kf, nf8, rf, kfs, kq, nq, rq, kqs, ko, no, ro, kos⟩ := hst
  have sk : gK σ1 3 = 6 := sk
  have s0 : gR σ1 3 0 = some 4 := s0
  have s1 : gR σ1 3 1 = some 5 := s1
  have s2 : gR σ1 3 2 = some 6 := s2
  have s3 : gR σ1 3 3 = some 15 := s3
  have s4 : gR σ1 3 4 = some 20 := s4
  have kp : gK σ1 4 = 5 := kp
  have kc : gK σ1 5 = 10 := kc
  have nc : gN σ1 5 = 480 := nc
  have kf : gK σ1 6 = 14 := kf
  have nf8 : gN σ1 6 = 8 := nf8
  have rf : ∀ i, i < 8 → gR σ1 6 i = some (7 + i) := rf
  have kfs : ∀ i, i < 8 → gK σ1 (7 + i) = 5 := kfs
  have kq : gK σ1 15 = 14 := kq
  have nq : gN σ1 15 = 4 := nq
  have rq : ∀ i, i < 4 → gR σ1 15 i = some (16 + i) := rq
  have kqs : ∀ i, i < 4 → gK σ1 (16 + i) = 5 := kqs
  have ko : gK σ1 20 = 16 := ko
  have no : gN σ1 20 = 4 := no
  have ro : ∀ i, i < 4 → gR σ1 20 i = some (21 + i) := ro
  have kos : ∀ i, i < 4 → gK σ1 (21 + i) = 1 := kos
  obtain ⟨a1, a2, a3, a4, a5, a6⟩ := hcs
  have hm := hwf.2.2.2.2.2.1
  obtain ⟨w1, w2, w3, w4, w5, w6, w7⟩ := hwf
  simp (disch := first | omega | (simp (maxDischargeDepth := 30) only [gK_pS, AWt, tk, t0, t1, t2, t3, t4, t5, t6, t7, t8, t9, t10, kcs, ncs, kdr, ksa, nsa, ks1, ks2, ks3, ks4, ks5, sk, s0, s1, s2, s3, s4, kp, kc, nc, kf, nf8, kq, nq, ko, no, hw, a5]; done) | (simp (maxDischargeDepth := 30) only [gK_pS, AWt, tk, t0, t1, t2, t3, t4, t5, t6, t7, t8, t9, t10, kcs, ncs, kdr, ksa, nsa, ks1, ks2, ks3, ks4, ks5, sk, s0, s1, s2, s3, s4, kp, kc, nc, kf, nf8, kq, nq, ko, no, hw, a5]; omega)) only [b_99_0, b_99_1, b_99_2, k_99_2, e_99, wq_iconst, wq_bipush, wq_fconst, wq_dconst, wq_iload, wq_lload, wq_fload, wq_dload, wq_aload, wq_istore, wq_fstore, wq_astore, wq_lstore, wq_dstore, wq_iinc, wq_iadd, wq_isub, wq_imul, wq_iand, wq_ior, wq_ixor, wq_ishl, wq_ishr, wq_iushr, wq_ladd, wq_lsub, wq_land, wq_lor, wq_lxor, wq_lshl, wq_lushr, wq_idiv, wq_irem, wq_lcmp, wq_fcmp, wq_dcmp, wq_i2l, wq_l2i, wq_i2f, wq_i2d, wq_f2d, wq_fdiv, wq_ddiv, wq_dupi, wq_dupr, wq_dup2, wq_popi, wq_popr, wq_if_eq, wq_ic_eq, wq_if_ne, wq_ic_ne, wq_if_lt, wq_ic_lt, wq_if_ge, wq_ic_ge, wq_if_gt, wq_ic_gt, wq_if_le, wq_ic_le, wq_goto, wq_nop, wq_tsw, wq_getfield, wq_pfi, wq_pfl, wq_pfr, wq_getstatic, wq_iaload, wq_baload, wq_laload, wq_daload, wq_aaload, wq_iastore, wq_bastore, wq_lastore, wq_dastore, wq_aastore, wq_arraylength, wq_new, wq_newarray, wq_anewarray, wq_multi, wq_copy, wq_mmax, wq_mmin, wq_oi, wq_cs0, wq_cs1, wq_cs2, wq_cs3, wq_cs4, wq_cs5, wq_cs6, wq_cs7, wq_cv1, wq_cv2, wq_cv3, wq_cv4, wq_cv5, wq_cv6, wq_ci1, wq_ci2, wq_ci3, wq_ci4, wq_ci5, wq_ci6, wq_athrow, wq_ireturn, wq_freturn, wq_dreturn, wq_areturn, wq_return, wsw_n, wsw_c, aft_i, gf_1, gf_2, gf_3, rv_s, okst_0, okst_s, is2_int, is2_float, is2_ref, is2_retAddr, List.getElem?_cons_zero, List.getElem?_cons_succ, List.set_cons_zero, List.set_cons_succ, List.length_cons, List.length_nil, Option.toList_some, Option.toList_none, List.cons_append, List.nil_append, List.singleton_append, gL_setI, gD_setI, gR_setI, gN_setI, gK_setI, gx_setI, gc_setI, gs_setI, gI_setL, gD_setL, gR_setL, gN_setL, gK_setL, gx_setL, gc_setL, gs_setL, gI_setD, gL_setD, gR_setD, gN_setD, gK_setD, gx_setD, gc_setD, gs_setD, gI_setR, gL_setR, gD_setR, gN_setR, gK_setR, gx_setR, gc_setR, gs_setR, gL_rowI, gD_rowI, gR_rowI, gN_rowI, gK_rowI, gx_rowI, gc_rowI, gs_rowI, gI_I, gL_L, gD_D, gR_R, gI_row, gI_bmp, gL_bmp, gD_bmp, gR_bmp, gN_bmp, gK_bmp, gx_bmp, gc_bmp, gs_bmp, gK_pS, gN_pS, gI_pS, gD_pS, gR_pS, gx_pS, gc_pS, gs_pS, iv_11, ↓iv_max, ↓iv_min, iv_lt_t, iv_lt_f, iv_le_t, iv_le_f, iv_eq_t, iv_eq_f, iv_lt0_t, iv_lt0_f, iv_gt0_t, iv_gt0_f, iv_le0_t, iv_le0_f, iv_ge0_t, iv_ge0_f, iv_eq0_t, iv_eq0_f, iv_add, iv_sub, iv_mul, iv_nat, iv_lt, iv_le, iv_eq, iv_lt0, iv_gt0, iv_le0, iv_ge0, iv_eq0, iv_cl, bv_01, bv_eq0, lcmp_eq0, ↓reduceIte, Nat.reduceLeDiff, Nat.reduceLT, Nat.reduceAdd, Nat.reduceSub, Nat.reduceEqDiff, Nat.reduceMul, Nat.succ_ne_zero, Nat.zero_lt_succ, Nat.lt_add_one, Nat.add_left_cancel_iff, and_true, true_and, and_false, false_and, and_self, Nat.zero_le, eq_self, true_or, or_true, false_or, or_false, Bool.not_false, Bool.not_true, not_true, not_false_iff, Int.reduceEq, Int.reduceLT, Int.reduceLE, Int.reduceAdd, Int.reduceSub, Int.reduceToNat, Int.reduceNeg, Bool.false_eq_true, Bool.true_eq_false, reduceCtorEq, tk, t0, t1, t2, t3, t4, t5, t6, t7, t8, t9, t10, kcs, ncs, kdr, ksa, nsa, ks1, ks2, ks3, ks4, ks5, sk, s0, s1, s2, s3, s4, kp, kc, nc, kf, nf8, kq, nq, ko, no, hw, a5, isRA14, iv_inb_t, true_or, or_true, show isRA 15 = true from rfl, show isRA 16 = true from rfl, Int.toNat_natCast]
  have e0 : d = ((d.toNat : Nat) : Int) := by omega
  generalize d.toNat = dn at e0 hQ
  subst e0
  refine q_99_1 (d := dn) hly0 (by omega) hm a5 a6 (fun σ2 h1 h2 h3 => ?_) (pM a - (dn + 1)) (dn + 1) ((dn : Int) + 1) σ1 (by omega) (by omega) (by omega) (OF.rf hw) a5 (fun i hi k hk => ?_)
  · have nt : ∀ p, p ≠ 3 → ¬ (21 ≤ p ∧ p ≤ 24) → ss σ2 p = ss σ1 p ∧ ∀ k, gI σ2 p k = gI σ1 p k := fun p h4 h5 => h1.2.2 p (by omega)
    refine hQ σ2 ((g1.wk (fun _ hp => hsT_ow hp)).tr (h1.wk (fun p hp => by unfold ow; omega))) (BI.S b0 (h1.wk (fun p hp => by omega)) ⟨w1, w2, w3, w4, w5, ?_, fun i hi => ?_⟩ ⟨?_, fun r hr c hc => ?_, fun f hf => ?_, fun p hp => ?_, h2, fun i hi k hk => ?_⟩ (fun _ _ _ => rfl))
    · show pM a - 1 ≤ 4
      omega
    · have hi : i < pM a - 1 := hi
      show (0 ≤ condD a dn i 0 ∧ condD a dn i 0 ≤ 3) ∧ (0 ≤ condD a dn i 1 ∧ condD a dn i 1 ≤ 7) ∧ isv (condD a dn i 2) = true
      unfold condD
      by_cases e : i < dn
      · simp only [e, if_true]
        exact w7 i (by omega)
      · simp only [e, if_false]
        exact w7 (i + 1) (by omega)
    · rw [(nt _ (by omega) (by omega)).1]; exact a1
    · rw [(nt _ (by omega) (by omega)).2]; exact a2 r hr c hc
    · rw [(nt _ (by omega) (by omega)).1]; exact a3 f hf
    · rw [(nt _ (by omega) (by omega)).1]; exact a4 p hp
    · have hi : i < pM a - 1 := hi
      exact h3 i hi k hk
  · rw [a6 i hi k hk]
    by_cases e : i + 1 < dn + 1
    · rw [if_pos e]
      unfold condD
      rw [if_pos (by omega)]
    · rw [if_neg e]
