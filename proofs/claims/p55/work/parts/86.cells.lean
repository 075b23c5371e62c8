/-! CHANGES: cells, rows that come and go -/
def cellT (p : Nat) : Prop := p = 5 ∨ (226 ≤ p ∧ p < 838)
theorem cellT_ow {p : Nat} (h : cellT p) : ow p := by
  unfold cellT at h
  unfold ow
  omega
theorem c_cell {σ : St} {Q : Out → St → Prop} {a : PS} {n : Nat} {hs : Nat → PS} (hb : BI σ a n hs) {r c v : Int} (hr : 0 ≤ r ∧ r < 120) (hc : 0 ≤ c ∧ c < 4) (hv : v = 100 ∨ isv v = true) (hT : v = 100 ∨ pT a r.toNat = true) (hQ : ∀ σ', OF cellT σ σ' → BI σ' (wV a r.toNat c.toNat v) n hs → Q (.inl none) σ') : Ex 147 [.ref 2, .int (iv r), .int (iv c), .int (iv v)] σ Q := by
  obtain ⟨hly, hw, hwf, hcs, hkc, hh⟩ := hb
  have hcel := cel_3 hcs (r := r.toNat) (c := c.toNat) (by omega) (by omega) (hwf.rg _ _)
  rw [Int.toNat_of_nonneg hr.1, Int.toNat_of_nonneg hc.1] at hcel
  refine x_147 hly hw hr hc hv (hkc c.toNat (by omega)) hcel (fun σ' h1 h2 h3 => ?_)
  have nt : ∀ p, p ≤ 225 → p ≠ 5 → ¬ (p = 5 ∨ perm (226 + 153 * c.toNat) p) := fun p h1 h2 hx => by
    unfold perm at hx
    omega
  obtain ⟨w1, w2, w3, w4, w5, w6, w7⟩ := hwf
  obtain ⟨c1, c2, c3, c4, c5, c6⟩ := hcs
  refine hQ σ' (h1.wk (fun p hp => ?_)) ⟨hly.of h1, h1.2.1, ⟨w1, fun k d hk => ?_, fun k d => ?_, w4, w5, w6, w7⟩, ⟨?_, fun k hk d hd => ?_, fun g hg => ?_, fun p hp => ?_, ?_, fun i hi k hk => ?_⟩, fun d hd => ?_, hh.of h1 (fun p h1 h2 => nt p (by omega) (by omega))⟩
  · unfold perm at hp
    unfold cellT
    omega
  · show (if k = r.toNat ∧ d = c.toNat then v else pV a k d) = 100
    split
    · rename_i e
      rcases hT with h | h
      · exact h
      · have hk : pT a k = false := hk
        rw [e.1, h] at hk
        cases hk
    · exact w2 k d hk
  · show (if k = r.toNat ∧ d = c.toNat then v else pV a k d) = 100 ∨ isv (if k = r.toNat ∧ d = c.toNat then v else pV a k d) = true
    split
    · exact hv
    · exact w3 k d
  · rw [(h1.2.2 _ (nt _ (by omega) (by omega))).1]; exact c1
  · show gI σ' (3 + 2) (k * 4 + d) = iv (if k = r.toNat ∧ d = c.toNat then v else pV a k d)
    rw [show 3 + 2 = 5 from rfl, h2]
    by_cases e : k = r.toNat ∧ d = c.toNat
    · rw [if_pos (by omega), if_pos e]
    · rw [if_neg (by omega), if_neg e]
      exact c2 k hk d hd
  · rw [(h1.2.2 _ (nt _ (by omega) (by omega))).1]; exact c3 g hg
  · rw [(h1.2.2 _ (nt _ (by omega) (by omega))).1]; exact c4 p hp
  · rw [(h1.2.2 _ (nt _ (by omega) (by omega))).2]; exact c5
  · have hi : i < pM a := hi
    rw [(h1.2.2 _ (nt _ (by omega) (by omega))).2]; exact c6 i hi k hk
  · show CC σ' (226 + 153 * d) (fun k => if k = r.toNat ∧ d = c.toNat then v else pV a k d)
    by_cases e : d = c.toNat
    · subst e
      simp only [and_true]
      exact h3
    · simp only [e, and_false, if_false]
      exact (hkc d hd).of2 h1 (fun p hp hx => by unfold perm at hp hx; omega)
theorem c_setValue_t {σ : St} {Q : Out → St → Prop} {a : PS} {n : Nat} {hs : Nat → PS} (hb : BI σ a n hs) {r c v : Int} (hr : 0 ≤ r ∧ r < 120) (hT : pT a r.toNat = true) (hc : 0 ≤ c ∧ c < 4) (hv : v = 100 ∨ (-64 ≤ v ∧ v ≤ 63)) (hQ : ∀ σ', OF ow σ σ' → BI σ' (wV a r.toNat c.toNat v) (min (n + 1) 8) (psh a hs) → Q (.inl (some (.int (iv (pV a r.toNat c.toNat))))) σ') : Ex 82 [.ref 2, .int (iv r), .int (iv c), .int (iv v)] σ Q := by
  have hb0 := hb
  obtain ⟨hly, hw, hwf, hcs, hkc, -⟩ := hb
  have hly0 := hly
  obtain ⟨tk, t0, t1, t2, t3, t4, t5, t6, t7, t8, t9, t10, kcs, ncs, rcs, kdr, ksa, nsa, ks1, ks2, ks3, ks4, ks5, hst, hhi, hco⟩ := hly
  have hst0 := hst
  obtain ⟨sk, s0, s1, s2, s3, s4, kp, kc, nc, kf, nf8, rf, kfs, kq, nq, rq, kqs, ko, no, ro, kos⟩ := hst
  have sk : gK σ 3 = 6 := sk
  have s0 : gR σ 3 0 = some 4 := s0
  have s1 : gR σ 3 1 = some 5 := s1
  have s2 : gR σ 3 2 = some 6 := s2
  have s3 : gR σ 3 3 = some 15 := s3
  have s4 : gR σ 3 4 = some 20 := s4
  have kp : gK σ 4 = 5 := kp
  have kc : gK σ 5 = 10 := kc
  have nc : gN σ 5 = 480 := nc
  have kf : gK σ 6 = 14 := kf
  have nf8 : gN σ 6 = 8 := nf8
  have rf : ∀ i, i < 8 → gR σ 6 i = some (7 + i) := rf
  have kfs : ∀ i, i < 8 → gK σ (7 + i) = 5 := kfs
  have kq : gK σ 15 = 14 := kq
  have nq : gN σ 15 = 4 := nq
  have rq : ∀ i, i < 4 → gR σ 15 i = some (16 + i) := rq
  have kqs : ∀ i, i < 4 → gK σ (16 + i) = 5 := kqs
  have ko : gK σ 20 = 16 := ko
  have no : gN σ 20 = 4 := no
  have ro : ∀ i, i < 4 → gR σ 20 i = some (21 + i) := ro
  have kos : ∀ i, i < 4 → gK σ (21 + i) = 1 := kos
  have a1 : ss σ 4 = pT a := hcs.1
  have m0 := fun Q => x_138t (Q := Q) (i := r) hly0 hw (by omega) (by rw [a1]; exact hT)
  have hk4 := hhi.1
  simp (disch := first | omega | (simp (maxDischargeDepth := 30) only [gK_pS, AWt, tk, t0, t1, t2, t3, t4, t5, t6, t7, t8, t9, t10, kcs, ncs, kdr, ksa, nsa, ks1, ks2, ks3, ks4, ks5, sk, s0, s1, s2, s3, s4, kp, kc, nc, kf, nf8, kq, nq, ko, no, hw, hk4]; done) | (simp (maxDischargeDepth := 30) only [gK_pS, AWt, tk, t0, t1, t2, t3, t4, t5, t6, t7, t8, t9, t10, kcs, ncs, kdr, ksa, nsa, ks1, ks2, ks3, ks4, ks5, sk, s0, s1, s2, s3, s4, kp, kc, nc, kf, nf8, kq, nq, ko, no, hw, hk4]; omega)) only [b_82_0, e_82, wq_iconst, wq_bipush, wq_fconst, wq_dconst, wq_iload, wq_lload, wq_fload, wq_dload, wq_aload, wq_istore, wq_fstore, wq_astore, wq_lstore, wq_dstore, wq_iinc, wq_iadd, wq_isub, wq_imul, wq_iand, wq_ior, wq_ixor, wq_ishl, wq_ishr, wq_iushr, wq_ladd, wq_lsub, wq_land, wq_lor, wq_lxor, wq_lshl, wq_lushr, wq_idiv, wq_irem, wq_lcmp, wq_fcmp, wq_dcmp, wq_i2l, wq_l2i, wq_i2f, wq_i2d, wq_f2d, wq_fdiv, wq_ddiv, wq_dupi, wq_dupr, wq_dup2, wq_popi, wq_popr, wq_if_eq, wq_ic_eq, wq_if_ne, wq_ic_ne, wq_if_lt, wq_ic_lt, wq_if_ge, wq_ic_ge, wq_if_gt, wq_ic_gt, wq_if_le, wq_ic_le, wq_goto, wq_nop, wq_tsw, wq_getfield, wq_pfi, wq_pfl, wq_pfr, wq_getstatic, wq_iaload, wq_baload, wq_laload, wq_daload, wq_aaload, wq_iastore, wq_bastore, wq_lastore, wq_dastore, wq_aastore, wq_arraylength, wq_new, wq_newarray, wq_anewarray, wq_multi, wq_copy, wq_mmax, wq_mmin, wq_oi, wq_cs0, wq_cs1, wq_cs2, wq_cs3, wq_cs4, wq_cs5, wq_cs6, wq_cs7, wq_cv1, wq_cv2, wq_cv3, wq_cv4, wq_cv5, wq_cv6, wq_ci1, wq_ci2, wq_ci3, wq_ci4, wq_ci5, wq_ci6, wq_athrow, wq_ireturn, wq_freturn, wq_dreturn, wq_areturn, wq_return, wsw_n, wsw_c, aft_i, gf_1, gf_2, gf_3, rv_s, okst_0, okst_s, is2_int, is2_float, is2_ref, is2_retAddr, List.getElem?_cons_zero, List.getElem?_cons_succ, List.set_cons_zero, List.set_cons_succ, List.length_cons, List.length_nil, Option.toList_some, Option.toList_none, List.cons_append, List.nil_append, List.singleton_append, gL_setI, gD_setI, gR_setI, gN_setI, gK_setI, gx_setI, gc_setI, gs_setI, gI_setL, gD_setL, gR_setL, gN_setL, gK_setL, gx_setL, gc_setL, gs_setL, gI_setD, gL_setD, gR_setD, gN_setD, gK_setD, gx_setD, gc_setD, gs_setD, gI_setR, gL_setR, gD_setR, gN_setR, gK_setR, gx_setR, gc_setR, gs_setR, gL_rowI, gD_rowI, gR_rowI, gN_rowI, gK_rowI, gx_rowI, gc_rowI, gs_rowI, gI_I, gL_L, gD_D, gR_R, gI_row, gI_bmp, gL_bmp, gD_bmp, gR_bmp, gN_bmp, gK_bmp, gx_bmp, gc_bmp, gs_bmp, gK_pS, gN_pS, gI_pS, gD_pS, gR_pS, gx_pS, gc_pS, gs_pS, iv_11, ↓iv_max, ↓iv_min, iv_lt_t, iv_lt_f, iv_le_t, iv_le_f, iv_eq_t, iv_eq_f, iv_lt0_t, iv_lt0_f, iv_gt0_t, iv_gt0_f, iv_le0_t, iv_le0_f, iv_ge0_t, iv_ge0_f, iv_eq0_t, iv_eq0_f, iv_add, iv_sub, iv_mul, iv_nat, iv_lt, iv_le, iv_eq, iv_lt0, iv_gt0, iv_le0, iv_ge0, iv_eq0, iv_cl, bv_01, bv_eq0, lcmp_eq0, ↓reduceIte, Nat.reduceLeDiff, Nat.reduceLT, Nat.reduceAdd, Nat.reduceSub, Nat.reduceEqDiff, Nat.reduceMul, Nat.succ_ne_zero, Nat.zero_lt_succ, Nat.lt_add_one, Nat.add_left_cancel_iff, and_true, true_and, and_false, false_and, and_self, Nat.zero_le, eq_self, true_or, or_true, false_or, or_false, Bool.not_false, Bool.not_true, not_true, not_false_iff, Int.reduceEq, Int.reduceLT, Int.reduceLE, Int.reduceAdd, Int.reduceSub, Int.reduceToNat, Int.reduceNeg, Bool.false_eq_true, Bool.true_eq_false, reduceCtorEq, tk, t0, t1, t2, t3, t4, t5, t6, t7, t8, t9, t10, kcs, ncs, kdr, ksa, nsa, ks1, ks2, ks3, ks4, ks5, sk, s0, s1, s2, s3, s4, kp, kc, nc, kf, nf8, kq, nq, ko, no, hw, hk4, isRA14, iv_inb_t, true_or, or_true, show isRA 15 = true from rfl, show isRA 16 = true from rfl, Int.toNat_natCast, x_133t, x_142t, m0]
  refine c_rem hb0 (fun σ1 g1 b1 => ?_)
  have b0 := b1
  clear hk4 hw hwf hcs hkc hly0 hst0 hhi hco kos ro no ko kqs rq nq kq kfs rf nf8 kf nc kc kp s4 s3 s2 s1 s0 sk ks5 ks4 ks3 ks2 ks1 nsa ksa kdr rcs ncs kcs t10 t9 t8 t7 t6 t5 t4 t3 t2 t1 t0 tk
  obtain ⟨hly, hw, hwf, hcs, hkc, -⟩ := b1
  have hly0 := hly
  obtain ⟨tk, t0, t1, t2, t3, t4, t5, t6, t7, t8, t9, t10, kcs, ncs, rcs, kdr, ksa, nsa, ks1, ks2, ks3, ks4, ks5, hst, hhi, hco⟩ := hly
  have hst0 := hst
  obtain ⟨sk, s0, s1, s2, s3, s4, kp, kc, nc, kf, nf8, rf, kfs, kq, nq, rq, kqs, ko, no, ro, kos⟩ := hst
  have sk : gK σ1 3 = 6 := sk
  have s0 : gR σ1 3 0 = some 4 := s0
  have s1 : gR σ1 3 1 = some 5 := s1
  have s2 : gR σ1 3 2 = some 6 := s2
  have s3 : gR σ1 3 3 = some 15 := s3
  have s4 : gR σ1 3 4 = some 20 := s4
  have kp : gK σ1 4 = 5 := kp
  have kc : gK σ1 5 = 10 := kc
  have nc : gN σ1 5 = 480 := nc
  have kf : gK σ1 6 = 14 := kf
  have nf8 : gN σ1 6 = 8 := nf8
  have rf : ∀ i, i < 8 → gR σ1 6 i = some (7 + i) := rf
  have kfs : ∀ i, i < 8 → gK σ1 (7 + i) = 5 := kfs
  have kq : gK σ1 15 = 14 := kq
  have nq : gN σ1 15 = 4 := nq
  have rq : ∀ i, i < 4 → gR σ1 15 i = some (16 + i) := rq
  have kqs : ∀ i, i < 4 → gK σ1 (16 + i) = 5 := kqs
  have ko : gK σ1 20 = 16 := ko
  have no : gN σ1 20 = 4 := no
  have ro : ∀ i, i < 4 → gR σ1 20 i = some (21 + i) := ro
  have kos : ∀ i, i < 4 → gK σ1 (21 + i) = 1 := kos
  obtain ⟨a1, a2, a3, a4, a5, a6⟩ := hcs
  have hcel := cel_3 ⟨a1, a2, a3, a4, a5, a6⟩ (r := r.toNat) (c := c.toNat) (by omega) (by omega) (hwf.rg _ _)
  rw [Int.toNat_of_nonneg hr.1, Int.toNat_of_nonneg hc.1] at hcel
  have m2 := fun Q => x_76 (Q := Q) (r := r) (c := c) (by omega) (by omega) hst0
  rw [hcel] at m2
  simp (disch := first | omega | (simp (maxDischargeDepth := 30) only [gK_pS, AWt, tk, t0, t1, t2, t3, t4, t5, t6, t7, t8, t9, t10, kcs, ncs, kdr, ksa, nsa, ks1, ks2, ks3, ks4, ks5, sk, s0, s1, s2, s3, s4, kp, kc, nc, kf, nf8, kq, nq, ko, no, hw]; done) | (simp (maxDischargeDepth := 30) only [gK_pS, AWt, tk, t0, t1, t2, t3, t4, t5, t6, t7, t8, t9, t10, kcs, ncs, kdr, ksa, nsa, ks1, ks2, ks3, ks4, ks5, sk, s0, s1, s2, s3, s4, kp, kc, nc, kf, nf8, kq, nq, ko, no, hw]; omega)) only [b_82_0, e_82, wq_iconst, wq_bipush, wq_fconst, wq_dconst, wq_iload, wq_lload, wq_fload, wq_dload, wq_aload, wq_istore, wq_fstore, wq_astore, wq_lstore, wq_dstore, wq_iinc, wq_iadd, wq_isub, wq_imul, wq_iand, wq_ior, wq_ixor, wq_ishl, wq_ishr, wq_iushr, wq_ladd, wq_lsub, wq_land, wq_lor, wq_lxor, wq_lshl, wq_lushr, wq_idiv, wq_irem, wq_lcmp, wq_fcmp, wq_dcmp, wq_i2l, wq_l2i, wq_i2f, wq_i2d, wq_f2d, wq_fdiv, wq_ddiv, wq_dupi, wq_dupr, wq_dup2, wq_popi, wq_popr, wq_if_eq, wq_ic_eq, wq_if_ne, wq_ic_ne, wq_if_lt, wq_ic_lt, wq_if_ge, wq_ic_ge, wq_if_gt, wq_ic_gt, wq_if_le, wq_ic_le, wq_goto, wq_nop, wq_tsw, wq_getfield, wq_pfi, wq_pfl, wq_pfr, wq_getstatic, wq_iaload, wq_baload, wq_laload, wq_daload, wq_aaload, wq_iastore, wq_bastore, wq_lastore, wq_dastore, wq_aastore, wq_arraylength, wq_new, wq_newarray, wq_anewarray, wq_multi, wq_copy, wq_mmax, wq_mmin, wq_oi, wq_cs0, wq_cs1, wq_cs2, wq_cs3, wq_cs4, wq_cs5, wq_cs6, wq_cs7, wq_cv1, wq_cv2, wq_cv3, wq_cv4, wq_cv5, wq_cv6, wq_ci1, wq_ci2, wq_ci3, wq_ci4, wq_ci5, wq_ci6, wq_athrow, wq_ireturn, wq_freturn, wq_dreturn, wq_areturn, wq_return, wsw_n, wsw_c, aft_i, gf_1, gf_2, gf_3, rv_s, okst_0, okst_s, is2_int, is2_float, is2_ref, is2_retAddr, List.getElem?_cons_zero, List.getElem?_cons_succ, List.set_cons_zero, List.set_cons_succ, List.length_cons, List.length_nil, Option.toList_some, Option.toList_none, List.cons_append, List.nil_append, List.singleton_append, gL_setI, gD_setI, gR_setI, gN_setI, gK_setI, gx_setI, gc_setI, gs_setI, gI_setL, gD_setL, gR_setL, gN_setL, gK_setL, gx_setL, gc_setL, gs_setL, gI_setD, gL_setD, gR_setD, gN_setD, gK_setD, gx_setD, gc_setD, gs_setD, gI_setR, gL_setR, gD_setR, gN_setR, gK_setR, gx_setR, gc_setR, gs_setR, gL_rowI, gD_rowI, gR_rowI, gN_rowI, gK_rowI, gx_rowI, gc_rowI, gs_rowI, gI_I, gL_L, gD_D, gR_R, gI_row, gI_bmp, gL_bmp, gD_bmp, gR_bmp, gN_bmp, gK_bmp, gx_bmp, gc_bmp, gs_bmp, gK_pS, gN_pS, gI_pS, gD_pS, gR_pS, gx_pS, gc_pS, gs_pS, iv_11, ↓iv_max, ↓iv_min, iv_lt_t, iv_lt_f, iv_le_t, iv_le_f, iv_eq_t, iv_eq_f, iv_lt0_t, iv_lt0_f, iv_gt0_t, iv_gt0_f, iv_le0_t, iv_le0_f, iv_ge0_t, iv_ge0_f, iv_eq0_t, iv_eq0_f, iv_add, iv_sub, iv_mul, iv_nat, iv_lt, iv_le, iv_eq, iv_lt0, iv_gt0, iv_le0, iv_ge0, iv_eq0, iv_cl, bv_01, bv_eq0, lcmp_eq0, ↓reduceIte, Nat.reduceLeDiff, Nat.reduceLT, Nat.reduceAdd, Nat.reduceSub, Nat.reduceEqDiff, Nat.reduceMul, Nat.succ_ne_zero, Nat.zero_lt_succ, Nat.lt_add_one, Nat.add_left_cancel_iff, and_true, true_and, and_false, false_and, and_self, Nat.zero_le, eq_self, true_or, or_true, false_or, or_false, Bool.not_false, Bool.not_true, not_true, not_false_iff, Int.reduceEq, Int.reduceLT, Int.reduceLE, Int.reduceAdd, Int.reduceSub, Int.reduceToNat, Int.reduceNeg, Bool.false_eq_true, Bool.true_eq_false, reduceCtorEq, tk, t0, t1, t2, t3, t4, t5, t6, t7, t8, t9, t10, kcs, ncs, kdr, ksa, nsa, ks1, ks2, ks3, ks4, ks5, sk, s0, s1, s2, s3, s4, kp, kc, nc, kf, nf8, kq, nq, ko, no, hw, isRA14, iv_inb_t, true_or, or_true, show isRA 15 = true from rfl, show isRA 16 = true from rfl, Int.toNat_natCast, m2]
  refine c_cell b0 hr hc (hv.imp id (fun h => isv_iff.mpr h)) (Or.inr hT) (fun σ2 h1 h2 => ?_)
  simp (disch := first | omega | (simp (maxDischargeDepth := 30) only [gK_pS, AWt]; done) | (simp (maxDischargeDepth := 30) only [gK_pS, AWt]; omega)) only [b_82_0, e_82, wq_iconst, wq_bipush, wq_fconst, wq_dconst, wq_iload, wq_lload, wq_fload, wq_dload, wq_aload, wq_istore, wq_fstore, wq_astore, wq_lstore, wq_dstore, wq_iinc, wq_iadd, wq_isub, wq_imul, wq_iand, wq_ior, wq_ixor, wq_ishl, wq_ishr, wq_iushr, wq_ladd, wq_lsub, wq_land, wq_lor, wq_lxor, wq_lshl, wq_lushr, wq_idiv, wq_irem, wq_lcmp, wq_fcmp, wq_dcmp, wq_i2l, wq_l2i, wq_i2f, wq_i2d, wq_f2d, wq_fdiv, wq_ddiv, wq_dupi, wq_dupr, wq_dup2, wq_popi, wq_popr, wq_if_eq, wq_ic_eq, wq_if_ne, wq_ic_ne, wq_if_lt, wq_ic_lt, wq_if_ge, wq_ic_ge, wq_if_gt, wq_ic_gt, wq_if_le, wq_ic_le, wq_goto, wq_nop, wq_tsw, wq_getfield, wq_pfi, wq_pfl, wq_pfr, wq_getstatic, wq_iaload, wq_baload, wq_laload, wq_daload, wq_aaload, wq_iastore, wq_bastore, wq_lastore, wq_dastore, wq_aastore, wq_arraylength, wq_new, wq_newarray, wq_anewarray, wq_multi, wq_copy, wq_mmax, wq_mmin, wq_oi, wq_cs0, wq_cs1, wq_cs2, wq_cs3, wq_cs4, wq_cs5, wq_cs6, wq_cs7, wq_cv1, wq_cv2, wq_cv3, wq_cv4, wq_cv5, wq_cv6, wq_ci1, wq_ci2, wq_ci3, wq_ci4, wq_ci5, wq_ci6, wq_athrow, wq_ireturn, wq_freturn, wq_dreturn, wq_areturn, wq_return, wsw_n, wsw_c, aft_i, gf_1, gf_2, gf_3, rv_s, okst_0, okst_s, is2_int, is2_float, is2_ref, is2_retAddr, List.getElem?_cons_zero, List.getElem?_cons_succ, List.set_cons_zero, List.set_cons_succ, List.length_cons, List.length_nil, Option.toList_some, Option.toList_none, List.cons_append, List.nil_append, List.singleton_append, gL_setI, gD_setI, gR_setI, gN_setI, gK_setI, gx_setI, gc_setI, gs_setI, gI_setL, gD_setL, gR_setL, gN_setL, gK_setL, gx_setL, gc_setL, gs_setL, gI_setD, gL_setD, gR_setD, gN_setD, gK_setD, gx_setD, gc_setD, gs_setD, gI_setR, gL_setR, gD_setR, gN_setR, gK_setR, gx_setR, gc_setR, gs_setR, gL_rowI, gD_rowI, gR_rowI, gN_rowI, gK_rowI, gx_rowI, gc_rowI, gs_rowI, gI_I, gL_L, gD_D, gR_R, gI_row, gI_bmp, gL_bmp, gD_bmp, gR_bmp, gN_bmp, gK_bmp, gx_bmp, gc_bmp, gs_bmp, gK_pS, gN_pS, gI_pS, gD_pS, gR_pS, gx_pS, gc_pS, gs_pS, iv_11, ↓iv_max, ↓iv_min, iv_lt_t, iv_lt_f, iv_le_t, iv_le_f, iv_eq_t, iv_eq_f, iv_lt0_t, iv_lt0_f, iv_gt0_t, iv_gt0_f, iv_le0_t, iv_le0_f, iv_ge0_t, iv_ge0_f, iv_eq0_t, iv_eq0_f, iv_add, iv_sub, iv_mul, iv_nat, iv_lt, iv_le, iv_eq, iv_lt0, iv_gt0, iv_le0, iv_ge0, iv_eq0, iv_cl, bv_01, bv_eq0, lcmp_eq0, ↓reduceIte, Nat.reduceLeDiff, Nat.reduceLT, Nat.reduceAdd, Nat.reduceSub, Nat.reduceEqDiff, Nat.reduceMul, Nat.succ_ne_zero, Nat.zero_lt_succ, Nat.lt_add_one, Nat.add_left_cancel_iff, and_true, true_and, and_false, false_and, and_self, Nat.zero_le, eq_self, true_or, or_true, false_or, or_false, Bool.not_false, Bool.not_true, not_true, not_false_iff, Int.reduceEq, Int.reduceLT, Int.reduceLE, Int.reduceAdd, Int.reduceSub, Int.reduceToNat, Int.reduceNeg, Bool.false_eq_true, Bool.true_eq_false, reduceCtorEq, isRA14, iv_inb_t, true_or, or_true, show isRA 15 = true from rfl, show isRA 16 = true from rfl, Int.toNat_natCast]
  exact hQ σ2 ((g1.wk (fun _ hp => hsT_ow hp)).tr (h1.wk (fun _ hp => cellT_ow hp))) h2
/-- the row that comes next -/
def NR (a : PS) (r : Nat) : Prop := r < 120 ∧ pT a r = false ∧ ∀ k, k < r → pT a k = true
theorem NR.uq {a : PS} {r k : Nat} (h1 : NR a r) (h2 : NR a k) : r = k := by
  rcases Nat.lt_trichotomy r k with h | h | h
  · have := h2.2.2 r h
    rw [h1.2.1] at this
    cases this
  · exact h
  · have := h1.2.2 k h
    rw [h2.2.1] at this
    cases this
def rowA (a : PS) (r : Nat) (v : Nat → Int) : PS := (fun k => if k = r then true else pT a k, fun k d => if k = r then v d else pV a k d, pF a, pP a, pM a, pC a)
def row4 (u v w x : Int) (d : Nat) : Int := if d = 0 then u else if d = 1 then v else if d = 2 then w else if d = 3 then x else 100
def newT (p : Nat) : Prop := p = 4 ∨ p = 221
theorem newT_ow {p : Nat} (h : newT p) : ow p := by
  unfold newT at h
  unfold ow
  omega
theorem c_new {σ : St} {Q : Out → St → Prop} {a : PS} {n : Nat} {hs : Nat → PS} (hb : BI σ a n hs) (h120 : fb_ct (pT a) 120 < 120) (hQ : ∀ σ' r, NR a r → OF newT σ σ' → BI σ' (rowA a r (fun _ => 100)) n hs → Q (.inl (some (.int (iv (r : Nat))))) σ') : Ex 146 [.ref 2] σ Q := by
  obtain ⟨hly, hw, hwf, hcs, hkc, hh⟩ := hb
  have e1 : ss σ 4 = pT a := hcs.1
  refine x_146 hly hw (by rw [e1]; exact h120) (fun r f p1 p2 p3 => ?_)
  rw [e1] at p2 p3 ⊢
  obtain ⟨w1, w2, w3, w4, w5, w6, w7⟩ := hwf
  obtain ⟨c1, c2, c3, c4, c5, c6⟩ := hcs
  have h1 : OF newT σ (pS (pS σ 221 f) 4 (fun k => if k = r then true else pT a k)) := OF.st (OF.st (OF.rf hw) (Or.inr rfl) _) (Or.inl rfl) _
  have nt : ∀ p, p ≠ 4 → p ≠ 221 → ¬ newT p := fun p h1 h2 hx => by
    unfold newT at hx
    omega
  have hS : ∀ k, (fun k => if k = r then true else pT a k) k = true → k < 120 := fun k hk => by
    by_cases e : k = r
    · rw [e]; exact p1
    · simp only [e, if_false] at hk
      by_cases h : k < 120
      · exact h
      · rw [w1 k (by omega)] at hk; cases hk
  have V : ∀ k d, (if k = r then (fun _ => 100) d else pV a k d) = pV a k d := fun k d => by
    by_cases e : k = r
    · rw [if_pos e, e, w2 r d p2]
    · rw [if_neg e]
  refine hQ _ r ⟨p1, p2, p3⟩ h1 ⟨hly.of h1, h1.2.1, ⟨fun k hk => ?_, fun k d hk => ?_, fun k d => ?_, fun g k hk => ?_, w5, w6, w7⟩, ⟨ss_S hS, fun k hk d hd => ?_, fun g hg => ?_, fun p hp => ?_, ?_, fun i hi k hk => ?_⟩, fun d hd => ?_, hh.of h1 (fun p h1 h2 => nt p (by omega) (by omega))⟩
  · show (if k = r then true else pT a k) = false
    rw [if_neg (by omega)]; exact w1 k hk
  · show (if k = r then (fun _ => 100) d else pV a k d) = 100
    have hk2 : (if k = r then true else pT a k) = false := hk
    rw [V]
    by_cases e : k = r
    · rw [e]; exact w2 r d p2
    · rw [if_neg e] at hk2; exact w2 k d hk2
  · show (if k = r then (fun _ => 100) d else pV a k d) = 100 ∨ isv (if k = r then (fun _ => 100) d else pV a k d) = true
    rw [V]; exact w3 k d
  · show (if k = r then true else pT a k) = true
    rw [w4 g k hk, ite_self]
  · show gI (pS _ _ _) (3 + 2) (k * 4 + d) = iv (if k = r then (fun _ => 100) d else pV a k d)
    rw [V]; exact c2 k hk d hd
  · rw [(h1.2.2 _ (nt _ (by omega) (by omega))).1]; exact c3 g hg
  · rw [(h1.2.2 _ (nt _ (by omega) (by omega))).1]; exact c4 p hp
  · exact c5
  · exact c6 i hi k hk
  · show CC _ (226 + 153 * d) (fun k => if k = r then (fun _ => 100) d else pV a k d)
    rw [show (fun k => if k = r then (fun _ => (100 : Int)) d else pV a k d) = fun k => pV a k d from funext (fun k => V k d)]
    exact (hkc d hd).of2 h1 (fun p hp hx => by unfold perm at hp; unfold newT at hx; omega)
theorem rowA_4 (a : PS) (r : Nat) (u v w x : Int) : wV (wV (wV (wV (rowA a r (fun _ => 100)) r 0 u) r 1 v) r 2 w) r 3 x = rowA a r (row4 u v w x) := by
  have e : (fun (k d : Nat) => if k = r ∧ d = 3 then x else if k = r ∧ d = 2 then w else if k = r ∧ d = 1 then v else if k = r ∧ d = 0 then u else if k = r then (100 : Int) else pV a k d) = fun k d => if k = r then row4 u v w x d else pV a k d := by
    funext k d
    unfold row4
    by_cases e : k = r
    · simp only [e, true_and, if_true]
      by_cases h0 : d = 0
      · simp [h0]
      · by_cases h1 : d = 1
        · simp [h1]
        · by_cases h2 : d = 2
          · simp [h2]
          · simp [h0, h1, h2]
    · simp only [e, false_and, if_false]
  unfold rowA
  rw [← e]
  rfl
