/-! COLUMNS: the k-th least value -/
theorem ct_add {f g h : Nat → Bool} {n : Nat} (h1 : ∀ k, k < n → h k = (f k || g k)) (h2 : ∀ k, k < n → ¬ (f k = true ∧ g k = true)) : fb_ct h n = fb_ct f n + fb_ct g n := by
  rw [fb_ct_cong h1, fb_ct_or h2]
/-- the k-th least value of some rows -/
def KL (val : Nat → Int) (M : Nat → Bool) (k v : Int) : Prop := isv v = true ∧ (fb_ct (fun r => M r && decide (val r < v)) 120 : Nat) ≤ k ∧ k < (fb_ct (fun r => M r && decide (val r ≤ v)) 120 : Nat)
theorem q_20_3 {σ : St} {Q : Out → St → Prop} {c q : Nat} {k : Int} {val : Nat → Int} {M : Nat → Bool} (hl : CoL σ c) (hc : CC σ c val) (hM : ∀ r, M r = true → isv (val r) = true) (hQ : ∀ σ' v, OT (tmp c) σ σ' → KL val M k v → Q (.inl (some (.int (iv v)))) σ') : ∀ (m : Nat) (i x a t : Int) (v6 v7 v8 : Value) (σ' : St), m ≤ 7 → i = m - 1 → OT (tmp c) σ σ' → (∀ r, ss σ' (c + 151) r = (M r && decide ((val r + 64) / 2 ^ m = t))) → (0 ≤ t ∧ t < 2 ^ (7 - m)) → ((m = 7 ∧ x = 0) ∨ (m < 7 ∧ x = t * 2 ^ m - 64)) → a + (fb_ct (fun r => M r && decide ((val r + 64) / 2 ^ m < t)) 120 : Nat) = k → 0 ≤ a → a < (fb_ct (ss σ' (c + 151)) 120 : Nat) → Wp 20 (blk 20 3, [.ref c, .ref q, .int (iv k), .int (iv x), .int (iv a), .int (iv i), v6, v7, v8], [], σ') Q := by
  intro m
  induction m with
  | zero =>
    intro i x a t v6 v7 v8 σ' h7 hi ho h3 ht hx ha h0 h1
    rw [k_20_3]
    have e := h3
    simp only [Int.pow_zero, Int.ediv_one] at ha e
    have hx : x = t - 64 := by
      rcases hx with h | h
      · omega
      · rw [h.2, Int.pow_zero, Int.mul_one]
    have ht2 : t < 128 := ht.2
    have hkl : KL val M k x := by
      refine ⟨isv_iff.mpr (by omega), ?_, ?_⟩
      · rw [fb_ct_cong (q := fun r => M r && decide (val r + 64 < t)) (fun r _ => by congr 1; rw [decide_eq_decide]; omega)]
        omega
      · rw [ct_add (f := fun r => M r && decide (val r + 64 < t)) (g := ss σ' (c + 151)) (fun r _ => by
          rw [e]
          cases M r
          · rfl
          · simp only [Bool.true_and, ← Bool.decide_or, decide_eq_decide]; omega) (fun r _ => by
          rw [e]
          simp only [Bool.and_eq_true, decide_eq_true_iff]
          omega)]
        omega
    simp (disch := first | omega | (simp (maxDischargeDepth := 30) only [gK_pS, AWt]; done) | (simp (maxDischargeDepth := 30) only [gK_pS, AWt]; omega)) only [b_20_0, b_20_1, k_20_1, b_20_2, k_20_2, b_20_3, b_20_4, k_20_4, b_20_5, k_20_5, b_20_6, k_20_6, b_20_7, k_20_7, b_20_8, k_20_8, b_20_9, k_20_9, b_20_10, k_20_10, b_20_11, k_20_11, b_20_12, k_20_12, b_20_13, k_20_13, wq_iconst, wq_bipush, wq_fconst, wq_dconst, wq_iload, wq_lload, wq_fload, wq_dload, wq_aload, wq_istore, wq_fstore, wq_astore, wq_lstore, wq_dstore, wq_iinc, wq_iadd, wq_isub, wq_imul, wq_iand, wq_ior, wq_ixor, wq_ishl, wq_ishr, wq_iushr, wq_ladd, wq_lsub, wq_land, wq_lor, wq_lxor, wq_lshl, wq_lushr, wq_idiv, wq_irem, wq_lcmp, wq_fcmp, wq_dcmp, wq_i2l, wq_l2i, wq_i2f, wq_i2d, wq_f2d, wq_fdiv, wq_ddiv, wq_dupi, wq_dupr, wq_dup2, wq_popi, wq_popr, wq_if_eq, wq_ic_eq, wq_if_ne, wq_ic_ne, wq_if_lt, wq_ic_lt, wq_if_ge, wq_ic_ge, wq_if_gt, wq_ic_gt, wq_if_le, wq_ic_le, wq_goto, wq_nop, wq_tsw, wq_getfield, wq_pfi, wq_pfl, wq_pfr, wq_getstatic, wq_iaload, wq_baload, wq_laload, wq_daload, wq_aaload, wq_iastore, wq_bastore, wq_lastore, wq_dastore, wq_aastore, wq_arraylength, wq_new, wq_newarray, wq_anewarray, wq_multi, wq_copy, wq_mmax, wq_mmin, wq_oi, wq_cs0, wq_cs1, wq_cs2, wq_cs3, wq_cs4, wq_cs5, wq_cs6, wq_cs7, wq_cv1, wq_cv2, wq_cv3, wq_cv4, wq_cv5, wq_cv6, wq_ci1, wq_ci2, wq_ci3, wq_ci4, wq_ci5, wq_ci6, wq_athrow, wq_ireturn, wq_freturn, wq_dreturn, wq_areturn, wq_return, wsw_n, wsw_c, aft_i, gf_1, gf_2, gf_3, rv_s, okst_0, okst_s, is2_int, is2_float, is2_ref, is2_retAddr, List.getElem?_cons_zero, List.getElem?_cons_succ, List.set_cons_zero, List.set_cons_succ, List.length_cons, List.length_nil, Option.toList_some, Option.toList_none, List.cons_append, List.nil_append, List.singleton_append, gL_setI, gD_setI, gR_setI, gN_setI, gK_setI, gx_setI, gc_setI, gs_setI, gI_setL, gD_setL, gR_setL, gN_setL, gK_setL, gx_setL, gc_setL, gs_setL, gI_setD, gL_setD, gR_setD, gN_setD, gK_setD, gx_setD, gc_setD, gs_setD, gI_setR, gL_setR, gD_setR, gN_setR, gK_setR, gx_setR, gc_setR, gs_setR, gL_rowI, gD_rowI, gR_rowI, gN_rowI, gK_rowI, gx_rowI, gc_rowI, gs_rowI, gI_I, gL_L, gD_D, gR_R, gI_row, gI_bmp, gL_bmp, gD_bmp, gR_bmp, gN_bmp, gK_bmp, gx_bmp, gc_bmp, gs_bmp, gK_pS, gN_pS, gI_pS, gD_pS, gR_pS, gx_pS, gc_pS, gs_pS, iv_11, ↓iv_max, ↓iv_min, iv_lt_t, iv_lt_f, iv_le_t, iv_le_f, iv_eq_t, iv_eq_f, iv_lt0_t, iv_lt0_f, iv_gt0_t, iv_gt0_f, iv_le0_t, iv_le0_f, iv_ge0_t, iv_ge0_f, iv_eq0_t, iv_eq0_f, iv_add, iv_sub, iv_mul, iv_nat, iv_lt, iv_le, iv_eq, iv_lt0, iv_gt0, iv_le0, iv_ge0, iv_eq0, iv_cl, bv_01, bv_eq0, lcmp_eq0, ↓reduceIte, Nat.reduceLeDiff, Nat.reduceLT, Nat.reduceAdd, Nat.reduceSub, Nat.reduceEqDiff, Nat.reduceMul, Nat.succ_ne_zero, Nat.zero_lt_succ, Nat.lt_add_one, Nat.add_left_cancel_iff, and_true, true_and, and_false, false_and, and_self, Nat.zero_le, eq_self, true_or, or_true, false_or, or_false, Bool.not_false, Bool.not_true, not_true, not_false_iff, Int.reduceEq, Int.reduceLT, Int.reduceLE, Int.reduceAdd, Int.reduceSub, Int.reduceToNat, Int.reduceNeg, Bool.false_eq_true, Bool.true_eq_false, reduceCtorEq]
    exact hQ σ' x ho hkl
  | succ m ih =>
    intro i x a t v6 v7 v8 σ' h7 hi ho h3 ht hx ha h0 h1
    have hl := hl.ot ho
    have hw := ho.2.1
    have hc' := hc.ot ho (fun p => tmp_perm)
    have him : i = m := by omega
    have no : ∀ r, 120 ≤ r → M r = false := fun r hr => by
      cases h : M r
      · rfl
      · have := hM r h
        rw [hc.2.1 r hr] at this
        exact absurd this (by decide)
    obtain ⟨ck, r0, r1, r2, r3, r4, r5, r6, r7, r8, ka, na, ra, kb, nb, rb, kd, nd, rd, kv, kbs, kds, kn, k0, kl, ke, km, kt⟩ := hl
    have hdg := hc'.digit (d := m) (by omega)
    have kd' := kds m (by omega)
    have rd' := rd m (by omega)
    rw [k_20_3]
    have hit : i.toNat = m := by omega
    simp only [pw_half] at h3 ha
    have hcl := fb_ct_le (ss σ' (c + 151)) 120
    have m19 := fun (σ : St) Q => x_19 (σ := σ) (Q := Q) (d := i) (by omega)
    rw [hit] at m19
    have hp2 : (2 : Int) ^ (m + 1) = 2 * 2 ^ m := by rw [Int.pow_succ, Int.mul_comm]
    have hpp : (0 : Int) < 2 ^ m := Int.pow_pos (by omega)
    have hp7 : (2 : Int) ^ (7 - m) = 2 * 2 ^ (7 - (m + 1)) := by rw [show 7 - m = 7 - (m + 1) + 1 by omega, Int.pow_succ, Int.mul_comm]
    -- the rows with the lesser digit
    have part : ∀ r, ((ss σ' (c + 151) r && (if i = 6 then (isv (val r) && dig (val r) m) else !(isv (val r) && dig (val r) m))) = (M r && decide ((val r + 64) / 2 ^ m = 2 * t))) := by
      intro r
      rw [h3]
      cases hm : M r
      · rfl
      · rw [hM r hm]
        rcases dig_c (val r) m (by omega) with ⟨hd9, hE⟩ | ⟨hd9, hE⟩
        all_goals
          rw [hd9]
          generalize (val r + 64) / 2 ^ m = A at hE ⊢
          by_cases h6 : i = 6
          · rw [if_pos h6, Bool.eq_iff_iff]
            simp only [Bool.true_and, Bool.and_true, Bool.and_false, Bool.false_eq_true, decide_eq_true_iff, false_iff]
            omega
          · rw [if_neg h6, Bool.eq_iff_iff]
            simp only [Bool.true_and, Bool.not_true, Bool.not_false, Bool.and_true, Bool.and_false, Bool.false_eq_true, decide_eq_true_iff, false_iff]
            omega
    have c1 : fb_ct (ss σ' (c + 151)) 120 = fb_ct (fun r => M r && decide ((val r + 64) / 2 ^ m = 2 * t)) 120 + fb_ct (fun r => M r && decide ((val r + 64) / 2 ^ m = 2 * t + 1)) 120 := ct_add (fun r _ => by
      rw [h3]
      cases M r
      · rfl
      · simp only [Bool.true_and, ← Bool.decide_or, decide_eq_decide]; omega) (fun r _ => by
      simp only [Bool.and_eq_true, decide_eq_true_iff]
      omega)
    have c2 : fb_ct (fun r => M r && decide ((val r + 64) / 2 ^ m < 2 * t)) 120 = fb_ct (fun r => M r && decide ((val r + 64) / 2 ^ m / 2 < t)) 120 := fb_ct_cong (fun r _ => by
      congr 1
      rw [decide_eq_decide]; omega)
    have c3 : fb_ct (fun r => M r && decide ((val r + 64) / 2 ^ m < 2 * t + 1)) 120 = fb_ct (fun r => M r && decide ((val r + 64) / 2 ^ m < 2 * t)) 120 + fb_ct (fun r => M r && decide ((val r + 64) / 2 ^ m = 2 * t)) 120 := ct_add (fun r _ => by
      cases M r
      · rfl
      · simp only [Bool.true_and, ← Bool.decide_or, decide_eq_decide]; omega) (fun r _ => by
      simp only [Bool.and_eq_true, decide_eq_true_iff]
      omega)
    have step : ∀ (σ1 : St) (x' a' t' : Int) (w6 w7 w8 : Value), OT (tmp c) σ σ1 → (∀ r, ss σ1 (c + 151) r = (M r && decide ((val r + 64) / 2 ^ m = t'))) → (t' = 2 * t ∧ a' = a ∧ a < (fb_ct (fun r => M r && decide ((val r + 64) / 2 ^ m = 2 * t)) 120 : Nat) ∨ t' = 2 * t + 1 ∧ a' = a - (fb_ct (fun r => M r && decide ((val r + 64) / 2 ^ m = 2 * t)) 120 : Nat) ∧ (fb_ct (fun r => M r && decide ((val r + 64) / 2 ^ m = 2 * t)) 120 : Nat) ≤ a) → x' = t' * 2 ^ m - 64 → Wp 20 (blk 20 3, [.ref c, .ref q, .int (iv k), .int (iv x'), .int (iv a'), .int (iv (i + -1)), w6, w7, w8], [], σ1) Q := by
      intro σ1 x' a' t' w6 w7 w8 g1 g2 g3 g4
      have g5 : ss σ1 (c + 151) = fun r => M r && decide ((val r + 64) / 2 ^ m = t') := funext g2
      refine ih (i + -1) x' a' t' w6 w7 w8 σ1 (by omega) (by omega) g1 g2 (by omega) (Or.inr ⟨by omega, g4⟩) ?_ (by omega) ?_
      · rcases g3 with ⟨e1, e2, _⟩ | ⟨e1, e2, _⟩
        · rw [e1, e2, c2]; exact ha
        · rw [e1, e2, c3, c2]; omega
      · rw [g5]
        rcases g3 with ⟨e1, e2, _⟩ | ⟨e1, e2, _⟩
        · rw [e1, e2]; assumption
        · rw [e1, e2]; omega
    have G2 : ∀ (f : Nat → Bool), (∀ n, n < 120 → f n = (M n && decide ((val n + 64) / 2 ^ m = 2 * t))) → pS σ' (c + 152) f = pS σ' (c + 152) (fun r => M r && decide ((val r + 64) / 2 ^ m = 2 * t)) := fun f hf => pS_cong hf
    have e152 : ¬ c + 140 + m = c + 152 := by omega
    have e151 : ¬ c + 151 = c + 152 := by omega
    have mS : ∀ Q, Ex 67 [.ref (c + 152)] (pS σ' (c + 152) (fun r => M r && decide ((val r + 64) / 2 ^ m = 2 * t))) Q = Q (.inl (some (.int (iv (fb_ct (fun r => M r && decide ((val r + 64) / 2 ^ m = 2 * t)) 120 : Nat))))) (pS σ' (c + 152) (fun r => M r && decide ((val r + 64) / 2 ^ m = 2 * t))) := fun Q => by
      rw [x_67 (σ := pS σ' (c + 152) _) kt (AW_pS hw _ _), fb_ct_cong (q := fun r => M r && decide ((val r + 64) / 2 ^ m = 2 * t)) (fun n hn => by rw [ss_same, decide_eq_true hn, Bool.true_and])]
    have hL := fb_ct_le (fun r => M r && decide ((val r + 64) / 2 ^ m = 2 * t)) 120
    have e1 : t * 2 ^ (m + 1) = 2 * t * 2 ^ m := by rw [hp2, Int.mul_left_comm, ← Int.mul_assoc]
    have e2 : (2 * t + 1) * 2 ^ m = 2 * t * 2 ^ m + 2 ^ m := by rw [Int.add_mul, Int.one_mul]
    have mk : ∀ r, r < 120 → ss (pS σ' (c + 152) (fun r => M r && decide ((val r + 64) / 2 ^ m = 2 * t))) (c + 152) r = (M r && decide ((val r + 64) / 2 ^ m = 2 * t)) := fun r hr => by rw [ss_same, decide_eq_true hr, Bool.true_and]
    have mk2 : ∀ r, ss (pS σ' (c + 152) (fun r => M r && decide ((val r + 64) / 2 ^ m = 2 * t))) (c + 151) r = (M r && decide ((val r + 64) / 2 ^ m / 2 = t)) := fun r => by rw [ss_ne σ' _ e151, h3]
    have tl : ∀ r, ss (pS (pS σ' (c + 152) (fun r => M r && decide ((val r + 64) / 2 ^ m = 2 * t))) (c + 151) (fun n => ss (pS σ' (c + 152) (fun r => M r && decide ((val r + 64) / 2 ^ m = 2 * t))) (c + 152) n)) (c + 151) r = (M r && decide ((val r + 64) / 2 ^ m = 2 * t)) := fun r => by
      rw [ss_same]
      by_cases hr : r < 120
      · rw [mk r hr, decide_eq_true hr, Bool.true_and]
      · rw [no r (by omega), decide_eq_false hr, Bool.false_and, Bool.false_and]
    have tg : ∀ r, ss (pS (pS σ' (c + 152) (fun r => M r && decide ((val r + 64) / 2 ^ m = 2 * t))) (c + 151) (fun n => ss (pS σ' (c + 152) (fun r => M r && decide ((val r + 64) / 2 ^ m = 2 * t))) (c + 151) n && !ss (pS σ' (c + 152) (fun r => M r && decide ((val r + 64) / 2 ^ m = 2 * t))) (c + 152) n)) (c + 151) r = (M r && decide ((val r + 64) / 2 ^ m = 2 * t + 1)) := fun r => by
      rw [ss_same]
      by_cases hr : r < 120
      · rw [mk r hr, mk2 r, decide_eq_true hr, Bool.true_and]
        cases M r
        · rfl
        · simp only [Bool.true_and, ← decide_not, ← Bool.decide_and, decide_eq_decide]
          omega
      · rw [no r (by omega), decide_eq_false hr, Bool.false_and, Bool.false_and]
    have otp : ∀ f g, OT (tmp c) σ (pS (pS σ' (c + 152) f) (c + 151) g) := fun f g => OT.st (OT.st ho (by unfold tmp; omega) _) (by unfold tmp; omega) _
    by_cases h6 : i = 6
    · have mP : ∀ Q, Ex 57 [.ref (c + 152), .ref (c + 140 + m)] (pS σ' (c + 152) (fun n => ss σ' (c + 151) n)) Q = Q (.inl none) (pS σ' (c + 152) (fun r => M r && decide ((val r + 64) / 2 ^ m = 2 * t))) := fun Q => by
        rw [x_57 (σ := pS σ' (c + 152) _) kt kd' (AW_pS hw _ _), pS_twice, G2]
        intro n hn
        have hpt := part n
        rw [if_pos h6] at hpt
        rw [ss_same, ss_ne σ' _ e152, hdg, decide_eq_true hn, Bool.true_and]
        exact hpt
      have m19' : ∀ (σ : St) Q, Ex 19 [.int (iv i)] σ Q = Q (.inl (some (.int (iv (-64))))) σ := fun σ Q => by rw [m19, if_pos h6]
      by_cases hlt : a < (fb_ct (fun r => M r && decide ((val r + 64) / 2 ^ m = 2 * t)) 120 : Nat)
      · simp (disch := first | omega | (simp (maxDischargeDepth := 30) only [gK_pS, AWt, ck, r3, r2, r7, r8, kd, nd, kn, km, kt, hw, kd', rd']; done) | (simp (maxDischargeDepth := 30) only [gK_pS, AWt, ck, r3, r2, r7, r8, kd, nd, kn, km, kt, hw, kd', rd']; omega)) only [b_20_0, b_20_1, k_20_1, b_20_2, k_20_2, b_20_3, b_20_4, k_20_4, b_20_5, k_20_5, b_20_6, k_20_6, b_20_7, k_20_7, b_20_8, k_20_8, b_20_9, k_20_9, b_20_10, k_20_10, b_20_11, k_20_11, b_20_12, k_20_12, b_20_13, k_20_13, wq_iconst, wq_bipush, wq_fconst, wq_dconst, wq_iload, wq_lload, wq_fload, wq_dload, wq_aload, wq_istore, wq_fstore, wq_astore, wq_lstore, wq_dstore, wq_iinc, wq_iadd, wq_isub, wq_imul, wq_iand, wq_ior, wq_ixor, wq_ishl, wq_ishr, wq_iushr, wq_ladd, wq_lsub, wq_land, wq_lor, wq_lxor, wq_lshl, wq_lushr, wq_idiv, wq_irem, wq_lcmp, wq_fcmp, wq_dcmp, wq_i2l, wq_l2i, wq_i2f, wq_i2d, wq_f2d, wq_fdiv, wq_ddiv, wq_dupi, wq_dupr, wq_dup2, wq_popi, wq_popr, wq_if_eq, wq_ic_eq, wq_if_ne, wq_ic_ne, wq_if_lt, wq_ic_lt, wq_if_ge, wq_ic_ge, wq_if_gt, wq_ic_gt, wq_if_le, wq_ic_le, wq_goto, wq_nop, wq_tsw, wq_getfield, wq_pfi, wq_pfl, wq_pfr, wq_getstatic, wq_iaload, wq_baload, wq_laload, wq_daload, wq_aaload, wq_iastore, wq_bastore, wq_lastore, wq_dastore, wq_aastore, wq_arraylength, wq_new, wq_newarray, wq_anewarray, wq_multi, wq_copy, wq_mmax, wq_mmin, wq_oi, wq_cs0, wq_cs1, wq_cs2, wq_cs3, wq_cs4, wq_cs5, wq_cs6, wq_cs7, wq_cv1, wq_cv2, wq_cv3, wq_cv4, wq_cv5, wq_cv6, wq_ci1, wq_ci2, wq_ci3, wq_ci4, wq_ci5, wq_ci6, wq_athrow, wq_ireturn, wq_freturn, wq_dreturn, wq_areturn, wq_return, wsw_n, wsw_c, aft_i, gf_1, gf_2, gf_3, rv_s, okst_0, okst_s, is2_int, is2_float, is2_ref, is2_retAddr, List.getElem?_cons_zero, List.getElem?_cons_succ, List.set_cons_zero, List.set_cons_succ, List.length_cons, List.length_nil, Option.toList_some, Option.toList_none, List.cons_append, List.nil_append, List.singleton_append, gL_setI, gD_setI, gR_setI, gN_setI, gK_setI, gx_setI, gc_setI, gs_setI, gI_setL, gD_setL, gR_setL, gN_setL, gK_setL, gx_setL, gc_setL, gs_setL, gI_setD, gL_setD, gR_setD, gN_setD, gK_setD, gx_setD, gc_setD, gs_setD, gI_setR, gL_setR, gD_setR, gN_setR, gK_setR, gx_setR, gc_setR, gs_setR, gL_rowI, gD_rowI, gR_rowI, gN_rowI, gK_rowI, gx_rowI, gc_rowI, gs_rowI, gI_I, gL_L, gD_D, gR_R, gI_row, gI_bmp, gL_bmp, gD_bmp, gR_bmp, gN_bmp, gK_bmp, gx_bmp, gc_bmp, gs_bmp, gK_pS, gN_pS, gI_pS, gD_pS, gR_pS, gx_pS, gc_pS, gs_pS, iv_11, ↓iv_max, ↓iv_min, iv_lt_t, iv_lt_f, iv_le_t, iv_le_f, iv_eq_t, iv_eq_f, iv_lt0_t, iv_lt0_f, iv_gt0_t, iv_gt0_f, iv_le0_t, iv_le0_f, iv_ge0_t, iv_ge0_f, iv_eq0_t, iv_eq0_f, iv_add, iv_sub, iv_mul, iv_nat, iv_lt, iv_le, iv_eq, iv_lt0, iv_gt0, iv_le0, iv_ge0, iv_eq0, iv_cl, bv_01, bv_eq0, lcmp_eq0, ↓reduceIte, Nat.reduceLeDiff, Nat.reduceLT, Nat.reduceAdd, Nat.reduceSub, Nat.reduceEqDiff, Nat.reduceMul, Nat.succ_ne_zero, Nat.zero_lt_succ, Nat.lt_add_one, Nat.add_left_cancel_iff, and_true, true_and, and_false, false_and, and_self, Nat.zero_le, eq_self, true_or, or_true, false_or, or_false, Bool.not_false, Bool.not_true, not_true, not_false_iff, Int.reduceEq, Int.reduceLT, Int.reduceLE, Int.reduceAdd, Int.reduceSub, Int.reduceToNat, Int.reduceNeg, Bool.false_eq_true, Bool.true_eq_false, reduceCtorEq, ck, r3, r2, r7, r8, kd, nd, kn, km, kt, hw, kd', rd', mP, mS, m19', hit, x_53, x_57, x_59, isRA14, iv_inb_t, iv_11]
        exact step _ _ _ (2 * t) _ _ _ (otp _ _) tl (Or.inl ⟨rfl, rfl, hlt⟩) (by
          rcases hx with h | h
          · have : m = 6 := by omega
            subst this
            have : t < 1 := ht.2
            rw [show t = 0 by omega, h.2]; rfl
          · omega)
      · simp (disch := first | omega | (simp (maxDischargeDepth := 30) only [gK_pS, AWt, ck, r3, r2, r7, r8, kd, nd, kn, km, kt, hw, kd', rd']; done) | (simp (maxDischargeDepth := 30) only [gK_pS, AWt, ck, r3, r2, r7, r8, kd, nd, kn, km, kt, hw, kd', rd']; omega)) only [b_20_0, b_20_1, k_20_1, b_20_2, k_20_2, b_20_3, b_20_4, k_20_4, b_20_5, k_20_5, b_20_6, k_20_6, b_20_7, k_20_7, b_20_8, k_20_8, b_20_9, k_20_9, b_20_10, k_20_10, b_20_11, k_20_11, b_20_12, k_20_12, b_20_13, k_20_13, wq_iconst, wq_bipush, wq_fconst, wq_dconst, wq_iload, wq_lload, wq_fload, wq_dload, wq_aload, wq_istore, wq_fstore, wq_astore, wq_lstore, wq_dstore, wq_iinc, wq_iadd, wq_isub, wq_imul, wq_iand, wq_ior, wq_ixor, wq_ishl, wq_ishr, wq_iushr, wq_ladd, wq_lsub, wq_land, wq_lor, wq_lxor, wq_lshl, wq_lushr, wq_idiv, wq_irem, wq_lcmp, wq_fcmp, wq_dcmp, wq_i2l, wq_l2i, wq_i2f, wq_i2d, wq_f2d, wq_fdiv, wq_ddiv, wq_dupi, wq_dupr, wq_dup2, wq_popi, wq_popr, wq_if_eq, wq_ic_eq, wq_if_ne, wq_ic_ne, wq_if_lt, wq_ic_lt, wq_if_ge, wq_ic_ge, wq_if_gt, wq_ic_gt, wq_if_le, wq_ic_le, wq_goto, wq_nop, wq_tsw, wq_getfield, wq_pfi, wq_pfl, wq_pfr, wq_getstatic, wq_iaload, wq_baload, wq_laload, wq_daload, wq_aaload, wq_iastore, wq_bastore, wq_lastore, wq_dastore, wq_aastore, wq_arraylength, wq_new, wq_newarray, wq_anewarray, wq_multi, wq_copy, wq_mmax, wq_mmin, wq_oi, wq_cs0, wq_cs1, wq_cs2, wq_cs3, wq_cs4, wq_cs5, wq_cs6, wq_cs7, wq_cv1, wq_cv2, wq_cv3, wq_cv4, wq_cv5, wq_cv6, wq_ci1, wq_ci2, wq_ci3, wq_ci4, wq_ci5, wq_ci6, wq_athrow, wq_ireturn, wq_freturn, wq_dreturn, wq_areturn, wq_return, wsw_n, wsw_c, aft_i, gf_1, gf_2, gf_3, rv_s, okst_0, okst_s, is2_int, is2_float, is2_ref, is2_retAddr, List.getElem?_cons_zero, List.getElem?_cons_succ, List.set_cons_zero, List.set_cons_succ, List.length_cons, List.length_nil, Option.toList_some, Option.toList_none, List.cons_append, List.nil_append, List.singleton_append, gL_setI, gD_setI, gR_setI, gN_setI, gK_setI, gx_setI, gc_setI, gs_setI, gI_setL, gD_setL, gR_setL, gN_setL, gK_setL, gx_setL, gc_setL, gs_setL, gI_setD, gL_setD, gR_setD, gN_setD, gK_setD, gx_setD, gc_setD, gs_setD, gI_setR, gL_setR, gD_setR, gN_setR, gK_setR, gx_setR, gc_setR, gs_setR, gL_rowI, gD_rowI, gR_rowI, gN_rowI, gK_rowI, gx_rowI, gc_rowI, gs_rowI, gI_I, gL_L, gD_D, gR_R, gI_row, gI_bmp, gL_bmp, gD_bmp, gR_bmp, gN_bmp, gK_bmp, gx_bmp, gc_bmp, gs_bmp, gK_pS, gN_pS, gI_pS, gD_pS, gR_pS, gx_pS, gc_pS, gs_pS, iv_11, ↓iv_max, ↓iv_min, iv_lt_t, iv_lt_f, iv_le_t, iv_le_f, iv_eq_t, iv_eq_f, iv_lt0_t, iv_lt0_f, iv_gt0_t, iv_gt0_f, iv_le0_t, iv_le0_f, iv_ge0_t, iv_ge0_f, iv_eq0_t, iv_eq0_f, iv_add, iv_sub, iv_mul, iv_nat, iv_lt, iv_le, iv_eq, iv_lt0, iv_gt0, iv_le0, iv_ge0, iv_eq0, iv_cl, bv_01, bv_eq0, lcmp_eq0, ↓reduceIte, Nat.reduceLeDiff, Nat.reduceLT, Nat.reduceAdd, Nat.reduceSub, Nat.reduceEqDiff, Nat.reduceMul, Nat.succ_ne_zero, Nat.zero_lt_succ, Nat.lt_add_one, Nat.add_left_cancel_iff, and_true, true_and, and_false, false_and, and_self, Nat.zero_le, eq_self, true_or, or_true, false_or, or_false, Bool.not_false, Bool.not_true, not_true, not_false_iff, Int.reduceEq, Int.reduceLT, Int.reduceLE, Int.reduceAdd, Int.reduceSub, Int.reduceToNat, Int.reduceNeg, Bool.false_eq_true, Bool.true_eq_false, reduceCtorEq, ck, r3, r2, r7, r8, kd, nd, kn, km, kt, hw, kd', rd', mP, mS, m19', hit, x_53, x_57, x_59, isRA14, iv_inb_t, iv_11]
        exact step _ _ _ (2 * t + 1) _ _ _ (otp _ _) tg (Or.inr ⟨rfl, rfl, by omega⟩) (by
          rcases hx with h | h
          · have : m = 6 := by omega
            subst this
            have : t < 1 := ht.2
            rw [show t = 0 by omega, h.2]; rfl
          · omega)
    · have mP : ∀ Q, Ex 59 [.ref (c + 152), .ref (c + 140 + m)] (pS σ' (c + 152) (fun n => ss σ' (c + 151) n)) Q = Q (.inl none) (pS σ' (c + 152) (fun r => M r && decide ((val r + 64) / 2 ^ m = 2 * t))) := fun Q => by
        rw [x_59 (σ := pS σ' (c + 152) _) kt kd' (AW_pS hw _ _), pS_twice, G2]
        intro n hn
        have hpt := part n
        rw [if_neg h6] at hpt
        rw [ss_same, ss_ne σ' _ e152, hdg, decide_eq_true hn, Bool.true_and]
        exact hpt
      have m19' : ∀ (σ : St) Q, Ex 19 [.int (iv i)] σ Q = Q (.inl (some (.int (iv (2 ^ m))))) σ := fun σ Q => by rw [m19, if_neg h6]
      by_cases hlt : a < (fb_ct (fun r => M r && decide ((val r + 64) / 2 ^ m = 2 * t)) 120 : Nat)
      · simp (disch := first | omega | (simp (maxDischargeDepth := 30) only [gK_pS, AWt, ck, r3, r2, r7, r8, kd, nd, kn, km, kt, hw, kd', rd']; done) | (simp (maxDischargeDepth := 30) only [gK_pS, AWt, ck, r3, r2, r7, r8, kd, nd, kn, km, kt, hw, kd', rd']; omega)) only [b_20_0, b_20_1, k_20_1, b_20_2, k_20_2, b_20_3, b_20_4, k_20_4, b_20_5, k_20_5, b_20_6, k_20_6, b_20_7, k_20_7, b_20_8, k_20_8, b_20_9, k_20_9, b_20_10, k_20_10, b_20_11, k_20_11, b_20_12, k_20_12, b_20_13, k_20_13, wq_iconst, wq_bipush, wq_fconst, wq_dconst, wq_iload, wq_lload, wq_fload, wq_dload, wq_aload, wq_istore, wq_fstore, wq_astore, wq_lstore, wq_dstore, wq_iinc, wq_iadd, wq_isub, wq_imul, wq_iand, wq_ior, wq_ixor, wq_ishl, wq_ishr, wq_iushr, wq_ladd, wq_lsub, wq_land, wq_lor, wq_lxor, wq_lshl, wq_lushr, wq_idiv, wq_irem, wq_lcmp, wq_fcmp, wq_dcmp, wq_i2l, wq_l2i, wq_i2f, wq_i2d, wq_f2d, wq_fdiv, wq_ddiv, wq_dupi, wq_dupr, wq_dup2, wq_popi, wq_popr, wq_if_eq, wq_ic_eq, wq_if_ne, wq_ic_ne, wq_if_lt, wq_ic_lt, wq_if_ge, wq_ic_ge, wq_if_gt, wq_ic_gt, wq_if_le, wq_ic_le, wq_goto, wq_nop, wq_tsw, wq_getfield, wq_pfi, wq_pfl, wq_pfr, wq_getstatic, wq_iaload, wq_baload, wq_laload, wq_daload, wq_aaload, wq_iastore, wq_bastore, wq_lastore, wq_dastore, wq_aastore, wq_arraylength, wq_new, wq_newarray, wq_anewarray, wq_multi, wq_copy, wq_mmax, wq_mmin, wq_oi, wq_cs0, wq_cs1, wq_cs2, wq_cs3, wq_cs4, wq_cs5, wq_cs6, wq_cs7, wq_cv1, wq_cv2, wq_cv3, wq_cv4, wq_cv5, wq_cv6, wq_ci1, wq_ci2, wq_ci3, wq_ci4, wq_ci5, wq_ci6, wq_athrow, wq_ireturn, wq_freturn, wq_dreturn, wq_areturn, wq_return, wsw_n, wsw_c, aft_i, gf_1, gf_2, gf_3, rv_s, okst_0, okst_s, is2_int, is2_float, is2_ref, is2_retAddr, List.getElem?_cons_zero, List.getElem?_cons_succ, List.set_cons_zero, List.set_cons_succ, List.length_cons, List.length_nil, Option.toList_some, Option.toList_none, List.cons_append, List.nil_append, List.singleton_append, gL_setI, gD_setI, gR_setI, gN_setI, gK_setI, gx_setI, gc_setI, gs_setI, gI_setL, gD_setL, gR_setL, gN_setL, gK_setL, gx_setL, gc_setL, gs_setL, gI_setD, gL_setD, gR_setD, gN_setD, gK_setD, gx_setD, gc_setD, gs_setD, gI_setR, gL_setR, gD_setR, gN_setR, gK_setR, gx_setR, gc_setR, gs_setR, gL_rowI, gD_rowI, gR_rowI, gN_rowI, gK_rowI, gx_rowI, gc_rowI, gs_rowI, gI_I, gL_L, gD_D, gR_R, gI_row, gI_bmp, gL_bmp, gD_bmp, gR_bmp, gN_bmp, gK_bmp, gx_bmp, gc_bmp, gs_bmp, gK_pS, gN_pS, gI_pS, gD_pS, gR_pS, gx_pS, gc_pS, gs_pS, iv_11, ↓iv_max, ↓iv_min, iv_lt_t, iv_lt_f, iv_le_t, iv_le_f, iv_eq_t, iv_eq_f, iv_lt0_t, iv_lt0_f, iv_gt0_t, iv_gt0_f, iv_le0_t, iv_le0_f, iv_ge0_t, iv_ge0_f, iv_eq0_t, iv_eq0_f, iv_add, iv_sub, iv_mul, iv_nat, iv_lt, iv_le, iv_eq, iv_lt0, iv_gt0, iv_le0, iv_ge0, iv_eq0, iv_cl, bv_01, bv_eq0, lcmp_eq0, ↓reduceIte, Nat.reduceLeDiff, Nat.reduceLT, Nat.reduceAdd, Nat.reduceSub, Nat.reduceEqDiff, Nat.reduceMul, Nat.succ_ne_zero, Nat.zero_lt_succ, Nat.lt_add_one, Nat.add_left_cancel_iff, and_true, true_and, and_false, false_and, and_self, Nat.zero_le, eq_self, true_or, or_true, false_or, or_false, Bool.not_false, Bool.not_true, not_true, not_false_iff, Int.reduceEq, Int.reduceLT, Int.reduceLE, Int.reduceAdd, Int.reduceSub, Int.reduceToNat, Int.reduceNeg, Bool.false_eq_true, Bool.true_eq_false, reduceCtorEq, ck, r3, r2, r7, r8, kd, nd, kn, km, kt, hw, kd', rd', mP, mS, m19', hit, x_53, x_57, x_59, isRA14, iv_inb_t, iv_11]
        exact step _ _ _ (2 * t) _ _ _ (otp _ _) tl (Or.inl ⟨rfl, rfl, hlt⟩) (by
          rcases hx with h | h
          · omega
          · rw [h.2, e1])
      · simp (disch := first | omega | (simp (maxDischargeDepth := 30) only [gK_pS, AWt, ck, r3, r2, r7, r8, kd, nd, kn, km, kt, hw, kd', rd']; done) | (simp (maxDischargeDepth := 30) only [gK_pS, AWt, ck, r3, r2, r7, r8, kd, nd, kn, km, kt, hw, kd', rd']; omega)) only [b_20_0, b_20_1, k_20_1, b_20_2, k_20_2, b_20_3, b_20_4, k_20_4, b_20_5, k_20_5, b_20_6, k_20_6, b_20_7, k_20_7, b_20_8, k_20_8, b_20_9, k_20_9, b_20_10, k_20_10, b_20_11, k_20_11, b_20_12, k_20_12, b_20_13, k_20_13, wq_iconst, wq_bipush, wq_fconst, wq_dconst, wq_iload, wq_lload, wq_fload, wq_dload, wq_aload, wq_istore, wq_fstore, wq_astore, wq_lstore, wq_dstore, wq_iinc, wq_iadd, wq_isub, wq_imul, wq_iand, wq_ior, wq_ixor, wq_ishl, wq_ishr, wq_iushr, wq_ladd, wq_lsub, wq_land, wq_lor, wq_lxor, wq_lshl, wq_lushr, wq_idiv, wq_irem, wq_lcmp, wq_fcmp, wq_dcmp, wq_i2l, wq_l2i, wq_i2f, wq_i2d, wq_f2d, wq_fdiv, wq_ddiv, wq_dupi, wq_dupr, wq_dup2, wq_popi, wq_popr, wq_if_eq, wq_ic_eq, wq_if_ne, wq_ic_ne, wq_if_lt, wq_ic_lt, wq_if_ge, wq_ic_ge, wq_if_gt, wq_ic_gt, wq_if_le, wq_ic_le, wq_goto, wq_nop, wq_tsw, wq_getfield, wq_pfi, wq_pfl, wq_pfr, wq_getstatic, wq_iaload, wq_baload, wq_laload, wq_daload, wq_aaload, wq_iastore, wq_bastore, wq_lastore, wq_dastore, wq_aastore, wq_arraylength, wq_new, wq_newarray, wq_anewarray, wq_multi, wq_copy, wq_mmax, wq_mmin, wq_oi, wq_cs0, wq_cs1, wq_cs2, wq_cs3, wq_cs4, wq_cs5, wq_cs6, wq_cs7, wq_cv1, wq_cv2, wq_cv3, wq_cv4, wq_cv5, wq_cv6, wq_ci1, wq_ci2, wq_ci3, wq_ci4, wq_ci5, wq_ci6, wq_athrow, wq_ireturn, wq_freturn, wq_dreturn, wq_areturn, wq_return, wsw_n, wsw_c, aft_i, gf_1, gf_2, gf_3, rv_s, okst_0, okst_s, is2_int, is2_float, is2_ref, is2_retAddr, List.getElem?_cons_zero, List.getElem?_cons_succ, List.set_cons_zero, List.set_cons_succ, List.length_cons, List.length_nil, Option.toList_some, Option.toList_none, List.cons_append, List.nil_append, List.singleton_append, gL_setI, gD_setI, gR_setI, gN_setI, gK_setI, gx_setI, gc_setI, gs_setI, gI_setL, gD_setL, gR_setL, gN_setL, gK_setL, gx_setL, gc_setL, gs_setL, gI_setD, gL_setD, gR_setD, gN_setD, gK_setD, gx_setD, gc_setD, gs_setD, gI_setR, gL_setR, gD_setR, gN_setR, gK_setR, gx_setR, gc_setR, gs_setR, gL_rowI, gD_rowI, gR_rowI, gN_rowI, gK_rowI, gx_rowI, gc_rowI, gs_rowI, gI_I, gL_L, gD_D, gR_R, gI_row, gI_bmp, gL_bmp, gD_bmp, gR_bmp, gN_bmp, gK_bmp, gx_bmp, gc_bmp, gs_bmp, gK_pS, gN_pS, gI_pS, gD_pS, gR_pS, gx_pS, gc_pS, gs_pS, iv_11, ↓iv_max, ↓iv_min, iv_lt_t, iv_lt_f, iv_le_t, iv_le_f, iv_eq_t, iv_eq_f, iv_lt0_t, iv_lt0_f, iv_gt0_t, iv_gt0_f, iv_le0_t, iv_le0_f, iv_ge0_t, iv_ge0_f, iv_eq0_t, iv_eq0_f, iv_add, iv_sub, iv_mul, iv_nat, iv_lt, iv_le, iv_eq, iv_lt0, iv_gt0, iv_le0, iv_ge0, iv_eq0, iv_cl, bv_01, bv_eq0, lcmp_eq0, ↓reduceIte, Nat.reduceLeDiff, Nat.reduceLT, Nat.reduceAdd, Nat.reduceSub, Nat.reduceEqDiff, Nat.reduceMul, Nat.succ_ne_zero, Nat.zero_lt_succ, Nat.lt_add_one, Nat.add_left_cancel_iff, and_true, true_and, and_false, false_and, and_self, Nat.zero_le, eq_self, true_or, or_true, false_or, or_false, Bool.not_false, Bool.not_true, not_true, not_false_iff, Int.reduceEq, Int.reduceLT, Int.reduceLE, Int.reduceAdd, Int.reduceSub, Int.reduceToNat, Int.reduceNeg, Bool.false_eq_true, Bool.true_eq_false, reduceCtorEq, ck, r3, r2, r7, r8, kd, nd, kn, km, kt, hw, kd', rd', mP, mS, m19', hit, x_53, x_57, x_59, isRA14, iv_inb_t, iv_11]
        exact step _ _ _ (2 * t + 1) _ _ _ (otp _ _) tg (Or.inr ⟨rfl, rfl, by omega⟩) (by
          rcases hx with h | h
          · omega
          · rw [h.2, e1, e2]; omega)
