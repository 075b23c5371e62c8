/-! COLUMNS: what their sets hold; ranges of values -/
/-- the lasting sets of a column -/
def perm (c p : Nat) : Prop := c + 2 ≤ p ∧ p ≤ c + 148 ∧ p ≠ c + 130 ∧ p ≠ c + 139
/-- the sets hold these values of the rows -/
def CC (σ : St) (c : Nat) (val : Nat → Int) : Prop := (∀ r, val r = 100 ∨ isv (val r) = true) ∧ (∀ r, 120 ≤ r → val r = 100) ∧ ∀ p r, perm c p → (ss σ p r = true ↔ isv (val r) = true ∧ inM c (val r) p)
theorem inM_perm {c p : Nat} {v : Int} (hv : isv v = true) (h : inM c v p) : perm c p := by
  have hv' : -64 ≤ v ∧ v ≤ 63 := of_decide_eq_true hv
  unfold inM at h
  unfold perm
  omega
theorem CC.ot {T : Nat → Prop} {σ σ' : St} {c : Nat} {val : Nat → Int} (h : OT T σ σ') (ht : ∀ p, perm c p → ¬ T p) (hc : CC σ c val) : CC σ' c val := ⟨hc.1, hc.2.1, fun p r hp => by rw [h.2.2 p (ht p hp)]; exact hc.2.2 p r hp⟩
theorem CC.st {σ : St} {c q : Nat} {val : Nat → Int} (f : Nat → Bool) (hq : ¬ perm c q) (hc : CC σ c val) : CC (pS σ q f) c val := ⟨hc.1, hc.2.1, fun p r hp => by rw [ss_ne σ f (fun e => hq (by rw [← e]; exact hp))]; exact hc.2.2 p r hp⟩
theorem isv_100 : isv 100 = false := rfl
theorem isv_iff {v : Int} : isv v = true ↔ -64 ≤ v ∧ v ≤ 63 := by unfold isv; rw [decide_eq_true_iff]
theorem CC.rg {σ : St} {c : Nat} {val : Nat → Int} (hc : CC σ c val) (r : Nat) : -64 ≤ val r ∧ val r ≤ 100 := by
  rcases hc.1 r with h | h
  · omega
  · rw [isv_iff] at h; omega
theorem CC.known {σ : St} {c : Nat} {val : Nat → Int} (hc : CC σ c val) : ss σ (c + 147) = fun r => isv (val r) := by
  funext r
  rw [Bool.eq_iff_iff, hc.2.2 (c + 147) r (by unfold perm; omega)]
  exact ⟨fun h => h.1, fun h => ⟨h, Or.inl rfl⟩⟩
theorem CC.nothing {σ : St} {c : Nat} {val : Nat → Int} (hc : CC σ c val) : ss σ (c + 148) = fun _ => false := by
  funext r
  rw [Bool.eq_iff_iff, hc.2.2 (c + 148) r (by unfold perm; omega)]
  constructor
  · rintro ⟨h, h1⟩
    rw [isv_iff] at h
    unfold inM at h1
    omega
  · intro h; exact absurd h (by decide)
theorem CC.of {σ : St} {c : Nat} {val : Nat → Int} (hc : CC σ c val) (v : Int) : ss σ (vp c v) = fun r => isv v && decide (val r = v) := by
  funext r
  unfold vp
  by_cases h : -64 ≤ v ∧ v ≤ 63
  · rw [if_pos h, show isv v = true from decide_eq_true h, Bool.true_and, Bool.eq_iff_iff, hc.2.2 _ r (by unfold perm; omega), decide_eq_true_iff]
    constructor
    · rintro ⟨h1, h2⟩
      rw [isv_iff] at h1
      unfold inM at h2
      omega
    · intro h1
      rw [h1]
      exact ⟨isv_iff.mpr h, Or.inr (Or.inl rfl)⟩
  · rw [if_neg h, hc.nothing, show isv v = false from decide_eq_false h, Bool.false_and]
theorem CC.below {σ : St} {c : Nat} {val : Nat → Int} (hc : CC σ c val) {b : Nat} (hb : b < 8) : ss σ (c + 131 + b) = fun r => decide (val r < -64 + 16 * (b : Int)) := by
  funext r
  rw [Bool.eq_iff_iff, hc.2.2 _ r (by unfold perm; omega), decide_eq_true_iff]
  constructor
  · rintro ⟨h1, h2⟩
    rw [isv_iff] at h1
    unfold inM at h2
    omega
  · intro h
    have h1 : isv (val r) = true := (hc.1 r).elim (fun e => by omega) id
    exact ⟨h1, Or.inr (Or.inr (Or.inl ⟨by omega, by omega, by omega⟩))⟩
theorem CC.digit {σ : St} {c : Nat} {val : Nat → Int} (hc : CC σ c val) {d : Nat} (hd : d < 7) : ss σ (c + 140 + d) = fun r => isv (val r) && dig (val r) d := by
  funext r
  rw [Bool.eq_iff_iff, hc.2.2 _ r (by unfold perm; omega), Bool.and_eq_true]
  have e : c + 140 + d - (c + 140) = d := by omega
  constructor
  · rintro ⟨h1, h2⟩
    refine ⟨h1, ?_⟩
    rw [isv_iff] at h1
    unfold inM at h2
    rw [e] at h2
    rcases h2 with h2 | h2 | h2 | h2
    · omega
    · omega
    · omega
    · exact h2.2.2
  · rintro ⟨h1, h2⟩
    exact ⟨h1, Or.inr (Or.inr (Or.inr ⟨by omega, by omega, by rw [e]; exact h2⟩))⟩
theorem vpo_K {σ : St} {c : Nat} (hl : CoL σ c) (v : Int) : gK σ (vp c v) = 5 := by
  obtain ⟨ck, r0, r1, r2, r3, r4, r5, r6, r7, r8, ka, na, ra, kb, nb, rb, kd, nd, rd, kv, kbs, kds, kn, k0, kl, ke, km, kt⟩ := hl
  unfold vp
  split
  · exact kv _ (by omega)
  · exact k0
theorem vp_perm (c : Nat) (v : Int) : perm c (vp c v) := by
  unfold vp perm
  split <;> omega
theorem pS_twice (σ : St) (p : Nat) (f g : Nat → Bool) : pS (pS σ p f) p g = pS σ p g := by
  have h : ∀ (F : Nat → Nat → Int64) (k : Nat) (x y : Int64), u2 (u2 F p k x) p k y = u2 F p k y := by
    intro F k x y
    funext q j
    unfold u2
    split <;> rfl
  have h2 : ∀ (F : Nat → Nat → Int64) (x y : Int64), u2 (u2 F p 1 x) p 0 y = u2 (u2 F p 0 y) p 1 x := by
    intro F x y
    funext q j
    unfold u2
    by_cases h1 : q = p ∧ j = 0
    · rw [if_pos h1, if_neg (by omega), if_pos h1]
    · rw [if_neg h1]
      by_cases h3 : q = p ∧ j = 1
      · rw [if_pos h3, if_pos h3]
      · rw [if_neg h3, if_neg h3, if_neg h1]
  show (σ.1, u2 (u2 (u2 (u2 σ.2.1 p 0 _) p 1 _) p 0 _) p 1 _, σ.2.2) = (σ.1, u2 (u2 σ.2.1 p 0 _) p 1 _, σ.2.2)
  rw [h2, h, h]
theorem x_1 {σ : St} {Q : Out → St → Prop} {c : Nat} {row : Int} {to : Int} {val : Nat → Int} (hrow : 0 ≤ row ∧ row < 120) (ht : to = 100 ∨ isv to = true) (hl : CoL σ c) (hw : AW σ) (hc : CC σ c val) (hQ : ∀ σ', OT (perm c) σ σ' → CC σ' c (fun r => if r = row.toNat then to else val r) → Q (.inl none) σ') : Ex 1 [.ref c, .int (iv row), .int (iv (val row.toNat)), .int (iv to)] σ Q := by
  have ck := hl.1
  have hf := hc.rg row.toNat
  have ht2 : -64 ≤ to ∧ to ≤ 100 := by
    rcases ht with h | h
    · omega
    · rw [isv_iff] at h; omega
  -- after the first half no lasting set has the row
  have first : ∀ σ1, OT (perm c) σ σ1 → (∀ p r, perm c p → (r = row.toNat → ss σ1 p r = false) ∧ (r ≠ row.toNat → ss σ1 p r = ss σ p r)) → Ex 2 [.ref c, .int (iv row), .int (iv to), .int (iv 1)] σ1 (aft 1 [(14, Instr.return_, 1, [])] [.ref c, .int (iv row), .int (iv (val row.toNat)), .int (iv to)] [] Q) := by
    intro σ1 h1 h2
    refine x_2 (by omega) hrow (by omega) (hl.ot h1) h1.2.1 (fun hv => ?_) (fun hv σ2 h3 => ?_)
    · simp only [aft_i, wq_return, Option.toList_none, List.nil_append]
      refine hQ σ1 h1 ⟨fun r => ?_, fun r hr => ?_, fun p r hp => ?_⟩
      all_goals dsimp only
      · by_cases e : r = row.toNat
        · rw [if_pos e]; exact ht
        · rw [if_neg e]; exact hc.1 r
      · rw [if_neg (by omega)]; exact hc.2.1 r hr
      · by_cases e : r = row.toNat
        · rw [if_pos e, (h2 p r hp).1 e, hv]; simp
        · rw [if_neg e, (h2 p r hp).2 e]; exact hc.2.2 p r hp
    · simp only [aft_i, wq_return, Option.toList_none, List.nil_append]
      refine hQ σ2 (h1.tr (h3.1.wk (fun p hp => inM_perm hv hp))) ⟨fun r => ?_, fun r hr => ?_, fun p r hp => ?_⟩
      all_goals dsimp only
      · by_cases e : r = row.toNat
        · rw [if_pos e]; exact ht
        · rw [if_neg e]; exact hc.1 r
      · rw [if_neg (by omega)]; exact hc.2.1 r hr
      · by_cases e : r = row.toNat
        · rw [if_pos e]
          by_cases hi : inM c to p
          · rw [(h3.2 p r).1 e hi]
            exact ⟨fun _ => ⟨hv, hi⟩, fun _ => rfl⟩
          · rw [(h3.2 p r).2 (Or.inr hi), (h2 p r hp).1 e]
            exact ⟨fun h => absurd h (by decide), fun h => absurd h.2 hi⟩
        · rw [if_neg e, (h3.2 p r).2 (Or.inl e), (h2 p r hp).2 e]
          exact hc.2.2 p r hp
  simp (disch := omega) only [b_1_0, e_1, wq_iconst, wq_bipush, wq_fconst, wq_dconst, wq_iload, wq_lload, wq_fload, wq_dload, wq_aload, wq_istore, wq_fstore, wq_astore, wq_lstore, wq_dstore, wq_iinc, wq_iadd, wq_isub, wq_imul, wq_iand, wq_ior, wq_ixor, wq_ishl, wq_ishr, wq_iushr, wq_ladd, wq_lsub, wq_land, wq_lor, wq_lxor, wq_lshl, wq_lushr, wq_idiv, wq_irem, wq_lcmp, wq_fcmp, wq_dcmp, wq_i2l, wq_l2i, wq_i2f, wq_i2d, wq_f2d, wq_fdiv, wq_ddiv, wq_dupi, wq_dupr, wq_dup2, wq_popi, wq_popr, wq_if_eq, wq_ic_eq, wq_if_ne, wq_ic_ne, wq_if_lt, wq_ic_lt, wq_if_ge, wq_ic_ge, wq_if_gt, wq_ic_gt, wq_if_le, wq_ic_le, wq_goto, wq_nop, wq_tsw, wq_getfield, wq_pfi, wq_pfl, wq_pfr, wq_getstatic, wq_iaload, wq_baload, wq_laload, wq_daload, wq_aaload, wq_iastore, wq_bastore, wq_lastore, wq_dastore, wq_aastore, wq_arraylength, wq_new, wq_newarray, wq_anewarray, wq_multi, wq_copy, wq_mmax, wq_mmin, wq_oi, wq_cs0, wq_cs1, wq_cs2, wq_cs3, wq_cs4, wq_cs5, wq_cs6, wq_cs7, wq_cv1, wq_cv2, wq_cv3, wq_cv4, wq_cv5, wq_cv6, wq_ci1, wq_ci2, wq_ci3, wq_ci4, wq_ci5, wq_ci6, wq_athrow, wq_ireturn, wq_freturn, wq_dreturn, wq_areturn, wq_return, wsw_n, wsw_c, aft_i, gf_1, gf_2, gf_3, rv_s, okst_0, okst_s, is2_int, is2_float, is2_ref, is2_retAddr, List.getElem?_cons_zero, List.getElem?_cons_succ, List.set_cons_zero, List.set_cons_succ, List.length_cons, List.length_nil, Option.toList_some, Option.toList_none, List.cons_append, List.nil_append, List.singleton_append, gL_setI, gD_setI, gR_setI, gN_setI, gK_setI, gx_setI, gc_setI, gs_setI, gI_setL, gD_setL, gR_setL, gN_setL, gK_setL, gx_setL, gc_setL, gs_setL, gI_setD, gL_setD, gR_setD, gN_setD, gK_setD, gx_setD, gc_setD, gs_setD, gI_setR, gL_setR, gD_setR, gN_setR, gK_setR, gx_setR, gc_setR, gs_setR, gL_rowI, gD_rowI, gR_rowI, gN_rowI, gK_rowI, gx_rowI, gc_rowI, gs_rowI, gI_I, gL_L, gD_D, gR_R, gI_row, gI_bmp, gL_bmp, gD_bmp, gR_bmp, gN_bmp, gK_bmp, gx_bmp, gc_bmp, gs_bmp, gK_pS, gN_pS, gI_pS, gD_pS, gR_pS, gx_pS, gc_pS, gs_pS, iv_11, ↓iv_max, ↓iv_min, iv_lt_t, iv_lt_f, iv_le_t, iv_le_f, iv_eq_t, iv_eq_f, iv_lt0_t, iv_lt0_f, iv_gt0_t, iv_gt0_f, iv_le0_t, iv_le0_f, iv_ge0_t, iv_ge0_f, iv_eq0_t, iv_eq0_f, iv_add, iv_sub, iv_mul, iv_nat, iv_lt, iv_le, iv_eq, iv_lt0, iv_gt0, iv_le0, iv_ge0, iv_eq0, iv_cl, bv_01, bv_eq0, lcmp_eq0, ↓reduceIte, Nat.reduceLeDiff, Nat.reduceLT, Nat.reduceAdd, Nat.reduceSub, Nat.reduceEqDiff, Nat.reduceMul, Nat.succ_ne_zero, Nat.zero_lt_succ, Nat.lt_add_one, Nat.add_left_cancel_iff, and_true, true_and, and_false, false_and, and_self, Nat.zero_le, eq_self, true_or, or_true, false_or, or_false, Bool.not_false, Bool.not_true, not_true, not_false_iff, Int.reduceEq, Int.reduceLT, Int.reduceLE, Int.reduceAdd, Int.reduceSub, Int.reduceToNat, Int.reduceNeg, Bool.false_eq_true, Bool.true_eq_false, reduceCtorEq, ck]
  refine x_2 (by omega) hrow (by omega) hl hw (fun hv => ?_) (fun hv σ1 h1 => ?_)
  · simp (disch := omega) only [b_1_0, e_1, wq_iconst, wq_bipush, wq_fconst, wq_dconst, wq_iload, wq_lload, wq_fload, wq_dload, wq_aload, wq_istore, wq_fstore, wq_astore, wq_lstore, wq_dstore, wq_iinc, wq_iadd, wq_isub, wq_imul, wq_iand, wq_ior, wq_ixor, wq_ishl, wq_ishr, wq_iushr, wq_ladd, wq_lsub, wq_land, wq_lor, wq_lxor, wq_lshl, wq_lushr, wq_idiv, wq_irem, wq_lcmp, wq_fcmp, wq_dcmp, wq_i2l, wq_l2i, wq_i2f, wq_i2d, wq_f2d, wq_fdiv, wq_ddiv, wq_dupi, wq_dupr, wq_dup2, wq_popi, wq_popr, wq_if_eq, wq_ic_eq, wq_if_ne, wq_ic_ne, wq_if_lt, wq_ic_lt, wq_if_ge, wq_ic_ge, wq_if_gt, wq_ic_gt, wq_if_le, wq_ic_le, wq_goto, wq_nop, wq_tsw, wq_getfield, wq_pfi, wq_pfl, wq_pfr, wq_getstatic, wq_iaload, wq_baload, wq_laload, wq_daload, wq_aaload, wq_iastore, wq_bastore, wq_lastore, wq_dastore, wq_aastore, wq_arraylength, wq_new, wq_newarray, wq_anewarray, wq_multi, wq_copy, wq_mmax, wq_mmin, wq_oi, wq_cs0, wq_cs1, wq_cs2, wq_cs3, wq_cs4, wq_cs5, wq_cs6, wq_cs7, wq_cv1, wq_cv2, wq_cv3, wq_cv4, wq_cv5, wq_cv6, wq_ci1, wq_ci2, wq_ci3, wq_ci4, wq_ci5, wq_ci6, wq_athrow, wq_ireturn, wq_freturn, wq_dreturn, wq_areturn, wq_return, wsw_n, wsw_c, aft_i, gf_1, gf_2, gf_3, rv_s, okst_0, okst_s, is2_int, is2_float, is2_ref, is2_retAddr, List.getElem?_cons_zero, List.getElem?_cons_succ, List.set_cons_zero, List.set_cons_succ, List.length_cons, List.length_nil, Option.toList_some, Option.toList_none, List.cons_append, List.nil_append, List.singleton_append, gL_setI, gD_setI, gR_setI, gN_setI, gK_setI, gx_setI, gc_setI, gs_setI, gI_setL, gD_setL, gR_setL, gN_setL, gK_setL, gx_setL, gc_setL, gs_setL, gI_setD, gL_setD, gR_setD, gN_setD, gK_setD, gx_setD, gc_setD, gs_setD, gI_setR, gL_setR, gD_setR, gN_setR, gK_setR, gx_setR, gc_setR, gs_setR, gL_rowI, gD_rowI, gR_rowI, gN_rowI, gK_rowI, gx_rowI, gc_rowI, gs_rowI, gI_I, gL_L, gD_D, gR_R, gI_row, gI_bmp, gL_bmp, gD_bmp, gR_bmp, gN_bmp, gK_bmp, gx_bmp, gc_bmp, gs_bmp, gK_pS, gN_pS, gI_pS, gD_pS, gR_pS, gx_pS, gc_pS, gs_pS, iv_11, ↓iv_max, ↓iv_min, iv_lt_t, iv_lt_f, iv_le_t, iv_le_f, iv_eq_t, iv_eq_f, iv_lt0_t, iv_lt0_f, iv_gt0_t, iv_gt0_f, iv_le0_t, iv_le0_f, iv_ge0_t, iv_ge0_f, iv_eq0_t, iv_eq0_f, iv_add, iv_sub, iv_mul, iv_nat, iv_lt, iv_le, iv_eq, iv_lt0, iv_gt0, iv_le0, iv_ge0, iv_eq0, iv_cl, bv_01, bv_eq0, lcmp_eq0, ↓reduceIte, Nat.reduceLeDiff, Nat.reduceLT, Nat.reduceAdd, Nat.reduceSub, Nat.reduceEqDiff, Nat.reduceMul, Nat.succ_ne_zero, Nat.zero_lt_succ, Nat.lt_add_one, Nat.add_left_cancel_iff, and_true, true_and, and_false, false_and, and_self, Nat.zero_le, eq_self, true_or, or_true, false_or, or_false, Bool.not_false, Bool.not_true, not_true, not_false_iff, Int.reduceEq, Int.reduceLT, Int.reduceLE, Int.reduceAdd, Int.reduceSub, Int.reduceToNat, Int.reduceNeg, Bool.false_eq_true, Bool.true_eq_false, reduceCtorEq, ck]
    refine first σ (OT.rf hw) (fun p r hp => ⟨fun e => ?_, fun _ => rfl⟩)
    subst e
    have h5 := hc.2.2 p row.toNat hp
    rw [hv] at h5
    cases h6 : ss σ p row.toNat
    · rfl
    · exact absurd (h5.mp h6).1 (by decide)
  · simp (disch := omega) only [b_1_0, e_1, wq_iconst, wq_bipush, wq_fconst, wq_dconst, wq_iload, wq_lload, wq_fload, wq_dload, wq_aload, wq_istore, wq_fstore, wq_astore, wq_lstore, wq_dstore, wq_iinc, wq_iadd, wq_isub, wq_imul, wq_iand, wq_ior, wq_ixor, wq_ishl, wq_ishr, wq_iushr, wq_ladd, wq_lsub, wq_land, wq_lor, wq_lxor, wq_lshl, wq_lushr, wq_idiv, wq_irem, wq_lcmp, wq_fcmp, wq_dcmp, wq_i2l, wq_l2i, wq_i2f, wq_i2d, wq_f2d, wq_fdiv, wq_ddiv, wq_dupi, wq_dupr, wq_dup2, wq_popi, wq_popr, wq_if_eq, wq_ic_eq, wq_if_ne, wq_ic_ne, wq_if_lt, wq_ic_lt, wq_if_ge, wq_ic_ge, wq_if_gt, wq_ic_gt, wq_if_le, wq_ic_le, wq_goto, wq_nop, wq_tsw, wq_getfield, wq_pfi, wq_pfl, wq_pfr, wq_getstatic, wq_iaload, wq_baload, wq_laload, wq_daload, wq_aaload, wq_iastore, wq_bastore, wq_lastore, wq_dastore, wq_aastore, wq_arraylength, wq_new, wq_newarray, wq_anewarray, wq_multi, wq_copy, wq_mmax, wq_mmin, wq_oi, wq_cs0, wq_cs1, wq_cs2, wq_cs3, wq_cs4, wq_cs5, wq_cs6, wq_cs7, wq_cv1, wq_cv2, wq_cv3, wq_cv4, wq_cv5, wq_cv6, wq_ci1, wq_ci2, wq_ci3, wq_ci4, wq_ci5, wq_ci6, wq_athrow, wq_ireturn, wq_freturn, wq_dreturn, wq_areturn, wq_return, wsw_n, wsw_c, aft_i, gf_1, gf_2, gf_3, rv_s, okst_0, okst_s, is2_int, is2_float, is2_ref, is2_retAddr, List.getElem?_cons_zero, List.getElem?_cons_succ, List.set_cons_zero, List.set_cons_succ, List.length_cons, List.length_nil, Option.toList_some, Option.toList_none, List.cons_append, List.nil_append, List.singleton_append, gL_setI, gD_setI, gR_setI, gN_setI, gK_setI, gx_setI, gc_setI, gs_setI, gI_setL, gD_setL, gR_setL, gN_setL, gK_setL, gx_setL, gc_setL, gs_setL, gI_setD, gL_setD, gR_setD, gN_setD, gK_setD, gx_setD, gc_setD, gs_setD, gI_setR, gL_setR, gD_setR, gN_setR, gK_setR, gx_setR, gc_setR, gs_setR, gL_rowI, gD_rowI, gR_rowI, gN_rowI, gK_rowI, gx_rowI, gc_rowI, gs_rowI, gI_I, gL_L, gD_D, gR_R, gI_row, gI_bmp, gL_bmp, gD_bmp, gR_bmp, gN_bmp, gK_bmp, gx_bmp, gc_bmp, gs_bmp, gK_pS, gN_pS, gI_pS, gD_pS, gR_pS, gx_pS, gc_pS, gs_pS, iv_11, ↓iv_max, ↓iv_min, iv_lt_t, iv_lt_f, iv_le_t, iv_le_f, iv_eq_t, iv_eq_f, iv_lt0_t, iv_lt0_f, iv_gt0_t, iv_gt0_f, iv_le0_t, iv_le0_f, iv_ge0_t, iv_ge0_f, iv_eq0_t, iv_eq0_f, iv_add, iv_sub, iv_mul, iv_nat, iv_lt, iv_le, iv_eq, iv_lt0, iv_gt0, iv_le0, iv_ge0, iv_eq0, iv_cl, bv_01, bv_eq0, lcmp_eq0, ↓reduceIte, Nat.reduceLeDiff, Nat.reduceLT, Nat.reduceAdd, Nat.reduceSub, Nat.reduceEqDiff, Nat.reduceMul, Nat.succ_ne_zero, Nat.zero_lt_succ, Nat.lt_add_one, Nat.add_left_cancel_iff, and_true, true_and, and_false, false_and, and_self, Nat.zero_le, eq_self, true_or, or_true, false_or, or_false, Bool.not_false, Bool.not_true, not_true, not_false_iff, Int.reduceEq, Int.reduceLT, Int.reduceLE, Int.reduceAdd, Int.reduceSub, Int.reduceToNat, Int.reduceNeg, Bool.false_eq_true, Bool.true_eq_false, reduceCtorEq, ck, h1.1.K]
    refine first σ1 (h1.1.wk (fun p hp => inM_perm hv hp)) (fun p r hp => ⟨fun e => ?_, fun e => (h1.2 p r).2 (Or.inl e)⟩)
    by_cases hi : inM c (val row.toNat) p
    · exact (h1.2 p r).1 e hi
    · rw [(h1.2 p r).2 (Or.inr hi)]
      subst e
      cases h6 : ss σ p row.toNat
      · rfl
      · exact absurd ((hc.2.2 p _ hp).mp h6).2 hi
