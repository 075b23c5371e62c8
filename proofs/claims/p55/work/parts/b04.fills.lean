/-! THE TABLE IS FILLED AS THE STORE IS -/
theorem iv_dm {r k : Int} (h : 0 ≤ r ∧ r < 65536) (hk : 0 < k ∧ k < 1000) : iv r - iv r / iv k * iv k = iv (r % k) := by
  rw [iv_div (by omega), iv_rem (by omega)]
theorem NR_ex {a : PS} (h : fb_ct (pT a) 120 < 120) : ∃ r, NR a r := by
  have h1 : ∃ r, r < 120 ∧ pT a r = false := by
    refine Classical.byContradiction (fun h2 => ?_)
    have h3 : fb_ct (pT a) 120 = 120 := fb_ct_all.mpr (fun k hk => by
      cases h4 : pT a k
      · exact absurd ⟨k, hk, h4⟩ h2
      · rfl)
    omega
  obtain ⟨r, h2, h3, h4⟩ := fb_first (p := fun r => pT a r = false) h1
  exact ⟨r, h2, h3, fun k hk => by
    cases h5 : pT a k
    · exact absurd h5 (h4 k hk)
    · rfl⟩
theorem FillR_uq {d : Int} : ∀ (k : Nat) (x : Int32) (a b c : PS), FillR k d x a b → FillR k d x a c → b = c := by
  intro k
  induction k with
  | zero => intro x a b c h1 h2; rw [h1, h2]
  | succ k ih =>
    intro x a b c ⟨r, h1, h2⟩ ⟨q, h3, h4⟩
    rw [h1.uq h3] at h2
    exact ih _ _ b c h2 h4
/-- no room is taken -/
def FT (σ σ' : St) : Prop := gx σ' = gx σ ∧ gc σ' = gc σ ∧ gs σ' = gs σ
theorem FT.rf {σ : St} : FT σ σ := ⟨rfl, rfl, rfl⟩
theorem FT.tr {σ σ' σ'' : St} (h : FT σ σ') (g : FT σ' σ'') : FT σ σ'' := ⟨g.1.trans h.1, g.2.1.trans h.2.1, g.2.2.trans h.2.2⟩
theorem FT.I {σ σ' : St} {p k : Nat} {x : Int32} (h : FT σ σ') : FT σ (setI σ' p k x) := h
theorem FT.of {T : Nat → Prop} {σ σ' : St} (h : OF T σ σ') : FT σ σ' := ⟨h.x, h.c, h.s⟩
theorem FT.dr {σ σ' : St} (h : DR σ σ') : FT σ σ' := by
  obtain ⟨⟨L, rfl⟩, -⟩ := h
  exact ⟨rfl, rfl, rfl⟩
/-- the world but for what the table holds -/
def LW0 (σ : St) (a : PS) (n : Nat) (hs : Nat → PS) : Prop := BI σ a n hs ∧ gK σ 0 = 8 ∧ LAo σ ∧ GrL σ ∧ 959 ≤ gx σ ∧ TBL σ
theorem LWd.w {σ : St} {a : PS} {n : Nat} {hs : Nat → PS} (h : LWd σ a n hs) : LW0 σ a n hs := ⟨h.1, h.2.1, h.2.2.1, h.2.2.2.1, h.2.2.2.2.1, h.2.2.2.2.2.1⟩
theorem LW0.full {σ : St} {a : PS} {n : Nat} {hs : Nat → PS} (h : LW0 σ a n hs) (g : TBV σ a) : LWd σ a n hs := ⟨h.1, h.2.1, h.2.2.1, h.2.2.2.1, h.2.2.2.2.1, h.2.2.2.2.2, g⟩
theorem LW0.I {σ : St} {a : PS} {n : Nat} {hs : Nat → PS} {p k : Nat} {x : Int32} (h : LW0 σ a n hs) (hp : 838 ≤ p) : LW0 (setI σ p k x) a n hs := by
  obtain ⟨h1, h2, h3, h4, h5, h6⟩ := h
  have s : SCm σ (setI σ p k x) := SCm.I h1.2.1 hp
  exact ⟨h1.sm s, h2, h3.sm s, h4, h5, h6⟩
theorem LW0.of {T : Nat → Prop} {σ σ' : St} {a b : PS} {n n' : Nat} {hs hs' : Nat → PS} (h : LW0 σ a n hs) (g : OF T σ σ') (ht : ∀ p, T p → 2 ≤ p ∧ p < 838) (hb : BI σ' b n' hs') : LW0 σ' b n' hs' := by
  obtain ⟨-, l2, l3, l4, l5, l6⟩ := h
  refine ⟨hb, by rw [g.K]; exact l2, ?_, ?_, by rw [g.x]; exact l5, ?_⟩
  · have e : gI σ' 1 = gI σ 1 := funext (fun k => (g.2.2 1 (fun h9 => by have := ht 1 h9; omega)).2 k)
    unfold LAo
    rw [g.N, e]
    exact l3
  · unfold GrL
    rw [g.K, g.N, g.R]
    exact l4
  · unfold TBL
    rw [g.K, g.N, g.R]
    exact l6
theorem TBV.of {T : Nat → Prop} {σ σ' : St} {b : PS} (h : TBV σ b) (g : OF T σ σ') (ht : ∀ p, T p → p < 838) : TBV σ' b := by
  obtain ⟨h1, h2, h3⟩ := h
  refine ⟨fun r hr => ?_, fun r hr hT c hc => ?_, ?_⟩
  · rw [(g.2.2 839 (fun h9 => by have := ht _ h9; omega)).2]; exact h1 r hr
  · rw [(g.2.2 (841 + r) (fun h9 => by have := ht _ h9; omega)).2]; exact h2 r hr hT c hc
  · rw [(g.2.2 838 (fun h9 => by have := ht _ h9; omega)).2]; exact h3
/-- a new row of the table: whatever its cells hold -/
theorem TBV.row {σ : St} {b : PS} {r : Nat} (h : TBV σ b) (hn : NR b r) : TBV (setI (setI σ 839 r (iv 1)) 838 2 (iv ((fb_ct (pT b) 120 : Nat) + 1))) (rowA b r (fun c => (gI σ (841 + r) c).toInt)) := by
  obtain ⟨h1, h2, h3⟩ := h
  refine ⟨fun k hk => ?_, fun k hk hT c hc => ?_, ?_⟩
  · rw [gI_I, if_neg (by omega), gI_I]
    show _ = iv (bz (if k = r then true else pT b k))
    by_cases e : k = r
    · rw [if_pos ⟨rfl, e⟩, if_pos e]; rfl
    · rw [if_neg (fun h => e h.2), if_neg e]; exact h1 k hk
  · rw [gI_I, if_neg (by omega), gI_I, if_neg (by omega)]
    show _ = iv (if k = r then (gI σ (841 + r) c).toInt else pV b k c)
    by_cases e : k = r
    · rw [if_pos e, e, iv_ti]
    · rw [if_neg e]
      have hT : (if k = r then true else pT b k) = true := hT
      rw [if_neg e] at hT
      exact h2 k hk hT c hc
  · rw [gI_I, if_pos ⟨rfl, rfl⟩, ct_row hn, Int.natCast_add]
    rfl
theorem TBV.cell {σ : St} {b : PS} {r j : Nat} {g : Nat → Int} {v : Int} (h : TBV σ (rowA b r g)) (hr : r < 120) : TBV (setI σ (841 + r) j (iv v)) (rowA b r (fun c => if c = j then v else g c)) := by
  obtain ⟨h1, h2, h3⟩ := h
  refine ⟨fun k hk => ?_, fun k hk hT c hc => ?_, ?_⟩
  · rw [gI_I, if_neg (by omega)]; exact h1 k hk
  · have h9 := h2 k hk hT c hc
    rw [gI_I]
    have h9 : gI σ (841 + k) c = iv (if k = r then g c else pV b k c) := h9
    show _ = iv (if k = r then (if c = j then v else g c) else pV b k c)
    by_cases e : k = r
    · rw [if_pos e] at h9 ⊢
      by_cases e2 : c = j
      · rw [if_pos ⟨by omega, e2⟩, if_pos e2]
      · rw [if_neg (fun h => e2 h.2), if_neg e2]; exact h9
    · rw [if_neg e] at h9 ⊢
      rw [if_neg (fun h => e (by omega))]
      exact h9
  · rw [gI_I, if_neg (by omega)]; exact h3
theorem TBV.cong {σ : St} {b : PS} {r : Nat} {g g' : Nat → Int} (h : TBV σ (rowA b r g)) (e : ∀ c, c < 4 → g' c = g c) : TBV σ (rowA b r g') := by
  obtain ⟨h1, h2, h3⟩ := h
  refine ⟨h1, fun k hk hT c hc => ?_, h3⟩
  have h9 := h2 k hk hT c hc
  have h9 : gI σ (841 + k) c = iv (if k = r then g c else pV b k c) := h9
  show _ = iv (if k = r then g' c else pV b k c)
  rw [e c hc]
  exact h9
theorem q_159_1 {σ : St} {Q : Out → St → Prop} {b : PS} {r : Nat} (htb : TBL σ) (hv : TBV σ b) (hn : NR b r) : ∀ (k j : Nat) (i : Int), i = j → j + k = r → Wp 159 (blk 159 1, [.ref 838, .int (iv i)], [], σ) Q = Q (.inl (some (.int (iv (r : Nat))))) σ := by
  obtain ⟨k9, t0, t1, k11, n11, k18, n18, tr, tk, tn⟩ := htb
  obtain ⟨hr, hf, hlt⟩ := hn
  intro k
  induction k with
  | zero =>
    intro j i hi hj
    have hj : j = r := by omega
    subst hj
    have e1 := hv.1 j hr
    rw [hf] at e1
    have hij : i.toNat = j := by omega
    rw [k_159_1]
    simp (disch := first | omega | (simp (maxDischargeDepth := 30) only [gK_pS, k9, t0, t1, k11, n11, k18, n18, e1, hij]; done) | (simp (maxDischargeDepth := 30) only [gK_pS, k9, t0, t1, k11, n11, k18, n18, e1, hij]; omega)) only [b_159_0, b_159_1, b_159_2, k_159_2, wq_lmul, wq_lrem, wq_ifnull, wq_iconst, wq_bipush, wq_fconst, wq_dconst, wq_iload, wq_lload, wq_fload, wq_dload, wq_aload, wq_istore, wq_fstore, wq_astore, wq_lstore, wq_dstore, wq_iinc, wq_iadd, wq_isub, wq_imul, wq_iand, wq_ior, wq_ixor, wq_ishl, wq_ishr, wq_iushr, wq_ladd, wq_lsub, wq_lmul, wq_land, wq_lor, wq_lxor, wq_lshl, wq_lushr, wq_idiv, wq_irem, wq_lrem, wq_ifnull, wq_lcmp, wq_fcmp, wq_dcmp, wq_i2l, wq_l2i, wq_i2f, wq_i2d, wq_f2d, wq_fdiv, wq_ddiv, wq_dupi, wq_dupr, wq_dup2, wq_popi, wq_popr, wq_if_eq, wq_ic_eq, wq_if_ne, wq_ic_ne, wq_if_lt, wq_ic_lt, wq_if_ge, wq_ic_ge, wq_if_gt, wq_ic_gt, wq_if_le, wq_ic_le, wq_goto, wq_nop, wq_tsw, wq_getfield, wq_pfi, wq_pfl, wq_pfr, wq_getstatic, wq_iaload, wq_baload, wq_laload, wq_daload, wq_aaload, wq_iastore, wq_bastore, wq_lastore, wq_dastore, wq_aastore, wq_arraylength, wq_new, wq_newarray, wq_anewarray, wq_multi, wq_copy, wq_mmax, wq_mmin, wq_oi, wq_cs0, wq_cs1, wq_cs2, wq_cs3, wq_cs4, wq_cs5, wq_cs6, wq_cs7, wq_cv1, wq_cv2, wq_cv3, wq_cv4, wq_cv5, wq_cv6, wq_ci1, wq_ci2, wq_ci3, wq_ci4, wq_ci5, wq_ci6, wq_athrow, wq_ireturn, wq_freturn, wq_dreturn, wq_areturn, wq_return, wsw_n, wsw_c, aft_i, gf_1, gf_2, gf_3, rv_s, okst_0, okst_s, is2_int, is2_float, is2_ref, is2_retAddr, List.getElem?_cons_zero, List.getElem?_cons_succ, List.set_cons_zero, List.set_cons_succ, List.length_cons, List.length_nil, Option.toList_some, Option.toList_none, List.cons_append, List.nil_append, List.singleton_append, gL_setI, gD_setI, gR_setI, gN_setI, gK_setI, gx_setI, gc_setI, gs_setI, gI_setL, gD_setL, gR_setL, gN_setL, gK_setL, gx_setL, gc_setL, gs_setL, gI_setD, gL_setD, gR_setD, gN_setD, gK_setD, gx_setD, gc_setD, gs_setD, gI_setR, gL_setR, gD_setR, gN_setR, gK_setR, gx_setR, gc_setR, gs_setR, gL_rowI, gD_rowI, gR_rowI, gN_rowI, gK_rowI, gx_rowI, gc_rowI, gs_rowI, gI_I, gL_L, gD_D, gR_R, gI_row, gI_bmp, gL_bmp, gD_bmp, gR_bmp, gN_bmp, gK_bmp, gx_bmp, gc_bmp, gs_bmp, gK_pS, gN_pS, gI_pS, gD_pS, gR_pS, gx_pS, gc_pS, gs_pS, iv_11, ↓iv_max, ↓iv_min, iv_lt_t, iv_lt_f, iv_le_t, iv_le_f, iv_eq_t, iv_eq_f, iv_lt0_t, iv_lt0_f, iv_gt0_t, iv_gt0_f, iv_le0_t, iv_le0_f, iv_ge0_t, iv_ge0_f, iv_eq0_t, iv_eq0_f, iv_add, iv_sub, iv_mul, iv_nat, iv_lt, iv_le, iv_eq, iv_lt0, iv_gt0, iv_le0, iv_ge0, iv_eq0, iv_cl, bv_01, bv_eq0, lcmp_eq0, ↓reduceIte, Nat.reduceLeDiff, Nat.reduceLT, Nat.reduceAdd, Nat.reduceSub, Nat.reduceEqDiff, Nat.reduceMul, Nat.succ_ne_zero, Nat.zero_lt_succ, Nat.lt_add_one, Nat.add_left_cancel_iff, and_true, true_and, and_false, false_and, and_self, Nat.zero_le, eq_self, true_or, or_true, false_or, or_false, Bool.not_false, Bool.not_true, not_true, not_false_iff, Int.reduceEq, Int.reduceLT, Int.reduceLE, Int.reduceAdd, Int.reduceSub, Int.reduceToNat, Int.reduceNeg, Bool.false_eq_true, Bool.true_eq_false, reduceCtorEq, isRA14, isRA18, isRA19, iv_inb_t, true_or, or_true, Int.toNat_natCast, k9, t0, t1, k11, n11, k18, n18, e1, hij, Int.add_zero, show bz false = 0 from rfl, show bz true = 1 from rfl]
    rw [hi]
  | succ k ih =>
    intro j i hi hj
    have e1 := hv.1 j (by omega)
    rw [hlt j (by omega)] at e1
    have hij : i.toNat = j := by omega
    rw [k_159_1]
    simp (disch := first | omega | (simp (maxDischargeDepth := 30) only [gK_pS, k9, t0, t1, k11, n11, k18, n18, e1, hij]; done) | (simp (maxDischargeDepth := 30) only [gK_pS, k9, t0, t1, k11, n11, k18, n18, e1, hij]; omega)) only [b_159_0, b_159_1, b_159_2, k_159_2, wq_lmul, wq_lrem, wq_ifnull, wq_iconst, wq_bipush, wq_fconst, wq_dconst, wq_iload, wq_lload, wq_fload, wq_dload, wq_aload, wq_istore, wq_fstore, wq_astore, wq_lstore, wq_dstore, wq_iinc, wq_iadd, wq_isub, wq_imul, wq_iand, wq_ior, wq_ixor, wq_ishl, wq_ishr, wq_iushr, wq_ladd, wq_lsub, wq_lmul, wq_land, wq_lor, wq_lxor, wq_lshl, wq_lushr, wq_idiv, wq_irem, wq_lrem, wq_ifnull, wq_lcmp, wq_fcmp, wq_dcmp, wq_i2l, wq_l2i, wq_i2f, wq_i2d, wq_f2d, wq_fdiv, wq_ddiv, wq_dupi, wq_dupr, wq_dup2, wq_popi, wq_popr, wq_if_eq, wq_ic_eq, wq_if_ne, wq_ic_ne, wq_if_lt, wq_ic_lt, wq_if_ge, wq_ic_ge, wq_if_gt, wq_ic_gt, wq_if_le, wq_ic_le, wq_goto, wq_nop, wq_tsw, wq_getfield, wq_pfi, wq_pfl, wq_pfr, wq_getstatic, wq_iaload, wq_baload, wq_laload, wq_daload, wq_aaload, wq_iastore, wq_bastore, wq_lastore, wq_dastore, wq_aastore, wq_arraylength, wq_new, wq_newarray, wq_anewarray, wq_multi, wq_copy, wq_mmax, wq_mmin, wq_oi, wq_cs0, wq_cs1, wq_cs2, wq_cs3, wq_cs4, wq_cs5, wq_cs6, wq_cs7, wq_cv1, wq_cv2, wq_cv3, wq_cv4, wq_cv5, wq_cv6, wq_ci1, wq_ci2, wq_ci3, wq_ci4, wq_ci5, wq_ci6, wq_athrow, wq_ireturn, wq_freturn, wq_dreturn, wq_areturn, wq_return, wsw_n, wsw_c, aft_i, gf_1, gf_2, gf_3, rv_s, okst_0, okst_s, is2_int, is2_float, is2_ref, is2_retAddr, List.getElem?_cons_zero, List.getElem?_cons_succ, List.set_cons_zero, List.set_cons_succ, List.length_cons, List.length_nil, Option.toList_some, Option.toList_none, List.cons_append, List.nil_append, List.singleton_append, gL_setI, gD_setI, gR_setI, gN_setI, gK_setI, gx_setI, gc_setI, gs_setI, gI_setL, gD_setL, gR_setL, gN_setL, gK_setL, gx_setL, gc_setL, gs_setL, gI_setD, gL_setD, gR_setD, gN_setD, gK_setD, gx_setD, gc_setD, gs_setD, gI_setR, gL_setR, gD_setR, gN_setR, gK_setR, gx_setR, gc_setR, gs_setR, gL_rowI, gD_rowI, gR_rowI, gN_rowI, gK_rowI, gx_rowI, gc_rowI, gs_rowI, gI_I, gL_L, gD_D, gR_R, gI_row, gI_bmp, gL_bmp, gD_bmp, gR_bmp, gN_bmp, gK_bmp, gx_bmp, gc_bmp, gs_bmp, gK_pS, gN_pS, gI_pS, gD_pS, gR_pS, gx_pS, gc_pS, gs_pS, iv_11, ↓iv_max, ↓iv_min, iv_lt_t, iv_lt_f, iv_le_t, iv_le_f, iv_eq_t, iv_eq_f, iv_lt0_t, iv_lt0_f, iv_gt0_t, iv_gt0_f, iv_le0_t, iv_le0_f, iv_ge0_t, iv_ge0_f, iv_eq0_t, iv_eq0_f, iv_add, iv_sub, iv_mul, iv_nat, iv_lt, iv_le, iv_eq, iv_lt0, iv_gt0, iv_le0, iv_ge0, iv_eq0, iv_cl, bv_01, bv_eq0, lcmp_eq0, ↓reduceIte, Nat.reduceLeDiff, Nat.reduceLT, Nat.reduceAdd, Nat.reduceSub, Nat.reduceEqDiff, Nat.reduceMul, Nat.succ_ne_zero, Nat.zero_lt_succ, Nat.lt_add_one, Nat.add_left_cancel_iff, and_true, true_and, and_false, false_and, and_self, Nat.zero_le, eq_self, true_or, or_true, false_or, or_false, Bool.not_false, Bool.not_true, not_true, not_false_iff, Int.reduceEq, Int.reduceLT, Int.reduceLE, Int.reduceAdd, Int.reduceSub, Int.reduceToNat, Int.reduceNeg, Bool.false_eq_true, Bool.true_eq_false, reduceCtorEq, isRA14, isRA18, isRA19, iv_inb_t, true_or, or_true, Int.toNat_natCast, k9, t0, t1, k11, n11, k18, n18, e1, hij, Int.add_zero, show bz false = 0 from rfl, show bz true = 1 from rfl]
    exact ih (j + 1) (i + 1) (by omega) (by omega)
theorem x_159 {σ : St} {Q : Out → St → Prop} {b : PS} {r : Nat} (htb : TBL σ) (hv : TBV σ b) (hn : NR b r) : Ex 159 [.ref 838] σ Q = Q (.inl (some (.int (iv (r : Nat))))) σ := by
  simp (disch := omega) only [b_159_0, b_159_1, b_159_2, k_159_2, e_159, wq_lmul, wq_lrem, wq_ifnull, wq_iconst, wq_bipush, wq_fconst, wq_dconst, wq_iload, wq_lload, wq_fload, wq_dload, wq_aload, wq_istore, wq_fstore, wq_astore, wq_lstore, wq_dstore, wq_iinc, wq_iadd, wq_isub, wq_imul, wq_iand, wq_ior, wq_ixor, wq_ishl, wq_ishr, wq_iushr, wq_ladd, wq_lsub, wq_lmul, wq_land, wq_lor, wq_lxor, wq_lshl, wq_lushr, wq_idiv, wq_irem, wq_lrem, wq_ifnull, wq_lcmp, wq_fcmp, wq_dcmp, wq_i2l, wq_l2i, wq_i2f, wq_i2d, wq_f2d, wq_fdiv, wq_ddiv, wq_dupi, wq_dupr, wq_dup2, wq_popi, wq_popr, wq_if_eq, wq_ic_eq, wq_if_ne, wq_ic_ne, wq_if_lt, wq_ic_lt, wq_if_ge, wq_ic_ge, wq_if_gt, wq_ic_gt, wq_if_le, wq_ic_le, wq_goto, wq_nop, wq_tsw, wq_getfield, wq_pfi, wq_pfl, wq_pfr, wq_getstatic, wq_iaload, wq_baload, wq_laload, wq_daload, wq_aaload, wq_iastore, wq_bastore, wq_lastore, wq_dastore, wq_aastore, wq_arraylength, wq_new, wq_newarray, wq_anewarray, wq_multi, wq_copy, wq_mmax, wq_mmin, wq_oi, wq_cs0, wq_cs1, wq_cs2, wq_cs3, wq_cs4, wq_cs5, wq_cs6, wq_cs7, wq_cv1, wq_cv2, wq_cv3, wq_cv4, wq_cv5, wq_cv6, wq_ci1, wq_ci2, wq_ci3, wq_ci4, wq_ci5, wq_ci6, wq_athrow, wq_ireturn, wq_freturn, wq_dreturn, wq_areturn, wq_return, wsw_n, wsw_c, aft_i, gf_1, gf_2, gf_3, rv_s, okst_0, okst_s, is2_int, is2_float, is2_ref, is2_retAddr, List.getElem?_cons_zero, List.getElem?_cons_succ, List.set_cons_zero, List.set_cons_succ, List.length_cons, List.length_nil, Option.toList_some, Option.toList_none, List.cons_append, List.nil_append, List.singleton_append, gL_setI, gD_setI, gR_setI, gN_setI, gK_setI, gx_setI, gc_setI, gs_setI, gI_setL, gD_setL, gR_setL, gN_setL, gK_setL, gx_setL, gc_setL, gs_setL, gI_setD, gL_setD, gR_setD, gN_setD, gK_setD, gx_setD, gc_setD, gs_setD, gI_setR, gL_setR, gD_setR, gN_setR, gK_setR, gx_setR, gc_setR, gs_setR, gL_rowI, gD_rowI, gR_rowI, gN_rowI, gK_rowI, gx_rowI, gc_rowI, gs_rowI, gI_I, gL_L, gD_D, gR_R, gI_row, gI_bmp, gL_bmp, gD_bmp, gR_bmp, gN_bmp, gK_bmp, gx_bmp, gc_bmp, gs_bmp, gK_pS, gN_pS, gI_pS, gD_pS, gR_pS, gx_pS, gc_pS, gs_pS, iv_11, ↓iv_max, ↓iv_min, iv_lt_t, iv_lt_f, iv_le_t, iv_le_f, iv_eq_t, iv_eq_f, iv_lt0_t, iv_lt0_f, iv_gt0_t, iv_gt0_f, iv_le0_t, iv_le0_f, iv_ge0_t, iv_ge0_f, iv_eq0_t, iv_eq0_f, iv_add, iv_sub, iv_mul, iv_nat, iv_lt, iv_le, iv_eq, iv_lt0, iv_gt0, iv_le0, iv_ge0, iv_eq0, iv_cl, bv_01, bv_eq0, lcmp_eq0, ↓reduceIte, Nat.reduceLeDiff, Nat.reduceLT, Nat.reduceAdd, Nat.reduceSub, Nat.reduceEqDiff, Nat.reduceMul, Nat.succ_ne_zero, Nat.zero_lt_succ, Nat.lt_add_one, Nat.add_left_cancel_iff, and_true, true_and, and_false, false_and, and_self, Nat.zero_le, eq_self, true_or, or_true, false_or, or_false, Bool.not_false, Bool.not_true, not_true, not_false_iff, Int.reduceEq, Int.reduceLT, Int.reduceLE, Int.reduceAdd, Int.reduceSub, Int.reduceToNat, Int.reduceNeg, Bool.false_eq_true, Bool.true_eq_false, reduceCtorEq, isRA14, isRA18, isRA19, iv_inb_t, true_or, or_true, Int.toNat_natCast]
  exact q_159_1 htb hv hn r 0 0 rfl (by omega)
theorem q_160_2 {σ : St} {Q : Out → St → Prop} {a b : PS} {n : Nat} {hs : Nat → PS} {d s m i : Int} {r : Nat} {x : Int32} (hd : 1 ≤ d ∧ d ≤ 64) (hi : 0 ≤ i ∧ i < 100) (hr : r < 120) (hQ : ∀ σ' v8, FT σ σ' → LW0 σ' a n hs → TBV σ' (rowA b r (dvl d x)) → Wp 160 (blk 160 1, [.ref 838, .ref 2, .int (iv s), .int (iv m), .int (iv d), .int (drs d x 4), .int (iv (i + 1)), .int (iv (r : Nat)), v8], [], σ') Q) : ∀ (k j : Nat) (l : Int) (g : Nat → Int) (σ' : St), l = j → j + k = 4 → FT σ σ' → LW0 σ' a n hs → TBV σ' (rowA b r g) → (∀ c, c < j → g c = dvl d x c) → Wp 160 (blk 160 2, [.ref 838, .ref 2, .int (iv s), .int (iv m), .int (iv d), .int (drs d x j), .int (iv i), .int (iv (r : Nat)), .int (iv l)], [], σ') Q := by
  intro k
  induction k with
  | zero =>
    intro j l g σ' hl hj hf hw ht hg
    have hj : j = 4 := by omega
    subst hj
    rw [k_160_2]
    simp (disch := omega) only [b_160_0, b_160_1, b_160_2, b_160_3, k_160_3, b_160_4, k_160_4, b_160_5, k_160_5, b_160_6, k_160_6, b_160_7, k_160_7, b_160_8, k_160_8, wq_lmul, wq_lrem, wq_ifnull, wq_iconst, wq_bipush, wq_fconst, wq_dconst, wq_iload, wq_lload, wq_fload, wq_dload, wq_aload, wq_istore, wq_fstore, wq_astore, wq_lstore, wq_dstore, wq_iinc, wq_iadd, wq_isub, wq_imul, wq_iand, wq_ior, wq_ixor, wq_ishl, wq_ishr, wq_iushr, wq_ladd, wq_lsub, wq_lmul, wq_land, wq_lor, wq_lxor, wq_lshl, wq_lushr, wq_idiv, wq_irem, wq_lrem, wq_ifnull, wq_lcmp, wq_fcmp, wq_dcmp, wq_i2l, wq_l2i, wq_i2f, wq_i2d, wq_f2d, wq_fdiv, wq_ddiv, wq_dupi, wq_dupr, wq_dup2, wq_popi, wq_popr, wq_if_eq, wq_ic_eq, wq_if_ne, wq_ic_ne, wq_if_lt, wq_ic_lt, wq_if_ge, wq_ic_ge, wq_if_gt, wq_ic_gt, wq_if_le, wq_ic_le, wq_goto, wq_nop, wq_tsw, wq_getfield, wq_pfi, wq_pfl, wq_pfr, wq_getstatic, wq_iaload, wq_baload, wq_laload, wq_daload, wq_aaload, wq_iastore, wq_bastore, wq_lastore, wq_dastore, wq_aastore, wq_arraylength, wq_new, wq_newarray, wq_anewarray, wq_multi, wq_copy, wq_mmax, wq_mmin, wq_oi, wq_cs0, wq_cs1, wq_cs2, wq_cs3, wq_cs4, wq_cs5, wq_cs6, wq_cs7, wq_cv1, wq_cv2, wq_cv3, wq_cv4, wq_cv5, wq_cv6, wq_ci1, wq_ci2, wq_ci3, wq_ci4, wq_ci5, wq_ci6, wq_athrow, wq_ireturn, wq_freturn, wq_dreturn, wq_areturn, wq_return, wsw_n, wsw_c, aft_i, gf_1, gf_2, gf_3, rv_s, okst_0, okst_s, is2_int, is2_float, is2_ref, is2_retAddr, List.getElem?_cons_zero, List.getElem?_cons_succ, List.set_cons_zero, List.set_cons_succ, List.length_cons, List.length_nil, Option.toList_some, Option.toList_none, List.cons_append, List.nil_append, List.singleton_append, gL_setI, gD_setI, gR_setI, gN_setI, gK_setI, gx_setI, gc_setI, gs_setI, gI_setL, gD_setL, gR_setL, gN_setL, gK_setL, gx_setL, gc_setL, gs_setL, gI_setD, gL_setD, gR_setD, gN_setD, gK_setD, gx_setD, gc_setD, gs_setD, gI_setR, gL_setR, gD_setR, gN_setR, gK_setR, gx_setR, gc_setR, gs_setR, gL_rowI, gD_rowI, gR_rowI, gN_rowI, gK_rowI, gx_rowI, gc_rowI, gs_rowI, gI_I, gL_L, gD_D, gR_R, gI_row, gI_bmp, gL_bmp, gD_bmp, gR_bmp, gN_bmp, gK_bmp, gx_bmp, gc_bmp, gs_bmp, gK_pS, gN_pS, gI_pS, gD_pS, gR_pS, gx_pS, gc_pS, gs_pS, iv_11, ↓iv_max, ↓iv_min, iv_lt_t, iv_lt_f, iv_le_t, iv_le_f, iv_eq_t, iv_eq_f, iv_lt0_t, iv_lt0_f, iv_gt0_t, iv_gt0_f, iv_le0_t, iv_le0_f, iv_ge0_t, iv_ge0_f, iv_eq0_t, iv_eq0_f, iv_add, iv_sub, iv_mul, iv_nat, iv_lt, iv_le, iv_eq, iv_lt0, iv_gt0, iv_le0, iv_ge0, iv_eq0, iv_cl, bv_01, bv_eq0, lcmp_eq0, ↓reduceIte, Nat.reduceLeDiff, Nat.reduceLT, Nat.reduceAdd, Nat.reduceSub, Nat.reduceEqDiff, Nat.reduceMul, Nat.succ_ne_zero, Nat.zero_lt_succ, Nat.lt_add_one, Nat.add_left_cancel_iff, and_true, true_and, and_false, false_and, and_self, Nat.zero_le, eq_self, true_or, or_true, false_or, or_false, Bool.not_false, Bool.not_true, not_true, not_false_iff, Int.reduceEq, Int.reduceLT, Int.reduceLE, Int.reduceAdd, Int.reduceSub, Int.reduceToNat, Int.reduceNeg, Bool.false_eq_true, Bool.true_eq_false, reduceCtorEq, isRA14, isRA18, isRA19, iv_inb_t, true_or, or_true, Int.toNat_natCast]
    exact hQ σ' _ hf hw (ht.cong (fun c hc => (hg c hc).symm))
  | succ k ih =>
    intro j l g σ' hl hj hf hw ht hg
    have htb := hw.2.2.2.2.2
    obtain ⟨k9, t0, t1, k11, n11, k18, n18, tr, tk, tn⟩ := htb
    have e2 := tr r hr
    have e3 := tk r hr
    have e4 := tn r hr
    have hlt : l.toNat = j := by omega
    have hrt : (r : Int).toNat = r := Int.toNat_natCast r
    have hd0 : 2 * d ≠ 0 := by omega
    have hd1 : 0 < 2 * d := by omega
    have hd9 : 0 < 2 * d ∧ 2 * d < 1000 := by omega
    have hvj : dvl d x j = (dr d (drs d x j)).1 := if_pos (by omega)
    have hrem := Int.emod_nonneg (rnd (nxd (drs d x j))) (b := 8) (by decide)
    have hrem2 := Int.emod_lt_of_pos (rnd (nxd (drs d x j))) (b := 8) (by decide)
    have hre3 := Int.emod_nonneg (rnd (nxd (nxd (drs d x j)))) (b := 2 * d) hd0
    have hre4 := Int.emod_lt_of_pos (rnd (nxd (nxd (drs d x j)))) (b := 2 * d) hd1
    have hxs : drs d x (j + 1) = (dr d (drs d x j)).2 := rfl
    have hdr : dr d (drs d x j) = if rnd (nxd (drs d x j)) % 8 = 0 then (100, nxd (drs d x j)) else (rnd (nxd (nxd (drs d x j))) % (2 * d) - d, nxd (nxd (drs d x j))) := dr_eq _ _
    have hd8 : iv (rnd (nxd (drs d x j))) - iv (rnd (nxd (drs d x j))) / iv 8 * iv 8 = iv (rnd (nxd (drs d x j)) % 8) := iv_dm (rnd_rg _) (by decide)
    have hd2 : iv (rnd (nxd (nxd (drs d x j)))) - iv (rnd (nxd (nxd (drs d x j)))) / iv (2 * d) * iv (2 * d) = iv (rnd (nxd (nxd (drs d x j))) % (2 * d)) := iv_dm (rnd_rg _) hd9
    have e1 : drs d x j * iv 1103515245 + iv 12345 = nxd (drs d x j) := rfl
    have e5 : nxd (drs d x j) * iv 1103515245 + iv 12345 = nxd (nxd (drs d x j)) := rfl
    have e6 := rnd_iv (nxd (drs d x j))
    have e7 := rnd_iv (nxd (nxd (drs d x j)))
    generalize drs d x j = y at hvj hxs hdr hrem hrem2 hre3 hre4 hd8 hd2 e1 e5 e6 e7 ⊢
    generalize nxd y = y1 at hdr hrem hrem2 hre3 hre4 hd8 hd2 e1 e5 e6 e7
    generalize nxd y1 = y2 at hdr hre3 hre4 hd2 e5 e7
    generalize rnd y1 = N1 at hdr hrem hrem2 hd8 e6
    generalize rnd y2 = N2 at hdr hre3 hre4 hd2 e7
    generalize N1 % 8 = N at hdr hrem hrem2 hd8
    generalize N2 % (2 * d) = M at hdr hre3 hre4 hd2
    rw [k_160_2]
    by_cases h0 : N = 0
    · rw [if_pos h0] at hdr
      rw [hdr] at hvj hxs
      have hvj : dvl d x j = 100 := hvj
      have hxs : drs d x (j + 1) = y1 := hxs
      subst h0
      simp (disch := first | omega | (simp (maxDischargeDepth := 30) only [gK_pS, k9, t0, t1, k11, n11, k18, n18, e2, e3, e4, hlt, hrt, e1, e6, hd8]; done) | (simp (maxDischargeDepth := 30) only [gK_pS, k9, t0, t1, k11, n11, k18, n18, e2, e3, e4, hlt, hrt, e1, e6, hd8]; omega)) only [b_160_0, b_160_1, b_160_2, b_160_3, k_160_3, b_160_4, k_160_4, b_160_5, k_160_5, b_160_6, k_160_6, b_160_7, k_160_7, b_160_8, k_160_8, wq_lmul, wq_lrem, wq_ifnull, wq_iconst, wq_bipush, wq_fconst, wq_dconst, wq_iload, wq_lload, wq_fload, wq_dload, wq_aload, wq_istore, wq_fstore, wq_astore, wq_lstore, wq_dstore, wq_iinc, wq_iadd, wq_isub, wq_imul, wq_iand, wq_ior, wq_ixor, wq_ishl, wq_ishr, wq_iushr, wq_ladd, wq_lsub, wq_lmul, wq_land, wq_lor, wq_lxor, wq_lshl, wq_lushr, wq_idiv, wq_irem, wq_lrem, wq_ifnull, wq_lcmp, wq_fcmp, wq_dcmp, wq_i2l, wq_l2i, wq_i2f, wq_i2d, wq_f2d, wq_fdiv, wq_ddiv, wq_dupi, wq_dupr, wq_dup2, wq_popi, wq_popr, wq_if_eq, wq_ic_eq, wq_if_ne, wq_ic_ne, wq_if_lt, wq_ic_lt, wq_if_ge, wq_ic_ge, wq_if_gt, wq_ic_gt, wq_if_le, wq_ic_le, wq_goto, wq_nop, wq_tsw, wq_getfield, wq_pfi, wq_pfl, wq_pfr, wq_getstatic, wq_iaload, wq_baload, wq_laload, wq_daload, wq_aaload, wq_iastore, wq_bastore, wq_lastore, wq_dastore, wq_aastore, wq_arraylength, wq_new, wq_newarray, wq_anewarray, wq_multi, wq_copy, wq_mmax, wq_mmin, wq_oi, wq_cs0, wq_cs1, wq_cs2, wq_cs3, wq_cs4, wq_cs5, wq_cs6, wq_cs7, wq_cv1, wq_cv2, wq_cv3, wq_cv4, wq_cv5, wq_cv6, wq_ci1, wq_ci2, wq_ci3, wq_ci4, wq_ci5, wq_ci6, wq_athrow, wq_ireturn, wq_freturn, wq_dreturn, wq_areturn, wq_return, wsw_n, wsw_c, aft_i, gf_1, gf_2, gf_3, rv_s, okst_0, okst_s, is2_int, is2_float, is2_ref, is2_retAddr, List.getElem?_cons_zero, List.getElem?_cons_succ, List.set_cons_zero, List.set_cons_succ, List.length_cons, List.length_nil, Option.toList_some, Option.toList_none, List.cons_append, List.nil_append, List.singleton_append, gL_setI, gD_setI, gR_setI, gN_setI, gK_setI, gx_setI, gc_setI, gs_setI, gI_setL, gD_setL, gR_setL, gN_setL, gK_setL, gx_setL, gc_setL, gs_setL, gI_setD, gL_setD, gR_setD, gN_setD, gK_setD, gx_setD, gc_setD, gs_setD, gI_setR, gL_setR, gD_setR, gN_setR, gK_setR, gx_setR, gc_setR, gs_setR, gL_rowI, gD_rowI, gR_rowI, gN_rowI, gK_rowI, gx_rowI, gc_rowI, gs_rowI, gI_I, gL_L, gD_D, gR_R, gI_row, gI_bmp, gL_bmp, gD_bmp, gR_bmp, gN_bmp, gK_bmp, gx_bmp, gc_bmp, gs_bmp, gK_pS, gN_pS, gI_pS, gD_pS, gR_pS, gx_pS, gc_pS, gs_pS, iv_11, ↓iv_max, ↓iv_min, iv_lt_t, iv_lt_f, iv_le_t, iv_le_f, iv_eq_t, iv_eq_f, iv_lt0_t, iv_lt0_f, iv_gt0_t, iv_gt0_f, iv_le0_t, iv_le0_f, iv_ge0_t, iv_ge0_f, iv_eq0_t, iv_eq0_f, iv_add, iv_sub, iv_mul, iv_nat, iv_lt, iv_le, iv_eq, iv_lt0, iv_gt0, iv_le0, iv_ge0, iv_eq0, iv_cl, bv_01, bv_eq0, lcmp_eq0, ↓reduceIte, Nat.reduceLeDiff, Nat.reduceLT, Nat.reduceAdd, Nat.reduceSub, Nat.reduceEqDiff, Nat.reduceMul, Nat.succ_ne_zero, Nat.zero_lt_succ, Nat.lt_add_one, Nat.add_left_cancel_iff, and_true, true_and, and_false, false_and, and_self, Nat.zero_le, eq_self, true_or, or_true, false_or, or_false, Bool.not_false, Bool.not_true, not_true, not_false_iff, Int.reduceEq, Int.reduceLT, Int.reduceLE, Int.reduceAdd, Int.reduceSub, Int.reduceToNat, Int.reduceNeg, Bool.false_eq_true, Bool.true_eq_false, reduceCtorEq, isRA14, isRA18, isRA19, iv_inb_t, true_or, or_true, Int.toNat_natCast, k9, t0, t1, k11, n11, k18, n18, e2, e3, e4, hlt, hrt, e1, e6, hd8]
      rw [← hxs]
      refine ih (j + 1) (l + 1) _ _ (by omega) (by omega) hf.I (hw.I (by omega)) (ht.cell (j := j) (v := 100) hr) (fun c hc => ?_)
      by_cases e : c = j
      · rw [if_pos e, e, hvj]
      · rw [if_neg e]; exact hg c (by omega)
    · rw [if_neg h0] at hdr
      rw [hdr] at hvj hxs
      have hvj : dvl d x j = M - d := hvj
      have hxs : drs d x (j + 1) = y2 := hxs
      simp (disch := first | omega | (simp (maxDischargeDepth := 30) only [gK_pS, k9, t0, t1, k11, n11, k18, n18, e2, e3, e4, hlt, hrt, e1, e5, e6, e7, hd8, hd2]; done) | (simp (maxDischargeDepth := 30) only [gK_pS, k9, t0, t1, k11, n11, k18, n18, e2, e3, e4, hlt, hrt, e1, e5, e6, e7, hd8, hd2]; omega)) only [b_160_0, b_160_1, b_160_2, b_160_3, k_160_3, b_160_4, k_160_4, b_160_5, k_160_5, b_160_6, k_160_6, b_160_7, k_160_7, b_160_8, k_160_8, wq_lmul, wq_lrem, wq_ifnull, wq_iconst, wq_bipush, wq_fconst, wq_dconst, wq_iload, wq_lload, wq_fload, wq_dload, wq_aload, wq_istore, wq_fstore, wq_astore, wq_lstore, wq_dstore, wq_iinc, wq_iadd, wq_isub, wq_imul, wq_iand, wq_ior, wq_ixor, wq_ishl, wq_ishr, wq_iushr, wq_ladd, wq_lsub, wq_lmul, wq_land, wq_lor, wq_lxor, wq_lshl, wq_lushr, wq_idiv, wq_irem, wq_lrem, wq_ifnull, wq_lcmp, wq_fcmp, wq_dcmp, wq_i2l, wq_l2i, wq_i2f, wq_i2d, wq_f2d, wq_fdiv, wq_ddiv, wq_dupi, wq_dupr, wq_dup2, wq_popi, wq_popr, wq_if_eq, wq_ic_eq, wq_if_ne, wq_ic_ne, wq_if_lt, wq_ic_lt, wq_if_ge, wq_ic_ge, wq_if_gt, wq_ic_gt, wq_if_le, wq_ic_le, wq_goto, wq_nop, wq_tsw, wq_getfield, wq_pfi, wq_pfl, wq_pfr, wq_getstatic, wq_iaload, wq_baload, wq_laload, wq_daload, wq_aaload, wq_iastore, wq_bastore, wq_lastore, wq_dastore, wq_aastore, wq_arraylength, wq_new, wq_newarray, wq_anewarray, wq_multi, wq_copy, wq_mmax, wq_mmin, wq_oi, wq_cs0, wq_cs1, wq_cs2, wq_cs3, wq_cs4, wq_cs5, wq_cs6, wq_cs7, wq_cv1, wq_cv2, wq_cv3, wq_cv4, wq_cv5, wq_cv6, wq_ci1, wq_ci2, wq_ci3, wq_ci4, wq_ci5, wq_ci6, wq_athrow, wq_ireturn, wq_freturn, wq_dreturn, wq_areturn, wq_return, wsw_n, wsw_c, aft_i, gf_1, gf_2, gf_3, rv_s, okst_0, okst_s, is2_int, is2_float, is2_ref, is2_retAddr, List.getElem?_cons_zero, List.getElem?_cons_succ, List.set_cons_zero, List.set_cons_succ, List.length_cons, List.length_nil, Option.toList_some, Option.toList_none, List.cons_append, List.nil_append, List.singleton_append, gL_setI, gD_setI, gR_setI, gN_setI, gK_setI, gx_setI, gc_setI, gs_setI, gI_setL, gD_setL, gR_setL, gN_setL, gK_setL, gx_setL, gc_setL, gs_setL, gI_setD, gL_setD, gR_setD, gN_setD, gK_setD, gx_setD, gc_setD, gs_setD, gI_setR, gL_setR, gD_setR, gN_setR, gK_setR, gx_setR, gc_setR, gs_setR, gL_rowI, gD_rowI, gR_rowI, gN_rowI, gK_rowI, gx_rowI, gc_rowI, gs_rowI, gI_I, gL_L, gD_D, gR_R, gI_row, gI_bmp, gL_bmp, gD_bmp, gR_bmp, gN_bmp, gK_bmp, gx_bmp, gc_bmp, gs_bmp, gK_pS, gN_pS, gI_pS, gD_pS, gR_pS, gx_pS, gc_pS, gs_pS, iv_11, ↓iv_max, ↓iv_min, iv_lt_t, iv_lt_f, iv_le_t, iv_le_f, iv_eq_t, iv_eq_f, iv_lt0_t, iv_lt0_f, iv_gt0_t, iv_gt0_f, iv_le0_t, iv_le0_f, iv_ge0_t, iv_ge0_f, iv_eq0_t, iv_eq0_f, iv_add, iv_sub, iv_mul, iv_nat, iv_lt, iv_le, iv_eq, iv_lt0, iv_gt0, iv_le0, iv_ge0, iv_eq0, iv_cl, bv_01, bv_eq0, lcmp_eq0, ↓reduceIte, Nat.reduceLeDiff, Nat.reduceLT, Nat.reduceAdd, Nat.reduceSub, Nat.reduceEqDiff, Nat.reduceMul, Nat.succ_ne_zero, Nat.zero_lt_succ, Nat.lt_add_one, Nat.add_left_cancel_iff, and_true, true_and, and_false, false_and, and_self, Nat.zero_le, eq_self, true_or, or_true, false_or, or_false, Bool.not_false, Bool.not_true, not_true, not_false_iff, Int.reduceEq, Int.reduceLT, Int.reduceLE, Int.reduceAdd, Int.reduceSub, Int.reduceToNat, Int.reduceNeg, Bool.false_eq_true, Bool.true_eq_false, reduceCtorEq, isRA14, isRA18, isRA19, iv_inb_t, true_or, or_true, Int.toNat_natCast, k9, t0, t1, k11, n11, k18, n18, e2, e3, e4, hlt, hrt, e1, e5, e6, e7, hd8, hd2]
      rw [← hxs]
      refine ih (j + 1) (l + 1) _ _ (by omega) (by omega) hf.I.I ((hw.I (by omega)).I (by omega)) ((ht.cell (j := j) (v := 100) hr).cell (j := j) (v := M - d) hr) (fun c hc => ?_)
      by_cases e : c = j
      · rw [if_pos e, e, hvj]
      · rw [if_neg e, if_neg e]; exact hg c (by omega)
theorem q_160_1 {σ : St} {Q : Out → St → Prop} {a : PS} {n : Nat} {hs : Nat → PS} {d s m : Int} (hm : 1 ≤ m ∧ m ≤ 20) (hd : 1 ≤ d ∧ d ≤ 64) (h120 : (fb_ct (pT a) 120 : Nat) + m ≤ 120) (hQ : ∀ σ' b, FillR m.toNat d (iv s) a b → FT σ σ' → LWd σ' b (min (n + 1) 8) (psh a hs) → Q (.inl (some (.int (iv 1)))) σ') : ∀ (k j : Nat) (i : Int) (v7 v8 : Value) (y : Int32) (b : PS) (σ' : St), i = j → j + k = m.toNat → FT σ σ' → LW0 σ' a n hs → TBV σ' b → fb_ct (pT b) 120 + k ≤ 120 → (∀ e, FillR k d y b e → FillR m.toNat d (iv s) a e) → Wp 160 (blk 160 1, [.ref 838, .ref 2, .int (iv s), .int (iv m), .int (iv d), .int y, .int (iv i), v7, v8], [], σ') Q := by
  intro k
  induction k with
  | zero =>
    intro j i v7 v8 y b σ' hi hj hf hw ht hct hfr
    have htb := hw.2.2.2.2.2
    obtain ⟨k9, t0, t1, k11, n11, k18, n18, tr, tk, tn⟩ := htb
    have tk2 : gK σ' 2 = 7 := hw.1.1.1
    rw [k_160_1]
    simp (disch := first | omega | (simp (maxDischargeDepth := 30) only [gK_pS, k9, t0, t1, k11, n11, k18, n18, tk2]; done) | (simp (maxDischargeDepth := 30) only [gK_pS, k9, t0, t1, k11, n11, k18, n18, tk2]; omega)) only [b_160_0, b_160_1, b_160_2, b_160_3, k_160_3, b_160_4, k_160_4, b_160_5, k_160_5, b_160_6, k_160_6, b_160_7, k_160_7, b_160_8, k_160_8, wq_lmul, wq_lrem, wq_ifnull, wq_iconst, wq_bipush, wq_fconst, wq_dconst, wq_iload, wq_lload, wq_fload, wq_dload, wq_aload, wq_istore, wq_fstore, wq_astore, wq_lstore, wq_dstore, wq_iinc, wq_iadd, wq_isub, wq_imul, wq_iand, wq_ior, wq_ixor, wq_ishl, wq_ishr, wq_iushr, wq_ladd, wq_lsub, wq_lmul, wq_land, wq_lor, wq_lxor, wq_lshl, wq_lushr, wq_idiv, wq_irem, wq_lrem, wq_ifnull, wq_lcmp, wq_fcmp, wq_dcmp, wq_i2l, wq_l2i, wq_i2f, wq_i2d, wq_f2d, wq_fdiv, wq_ddiv, wq_dupi, wq_dupr, wq_dup2, wq_popi, wq_popr, wq_if_eq, wq_ic_eq, wq_if_ne, wq_ic_ne, wq_if_lt, wq_ic_lt, wq_if_ge, wq_ic_ge, wq_if_gt, wq_ic_gt, wq_if_le, wq_ic_le, wq_goto, wq_nop, wq_tsw, wq_getfield, wq_pfi, wq_pfl, wq_pfr, wq_getstatic, wq_iaload, wq_baload, wq_laload, wq_daload, wq_aaload, wq_iastore, wq_bastore, wq_lastore, wq_dastore, wq_aastore, wq_arraylength, wq_new, wq_newarray, wq_anewarray, wq_multi, wq_copy, wq_mmax, wq_mmin, wq_oi, wq_cs0, wq_cs1, wq_cs2, wq_cs3, wq_cs4, wq_cs5, wq_cs6, wq_cs7, wq_cv1, wq_cv2, wq_cv3, wq_cv4, wq_cv5, wq_cv6, wq_ci1, wq_ci2, wq_ci3, wq_ci4, wq_ci5, wq_ci6, wq_athrow, wq_ireturn, wq_freturn, wq_dreturn, wq_areturn, wq_return, wsw_n, wsw_c, aft_i, gf_1, gf_2, gf_3, rv_s, okst_0, okst_s, is2_int, is2_float, is2_ref, is2_retAddr, List.getElem?_cons_zero, List.getElem?_cons_succ, List.set_cons_zero, List.set_cons_succ, List.length_cons, List.length_nil, Option.toList_some, Option.toList_none, List.cons_append, List.nil_append, List.singleton_append, gL_setI, gD_setI, gR_setI, gN_setI, gK_setI, gx_setI, gc_setI, gs_setI, gI_setL, gD_setL, gR_setL, gN_setL, gK_setL, gx_setL, gc_setL, gs_setL, gI_setD, gL_setD, gR_setD, gN_setD, gK_setD, gx_setD, gc_setD, gs_setD, gI_setR, gL_setR, gD_setR, gN_setR, gK_setR, gx_setR, gc_setR, gs_setR, gL_rowI, gD_rowI, gR_rowI, gN_rowI, gK_rowI, gx_rowI, gc_rowI, gs_rowI, gI_I, gL_L, gD_D, gR_R, gI_row, gI_bmp, gL_bmp, gD_bmp, gR_bmp, gN_bmp, gK_bmp, gx_bmp, gc_bmp, gs_bmp, gK_pS, gN_pS, gI_pS, gD_pS, gR_pS, gx_pS, gc_pS, gs_pS, iv_11, ↓iv_max, ↓iv_min, iv_lt_t, iv_lt_f, iv_le_t, iv_le_f, iv_eq_t, iv_eq_f, iv_lt0_t, iv_lt0_f, iv_gt0_t, iv_gt0_f, iv_le0_t, iv_le0_f, iv_ge0_t, iv_ge0_f, iv_eq0_t, iv_eq0_f, iv_add, iv_sub, iv_mul, iv_nat, iv_lt, iv_le, iv_eq, iv_lt0, iv_gt0, iv_le0, iv_ge0, iv_eq0, iv_cl, bv_01, bv_eq0, lcmp_eq0, ↓reduceIte, Nat.reduceLeDiff, Nat.reduceLT, Nat.reduceAdd, Nat.reduceSub, Nat.reduceEqDiff, Nat.reduceMul, Nat.succ_ne_zero, Nat.zero_lt_succ, Nat.lt_add_one, Nat.add_left_cancel_iff, and_true, true_and, and_false, false_and, and_self, Nat.zero_le, eq_self, true_or, or_true, false_or, or_false, Bool.not_false, Bool.not_true, not_true, not_false_iff, Int.reduceEq, Int.reduceLT, Int.reduceLE, Int.reduceAdd, Int.reduceSub, Int.reduceToNat, Int.reduceNeg, Bool.false_eq_true, Bool.true_eq_false, reduceCtorEq, isRA14, isRA18, isRA19, iv_inb_t, true_or, or_true, Int.toNat_natCast, k9, t0, t1, k11, n11, k18, n18, tk2]
    refine c_fill_t hw.1 (s := s) (m := m) (d := d) hm hd h120 (fun σ2 c hF g2 b2 => ?_)
    have hcb : c = b := FillR_uq _ _ _ _ _ hF (hfr b rfl)
    subst hcb
    have w2 := hw.of g2 (fun p hp => by unfold ow at hp; omega) b2
    have t2 := ht.of g2 (fun p hp => by unfold ow at hp; omega)
    have e838 := t2.2.2
    have k838 := w2.2.2.2.2.2.1
    simp (disch := first | omega | (simp (maxDischargeDepth := 30) only [gK_pS, e838, k838]; done) | (simp (maxDischargeDepth := 30) only [gK_pS, e838, k838]; omega)) only [b_160_0, b_160_1, b_160_2, b_160_3, k_160_3, b_160_4, k_160_4, b_160_5, k_160_5, b_160_6, k_160_6, b_160_7, k_160_7, b_160_8, k_160_8, wq_lmul, wq_lrem, wq_ifnull, wq_iconst, wq_bipush, wq_fconst, wq_dconst, wq_iload, wq_lload, wq_fload, wq_dload, wq_aload, wq_istore, wq_fstore, wq_astore, wq_lstore, wq_dstore, wq_iinc, wq_iadd, wq_isub, wq_imul, wq_iand, wq_ior, wq_ixor, wq_ishl, wq_ishr, wq_iushr, wq_ladd, wq_lsub, wq_lmul, wq_land, wq_lor, wq_lxor, wq_lshl, wq_lushr, wq_idiv, wq_irem, wq_lrem, wq_ifnull, wq_lcmp, wq_fcmp, wq_dcmp, wq_i2l, wq_l2i, wq_i2f, wq_i2d, wq_f2d, wq_fdiv, wq_ddiv, wq_dupi, wq_dupr, wq_dup2, wq_popi, wq_popr, wq_if_eq, wq_ic_eq, wq_if_ne, wq_ic_ne, wq_if_lt, wq_ic_lt, wq_if_ge, wq_ic_ge, wq_if_gt, wq_ic_gt, wq_if_le, wq_ic_le, wq_goto, wq_nop, wq_tsw, wq_getfield, wq_pfi, wq_pfl, wq_pfr, wq_getstatic, wq_iaload, wq_baload, wq_laload, wq_daload, wq_aaload, wq_iastore, wq_bastore, wq_lastore, wq_dastore, wq_aastore, wq_arraylength, wq_new, wq_newarray, wq_anewarray, wq_multi, wq_copy, wq_mmax, wq_mmin, wq_oi, wq_cs0, wq_cs1, wq_cs2, wq_cs3, wq_cs4, wq_cs5, wq_cs6, wq_cs7, wq_cv1, wq_cv2, wq_cv3, wq_cv4, wq_cv5, wq_cv6, wq_ci1, wq_ci2, wq_ci3, wq_ci4, wq_ci5, wq_ci6, wq_athrow, wq_ireturn, wq_freturn, wq_dreturn, wq_areturn, wq_return, wsw_n, wsw_c, aft_i, gf_1, gf_2, gf_3, rv_s, okst_0, okst_s, is2_int, is2_float, is2_ref, is2_retAddr, List.getElem?_cons_zero, List.getElem?_cons_succ, List.set_cons_zero, List.set_cons_succ, List.length_cons, List.length_nil, Option.toList_some, Option.toList_none, List.cons_append, List.nil_append, List.singleton_append, gL_setI, gD_setI, gR_setI, gN_setI, gK_setI, gx_setI, gc_setI, gs_setI, gI_setL, gD_setL, gR_setL, gN_setL, gK_setL, gx_setL, gc_setL, gs_setL, gI_setD, gL_setD, gR_setD, gN_setD, gK_setD, gx_setD, gc_setD, gs_setD, gI_setR, gL_setR, gD_setR, gN_setR, gK_setR, gx_setR, gc_setR, gs_setR, gL_rowI, gD_rowI, gR_rowI, gN_rowI, gK_rowI, gx_rowI, gc_rowI, gs_rowI, gI_I, gL_L, gD_D, gR_R, gI_row, gI_bmp, gL_bmp, gD_bmp, gR_bmp, gN_bmp, gK_bmp, gx_bmp, gc_bmp, gs_bmp, gK_pS, gN_pS, gI_pS, gD_pS, gR_pS, gx_pS, gc_pS, gs_pS, iv_11, ↓iv_max, ↓iv_min, iv_lt_t, iv_lt_f, iv_le_t, iv_le_f, iv_eq_t, iv_eq_f, iv_lt0_t, iv_lt0_f, iv_gt0_t, iv_gt0_f, iv_le0_t, iv_le0_f, iv_ge0_t, iv_ge0_f, iv_eq0_t, iv_eq0_f, iv_add, iv_sub, iv_mul, iv_nat, iv_lt, iv_le, iv_eq, iv_lt0, iv_gt0, iv_le0, iv_ge0, iv_eq0, iv_cl, bv_01, bv_eq0, lcmp_eq0, ↓reduceIte, Nat.reduceLeDiff, Nat.reduceLT, Nat.reduceAdd, Nat.reduceSub, Nat.reduceEqDiff, Nat.reduceMul, Nat.succ_ne_zero, Nat.zero_lt_succ, Nat.lt_add_one, Nat.add_left_cancel_iff, and_true, true_and, and_false, false_and, and_self, Nat.zero_le, eq_self, true_or, or_true, false_or, or_false, Bool.not_false, Bool.not_true, not_true, not_false_iff, Int.reduceEq, Int.reduceLT, Int.reduceLE, Int.reduceAdd, Int.reduceSub, Int.reduceToNat, Int.reduceNeg, Bool.false_eq_true, Bool.true_eq_false, reduceCtorEq, isRA14, isRA18, isRA19, iv_inb_t, true_or, or_true, Int.toNat_natCast, e838, k838]
    exact hQ σ2 c hF (hf.tr (FT.of g2)) (w2.full t2)
  | succ k ih =>
    intro j i v7 v8 y b σ' hi hj hf hw ht hct hfr
    have htb := hw.2.2.2.2.2
    obtain ⟨r, hn⟩ := NR_ex (a := b) (by omega)
    have ex := fun Q => x_159 (Q := Q) htb ht hn
    obtain ⟨k9, t0, t1, k11, n11, k18, n18, tr, tk, tn⟩ := htb
    have hr := hn.1
    have hrt : (r : Int).toNat = r := Int.toNat_natCast r
    have e838 := ht.2.2
    have hle := fb_ct_le (pT b) 120
    rw [k_160_1]
    simp (disch := first | omega | (simp (maxDischargeDepth := 30) only [gK_pS, k9, t0, t1, k11, n11, k18, n18, hrt, e838]; done) | (simp (maxDischargeDepth := 30) only [gK_pS, k9, t0, t1, k11, n11, k18, n18, hrt, e838]; omega)) only [b_160_0, b_160_1, b_160_2, b_160_3, k_160_3, b_160_4, k_160_4, b_160_5, k_160_5, b_160_6, k_160_6, b_160_7, k_160_7, b_160_8, k_160_8, wq_lmul, wq_lrem, wq_ifnull, wq_iconst, wq_bipush, wq_fconst, wq_dconst, wq_iload, wq_lload, wq_fload, wq_dload, wq_aload, wq_istore, wq_fstore, wq_astore, wq_lstore, wq_dstore, wq_iinc, wq_iadd, wq_isub, wq_imul, wq_iand, wq_ior, wq_ixor, wq_ishl, wq_ishr, wq_iushr, wq_ladd, wq_lsub, wq_lmul, wq_land, wq_lor, wq_lxor, wq_lshl, wq_lushr, wq_idiv, wq_irem, wq_lrem, wq_ifnull, wq_lcmp, wq_fcmp, wq_dcmp, wq_i2l, wq_l2i, wq_i2f, wq_i2d, wq_f2d, wq_fdiv, wq_ddiv, wq_dupi, wq_dupr, wq_dup2, wq_popi, wq_popr, wq_if_eq, wq_ic_eq, wq_if_ne, wq_ic_ne, wq_if_lt, wq_ic_lt, wq_if_ge, wq_ic_ge, wq_if_gt, wq_ic_gt, wq_if_le, wq_ic_le, wq_goto, wq_nop, wq_tsw, wq_getfield, wq_pfi, wq_pfl, wq_pfr, wq_getstatic, wq_iaload, wq_baload, wq_laload, wq_daload, wq_aaload, wq_iastore, wq_bastore, wq_lastore, wq_dastore, wq_aastore, wq_arraylength, wq_new, wq_newarray, wq_anewarray, wq_multi, wq_copy, wq_mmax, wq_mmin, wq_oi, wq_cs0, wq_cs1, wq_cs2, wq_cs3, wq_cs4, wq_cs5, wq_cs6, wq_cs7, wq_cv1, wq_cv2, wq_cv3, wq_cv4, wq_cv5, wq_cv6, wq_ci1, wq_ci2, wq_ci3, wq_ci4, wq_ci5, wq_ci6, wq_athrow, wq_ireturn, wq_freturn, wq_dreturn, wq_areturn, wq_return, wsw_n, wsw_c, aft_i, gf_1, gf_2, gf_3, rv_s, okst_0, okst_s, is2_int, is2_float, is2_ref, is2_retAddr, List.getElem?_cons_zero, List.getElem?_cons_succ, List.set_cons_zero, List.set_cons_succ, List.length_cons, List.length_nil, Option.toList_some, Option.toList_none, List.cons_append, List.nil_append, List.singleton_append, gL_setI, gD_setI, gR_setI, gN_setI, gK_setI, gx_setI, gc_setI, gs_setI, gI_setL, gD_setL, gR_setL, gN_setL, gK_setL, gx_setL, gc_setL, gs_setL, gI_setD, gL_setD, gR_setD, gN_setD, gK_setD, gx_setD, gc_setD, gs_setD, gI_setR, gL_setR, gD_setR, gN_setR, gK_setR, gx_setR, gc_setR, gs_setR, gL_rowI, gD_rowI, gR_rowI, gN_rowI, gK_rowI, gx_rowI, gc_rowI, gs_rowI, gI_I, gL_L, gD_D, gR_R, gI_row, gI_bmp, gL_bmp, gD_bmp, gR_bmp, gN_bmp, gK_bmp, gx_bmp, gc_bmp, gs_bmp, gK_pS, gN_pS, gI_pS, gD_pS, gR_pS, gx_pS, gc_pS, gs_pS, iv_11, ↓iv_max, ↓iv_min, iv_lt_t, iv_lt_f, iv_le_t, iv_le_f, iv_eq_t, iv_eq_f, iv_lt0_t, iv_lt0_f, iv_gt0_t, iv_gt0_f, iv_le0_t, iv_le0_f, iv_ge0_t, iv_ge0_f, iv_eq0_t, iv_eq0_f, iv_add, iv_sub, iv_mul, iv_nat, iv_lt, iv_le, iv_eq, iv_lt0, iv_gt0, iv_le0, iv_ge0, iv_eq0, iv_cl, bv_01, bv_eq0, lcmp_eq0, ↓reduceIte, Nat.reduceLeDiff, Nat.reduceLT, Nat.reduceAdd, Nat.reduceSub, Nat.reduceEqDiff, Nat.reduceMul, Nat.succ_ne_zero, Nat.zero_lt_succ, Nat.lt_add_one, Nat.add_left_cancel_iff, and_true, true_and, and_false, false_and, and_self, Nat.zero_le, eq_self, true_or, or_true, false_or, or_false, Bool.not_false, Bool.not_true, not_true, not_false_iff, Int.reduceEq, Int.reduceLT, Int.reduceLE, Int.reduceAdd, Int.reduceSub, Int.reduceToNat, Int.reduceNeg, Bool.false_eq_true, Bool.true_eq_false, reduceCtorEq, isRA14, isRA18, isRA19, iv_inb_t, true_or, or_true, Int.toNat_natCast, k9, t0, t1, k11, n11, k18, n18, hrt, e838, ex, show vp_nar .boolean (iv 1) = iv 1 from rfl]
    have t2 := ht.row hn
    refine q_160_2 (σ := σ) (a := a) (b := b) (n := n) (hs := hs) (i := i) (x := y) hd (by omega) hr (fun σ3 v9 f3 w3 t3 => ?_) 4 0 0 _ _ (by omega) (by omega) hf.I.I ((hw.I (by omega)).I (by omega)) t2 (fun c hc => absurd hc (Nat.not_lt_zero c))
    exact ih (j + 1) (i + 1) _ v9 (drs d y 4) (rowA b r (dvl d y)) σ3 (by omega) (by omega) f3 w3 t3 (by rw [ct_row hn]; omega) (fun e he => hfr e ⟨r, hn, he⟩)
theorem x_160 {σ : St} {Q : Out → St → Prop} {a : PS} {n : Nat} {hs : Nat → PS} {d s m : Int} (hl : LWd σ a n hs) (hm : 1 ≤ m ∧ m ≤ 20) (hd : 1 ≤ d ∧ d ≤ 64) (h120 : (fb_ct (pT a) 120 : Nat) + m ≤ 120) (hQ : ∀ σ' b, FillR m.toNat d (iv s) a b → FT σ σ' → LWd σ' b (min (n + 1) 8) (psh a hs) → Q (.inl (some (.int (iv 1)))) σ') : Ex 160 [.ref 838, .ref 2, .int (iv s), .int (iv m), .int (iv d)] σ Q := by
  simp (disch := omega) only [b_160_0, b_160_1, b_160_2, b_160_3, k_160_3, b_160_4, k_160_4, b_160_5, k_160_5, b_160_6, k_160_6, b_160_7, k_160_7, b_160_8, k_160_8, e_160, wq_lmul, wq_lrem, wq_ifnull, wq_iconst, wq_bipush, wq_fconst, wq_dconst, wq_iload, wq_lload, wq_fload, wq_dload, wq_aload, wq_istore, wq_fstore, wq_astore, wq_lstore, wq_dstore, wq_iinc, wq_iadd, wq_isub, wq_imul, wq_iand, wq_ior, wq_ixor, wq_ishl, wq_ishr, wq_iushr, wq_ladd, wq_lsub, wq_lmul, wq_land, wq_lor, wq_lxor, wq_lshl, wq_lushr, wq_idiv, wq_irem, wq_lrem, wq_ifnull, wq_lcmp, wq_fcmp, wq_dcmp, wq_i2l, wq_l2i, wq_i2f, wq_i2d, wq_f2d, wq_fdiv, wq_ddiv, wq_dupi, wq_dupr, wq_dup2, wq_popi, wq_popr, wq_if_eq, wq_ic_eq, wq_if_ne, wq_ic_ne, wq_if_lt, wq_ic_lt, wq_if_ge, wq_ic_ge, wq_if_gt, wq_ic_gt, wq_if_le, wq_ic_le, wq_goto, wq_nop, wq_tsw, wq_getfield, wq_pfi, wq_pfl, wq_pfr, wq_getstatic, wq_iaload, wq_baload, wq_laload, wq_daload, wq_aaload, wq_iastore, wq_bastore, wq_lastore, wq_dastore, wq_aastore, wq_arraylength, wq_new, wq_newarray, wq_anewarray, wq_multi, wq_copy, wq_mmax, wq_mmin, wq_oi, wq_cs0, wq_cs1, wq_cs2, wq_cs3, wq_cs4, wq_cs5, wq_cs6, wq_cs7, wq_cv1, wq_cv2, wq_cv3, wq_cv4, wq_cv5, wq_cv6, wq_ci1, wq_ci2, wq_ci3, wq_ci4, wq_ci5, wq_ci6, wq_athrow, wq_ireturn, wq_freturn, wq_dreturn, wq_areturn, wq_return, wsw_n, wsw_c, aft_i, gf_1, gf_2, gf_3, rv_s, okst_0, okst_s, is2_int, is2_float, is2_ref, is2_retAddr, List.getElem?_cons_zero, List.getElem?_cons_succ, List.set_cons_zero, List.set_cons_succ, List.length_cons, List.length_nil, Option.toList_some, Option.toList_none, List.cons_append, List.nil_append, List.singleton_append, gL_setI, gD_setI, gR_setI, gN_setI, gK_setI, gx_setI, gc_setI, gs_setI, gI_setL, gD_setL, gR_setL, gN_setL, gK_setL, gx_setL, gc_setL, gs_setL, gI_setD, gL_setD, gR_setD, gN_setD, gK_setD, gx_setD, gc_setD, gs_setD, gI_setR, gL_setR, gD_setR, gN_setR, gK_setR, gx_setR, gc_setR, gs_setR, gL_rowI, gD_rowI, gR_rowI, gN_rowI, gK_rowI, gx_rowI, gc_rowI, gs_rowI, gI_I, gL_L, gD_D, gR_R, gI_row, gI_bmp, gL_bmp, gD_bmp, gR_bmp, gN_bmp, gK_bmp, gx_bmp, gc_bmp, gs_bmp, gK_pS, gN_pS, gI_pS, gD_pS, gR_pS, gx_pS, gc_pS, gs_pS, iv_11, ↓iv_max, ↓iv_min, iv_lt_t, iv_lt_f, iv_le_t, iv_le_f, iv_eq_t, iv_eq_f, iv_lt0_t, iv_lt0_f, iv_gt0_t, iv_gt0_f, iv_le0_t, iv_le0_f, iv_ge0_t, iv_ge0_f, iv_eq0_t, iv_eq0_f, iv_add, iv_sub, iv_mul, iv_nat, iv_lt, iv_le, iv_eq, iv_lt0, iv_gt0, iv_le0, iv_ge0, iv_eq0, iv_cl, bv_01, bv_eq0, lcmp_eq0, ↓reduceIte, Nat.reduceLeDiff, Nat.reduceLT, Nat.reduceAdd, Nat.reduceSub, Nat.reduceEqDiff, Nat.reduceMul, Nat.succ_ne_zero, Nat.zero_lt_succ, Nat.lt_add_one, Nat.add_left_cancel_iff, and_true, true_and, and_false, false_and, and_self, Nat.zero_le, eq_self, true_or, or_true, false_or, or_false, Bool.not_false, Bool.not_true, not_true, not_false_iff, Int.reduceEq, Int.reduceLT, Int.reduceLE, Int.reduceAdd, Int.reduceSub, Int.reduceToNat, Int.reduceNeg, Bool.false_eq_true, Bool.true_eq_false, reduceCtorEq, isRA14, isRA18, isRA19, iv_inb_t, true_or, or_true, Int.toNat_natCast]
  exact q_160_1 hm hd h120 hQ m.toNat 0 0 _ _ (iv s) a σ rfl (by omega) FT.rf hl.w hl.2.2.2.2.2.2 (by omega) (fun e he => he)
