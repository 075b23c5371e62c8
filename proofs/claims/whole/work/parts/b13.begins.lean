/-! THE MODEL: what it remembers -/
/-- its rows ahead of changes -/
def MH (σ : St) (n : Nat) (hs : Nat → PS) : Prop := n ≤ 8 ∧ gI σ 838 3 = iv (n : Nat) ∧ ∃ pa : Nat → Nat, (∀ i, i < 8 → pa i < 8) ∧ (∀ i j, i < 8 → j < 8 → pa i = pa j → i = j) ∧ (∀ i, i < 8 → gR σ 840 i = some (841 + pa i)) ∧ ∀ i, i < n → MA σ (841 + pa i) (hs (n - 1 - i)) ∧ pM (hs (n - 1 - i)) ≤ 4
def MI (σ : St) (a : PS) (n : Nat) (hs : Nat → PS) : Prop := ML σ ∧ MA σ 839 a ∧ MH σ n hs
/-- what a change of the model may write -/
def MO (σ σ' : St) : Prop := (∃ I R, σ' = (I, σ.2.1, σ.2.2.1, R, σ.2.2.2.2)) ∧ (∀ p, ¬ (838 ≤ p ∧ p ≤ 849) → gI σ' p = gI σ p) ∧ (∀ p, p ≠ 840 → gR σ' p = gR σ p) ∧ gI σ' 838 7 = gI σ 838 7
theorem MO.rf {σ : St} : MO σ σ := ⟨⟨σ.1, σ.2.2.2.1, rfl⟩, fun _ _ => rfl, fun _ _ => rfl, rfl⟩
theorem MO.tr {σ σ' σ'' : St} (h : MO σ σ') (h2 : MO σ' σ'') : MO σ σ'' := by
  obtain ⟨⟨I, R, e⟩, a2, a3, a4⟩ := h
  obtain ⟨⟨I2, R2, e2⟩, b2, b3, b4⟩ := h2
  refine ⟨⟨I2, R2, by subst e; exact e2⟩, fun p hp => (b2 p hp).trans (a2 p hp), fun p hp => (b3 p hp).trans (a3 p hp), b4.trans a4⟩
theorem MO.K {σ σ' : St} (h : MO σ σ') : gK σ' = gK σ := by obtain ⟨⟨I, R, rfl⟩, -⟩ := h; rfl
theorem MO.N {σ σ' : St} (h : MO σ σ') : gN σ' = gN σ := by obtain ⟨⟨I, R, rfl⟩, -⟩ := h; rfl
theorem ML.mo {σ σ' : St} (h : MO σ σ') (hl : ML σ) : ML σ' := by
  have hR : gR σ' 838 = gR σ 838 := h.2.2.1 838 (by omega)
  unfold ML at hl ⊢
  rw [h.K, h.N, hR]
  exact hl
theorem MO.si {σ : St} {p k : Nat} (x : Int32) (hp : 838 ≤ p ∧ p ≤ 849) (hk : p = 838 → k ≠ 7) : MO σ (setI σ p k x) := by
  refine ⟨⟨(setI σ p k x).1, σ.2.2.2.1, rfl⟩, fun q hq => funext (fun j => ?_), fun _ _ => rfl, ?_⟩
  · rw [gI_I, if_neg (fun h => hq (by rw [h.1]; exact hp))]
  · rw [gI_I, if_neg (fun h => hk h.1.symm h.2.symm)]
theorem MO.sr {σ : St} {k : Nat} (x : Option Nat) : MO σ (setR σ 840 k x) := ⟨⟨σ.1, (setR σ 840 k x).2.2.2.1, rfl⟩, fun _ _ => rfl, fun p hp => funext (fun j => gR_Rn (Or.inl hp)), rfl⟩
theorem MO.ri {σ : St} {p : Nat} (g : Nat → Int32) (hp : 839 ≤ p ∧ p ≤ 849) : MO σ (rowI σ p g) := by
  refine ⟨⟨(rowI σ p g).1, σ.2.2.2.1, rfl⟩, fun q hq => funext (fun j => ?_), fun _ _ => rfl, ?_⟩
  · rw [gI_row, if_neg (by omega)]
  · rw [gI_row, if_neg (by omega)]
theorem MA.copy {σ σ' : St} {P P' : Nat} {a : PS} (h : MA σ P a) (hm : pM a ≤ 4) (e : ∀ k, k < 2053 → gI σ' P' k = gI σ P k) : MA σ' P' a := by
  obtain ⟨h1, h2, h3, h4, h5, h6⟩ := h
  refine ⟨fun r hr ht c hc => ?_, fun r hr => ?_, fun f hf r hr => ?_, fun p hp n hn => ?_, ?_, fun i hi k hk => ?_⟩
  · rw [e _ (by omega)]; exact h1 r hr ht c hc
  · rw [e _ (by omega)]; exact h2 r hr
  · rw [e _ (by omega)]; exact h3 f hf r hr
  · rw [e _ (by omega)]; exact h4 p hp n hn
  · rw [e _ (by omega)]; exact h5
  · rw [e _ (by omega)]; exact h6 i hi k hk
/-- the copy, and one more -/
theorem bg3 {σ : St} {Q : Out → St → Prop} {a : PS} {n : Nat} {hh : Nat → PS} {pa : Nat → Nat} (hm : ML σ) (hma : MA σ 839 a) (ham : pM a ≤ 4) (hn : n < 8) (hc : gI σ 838 3 = iv (n : Nat)) (p1 : ∀ i, i < 8 → pa i < 8) (p2 : ∀ i j, i < 8 → j < 8 → pa i = pa j → i = j) (p3 : ∀ i, i < 8 → gR σ 840 i = some (841 + pa i)) (p4 : ∀ i, i < n → MA σ (841 + pa i) (hh i) ∧ pM (hh i) ≤ 4) (v1 v2 : Value) (hQ : ∀ σ', MO σ σ' → gI σ' 839 = gI σ 839 → gI σ' 849 = gI σ 849 → gI σ' 838 4 = gI σ 838 4 → gI σ' 838 0 = gI σ 838 0 → MI σ' a (n + 1) (fun i => if i = 0 then a else hh (n - i)) → Q (.inl none) σ') : Wp 176 (blk 176 3, [.ref 838, v1, v2], [], σ) Q := by
  have hm0 := hm
  obtain ⟨mk, mr1, mr2, mr5, mr6, mks, mns, mka, mna, mkm, mnm, mkg, mng, mkr, mkq⟩ := hm
  have r1 := p3 n hn
  have kr := (mkr (pa n) (p1 n hn)).1
  have nr := (mkr (pa n) (p1 n hn)).2
  have hnt : ((n : Nat) : Int).toNat = n := Int.toNat_natCast n
  have hne : (838 = 841 + pa n) = False := eq_false (by omega)
  rw [k_176_3]
  simp (disch := first | omega | (simp (maxDischargeDepth := 30) only [gK_pS, AWt, mk, mr1, mr2, mr5, mr6, mks, mns, mka, mna, mkm, mnm, mkg, mng, hc, r1, kr, nr, show isRA 18 = true from rfl]; done) | (simp (maxDischargeDepth := 30) only [gK_pS, AWt, mk, mr1, mr2, mr5, mr6, mks, mns, mka, mna, mkm, mnm, mkg, mng, hc, r1, kr, nr, show isRA 18 = true from rfl]; omega)) only [b_176_0, b_176_1, k_176_1, b_176_2, k_176_2, b_176_3, wq_iconst, wq_bipush, wq_fconst, wq_dconst, wq_iload, wq_lload, wq_fload, wq_dload, wq_aload, wq_istore, wq_fstore, wq_astore, wq_lstore, wq_dstore, wq_iinc, wq_iadd, wq_isub, wq_imul, wq_iand, wq_ior, wq_ixor, wq_ishl, wq_ishr, wq_iushr, wq_ladd, wq_lsub, wq_land, wq_lor, wq_lxor, wq_lshl, wq_lushr, wq_idiv, wq_irem, wq_lcmp, wq_fcmp, wq_dcmp, wq_i2l, wq_l2i, wq_i2f, wq_i2d, wq_f2d, wq_fdiv, wq_ddiv, wq_dupi, wq_dupr, wq_dup2, wq_popi, wq_popr, wq_if_eq, wq_ic_eq, wq_if_ne, wq_ic_ne, wq_if_lt, wq_ic_lt, wq_if_ge, wq_ic_ge, wq_if_gt, wq_ic_gt, wq_if_le, wq_ic_le, wq_goto, wq_nop, wq_tsw, wq_getfield, wq_pfi, wq_pfl, wq_pfr, wq_getstatic, wq_iaload, wq_baload, wq_laload, wq_daload, wq_aaload, wq_iastore, wq_bastore, wq_lastore, wq_dastore, wq_aastore, wq_arraylength, wq_new, wq_newarray, wq_anewarray, wq_multi, wq_copy, wq_mmax, wq_mmin, wq_oi, wq_cs0, wq_cs1, wq_cs2, wq_cs3, wq_cs4, wq_cs5, wq_cs6, wq_cs7, wq_cv1, wq_cv2, wq_cv3, wq_cv4, wq_cv5, wq_cv6, wq_ci1, wq_ci2, wq_ci3, wq_ci4, wq_ci5, wq_ci6, wq_athrow, wq_ireturn, wq_freturn, wq_dreturn, wq_areturn, wq_return, wsw_n, wsw_c, aft_i, gf_1, gf_2, gf_3, rv_s, okst_0, okst_s, is2_int, is2_float, is2_ref, is2_retAddr, List.getElem?_cons_zero, List.getElem?_cons_succ, List.set_cons_zero, List.set_cons_succ, List.length_cons, List.length_nil, Option.toList_some, Option.toList_none, List.cons_append, List.nil_append, List.singleton_append, gL_setI, gD_setI, gR_setI, gN_setI, gK_setI, gx_setI, gc_setI, gs_setI, gI_setL, gD_setL, gR_setL, gN_setL, gK_setL, gx_setL, gc_setL, gs_setL, gI_setD, gL_setD, gR_setD, gN_setD, gK_setD, gx_setD, gc_setD, gs_setD, gI_setR, gL_setR, gD_setR, gN_setR, gK_setR, gx_setR, gc_setR, gs_setR, gL_rowI, gD_rowI, gR_rowI, gN_rowI, gK_rowI, gx_rowI, gc_rowI, gs_rowI, gI_I, gL_L, gD_D, gR_R, gI_row, gI_bmp, gL_bmp, gD_bmp, gR_bmp, gN_bmp, gK_bmp, gx_bmp, gc_bmp, gs_bmp, gK_pS, gN_pS, gI_pS, gD_pS, gR_pS, gx_pS, gc_pS, gs_pS, iv_11, ↓iv_max, ↓iv_min, iv_lt_t, iv_lt_f, iv_le_t, iv_le_f, iv_eq_t, iv_eq_f, iv_lt0_t, iv_lt0_f, iv_gt0_t, iv_gt0_f, iv_le0_t, iv_le0_f, iv_ge0_t, iv_ge0_f, iv_eq0_t, iv_eq0_f, iv_add, iv_sub, iv_mul, iv_nat, iv_lt, iv_le, iv_eq, iv_lt0, iv_gt0, iv_le0, iv_ge0, iv_eq0, iv_cl, bv_01, bv_eq0, lcmp_eq0, ↓reduceIte, Nat.reduceLeDiff, Nat.reduceLT, Nat.reduceAdd, Nat.reduceSub, Nat.reduceEqDiff, Nat.reduceMul, Nat.succ_ne_zero, Nat.zero_lt_succ, Nat.lt_add_one, Nat.add_left_cancel_iff, and_true, true_and, and_false, false_and, and_self, Nat.zero_le, eq_self, true_or, or_true, false_or, or_false, Bool.not_false, Bool.not_true, not_true, not_false_iff, Int.reduceEq, Int.reduceLT, Int.reduceLE, Int.reduceAdd, Int.reduceSub, Int.reduceToNat, Int.reduceNeg, Bool.false_eq_true, Bool.true_eq_false, reduceCtorEq, mk, mr1, mr2, mr5, mr6, mks, mns, mka, mna, mkm, mnm, mkg, mng, hc, r1, kr, nr, show isRA 18 = true from rfl, isRA14, iv_inb_t, true_or, or_true, show isRA 15 = true from rfl, show isRA 16 = true from rfl, Int.toNat_natCast, show bz true = 1 from rfl, show bz false = 0 from rfl, hnt, hne]
  have o1 : MO σ (setI (rowI σ (841 + pa n) (va_cpy (gI σ 839) (gI σ (841 + pa n)) 0 0 2053)) 838 3 (iv ((n : Int) + 1))) := (MO.ri _ (by have := p1 n hn; omega)).tr (MO.si _ (by omega) (by omega))
  have gr : ∀ p, p ≠ 838 → p ≠ 841 + pa n → gI (setI (rowI σ (841 + pa n) (va_cpy (gI σ 839) (gI σ (841 + pa n)) 0 0 2053)) 838 3 (iv ((n : Int) + 1))) p = gI σ p := fun p h1 h2 => by
    funext k
    rw [gI_I, if_neg (fun h => h1 h.1), gI_row, if_neg h2]
  have g8 : ∀ k, k ≠ 3 → gI (setI (rowI σ (841 + pa n) (va_cpy (gI σ 839) (gI σ (841 + pa n)) 0 0 2053)) 838 3 (iv ((n : Int) + 1))) 838 k = gI σ 838 k := fun k hk => by
    rw [gI_I, if_neg (fun h => hk h.2), gI_row, if_neg (by omega)]
  refine hQ _ o1 (gr 839 (by omega) (by omega)) (gr 849 (by omega) (by have := p1 n hn; omega)) (g8 4 (by omega)) (g8 0 (by omega)) ⟨hm0.mo o1, hma.cong (gr 839 (by omega) (by omega)), by omega, ?_, pa, p1, p2, fun i hi => p3 i hi, fun i hi => ?_⟩
  · rw [gI_I, if_pos ⟨rfl, rfl⟩, Int.natCast_succ]
  · by_cases e : i = n
    · subst e
      have e0 : (fun q => if q = 0 then a else hh (i - q)) (i + 1 - 1 - i) = a := if_pos (by omega)
      rw [e0]
      refine ⟨hma.copy ham (fun k hk => ?_), ham⟩
      rw [gI_I, if_neg (by omega), gI_row, if_pos rfl]
      unfold va_cpy
      rw [if_pos (by omega)]
      congr 1
      omega
    · have e0 : (fun q => if q = 0 then a else hh (n - q)) (n + 1 - 1 - i) = hh i := by
        show (if n + 1 - 1 - i = 0 then a else hh (n - (n + 1 - 1 - i))) = hh i
        rw [if_neg (by omega), show n - (n + 1 - 1 - i) = i by omega]
      rw [e0]
      have h4 := p4 i (by omega)
      refine ⟨h4.1.cong (gr _ (by omega) (fun h => e (p2 i n (by omega) hn (by omega)))), h4.2⟩
theorem q_176_1 {σ : St} {Q : Out → St → Prop} {pa : Nat → Nat} {v1 : Nat} (hm : ML σ) (p1 : ∀ i, i < 8 → pa i < 8) (p3 : ∀ i, i < 8 → gR σ 840 i = some (841 + pa i)) (hQ : ∀ σ', MO σ σ' → gI σ' = gI σ → (∀ i, i < 7 → gR σ' 840 i = some (841 + pa (i + 1))) → Wp 176 (blk 176 2, [.ref 838, .ref v1, .int (iv 8)], [], σ') Q) : ∀ (k j : Nat) (i : Int) (σ' : St), i = j → j + k = 8 → 1 ≤ j → MO σ σ' → gI σ' = gI σ → (∀ i, i < 8 → gR σ' 840 i = some (841 + pa (if i + 1 < j then i + 1 else i))) → Wp 176 (blk 176 1, [.ref 838, .ref v1, .int (iv i)], [], σ') Q := by
  intro k
  induction k with
  | zero =>
    intro j i σ' hi hj h1 ho hI hR
    have hi8 : i = 8 := by omega
    subst hi8
    rw [k_176_1]
    simp (disch := first | omega | (simp (maxDischargeDepth := 30) only [gK_pS, AWt]; done) | (simp (maxDischargeDepth := 30) only [gK_pS, AWt]; omega)) only [b_176_0, b_176_1, b_176_2, b_176_3, k_176_3, wq_iconst, wq_bipush, wq_fconst, wq_dconst, wq_iload, wq_lload, wq_fload, wq_dload, wq_aload, wq_istore, wq_fstore, wq_astore, wq_lstore, wq_dstore, wq_iinc, wq_iadd, wq_isub, wq_imul, wq_iand, wq_ior, wq_ixor, wq_ishl, wq_ishr, wq_iushr, wq_ladd, wq_lsub, wq_land, wq_lor, wq_lxor, wq_lshl, wq_lushr, wq_idiv, wq_irem, wq_lcmp, wq_fcmp, wq_dcmp, wq_i2l, wq_l2i, wq_i2f, wq_i2d, wq_f2d, wq_fdiv, wq_ddiv, wq_dupi, wq_dupr, wq_dup2, wq_popi, wq_popr, wq_if_eq, wq_ic_eq, wq_if_ne, wq_ic_ne, wq_if_lt, wq_ic_lt, wq_if_ge, wq_ic_ge, wq_if_gt, wq_ic_gt, wq_if_le, wq_ic_le, wq_goto, wq_nop, wq_tsw, wq_getfield, wq_pfi, wq_pfl, wq_pfr, wq_getstatic, wq_iaload, wq_baload, wq_laload, wq_daload, wq_aaload, wq_iastore, wq_bastore, wq_lastore, wq_dastore, wq_aastore, wq_arraylength, wq_new, wq_newarray, wq_anewarray, wq_multi, wq_copy, wq_mmax, wq_mmin, wq_oi, wq_cs0, wq_cs1, wq_cs2, wq_cs3, wq_cs4, wq_cs5, wq_cs6, wq_cs7, wq_cv1, wq_cv2, wq_cv3, wq_cv4, wq_cv5, wq_cv6, wq_ci1, wq_ci2, wq_ci3, wq_ci4, wq_ci5, wq_ci6, wq_athrow, wq_ireturn, wq_freturn, wq_dreturn, wq_areturn, wq_return, wsw_n, wsw_c, aft_i, gf_1, gf_2, gf_3, rv_s, okst_0, okst_s, is2_int, is2_float, is2_ref, is2_retAddr, List.getElem?_cons_zero, List.getElem?_cons_succ, List.set_cons_zero, List.set_cons_succ, List.length_cons, List.length_nil, Option.toList_some, Option.toList_none, List.cons_append, List.nil_append, List.singleton_append, gL_setI, gD_setI, gR_setI, gN_setI, gK_setI, gx_setI, gc_setI, gs_setI, gI_setL, gD_setL, gR_setL, gN_setL, gK_setL, gx_setL, gc_setL, gs_setL, gI_setD, gL_setD, gR_setD, gN_setD, gK_setD, gx_setD, gc_setD, gs_setD, gI_setR, gL_setR, gD_setR, gN_setR, gK_setR, gx_setR, gc_setR, gs_setR, gL_rowI, gD_rowI, gR_rowI, gN_rowI, gK_rowI, gx_rowI, gc_rowI, gs_rowI, gI_I, gL_L, gD_D, gR_R, gI_row, gI_bmp, gL_bmp, gD_bmp, gR_bmp, gN_bmp, gK_bmp, gx_bmp, gc_bmp, gs_bmp, gK_pS, gN_pS, gI_pS, gD_pS, gR_pS, gx_pS, gc_pS, gs_pS, iv_11, ↓iv_max, ↓iv_min, iv_lt_t, iv_lt_f, iv_le_t, iv_le_f, iv_eq_t, iv_eq_f, iv_lt0_t, iv_lt0_f, iv_gt0_t, iv_gt0_f, iv_le0_t, iv_le0_f, iv_ge0_t, iv_ge0_f, iv_eq0_t, iv_eq0_f, iv_add, iv_sub, iv_mul, iv_nat, iv_lt, iv_le, iv_eq, iv_lt0, iv_gt0, iv_le0, iv_ge0, iv_eq0, iv_cl, bv_01, bv_eq0, lcmp_eq0, ↓reduceIte, Nat.reduceLeDiff, Nat.reduceLT, Nat.reduceAdd, Nat.reduceSub, Nat.reduceEqDiff, Nat.reduceMul, Nat.succ_ne_zero, Nat.zero_lt_succ, Nat.lt_add_one, Nat.add_left_cancel_iff, and_true, true_and, and_false, false_and, and_self, Nat.zero_le, eq_self, true_or, or_true, false_or, or_false, Bool.not_false, Bool.not_true, not_true, not_false_iff, Int.reduceEq, Int.reduceLT, Int.reduceLE, Int.reduceAdd, Int.reduceSub, Int.reduceToNat, Int.reduceNeg, Bool.false_eq_true, Bool.true_eq_false, reduceCtorEq]
    refine hQ σ' ho hI (fun i hi => ?_)
    rw [hR i (by omega), if_pos (by omega)]
  | succ k ih =>
    intro j i σ' hi hj h1 ho hI hR
    have hm := hm.mo ho
    have hm0 := hm
    obtain ⟨mk, mr1, mr2, mr5, mr6, mks, mns, mka, mna, mkm, mnm, mkg, mng, mkr, mkq⟩ := hm
    have e1 : (i - 1).toNat = j - 1 := by omega
    have e2 : i.toNat = j := by omega
    have r2 := hR j (by omega)
    rw [if_neg (by omega)] at r2
    have kr := (mkr (pa j) (p1 j (by omega))).1
    rw [k_176_1]
    simp (disch := first | omega | (simp (maxDischargeDepth := 30) only [gK_pS, AWt, mk, mr1, mr2, mr5, mr6, mks, mns, mka, mna, mkm, mnm, mkg, mng, r2, kr, show isRA 18 = true from rfl, show ek 18 = 10 from rfl]; done) | (simp (maxDischargeDepth := 30) only [gK_pS, AWt, mk, mr1, mr2, mr5, mr6, mks, mns, mka, mna, mkm, mnm, mkg, mng, r2, kr, show isRA 18 = true from rfl, show ek 18 = 10 from rfl]; omega)) only [b_176_0, b_176_1, b_176_2, b_176_3, k_176_3, wq_iconst, wq_bipush, wq_fconst, wq_dconst, wq_iload, wq_lload, wq_fload, wq_dload, wq_aload, wq_istore, wq_fstore, wq_astore, wq_lstore, wq_dstore, wq_iinc, wq_iadd, wq_isub, wq_imul, wq_iand, wq_ior, wq_ixor, wq_ishl, wq_ishr, wq_iushr, wq_ladd, wq_lsub, wq_land, wq_lor, wq_lxor, wq_lshl, wq_lushr, wq_idiv, wq_irem, wq_lcmp, wq_fcmp, wq_dcmp, wq_i2l, wq_l2i, wq_i2f, wq_i2d, wq_f2d, wq_fdiv, wq_ddiv, wq_dupi, wq_dupr, wq_dup2, wq_popi, wq_popr, wq_if_eq, wq_ic_eq, wq_if_ne, wq_ic_ne, wq_if_lt, wq_ic_lt, wq_if_ge, wq_ic_ge, wq_if_gt, wq_ic_gt, wq_if_le, wq_ic_le, wq_goto, wq_nop, wq_tsw, wq_getfield, wq_pfi, wq_pfl, wq_pfr, wq_getstatic, wq_iaload, wq_baload, wq_laload, wq_daload, wq_aaload, wq_iastore, wq_bastore, wq_lastore, wq_dastore, wq_aastore, wq_arraylength, wq_new, wq_newarray, wq_anewarray, wq_multi, wq_copy, wq_mmax, wq_mmin, wq_oi, wq_cs0, wq_cs1, wq_cs2, wq_cs3, wq_cs4, wq_cs5, wq_cs6, wq_cs7, wq_cv1, wq_cv2, wq_cv3, wq_cv4, wq_cv5, wq_cv6, wq_ci1, wq_ci2, wq_ci3, wq_ci4, wq_ci5, wq_ci6, wq_athrow, wq_ireturn, wq_freturn, wq_dreturn, wq_areturn, wq_return, wsw_n, wsw_c, aft_i, gf_1, gf_2, gf_3, rv_s, okst_0, okst_s, is2_int, is2_float, is2_ref, is2_retAddr, List.getElem?_cons_zero, List.getElem?_cons_succ, List.set_cons_zero, List.set_cons_succ, List.length_cons, List.length_nil, Option.toList_some, Option.toList_none, List.cons_append, List.nil_append, List.singleton_append, gL_setI, gD_setI, gR_setI, gN_setI, gK_setI, gx_setI, gc_setI, gs_setI, gI_setL, gD_setL, gR_setL, gN_setL, gK_setL, gx_setL, gc_setL, gs_setL, gI_setD, gL_setD, gR_setD, gN_setD, gK_setD, gx_setD, gc_setD, gs_setD, gI_setR, gL_setR, gD_setR, gN_setR, gK_setR, gx_setR, gc_setR, gs_setR, gL_rowI, gD_rowI, gR_rowI, gN_rowI, gK_rowI, gx_rowI, gc_rowI, gs_rowI, gI_I, gL_L, gD_D, gR_R, gI_row, gI_bmp, gL_bmp, gD_bmp, gR_bmp, gN_bmp, gK_bmp, gx_bmp, gc_bmp, gs_bmp, gK_pS, gN_pS, gI_pS, gD_pS, gR_pS, gx_pS, gc_pS, gs_pS, iv_11, ↓iv_max, ↓iv_min, iv_lt_t, iv_lt_f, iv_le_t, iv_le_f, iv_eq_t, iv_eq_f, iv_lt0_t, iv_lt0_f, iv_gt0_t, iv_gt0_f, iv_le0_t, iv_le0_f, iv_ge0_t, iv_ge0_f, iv_eq0_t, iv_eq0_f, iv_add, iv_sub, iv_mul, iv_nat, iv_lt, iv_le, iv_eq, iv_lt0, iv_gt0, iv_le0, iv_ge0, iv_eq0, iv_cl, bv_01, bv_eq0, lcmp_eq0, ↓reduceIte, Nat.reduceLeDiff, Nat.reduceLT, Nat.reduceAdd, Nat.reduceSub, Nat.reduceEqDiff, Nat.reduceMul, Nat.succ_ne_zero, Nat.zero_lt_succ, Nat.lt_add_one, Nat.add_left_cancel_iff, and_true, true_and, and_false, false_and, and_self, Nat.zero_le, eq_self, true_or, or_true, false_or, or_false, Bool.not_false, Bool.not_true, not_true, not_false_iff, Int.reduceEq, Int.reduceLT, Int.reduceLE, Int.reduceAdd, Int.reduceSub, Int.reduceToNat, Int.reduceNeg, Bool.false_eq_true, Bool.true_eq_false, reduceCtorEq, mk, mr1, mr2, mr5, mr6, mks, mns, mka, mna, mkm, mnm, mkg, mng, r2, kr, show isRA 18 = true from rfl, show ek 18 = 10 from rfl, isRA14, iv_inb_t, true_or, or_true, show isRA 15 = true from rfl, show isRA 16 = true from rfl, Int.toNat_natCast, show bz true = 1 from rfl, show bz false = 0 from rfl, e1, e2]
    refine ih (j + 1) (i + 1) _ (by omega) (by omega) (by omega) (ho.tr (MO.sr _)) hI (fun l hl => ?_)
    by_cases e : l = j - 1
    · rw [gR_Re ⟨rfl, e⟩, if_pos (by omega), show l + 1 = j by omega]
    · rw [gR_Rn (Or.inr e), hR l hl]
      by_cases h9 : l + 1 < j
      · rw [if_pos h9, if_pos (by omega)]
      · rw [if_neg h9, if_neg (by omega)]
theorem x_176 {σ : St} {Q : Out → St → Prop} {a : PS} {n : Nat} {hs : Nat → PS} (hi : MI σ a n hs) (ham : pM a ≤ 4) (hQ : ∀ σ', MO σ σ' → gI σ' 839 = gI σ 839 → gI σ' 849 = gI σ 849 → gI σ' 838 4 = gI σ 838 4 → gI σ' 838 0 = gI σ 838 0 → MI σ' a (min (n + 1) 8) (psh a hs) → Q (.inl none) σ') : Ex 176 [.ref 838] σ Q := by
  obtain ⟨hm, hma, hn8, hc, pa, p1, p2, p3, p4⟩ := hi
  have hm0 := hm
  obtain ⟨mk, mr1, mr2, mr5, mr6, mks, mns, mka, mna, mkm, mnm, mkg, mng, mkr, mkq⟩ := hm
  by_cases h8 : n < 8
  · simp (disch := first | omega | (simp (maxDischargeDepth := 30) only [gK_pS, AWt, mk, mr1, mr2, mr5, mr6, mks, mns, mka, mna, mkm, mnm, mkg, mng, hc]; done) | (simp (maxDischargeDepth := 30) only [gK_pS, AWt, mk, mr1, mr2, mr5, mr6, mks, mns, mka, mna, mkm, mnm, mkg, mng, hc]; omega)) only [b_176_0, b_176_1, k_176_1, b_176_2, k_176_2, b_176_3, e_176, wq_iconst, wq_bipush, wq_fconst, wq_dconst, wq_iload, wq_lload, wq_fload, wq_dload, wq_aload, wq_istore, wq_fstore, wq_astore, wq_lstore, wq_dstore, wq_iinc, wq_iadd, wq_isub, wq_imul, wq_iand, wq_ior, wq_ixor, wq_ishl, wq_ishr, wq_iushr, wq_ladd, wq_lsub, wq_land, wq_lor, wq_lxor, wq_lshl, wq_lushr, wq_idiv, wq_irem, wq_lcmp, wq_fcmp, wq_dcmp, wq_i2l, wq_l2i, wq_i2f, wq_i2d, wq_f2d, wq_fdiv, wq_ddiv, wq_dupi, wq_dupr, wq_dup2, wq_popi, wq_popr, wq_if_eq, wq_ic_eq, wq_if_ne, wq_ic_ne, wq_if_lt, wq_ic_lt, wq_if_ge, wq_ic_ge, wq_if_gt, wq_ic_gt, wq_if_le, wq_ic_le, wq_goto, wq_nop, wq_tsw, wq_getfield, wq_pfi, wq_pfl, wq_pfr, wq_getstatic, wq_iaload, wq_baload, wq_laload, wq_daload, wq_aaload, wq_iastore, wq_bastore, wq_lastore, wq_dastore, wq_aastore, wq_arraylength, wq_new, wq_newarray, wq_anewarray, wq_multi, wq_copy, wq_mmax, wq_mmin, wq_oi, wq_cs0, wq_cs1, wq_cs2, wq_cs3, wq_cs4, wq_cs5, wq_cs6, wq_cs7, wq_cv1, wq_cv2, wq_cv3, wq_cv4, wq_cv5, wq_cv6, wq_ci1, wq_ci2, wq_ci3, wq_ci4, wq_ci5, wq_ci6, wq_athrow, wq_ireturn, wq_freturn, wq_dreturn, wq_areturn, wq_return, wsw_n, wsw_c, aft_i, gf_1, gf_2, gf_3, rv_s, okst_0, okst_s, is2_int, is2_float, is2_ref, is2_retAddr, List.getElem?_cons_zero, List.getElem?_cons_succ, List.set_cons_zero, List.set_cons_succ, List.length_cons, List.length_nil, Option.toList_some, Option.toList_none, List.cons_append, List.nil_append, List.singleton_append, gL_setI, gD_setI, gR_setI, gN_setI, gK_setI, gx_setI, gc_setI, gs_setI, gI_setL, gD_setL, gR_setL, gN_setL, gK_setL, gx_setL, gc_setL, gs_setL, gI_setD, gL_setD, gR_setD, gN_setD, gK_setD, gx_setD, gc_setD, gs_setD, gI_setR, gL_setR, gD_setR, gN_setR, gK_setR, gx_setR, gc_setR, gs_setR, gL_rowI, gD_rowI, gR_rowI, gN_rowI, gK_rowI, gx_rowI, gc_rowI, gs_rowI, gI_I, gL_L, gD_D, gR_R, gI_row, gI_bmp, gL_bmp, gD_bmp, gR_bmp, gN_bmp, gK_bmp, gx_bmp, gc_bmp, gs_bmp, gK_pS, gN_pS, gI_pS, gD_pS, gR_pS, gx_pS, gc_pS, gs_pS, iv_11, ↓iv_max, ↓iv_min, iv_lt_t, iv_lt_f, iv_le_t, iv_le_f, iv_eq_t, iv_eq_f, iv_lt0_t, iv_lt0_f, iv_gt0_t, iv_gt0_f, iv_le0_t, iv_le0_f, iv_ge0_t, iv_ge0_f, iv_eq0_t, iv_eq0_f, iv_add, iv_sub, iv_mul, iv_nat, iv_lt, iv_le, iv_eq, iv_lt0, iv_gt0, iv_le0, iv_ge0, iv_eq0, iv_cl, bv_01, bv_eq0, lcmp_eq0, ↓reduceIte, Nat.reduceLeDiff, Nat.reduceLT, Nat.reduceAdd, Nat.reduceSub, Nat.reduceEqDiff, Nat.reduceMul, Nat.succ_ne_zero, Nat.zero_lt_succ, Nat.lt_add_one, Nat.add_left_cancel_iff, and_true, true_and, and_false, false_and, and_self, Nat.zero_le, eq_self, true_or, or_true, false_or, or_false, Bool.not_false, Bool.not_true, not_true, not_false_iff, Int.reduceEq, Int.reduceLT, Int.reduceLE, Int.reduceAdd, Int.reduceSub, Int.reduceToNat, Int.reduceNeg, Bool.false_eq_true, Bool.true_eq_false, reduceCtorEq, mk, mr1, mr2, mr5, mr6, mks, mns, mka, mna, mkm, mnm, mkg, mng, hc, isRA14, iv_inb_t, true_or, or_true, show isRA 15 = true from rfl, show isRA 16 = true from rfl, Int.toNat_natCast, show bz true = 1 from rfl, show bz false = 0 from rfl]
    refine bg3 hm0 hma ham h8 hc p1 p2 p3 (hh := fun i => hs (n - 1 - i)) p4 _ _ (fun σ' o1 g1 g2 g3 g4 h => hQ σ' o1 g1 g2 g3 g4 ?_)
    rw [show min (n + 1) 8 = n + 1 by omega]
    obtain ⟨q1, q2, q3, q4, pb, q5, q6, q7, q8⟩ := h
    refine ⟨q1, q2, q3, q4, pb, q5, q6, q7, fun i hi => ?_⟩
    have h9 := q8 i hi
    have e : (fun i => if i = 0 then a else hs (n - 1 - (n - i))) (n + 1 - 1 - i) = psh a hs (n + 1 - 1 - i) := by
      show (if n + 1 - 1 - i = 0 then a else hs (n - 1 - (n - (n + 1 - 1 - i)))) = if n + 1 - 1 - i = 0 then a else hs (n + 1 - 1 - i - 1)
      by_cases e0 : n + 1 - 1 - i = 0
      · rw [if_pos e0, if_pos e0]
      · rw [if_neg e0, if_neg e0, show n - 1 - (n - (n + 1 - 1 - i)) = n + 1 - 1 - i - 1 by omega]
    rw [e] at h9
    exact h9
  · have hn : n = 8 := by omega
    subst hn
    have r0 := p3 0 (by omega)
    have kr0 := (mkr (pa 0) (p1 0 (by omega))).1
    simp (disch := first | omega | (simp (maxDischargeDepth := 30) only [gK_pS, AWt, mk, mr1, mr2, mr5, mr6, mks, mns, mka, mna, mkm, mnm, mkg, mng, hc, r0, kr0, show isRA 18 = true from rfl]; done) | (simp (maxDischargeDepth := 30) only [gK_pS, AWt, mk, mr1, mr2, mr5, mr6, mks, mns, mka, mna, mkm, mnm, mkg, mng, hc, r0, kr0, show isRA 18 = true from rfl]; omega)) only [b_176_0, b_176_1, b_176_2, k_176_2, b_176_3, e_176, wq_iconst, wq_bipush, wq_fconst, wq_dconst, wq_iload, wq_lload, wq_fload, wq_dload, wq_aload, wq_istore, wq_fstore, wq_astore, wq_lstore, wq_dstore, wq_iinc, wq_iadd, wq_isub, wq_imul, wq_iand, wq_ior, wq_ixor, wq_ishl, wq_ishr, wq_iushr, wq_ladd, wq_lsub, wq_land, wq_lor, wq_lxor, wq_lshl, wq_lushr, wq_idiv, wq_irem, wq_lcmp, wq_fcmp, wq_dcmp, wq_i2l, wq_l2i, wq_i2f, wq_i2d, wq_f2d, wq_fdiv, wq_ddiv, wq_dupi, wq_dupr, wq_dup2, wq_popi, wq_popr, wq_if_eq, wq_ic_eq, wq_if_ne, wq_ic_ne, wq_if_lt, wq_ic_lt, wq_if_ge, wq_ic_ge, wq_if_gt, wq_ic_gt, wq_if_le, wq_ic_le, wq_goto, wq_nop, wq_tsw, wq_getfield, wq_pfi, wq_pfl, wq_pfr, wq_getstatic, wq_iaload, wq_baload, wq_laload, wq_daload, wq_aaload, wq_iastore, wq_bastore, wq_lastore, wq_dastore, wq_aastore, wq_arraylength, wq_new, wq_newarray, wq_anewarray, wq_multi, wq_copy, wq_mmax, wq_mmin, wq_oi, wq_cs0, wq_cs1, wq_cs2, wq_cs3, wq_cs4, wq_cs5, wq_cs6, wq_cs7, wq_cv1, wq_cv2, wq_cv3, wq_cv4, wq_cv5, wq_cv6, wq_ci1, wq_ci2, wq_ci3, wq_ci4, wq_ci5, wq_ci6, wq_athrow, wq_ireturn, wq_freturn, wq_dreturn, wq_areturn, wq_return, wsw_n, wsw_c, aft_i, gf_1, gf_2, gf_3, rv_s, okst_0, okst_s, is2_int, is2_float, is2_ref, is2_retAddr, List.getElem?_cons_zero, List.getElem?_cons_succ, List.set_cons_zero, List.set_cons_succ, List.length_cons, List.length_nil, Option.toList_some, Option.toList_none, List.cons_append, List.nil_append, List.singleton_append, gL_setI, gD_setI, gR_setI, gN_setI, gK_setI, gx_setI, gc_setI, gs_setI, gI_setL, gD_setL, gR_setL, gN_setL, gK_setL, gx_setL, gc_setL, gs_setL, gI_setD, gL_setD, gR_setD, gN_setD, gK_setD, gx_setD, gc_setD, gs_setD, gI_setR, gL_setR, gD_setR, gN_setR, gK_setR, gx_setR, gc_setR, gs_setR, gL_rowI, gD_rowI, gR_rowI, gN_rowI, gK_rowI, gx_rowI, gc_rowI, gs_rowI, gI_I, gL_L, gD_D, gR_R, gI_row, gI_bmp, gL_bmp, gD_bmp, gR_bmp, gN_bmp, gK_bmp, gx_bmp, gc_bmp, gs_bmp, gK_pS, gN_pS, gI_pS, gD_pS, gR_pS, gx_pS, gc_pS, gs_pS, iv_11, ↓iv_max, ↓iv_min, iv_lt_t, iv_lt_f, iv_le_t, iv_le_f, iv_eq_t, iv_eq_f, iv_lt0_t, iv_lt0_f, iv_gt0_t, iv_gt0_f, iv_le0_t, iv_le0_f, iv_ge0_t, iv_ge0_f, iv_eq0_t, iv_eq0_f, iv_add, iv_sub, iv_mul, iv_nat, iv_lt, iv_le, iv_eq, iv_lt0, iv_gt0, iv_le0, iv_ge0, iv_eq0, iv_cl, bv_01, bv_eq0, lcmp_eq0, ↓reduceIte, Nat.reduceLeDiff, Nat.reduceLT, Nat.reduceAdd, Nat.reduceSub, Nat.reduceEqDiff, Nat.reduceMul, Nat.succ_ne_zero, Nat.zero_lt_succ, Nat.lt_add_one, Nat.add_left_cancel_iff, and_true, true_and, and_false, false_and, and_self, Nat.zero_le, eq_self, true_or, or_true, false_or, or_false, Bool.not_false, Bool.not_true, not_true, not_false_iff, Int.reduceEq, Int.reduceLT, Int.reduceLE, Int.reduceAdd, Int.reduceSub, Int.reduceToNat, Int.reduceNeg, Bool.false_eq_true, Bool.true_eq_false, reduceCtorEq, mk, mr1, mr2, mr5, mr6, mks, mns, mka, mna, mkm, mnm, mkg, mng, hc, r0, kr0, show isRA 18 = true from rfl, isRA14, iv_inb_t, true_or, or_true, show isRA 15 = true from rfl, show isRA 16 = true from rfl, Int.toNat_natCast, show bz true = 1 from rfl, show bz false = 0 from rfl]
    refine q_176_1 hm0 p1 p3 (fun σ1 o1 hI hR => ?_) 7 1 1 σ rfl rfl (by omega) MO.rf rfl (fun i hi => by rw [p3 i hi, if_neg (by omega)])
    have hm1 := hm0.mo o1
    have c1 : gI σ1 838 3 = iv 8 := by rw [hI]; exact hc
    have hK := o1.K
    have hN := o1.N
    have hR8 : gR σ1 838 = gR σ 838 := o1.2.2.1 838 (by omega)
    rw [k_176_2]
    simp (disch := first | omega | (simp (maxDischargeDepth := 30) only [gK_pS, AWt, mk, mr1, mr2, mr5, mr6, mks, mns, mka, mna, mkm, mnm, mkg, mng, hK, hN, hR8, c1, kr0, show isRA 18 = true from rfl, show ek 18 = 10 from rfl]; done) | (simp (maxDischargeDepth := 30) only [gK_pS, AWt, mk, mr1, mr2, mr5, mr6, mks, mns, mka, mna, mkm, mnm, mkg, mng, hK, hN, hR8, c1, kr0, show isRA 18 = true from rfl, show ek 18 = 10 from rfl]; omega)) only [b_176_0, b_176_1, k_176_1, b_176_2, k_176_2, b_176_3, wq_iconst, wq_bipush, wq_fconst, wq_dconst, wq_iload, wq_lload, wq_fload, wq_dload, wq_aload, wq_istore, wq_fstore, wq_astore, wq_lstore, wq_dstore, wq_iinc, wq_iadd, wq_isub, wq_imul, wq_iand, wq_ior, wq_ixor, wq_ishl, wq_ishr, wq_iushr, wq_ladd, wq_lsub, wq_land, wq_lor, wq_lxor, wq_lshl, wq_lushr, wq_idiv, wq_irem, wq_lcmp, wq_fcmp, wq_dcmp, wq_i2l, wq_l2i, wq_i2f, wq_i2d, wq_f2d, wq_fdiv, wq_ddiv, wq_dupi, wq_dupr, wq_dup2, wq_popi, wq_popr, wq_if_eq, wq_ic_eq, wq_if_ne, wq_ic_ne, wq_if_lt, wq_ic_lt, wq_if_ge, wq_ic_ge, wq_if_gt, wq_ic_gt, wq_if_le, wq_ic_le, wq_goto, wq_nop, wq_tsw, wq_getfield, wq_pfi, wq_pfl, wq_pfr, wq_getstatic, wq_iaload, wq_baload, wq_laload, wq_daload, wq_aaload, wq_iastore, wq_bastore, wq_lastore, wq_dastore, wq_aastore, wq_arraylength, wq_new, wq_newarray, wq_anewarray, wq_multi, wq_copy, wq_mmax, wq_mmin, wq_oi, wq_cs0, wq_cs1, wq_cs2, wq_cs3, wq_cs4, wq_cs5, wq_cs6, wq_cs7, wq_cv1, wq_cv2, wq_cv3, wq_cv4, wq_cv5, wq_cv6, wq_ci1, wq_ci2, wq_ci3, wq_ci4, wq_ci5, wq_ci6, wq_athrow, wq_ireturn, wq_freturn, wq_dreturn, wq_areturn, wq_return, wsw_n, wsw_c, aft_i, gf_1, gf_2, gf_3, rv_s, okst_0, okst_s, is2_int, is2_float, is2_ref, is2_retAddr, List.getElem?_cons_zero, List.getElem?_cons_succ, List.set_cons_zero, List.set_cons_succ, List.length_cons, List.length_nil, Option.toList_some, Option.toList_none, List.cons_append, List.nil_append, List.singleton_append, gL_setI, gD_setI, gR_setI, gN_setI, gK_setI, gx_setI, gc_setI, gs_setI, gI_setL, gD_setL, gR_setL, gN_setL, gK_setL, gx_setL, gc_setL, gs_setL, gI_setD, gL_setD, gR_setD, gN_setD, gK_setD, gx_setD, gc_setD, gs_setD, gI_setR, gL_setR, gD_setR, gN_setR, gK_setR, gx_setR, gc_setR, gs_setR, gL_rowI, gD_rowI, gR_rowI, gN_rowI, gK_rowI, gx_rowI, gc_rowI, gs_rowI, gI_I, gL_L, gD_D, gR_R, gI_row, gI_bmp, gL_bmp, gD_bmp, gR_bmp, gN_bmp, gK_bmp, gx_bmp, gc_bmp, gs_bmp, gK_pS, gN_pS, gI_pS, gD_pS, gR_pS, gx_pS, gc_pS, gs_pS, iv_11, ↓iv_max, ↓iv_min, iv_lt_t, iv_lt_f, iv_le_t, iv_le_f, iv_eq_t, iv_eq_f, iv_lt0_t, iv_lt0_f, iv_gt0_t, iv_gt0_f, iv_le0_t, iv_le0_f, iv_ge0_t, iv_ge0_f, iv_eq0_t, iv_eq0_f, iv_add, iv_sub, iv_mul, iv_nat, iv_lt, iv_le, iv_eq, iv_lt0, iv_gt0, iv_le0, iv_ge0, iv_eq0, iv_cl, bv_01, bv_eq0, lcmp_eq0, ↓reduceIte, Nat.reduceLeDiff, Nat.reduceLT, Nat.reduceAdd, Nat.reduceSub, Nat.reduceEqDiff, Nat.reduceMul, Nat.succ_ne_zero, Nat.zero_lt_succ, Nat.lt_add_one, Nat.add_left_cancel_iff, and_true, true_and, and_false, false_and, and_self, Nat.zero_le, eq_self, true_or, or_true, false_or, or_false, Bool.not_false, Bool.not_true, not_true, not_false_iff, Int.reduceEq, Int.reduceLT, Int.reduceLE, Int.reduceAdd, Int.reduceSub, Int.reduceToNat, Int.reduceNeg, Bool.false_eq_true, Bool.true_eq_false, reduceCtorEq, mk, mr1, mr2, mr5, mr6, mks, mns, mka, mna, mkm, mnm, mkg, mng, hK, hN, hR8, c1, kr0, show isRA 18 = true from rfl, show ek 18 = 10 from rfl, isRA14, iv_inb_t, true_or, or_true, show isRA 15 = true from rfl, show isRA 16 = true from rfl, Int.toNat_natCast, show bz true = 1 from rfl, show bz false = 0 from rfl]
    have o2 : MO σ1 (setI (setR σ1 840 7 (some (841 + pa 0))) 838 3 (iv 7)) := (MO.sr _).tr (MO.si _ (by omega) (by omega))
    have ge : ∀ p, p ≠ 838 → gI (setI (setR σ1 840 7 (some (841 + pa 0))) 838 3 (iv 7)) p = gI σ p := fun p hp => by
      funext k
      rw [gI_I, if_neg (fun h => hp h.1)]
      show gI σ1 p k = _
      rw [hI]
    have g8 : ∀ k, k ≠ 3 → gI (setI (setR σ1 840 7 (some (841 + pa 0))) 838 3 (iv 7)) 838 k = gI σ 838 k := fun k hk => by
      rw [gI_I, if_neg (fun h => hk h.2)]
      show gI σ1 838 k = _
      rw [hI]
    refine bg3 (hm1.mo o2) (hma.cong (ge 839 (by omega))) ham (n := 7) (by omega) (by rw [gI_I, if_pos ⟨rfl, rfl⟩]; rfl) (pa := fun i => if i = 7 then pa 0 else pa (i + 1)) (fun i hi => ?_) (fun i j hi hj he => ?_) (fun i hi => ?_) (hh := fun i => hs (6 - i)) (fun i hi => ?_) _ _ (fun σ' o3 g1 g2 g3 g4 h => hQ σ' ((o1.tr o2).tr o3) (g1.trans (ge 839 (by omega))) (g2.trans (ge 849 (by omega))) (g3.trans (g8 4 (by omega))) (g4.trans (g8 0 (by omega))) ?_)
    · show (if i = 7 then pa 0 else pa (i + 1)) < 8
      split
      · exact p1 0 (by omega)
      · exact p1 (i + 1) (by omega)
    · have he : (if i = 7 then pa 0 else pa (i + 1)) = if j = 7 then pa 0 else pa (j + 1) := he
      by_cases e1 : i = 7 <;> by_cases e2 : j = 7
      · omega
      · rw [if_pos e1, if_neg e2] at he
        have := p2 0 (j + 1) (by omega) (by omega) he
        omega
      · rw [if_neg e1, if_pos e2] at he
        have := p2 (i + 1) 0 (by omega) (by omega) he
        omega
      · rw [if_neg e1, if_neg e2] at he
        have := p2 (i + 1) (j + 1) (by omega) (by omega) he
        omega
    · show gR (setR σ1 840 7 (some (841 + pa 0))) 840 i = some (841 + if i = 7 then pa 0 else pa (i + 1))
      by_cases e : i = 7
      · rw [gR_Re ⟨rfl, e⟩, if_pos e]
      · rw [gR_Rn (Or.inr e), if_neg e, hR i (by omega)]
    · rw [if_neg (show ¬ i = 7 by omega)]
      have h4 := p4 (i + 1) (by omega)
      rw [show 8 - 1 - (i + 1) = 6 - i by omega] at h4
      exact ⟨h4.1.cong (ge _ (by omega)), h4.2⟩
    · obtain ⟨q1, q2, q3, q4, pb, q5, q6, q7, q8⟩ := h
      refine ⟨q1, q2, q3, q4, pb, q5, q6, q7, fun i hi => ?_⟩
      have h9 := q8 i hi
      have e : (fun i => if i = 0 then a else hs (6 - (7 - i))) (7 + 1 - 1 - i) = psh a hs (min (8 + 1) 8 - 1 - i) := by
        show (if 7 + 1 - 1 - i = 0 then a else hs (6 - (7 - (7 + 1 - 1 - i)))) = if min (8 + 1) 8 - 1 - i = 0 then a else hs (min (8 + 1) 8 - 1 - i - 1)
        by_cases e0 : i = 7
        · rw [if_pos (by omega), if_pos (by omega)]
        · rw [if_neg (by omega), if_neg (by omega), show 6 - (7 - (7 + 1 - 1 - i)) = min (8 + 1) 8 - 1 - i - 1 by omega]
      rw [e] at h9
      exact h9
