/-! PACKED SETS: runs -/
/-- behind k runs, at m -/
def RI (S : Nat → Bool) (k m : Nat) : Prop := m ≤ 120 ∧ fb_ct (rst S) m = k ∧ (0 < m → S (m - 1) = true ∧ S m = false)
theorem RI.zero (S : Nat → Bool) : RI S 0 0 := ⟨by omega, rfl, fun h => absurd h (Nat.lt_irrefl 0)⟩
theorem RI.gap {S : Nat → Bool} {k m x : Nat} (h : RI S k m) (hx : fb_ct (rst S) x = k) : ∀ y, m ≤ y → y < x → S y = false := by
  have hr : ∀ y, m ≤ y → y < x → rst S y = false := fun y h1 h2 => by
    have e1 := fb_ct_mono (rst S) h1
    have e2 := fb_ct_mono (rst S) (show y + 1 ≤ x from h2)
    have e3 := fb_ct_succ (rst S) y
    have e4 := h.2.1
    cases e : rst S y
    · rfl
    · rw [e, if_pos rfl] at e3
      omega
  intro y
  induction y with
  | zero =>
    intro h1 h2
    have e := hr 0 h1 h2
    unfold rst at e
    cases e5 : S 0
    · rfl
    · rw [e5] at e; revert e; decide
  | succ y ih =>
    intro h1 h2
    by_cases e : m = y + 1
    · rw [← e]
      exact (h.2.2 (by omega)).2
    · have e1 := ih (by omega) (by omega)
      have e2 := hr (y + 1) h1 h2
      unfold rst at e2
      rw [show y + 1 - 1 = y from rfl, e1, Bool.and_false, Bool.not_false, Bool.and_true] at e2
      exact e2
theorem ct_gap {S : Nat → Bool} {m : Nat} : ∀ x, m ≤ x → (∀ y, m ≤ y → y < x → S y = false) → fb_ct S x = fb_ct S m := by
  intro x
  induction x with
  | zero => intro h _; rw [Nat.le_zero.mp h]
  | succ x ih =>
    intro h1 h2
    by_cases e : m = x + 1
    · rw [e]
    · rw [fb_ct_succ, h2 x (by omega) (by omega), ih (by omega) (fun y g1 g2 => h2 y g1 (by omega))]
      rfl
theorem ct_full {S : Nat → Bool} {m : Nat} : ∀ x, m ≤ x → (∀ y, m ≤ y → y < x → S y = true) → fb_ct S x = fb_ct S m + (x - m) := by
  intro x
  induction x with
  | zero => intro h _; rw [Nat.le_zero.mp h]; rfl
  | succ x ih =>
    intro h1 h2
    by_cases e : m = x + 1
    · rw [e]; omega
    · rw [fb_ct_succ, h2 x (by omega) (by omega), ih (by omega) (fun y g1 g2 => h2 y g1 (by omega)), if_pos rfl]
      omega
theorem run_ex {S : Nat → Bool} (hS : ∀ n, 120 ≤ n → S n = false) : ∀ (d first : Nat), first + d = 120 → S first = true → ∃ e, first ≤ e ∧ e < 120 ∧ (∀ x, first ≤ x → x ≤ e → S x = true) ∧ S (e + 1) = false := by
  intro d
  induction d with
  | zero => intro first h1 h2; rw [hS first (by omega)] at h2; exact absurd h2 (by decide)
  | succ d ih =>
    intro first h1 h2
    cases e1 : S (first + 1)
    · exact ⟨first, Nat.le_refl _, by omega, fun x g1 g2 => by rw [show x = first by omega]; exact h2, e1⟩
    · obtain ⟨e, a1, a2, a3, a4⟩ := ih (first + 1) (by omega) e1
      exact ⟨e, by omega, a2, fun x g1 g2 => by
        by_cases g : x = first
        · rw [g]; exact h2
        · exact a3 x (by omega) g2, a4⟩
theorem RI.next {S : Nat → Bool} {k m : Nat} (hS : ∀ n, 120 ≤ n → S n = false) (h : RI S k m) (hk : k < fb_ct (rst S) 120) : ∃ first e, m ≤ first ∧ (0 < k → m < first) ∧ first ≤ e ∧ e < 120 ∧ kth (rst S) k = (first : Int) ∧ kth (ren S) k = (e : Int) ∧ RI S (k + 1) (e + 1) ∧ fb_ct S (e + 1) = fb_ct S m + (e + 1 - first) := by
  obtain ⟨first, h1, h2, h3⟩ := fb_ct_kth hk
  have hm := h.2.1
  have s1 : S first = true := by
    unfold rst at h2
    cases e : S first
    · rw [e, Bool.false_and] at h2; exact h2
    · rfl
  have h4 : m ≤ first := by
    refine Nat.not_lt.mp (fun g => ?_)
    have e1 := fb_ct_mono (rst S) (show first + 1 ≤ m from g)
    rw [fb_ct_succ, h2, if_pos rfl] at e1
    omega
  obtain ⟨e, a1, a2, a3, a4⟩ := run_ex hS (120 - first) first (by omega) s1
  have hg := h.gap h3
  refine ⟨first, e, h4, fun g => ?_, a1, a2, kth_eq h1 h2 (by rw [h3]), run_end hS h2 h3 a1 a3 a4 a2, ⟨by omega, ?_, fun _ => ⟨a3 e a1 (Nat.le_refl _), a4⟩⟩, ?_⟩
  · have m0 : 0 < m := by
      refine Nat.pos_of_ne_zero (fun g2 => ?_)
      subst g2
      have : fb_ct (rst S) 0 = 0 := rfl
      omega
    by_cases g2 : m = first
    · have := (h.2.2 m0).2
      rw [g2, s1] at this
      exact absurd this (by decide)
    · omega
  · have e1 : fb_ct (rst S) (first + 1) = k + 1 := by rw [fb_ct_succ, h2, if_pos rfl, h3]
    rw [ct_gap (m := first + 1) (e + 1) (by omega) (fun y g1 g2 => ?_), e1]
    unfold rst
    rw [a3 (y - 1) (by omega) (by omega), decide_eq_true (show 1 ≤ y by omega)]
    simp
  · rw [ct_full (m := first) (e + 1) (by omega) (fun y g1 g2 => a3 y g1 (by omega)), ct_gap first h4 hg]
theorem RI.fin {S : Nat → Bool} {m : Nat} (h : RI S (fb_ct (rst S) 120) m) : fb_ct S m = fb_ct S 120 := (ct_gap 120 h.1 (h.gap rfl)).symm
theorem rst_not {S T : Nat → Bool} (h : ∀ r, r < 120 → T r = S r) : fb_ct (rst S) 120 = fb_ct (rst T) 120 := fb_ct_cong (fun r hr => by
  unfold rst
  rw [h r hr, h (r - 1) (by omega)])
theorem cop_sub {op : Int} {x y t : Bool} (ho : 0 ≤ op ∧ op ≤ 3) (hx : x = true → t = true) (hy : y = true → t = true) (h : cop op x y = true) : t = true := by
  cases x
  · cases y
    · exfalso
      have h4 : op = 0 ∨ op = 1 ∨ op = 2 ∨ op = 3 := by omega
      rcases h4 with e | e | e | e <;> subst e <;> exact absurd h (by decide)
    · exact hy rfl
  · exact hx rfl
theorem q_173_5 {σ0 : St} {Q : Out → St → Prop} {a : PS} {n : Nat} {hs : Nat → PS} {b : Nat} {S : Nat → Bool} {P w : Nat} {x4 : Value} (hS : ∀ r, S r = pP a 0 r) (hQ : ∀ σ' w6 w9 w10, LWd σ' a n hs → LF b 0 σ0 σ' → SA σ' w S → Wp 173 (blk 173 8, [.ref 2, .ref 838, .ref P, .ref 0, x4, .ref w, .int (iv w6), .int (iv (fb_ct S 120 : Nat)), .int (iv (fb_ct (rst S) 120 : Nat)), w9, w10], [], σ') Q) : ∀ (d k m : Nat) (i l t : Int) (w9 w10 : Value) (σ' : St), i = k → k + d = fb_ct (rst S) 120 → l = (m : Int) - 1 → t = (fb_ct S m : Nat) → RI S k m → LWd σ' a n hs → (∀ b, LF b 0 σ0 σ') → SA σ' w S → Wp 173 (blk 173 5, [.ref 2, .ref 838, .ref P, .ref 0, x4, .ref w, .int (iv l), .int (iv t), .int (iv i), w9, w10], [], σ') Q := by
  have hSe : S = pP a 0 := funext hS
  intro d
  induction d with
  | zero =>
    intro k m i l t w9 w10 σ' hi hd hm ht hri hl hf hw
    have hk : k = fb_ct (rst S) 120 := by omega
    subst hk
    have hle := fb_ct_le (rst S) 120
    have er := fun Q => x_174 (Q := Q) hw
    rw [hri.fin] at ht
    subst hi
    subst ht
    rw [k_173_5]
    simp (disch := omega) only [b_173_0, b_173_1, k_173_1, b_173_2, k_173_2, b_173_3, k_173_3, b_173_4, k_173_4, b_173_5, b_173_6, k_173_6, b_173_7, k_173_7, b_173_8, b_173_9, k_173_9, b_173_10, k_173_10, b_173_11, k_173_11, b_173_12, k_173_12, b_173_13, k_173_13, b_173_14, k_173_14, b_173_15, k_173_15, b_173_16, k_173_16, b_173_17, k_173_17, b_173_18, k_173_18, b_173_19, k_173_19, wq_lmul, wq_lrem, wq_ifnull, wq_iconst, wq_bipush, wq_fconst, wq_dconst, wq_iload, wq_lload, wq_fload, wq_dload, wq_aload, wq_istore, wq_fstore, wq_astore, wq_lstore, wq_dstore, wq_iinc, wq_iadd, wq_isub, wq_imul, wq_iand, wq_ior, wq_ixor, wq_ishl, wq_ishr, wq_iushr, wq_ladd, wq_lsub, wq_lmul, wq_land, wq_lor, wq_lxor, wq_lshl, wq_lushr, wq_idiv, wq_irem, wq_lrem, wq_ifnull, wq_lcmp, wq_fcmp, wq_dcmp, wq_i2l, wq_l2i, wq_i2f, wq_i2d, wq_f2d, wq_fdiv, wq_ddiv, wq_dupi, wq_dupr, wq_dup2, wq_popi, wq_popr, wq_if_eq, wq_ic_eq, wq_if_ne, wq_ic_ne, wq_if_lt, wq_ic_lt, wq_if_ge, wq_ic_ge, wq_if_gt, wq_ic_gt, wq_if_le, wq_ic_le, wq_goto, wq_nop, wq_tsw, wq_getfield, wq_pfi, wq_pfl, wq_pfr, wq_getstatic, wq_iaload, wq_baload, wq_laload, wq_daload, wq_aaload, wq_iastore, wq_bastore, wq_lastore, wq_dastore, wq_aastore, wq_arraylength, wq_new, wq_newarray, wq_anewarray, wq_multi, wq_copy, wq_mmax, wq_mmin, wq_oi, wq_cs0, wq_cs1, wq_cs2, wq_cs3, wq_cs4, wq_cs5, wq_cs6, wq_cs7, wq_cv1, wq_cv2, wq_cv3, wq_cv4, wq_cv5, wq_cv6, wq_ci1, wq_ci2, wq_ci3, wq_ci4, wq_ci5, wq_ci6, wq_athrow, wq_ireturn, wq_freturn, wq_dreturn, wq_areturn, wq_return, wsw_n, wsw_c, aft_i, gf_1, gf_2, gf_3, rv_s, okst_0, okst_s, is2_int, is2_float, is2_ref, is2_retAddr, List.getElem?_cons_zero, List.getElem?_cons_succ, List.set_cons_zero, List.set_cons_succ, List.length_cons, List.length_nil, Option.toList_some, Option.toList_none, List.cons_append, List.nil_append, List.singleton_append, gL_setI, gD_setI, gR_setI, gN_setI, gK_setI, gx_setI, gc_setI, gs_setI, gI_setL, gD_setL, gR_setL, gN_setL, gK_setL, gx_setL, gc_setL, gs_setL, gI_setD, gL_setD, gR_setD, gN_setD, gK_setD, gx_setD, gc_setD, gs_setD, gI_setR, gL_setR, gD_setR, gN_setR, gK_setR, gx_setR, gc_setR, gs_setR, gL_rowI, gD_rowI, gR_rowI, gN_rowI, gK_rowI, gx_rowI, gc_rowI, gs_rowI, gI_I, gL_L, gD_D, gR_R, gI_row, gI_bmp, gL_bmp, gD_bmp, gR_bmp, gN_bmp, gK_bmp, gx_bmp, gc_bmp, gs_bmp, gK_pS, gN_pS, gI_pS, gD_pS, gR_pS, gx_pS, gc_pS, gs_pS, iv_11, ↓iv_max, ↓iv_min, iv_lt_t, iv_lt_f, iv_le_t, iv_le_f, iv_eq_t, iv_eq_f, iv_lt0_t, iv_lt0_f, iv_gt0_t, iv_gt0_f, iv_le0_t, iv_le0_f, iv_ge0_t, iv_ge0_f, iv_eq0_t, iv_eq0_f, iv_add, iv_sub, iv_mul, iv_nat, iv_lt, iv_le, iv_eq, iv_lt0, iv_gt0, iv_le0, iv_ge0, iv_eq0, iv_cl, bv_01, bv_eq0, lcmp_eq0, ↓reduceIte, Nat.reduceLeDiff, Nat.reduceLT, Nat.reduceAdd, Nat.reduceSub, Nat.reduceEqDiff, Nat.reduceMul, Nat.succ_ne_zero, Nat.zero_lt_succ, Nat.lt_add_one, Nat.add_left_cancel_iff, and_true, true_and, and_false, false_and, and_self, Nat.zero_le, eq_self, true_or, or_true, false_or, or_false, Bool.not_false, Bool.not_true, not_true, not_false_iff, Int.reduceEq, Int.reduceLT, Int.reduceLE, Int.reduceAdd, Int.reduceSub, Int.reduceToNat, Int.reduceNeg, Bool.false_eq_true, Bool.true_eq_false, reduceCtorEq, isRA14, isRA18, isRA19, iv_inb_t, true_or, or_true, Int.toNat_natCast, er]
    exact hQ σ' l w9 w10 hl (hf b) hw
  | succ d ih =>
    intro k m i l t w9 w10 σ' hi hd hm ht hri hl hf hw
    have hle := fb_ct_le (rst S) 120
    have er := fun Q => x_174 (Q := Q) hw
    obtain ⟨fi, e, a1, a2, a3, a4, a5, a6, a7, a8⟩ := hri.next (fun n hn => by rw [hS n]; exact hl.1.2.2.1.2.2.2.2.1 0 n hn) (by omega : k < _)
    have hct := fb_ct_le S (e + 1)
    have tk2 : gK σ' 2 = 7 := hl.1.1.1
    rw [k_173_5]
    simp (disch := first | omega | (simp (maxDischargeDepth := 30) only [gK_pS, tk2]; done) | (simp (maxDischargeDepth := 30) only [gK_pS, tk2]; omega)) only [b_173_0, b_173_1, k_173_1, b_173_2, k_173_2, b_173_3, k_173_3, b_173_4, k_173_4, b_173_5, b_173_6, b_173_7, b_173_8, k_173_8, b_173_9, k_173_9, b_173_10, k_173_10, b_173_11, k_173_11, b_173_12, k_173_12, b_173_13, k_173_13, b_173_14, k_173_14, b_173_15, k_173_15, b_173_16, k_173_16, b_173_17, k_173_17, b_173_18, k_173_18, b_173_19, k_173_19, wq_lmul, wq_lrem, wq_ifnull, wq_iconst, wq_bipush, wq_fconst, wq_dconst, wq_iload, wq_lload, wq_fload, wq_dload, wq_aload, wq_istore, wq_fstore, wq_astore, wq_lstore, wq_dstore, wq_iinc, wq_iadd, wq_isub, wq_imul, wq_iand, wq_ior, wq_ixor, wq_ishl, wq_ishr, wq_iushr, wq_ladd, wq_lsub, wq_lmul, wq_land, wq_lor, wq_lxor, wq_lshl, wq_lushr, wq_idiv, wq_irem, wq_lrem, wq_ifnull, wq_lcmp, wq_fcmp, wq_dcmp, wq_i2l, wq_l2i, wq_i2f, wq_i2d, wq_f2d, wq_fdiv, wq_ddiv, wq_dupi, wq_dupr, wq_dup2, wq_popi, wq_popr, wq_if_eq, wq_ic_eq, wq_if_ne, wq_ic_ne, wq_if_lt, wq_ic_lt, wq_if_ge, wq_ic_ge, wq_if_gt, wq_ic_gt, wq_if_le, wq_ic_le, wq_goto, wq_nop, wq_tsw, wq_getfield, wq_pfi, wq_pfl, wq_pfr, wq_getstatic, wq_iaload, wq_baload, wq_laload, wq_daload, wq_aaload, wq_iastore, wq_bastore, wq_lastore, wq_dastore, wq_aastore, wq_arraylength, wq_new, wq_newarray, wq_anewarray, wq_multi, wq_copy, wq_mmax, wq_mmin, wq_oi, wq_cs0, wq_cs1, wq_cs2, wq_cs3, wq_cs4, wq_cs5, wq_cs6, wq_cs7, wq_cv1, wq_cv2, wq_cv3, wq_cv4, wq_cv5, wq_cv6, wq_ci1, wq_ci2, wq_ci3, wq_ci4, wq_ci5, wq_ci6, wq_athrow, wq_ireturn, wq_freturn, wq_dreturn, wq_areturn, wq_return, wsw_n, wsw_c, aft_i, gf_1, gf_2, gf_3, rv_s, okst_0, okst_s, is2_int, is2_float, is2_ref, is2_retAddr, List.getElem?_cons_zero, List.getElem?_cons_succ, List.set_cons_zero, List.set_cons_succ, List.length_cons, List.length_nil, Option.toList_some, Option.toList_none, List.cons_append, List.nil_append, List.singleton_append, gL_setI, gD_setI, gR_setI, gN_setI, gK_setI, gx_setI, gc_setI, gs_setI, gI_setL, gD_setL, gR_setL, gN_setL, gK_setL, gx_setL, gc_setL, gs_setL, gI_setD, gL_setD, gR_setD, gN_setD, gK_setD, gx_setD, gc_setD, gs_setD, gI_setR, gL_setR, gD_setR, gN_setR, gK_setR, gx_setR, gc_setR, gs_setR, gL_rowI, gD_rowI, gR_rowI, gN_rowI, gK_rowI, gx_rowI, gc_rowI, gs_rowI, gI_I, gL_L, gD_D, gR_R, gI_row, gI_bmp, gL_bmp, gD_bmp, gR_bmp, gN_bmp, gK_bmp, gx_bmp, gc_bmp, gs_bmp, gK_pS, gN_pS, gI_pS, gD_pS, gR_pS, gx_pS, gc_pS, gs_pS, iv_11, ↓iv_max, ↓iv_min, iv_lt_t, iv_lt_f, iv_le_t, iv_le_f, iv_eq_t, iv_eq_f, iv_lt0_t, iv_lt0_f, iv_gt0_t, iv_gt0_f, iv_le0_t, iv_le0_f, iv_ge0_t, iv_ge0_f, iv_eq0_t, iv_eq0_f, iv_add, iv_sub, iv_mul, iv_nat, iv_lt, iv_le, iv_eq, iv_lt0, iv_gt0, iv_le0, iv_ge0, iv_eq0, iv_cl, bv_01, bv_eq0, lcmp_eq0, ↓reduceIte, Nat.reduceLeDiff, Nat.reduceLT, Nat.reduceAdd, Nat.reduceSub, Nat.reduceEqDiff, Nat.reduceMul, Nat.succ_ne_zero, Nat.zero_lt_succ, Nat.lt_add_one, Nat.add_left_cancel_iff, and_true, true_and, and_false, false_and, and_self, Nat.zero_le, eq_self, true_or, or_true, false_or, or_false, Bool.not_false, Bool.not_true, not_true, not_false_iff, Int.reduceEq, Int.reduceLT, Int.reduceLE, Int.reduceAdd, Int.reduceSub, Int.reduceToNat, Int.reduceNeg, Bool.false_eq_true, Bool.true_eq_false, reduceCtorEq, isRA14, isRA18, isRA19, iv_inb_t, true_or, or_true, Int.toNat_natCast, tk2, er]
    refine c_runAt_t hl.1 (p := 0) (k := i) (w := 0) (by omega) (by show 0 ≤ i ∧ i < (fb_ct (rst (pP a 0)) 120 : Nat); rw [← hSe]; omega) (Or.inl rfl) (fun f => ?_)
    have g1 := sc_scr hl.1 f
    generalize pS σ' 221 f = σ1 at g1 ⊢
    have l1 := hl.scf g1
    have w1 := hw.ow g1 sc_lt
    have f1 : ∀ b, LF b 0 σ0 σ1 := fun b => (hf b).tr (LF.scf g1)
    have tk3 : gK σ1 2 = 7 := l1.1.1.1
    have ef : (if (0 : Int) = 1 then kth (ren (pP a (0 : Int).toNat)) i - kth (rst (pP a (0 : Int).toNat)) i + 1 else kth (rst (pP a (0 : Int).toNat)) i) = (fi : Int) := by
      rw [if_neg (by decide), hi]
      show kth (rst (pP a 0)) k = _
      rw [← hSe]
      exact a5
    rw [ef]
    simp (disch := first | omega | (simp (maxDischargeDepth := 30) only [gK_pS, tk3]; done) | (simp (maxDischargeDepth := 30) only [gK_pS, tk3]; omega)) only [b_173_0, b_173_1, k_173_1, b_173_2, k_173_2, b_173_3, k_173_3, b_173_4, k_173_4, b_173_5, b_173_6, b_173_7, b_173_8, k_173_8, b_173_9, k_173_9, b_173_10, k_173_10, b_173_11, k_173_11, b_173_12, k_173_12, b_173_13, k_173_13, b_173_14, k_173_14, b_173_15, k_173_15, b_173_16, k_173_16, b_173_17, k_173_17, b_173_18, k_173_18, b_173_19, k_173_19, wq_lmul, wq_lrem, wq_ifnull, wq_iconst, wq_bipush, wq_fconst, wq_dconst, wq_iload, wq_lload, wq_fload, wq_dload, wq_aload, wq_istore, wq_fstore, wq_astore, wq_lstore, wq_dstore, wq_iinc, wq_iadd, wq_isub, wq_imul, wq_iand, wq_ior, wq_ixor, wq_ishl, wq_ishr, wq_iushr, wq_ladd, wq_lsub, wq_lmul, wq_land, wq_lor, wq_lxor, wq_lshl, wq_lushr, wq_idiv, wq_irem, wq_lrem, wq_ifnull, wq_lcmp, wq_fcmp, wq_dcmp, wq_i2l, wq_l2i, wq_i2f, wq_i2d, wq_f2d, wq_fdiv, wq_ddiv, wq_dupi, wq_dupr, wq_dup2, wq_popi, wq_popr, wq_if_eq, wq_ic_eq, wq_if_ne, wq_ic_ne, wq_if_lt, wq_ic_lt, wq_if_ge, wq_ic_ge, wq_if_gt, wq_ic_gt, wq_if_le, wq_ic_le, wq_goto, wq_nop, wq_tsw, wq_getfield, wq_pfi, wq_pfl, wq_pfr, wq_getstatic, wq_iaload, wq_baload, wq_laload, wq_daload, wq_aaload, wq_iastore, wq_bastore, wq_lastore, wq_dastore, wq_aastore, wq_arraylength, wq_new, wq_newarray, wq_anewarray, wq_multi, wq_copy, wq_mmax, wq_mmin, wq_oi, wq_cs0, wq_cs1, wq_cs2, wq_cs3, wq_cs4, wq_cs5, wq_cs6, wq_cs7, wq_cv1, wq_cv2, wq_cv3, wq_cv4, wq_cv5, wq_cv6, wq_ci1, wq_ci2, wq_ci3, wq_ci4, wq_ci5, wq_ci6, wq_athrow, wq_ireturn, wq_freturn, wq_dreturn, wq_areturn, wq_return, wsw_n, wsw_c, aft_i, gf_1, gf_2, gf_3, rv_s, okst_0, okst_s, is2_int, is2_float, is2_ref, is2_retAddr, List.getElem?_cons_zero, List.getElem?_cons_succ, List.set_cons_zero, List.set_cons_succ, List.length_cons, List.length_nil, Option.toList_some, Option.toList_none, List.cons_append, List.nil_append, List.singleton_append, gL_setI, gD_setI, gR_setI, gN_setI, gK_setI, gx_setI, gc_setI, gs_setI, gI_setL, gD_setL, gR_setL, gN_setL, gK_setL, gx_setL, gc_setL, gs_setL, gI_setD, gL_setD, gR_setD, gN_setD, gK_setD, gx_setD, gc_setD, gs_setD, gI_setR, gL_setR, gD_setR, gN_setR, gK_setR, gx_setR, gc_setR, gs_setR, gL_rowI, gD_rowI, gR_rowI, gN_rowI, gK_rowI, gx_rowI, gc_rowI, gs_rowI, gI_I, gL_L, gD_D, gR_R, gI_row, gI_bmp, gL_bmp, gD_bmp, gR_bmp, gN_bmp, gK_bmp, gx_bmp, gc_bmp, gs_bmp, gK_pS, gN_pS, gI_pS, gD_pS, gR_pS, gx_pS, gc_pS, gs_pS, iv_11, ↓iv_max, ↓iv_min, iv_lt_t, iv_lt_f, iv_le_t, iv_le_f, iv_eq_t, iv_eq_f, iv_lt0_t, iv_lt0_f, iv_gt0_t, iv_gt0_f, iv_le0_t, iv_le0_f, iv_ge0_t, iv_ge0_f, iv_eq0_t, iv_eq0_f, iv_add, iv_sub, iv_mul, iv_nat, iv_lt, iv_le, iv_eq, iv_lt0, iv_gt0, iv_le0, iv_ge0, iv_eq0, iv_cl, bv_01, bv_eq0, lcmp_eq0, ↓reduceIte, Nat.reduceLeDiff, Nat.reduceLT, Nat.reduceAdd, Nat.reduceSub, Nat.reduceEqDiff, Nat.reduceMul, Nat.succ_ne_zero, Nat.zero_lt_succ, Nat.lt_add_one, Nat.add_left_cancel_iff, and_true, true_and, and_false, false_and, and_self, Nat.zero_le, eq_self, true_or, or_true, false_or, or_false, Bool.not_false, Bool.not_true, not_true, not_false_iff, Int.reduceEq, Int.reduceLT, Int.reduceLE, Int.reduceAdd, Int.reduceSub, Int.reduceToNat, Int.reduceNeg, Bool.false_eq_true, Bool.true_eq_false, reduceCtorEq, isRA14, isRA18, isRA19, iv_inb_t, true_or, or_true, Int.toNat_natCast, tk3]
    refine c_runAt_t l1.1 (p := 0) (k := i) (w := 1) (by omega) (by show 0 ≤ i ∧ i < (fb_ct (rst (pP a 0)) 120 : Nat); rw [← hSe]; omega) (Or.inr rfl) (fun f => ?_)
    have g2 := sc_scr l1.1 f
    generalize pS σ1 221 f = σ2 at g2 ⊢
    have l2 := l1.scf g2
    have w2 := w1.ow g2 sc_lt
    have f2 : ∀ b, LF b 0 σ0 σ2 := fun b => (f1 b).tr (LF.scf g2)
    have ef : (if (1 : Int) = 1 then kth (ren (pP a (0 : Int).toNat)) i - kth (rst (pP a (0 : Int).toNat)) i + 1 else kth (rst (pP a (0 : Int).toNat)) i) = ((e + 1 - fi : Nat) : Int) := by
      rw [if_pos rfl, hi]
      show kth (ren (pP a 0)) k - kth (rst (pP a 0)) k + 1 = _
      rw [← hSe, a5, a6]
      omega
    rw [ef]
    have go : ∀ l' t' : Int, l' = ((e + 1 : Nat) : Int) - 1 → t' = (fb_ct S (e + 1) : Nat) → Wp 173 (blk 173 5, [.ref 2, .ref 838, .ref P, .ref 0, x4, .ref w, .int (iv l'), .int (iv t'), .int (iv (i + 1)), .int (iv fi), .int (iv ((e + 1 - fi : Nat) : Int))], [], σ2) Q := fun l' t' hl' ht' => ih (k + 1) (e + 1) (i + 1) l' t' _ _ σ2 (by omega) (by omega) hl' ht' a7 l2 f2 w2
    by_cases h0 : i ≤ 0
    · simp (disch := omega) only [b_173_0, b_173_1, k_173_1, b_173_2, k_173_2, b_173_3, k_173_3, b_173_4, k_173_4, b_173_5, b_173_6, b_173_7, b_173_8, k_173_8, b_173_9, k_173_9, b_173_10, k_173_10, b_173_11, k_173_11, b_173_12, k_173_12, b_173_13, k_173_13, b_173_14, k_173_14, b_173_15, k_173_15, b_173_16, k_173_16, b_173_17, k_173_17, b_173_18, k_173_18, b_173_19, k_173_19, wq_lmul, wq_lrem, wq_ifnull, wq_iconst, wq_bipush, wq_fconst, wq_dconst, wq_iload, wq_lload, wq_fload, wq_dload, wq_aload, wq_istore, wq_fstore, wq_astore, wq_lstore, wq_dstore, wq_iinc, wq_iadd, wq_isub, wq_imul, wq_iand, wq_ior, wq_ixor, wq_ishl, wq_ishr, wq_iushr, wq_ladd, wq_lsub, wq_lmul, wq_land, wq_lor, wq_lxor, wq_lshl, wq_lushr, wq_idiv, wq_irem, wq_lrem, wq_ifnull, wq_lcmp, wq_fcmp, wq_dcmp, wq_i2l, wq_l2i, wq_i2f, wq_i2d, wq_f2d, wq_fdiv, wq_ddiv, wq_dupi, wq_dupr, wq_dup2, wq_popi, wq_popr, wq_if_eq, wq_ic_eq, wq_if_ne, wq_ic_ne, wq_if_lt, wq_ic_lt, wq_if_ge, wq_ic_ge, wq_if_gt, wq_ic_gt, wq_if_le, wq_ic_le, wq_goto, wq_nop, wq_tsw, wq_getfield, wq_pfi, wq_pfl, wq_pfr, wq_getstatic, wq_iaload, wq_baload, wq_laload, wq_daload, wq_aaload, wq_iastore, wq_bastore, wq_lastore, wq_dastore, wq_aastore, wq_arraylength, wq_new, wq_newarray, wq_anewarray, wq_multi, wq_copy, wq_mmax, wq_mmin, wq_oi, wq_cs0, wq_cs1, wq_cs2, wq_cs3, wq_cs4, wq_cs5, wq_cs6, wq_cs7, wq_cv1, wq_cv2, wq_cv3, wq_cv4, wq_cv5, wq_cv6, wq_ci1, wq_ci2, wq_ci3, wq_ci4, wq_ci5, wq_ci6, wq_athrow, wq_ireturn, wq_freturn, wq_dreturn, wq_areturn, wq_return, wsw_n, wsw_c, aft_i, gf_1, gf_2, gf_3, rv_s, okst_0, okst_s, is2_int, is2_float, is2_ref, is2_retAddr, List.getElem?_cons_zero, List.getElem?_cons_succ, List.set_cons_zero, List.set_cons_succ, List.length_cons, List.length_nil, Option.toList_some, Option.toList_none, List.cons_append, List.nil_append, List.singleton_append, gL_setI, gD_setI, gR_setI, gN_setI, gK_setI, gx_setI, gc_setI, gs_setI, gI_setL, gD_setL, gR_setL, gN_setL, gK_setL, gx_setL, gc_setL, gs_setL, gI_setD, gL_setD, gR_setD, gN_setD, gK_setD, gx_setD, gc_setD, gs_setD, gI_setR, gL_setR, gD_setR, gN_setR, gK_setR, gx_setR, gc_setR, gs_setR, gL_rowI, gD_rowI, gR_rowI, gN_rowI, gK_rowI, gx_rowI, gc_rowI, gs_rowI, gI_I, gL_L, gD_D, gR_R, gI_row, gI_bmp, gL_bmp, gD_bmp, gR_bmp, gN_bmp, gK_bmp, gx_bmp, gc_bmp, gs_bmp, gK_pS, gN_pS, gI_pS, gD_pS, gR_pS, gx_pS, gc_pS, gs_pS, iv_11, ↓iv_max, ↓iv_min, iv_lt_t, iv_lt_f, iv_le_t, iv_le_f, iv_eq_t, iv_eq_f, iv_lt0_t, iv_lt0_f, iv_gt0_t, iv_gt0_f, iv_le0_t, iv_le0_f, iv_ge0_t, iv_ge0_f, iv_eq0_t, iv_eq0_f, iv_add, iv_sub, iv_mul, iv_nat, iv_lt, iv_le, iv_eq, iv_lt0, iv_gt0, iv_le0, iv_ge0, iv_eq0, iv_cl, bv_01, bv_eq0, lcmp_eq0, ↓reduceIte, Nat.reduceLeDiff, Nat.reduceLT, Nat.reduceAdd, Nat.reduceSub, Nat.reduceEqDiff, Nat.reduceMul, Nat.succ_ne_zero, Nat.zero_lt_succ, Nat.lt_add_one, Nat.add_left_cancel_iff, and_true, true_and, and_false, false_and, and_self, Nat.zero_le, eq_self, true_or, or_true, false_or, or_false, Bool.not_false, Bool.not_true, not_true, not_false_iff, Int.reduceEq, Int.reduceLT, Int.reduceLE, Int.reduceAdd, Int.reduceSub, Int.reduceToNat, Int.reduceNeg, Bool.false_eq_true, Bool.true_eq_false, reduceCtorEq, isRA14, isRA18, isRA19, iv_inb_t, true_or, or_true, Int.toNat_natCast]
      rw [k_173_7]
      simp (disch := omega) only [b_173_0, b_173_1, k_173_1, b_173_2, k_173_2, b_173_3, k_173_3, b_173_4, k_173_4, b_173_5, b_173_6, k_173_6, b_173_7, b_173_8, k_173_8, b_173_9, k_173_9, b_173_10, k_173_10, b_173_11, k_173_11, b_173_12, k_173_12, b_173_13, k_173_13, b_173_14, k_173_14, b_173_15, k_173_15, b_173_16, k_173_16, b_173_17, k_173_17, b_173_18, k_173_18, b_173_19, k_173_19, wq_lmul, wq_lrem, wq_ifnull, wq_iconst, wq_bipush, wq_fconst, wq_dconst, wq_iload, wq_lload, wq_fload, wq_dload, wq_aload, wq_istore, wq_fstore, wq_astore, wq_lstore, wq_dstore, wq_iinc, wq_iadd, wq_isub, wq_imul, wq_iand, wq_ior, wq_ixor, wq_ishl, wq_ishr, wq_iushr, wq_ladd, wq_lsub, wq_lmul, wq_land, wq_lor, wq_lxor, wq_lshl, wq_lushr, wq_idiv, wq_irem, wq_lrem, wq_ifnull, wq_lcmp, wq_fcmp, wq_dcmp, wq_i2l, wq_l2i, wq_i2f, wq_i2d, wq_f2d, wq_fdiv, wq_ddiv, wq_dupi, wq_dupr, wq_dup2, wq_popi, wq_popr, wq_if_eq, wq_ic_eq, wq_if_ne, wq_ic_ne, wq_if_lt, wq_ic_lt, wq_if_ge, wq_ic_ge, wq_if_gt, wq_ic_gt, wq_if_le, wq_ic_le, wq_goto, wq_nop, wq_tsw, wq_getfield, wq_pfi, wq_pfl, wq_pfr, wq_getstatic, wq_iaload, wq_baload, wq_laload, wq_daload, wq_aaload, wq_iastore, wq_bastore, wq_lastore, wq_dastore, wq_aastore, wq_arraylength, wq_new, wq_newarray, wq_anewarray, wq_multi, wq_copy, wq_mmax, wq_mmin, wq_oi, wq_cs0, wq_cs1, wq_cs2, wq_cs3, wq_cs4, wq_cs5, wq_cs6, wq_cs7, wq_cv1, wq_cv2, wq_cv3, wq_cv4, wq_cv5, wq_cv6, wq_ci1, wq_ci2, wq_ci3, wq_ci4, wq_ci5, wq_ci6, wq_athrow, wq_ireturn, wq_freturn, wq_dreturn, wq_areturn, wq_return, wsw_n, wsw_c, aft_i, gf_1, gf_2, gf_3, rv_s, okst_0, okst_s, is2_int, is2_float, is2_ref, is2_retAddr, List.getElem?_cons_zero, List.getElem?_cons_succ, List.set_cons_zero, List.set_cons_succ, List.length_cons, List.length_nil, Option.toList_some, Option.toList_none, List.cons_append, List.nil_append, List.singleton_append, gL_setI, gD_setI, gR_setI, gN_setI, gK_setI, gx_setI, gc_setI, gs_setI, gI_setL, gD_setL, gR_setL, gN_setL, gK_setL, gx_setL, gc_setL, gs_setL, gI_setD, gL_setD, gR_setD, gN_setD, gK_setD, gx_setD, gc_setD, gs_setD, gI_setR, gL_setR, gD_setR, gN_setR, gK_setR, gx_setR, gc_setR, gs_setR, gL_rowI, gD_rowI, gR_rowI, gN_rowI, gK_rowI, gx_rowI, gc_rowI, gs_rowI, gI_I, gL_L, gD_D, gR_R, gI_row, gI_bmp, gL_bmp, gD_bmp, gR_bmp, gN_bmp, gK_bmp, gx_bmp, gc_bmp, gs_bmp, gK_pS, gN_pS, gI_pS, gD_pS, gR_pS, gx_pS, gc_pS, gs_pS, iv_11, ↓iv_max, ↓iv_min, iv_lt_t, iv_lt_f, iv_le_t, iv_le_f, iv_eq_t, iv_eq_f, iv_lt0_t, iv_lt0_f, iv_gt0_t, iv_gt0_f, iv_le0_t, iv_le0_f, iv_ge0_t, iv_ge0_f, iv_eq0_t, iv_eq0_f, iv_add, iv_sub, iv_mul, iv_nat, iv_lt, iv_le, iv_eq, iv_lt0, iv_gt0, iv_le0, iv_ge0, iv_eq0, iv_cl, bv_01, bv_eq0, lcmp_eq0, ↓reduceIte, Nat.reduceLeDiff, Nat.reduceLT, Nat.reduceAdd, Nat.reduceSub, Nat.reduceEqDiff, Nat.reduceMul, Nat.succ_ne_zero, Nat.zero_lt_succ, Nat.lt_add_one, Nat.add_left_cancel_iff, and_true, true_and, and_false, false_and, and_self, Nat.zero_le, eq_self, true_or, or_true, false_or, or_false, Bool.not_false, Bool.not_true, not_true, not_false_iff, Int.reduceEq, Int.reduceLT, Int.reduceLE, Int.reduceAdd, Int.reduceSub, Int.reduceToNat, Int.reduceNeg, Bool.false_eq_true, Bool.true_eq_false, reduceCtorEq, isRA14, isRA18, isRA19, iv_inb_t, true_or, or_true, Int.toNat_natCast]
      exact go _ _ (by omega) (by omega)
    · have a2 := a2 (by omega)
      simp (disch := omega) only [b_173_0, b_173_1, k_173_1, b_173_2, k_173_2, b_173_3, k_173_3, b_173_4, k_173_4, b_173_5, b_173_6, b_173_7, b_173_8, k_173_8, b_173_9, k_173_9, b_173_10, k_173_10, b_173_11, k_173_11, b_173_12, k_173_12, b_173_13, k_173_13, b_173_14, k_173_14, b_173_15, k_173_15, b_173_16, k_173_16, b_173_17, k_173_17, b_173_18, k_173_18, b_173_19, k_173_19, wq_lmul, wq_lrem, wq_ifnull, wq_iconst, wq_bipush, wq_fconst, wq_dconst, wq_iload, wq_lload, wq_fload, wq_dload, wq_aload, wq_istore, wq_fstore, wq_astore, wq_lstore, wq_dstore, wq_iinc, wq_iadd, wq_isub, wq_imul, wq_iand, wq_ior, wq_ixor, wq_ishl, wq_ishr, wq_iushr, wq_ladd, wq_lsub, wq_lmul, wq_land, wq_lor, wq_lxor, wq_lshl, wq_lushr, wq_idiv, wq_irem, wq_lrem, wq_ifnull, wq_lcmp, wq_fcmp, wq_dcmp, wq_i2l, wq_l2i, wq_i2f, wq_i2d, wq_f2d, wq_fdiv, wq_ddiv, wq_dupi, wq_dupr, wq_dup2, wq_popi, wq_popr, wq_if_eq, wq_ic_eq, wq_if_ne, wq_ic_ne, wq_if_lt, wq_ic_lt, wq_if_ge, wq_ic_ge, wq_if_gt, wq_ic_gt, wq_if_le, wq_ic_le, wq_goto, wq_nop, wq_tsw, wq_getfield, wq_pfi, wq_pfl, wq_pfr, wq_getstatic, wq_iaload, wq_baload, wq_laload, wq_daload, wq_aaload, wq_iastore, wq_bastore, wq_lastore, wq_dastore, wq_aastore, wq_arraylength, wq_new, wq_newarray, wq_anewarray, wq_multi, wq_copy, wq_mmax, wq_mmin, wq_oi, wq_cs0, wq_cs1, wq_cs2, wq_cs3, wq_cs4, wq_cs5, wq_cs6, wq_cs7, wq_cv1, wq_cv2, wq_cv3, wq_cv4, wq_cv5, wq_cv6, wq_ci1, wq_ci2, wq_ci3, wq_ci4, wq_ci5, wq_ci6, wq_athrow, wq_ireturn, wq_freturn, wq_dreturn, wq_areturn, wq_return, wsw_n, wsw_c, aft_i, gf_1, gf_2, gf_3, rv_s, okst_0, okst_s, is2_int, is2_float, is2_ref, is2_retAddr, List.getElem?_cons_zero, List.getElem?_cons_succ, List.set_cons_zero, List.set_cons_succ, List.length_cons, List.length_nil, Option.toList_some, Option.toList_none, List.cons_append, List.nil_append, List.singleton_append, gL_setI, gD_setI, gR_setI, gN_setI, gK_setI, gx_setI, gc_setI, gs_setI, gI_setL, gD_setL, gR_setL, gN_setL, gK_setL, gx_setL, gc_setL, gs_setL, gI_setD, gL_setD, gR_setD, gN_setD, gK_setD, gx_setD, gc_setD, gs_setD, gI_setR, gL_setR, gD_setR, gN_setR, gK_setR, gx_setR, gc_setR, gs_setR, gL_rowI, gD_rowI, gR_rowI, gN_rowI, gK_rowI, gx_rowI, gc_rowI, gs_rowI, gI_I, gL_L, gD_D, gR_R, gI_row, gI_bmp, gL_bmp, gD_bmp, gR_bmp, gN_bmp, gK_bmp, gx_bmp, gc_bmp, gs_bmp, gK_pS, gN_pS, gI_pS, gD_pS, gR_pS, gx_pS, gc_pS, gs_pS, iv_11, ↓iv_max, ↓iv_min, iv_lt_t, iv_lt_f, iv_le_t, iv_le_f, iv_eq_t, iv_eq_f, iv_lt0_t, iv_lt0_f, iv_gt0_t, iv_gt0_f, iv_le0_t, iv_le0_f, iv_ge0_t, iv_ge0_f, iv_eq0_t, iv_eq0_f, iv_add, iv_sub, iv_mul, iv_nat, iv_lt, iv_le, iv_eq, iv_lt0, iv_gt0, iv_le0, iv_ge0, iv_eq0, iv_cl, bv_01, bv_eq0, lcmp_eq0, ↓reduceIte, Nat.reduceLeDiff, Nat.reduceLT, Nat.reduceAdd, Nat.reduceSub, Nat.reduceEqDiff, Nat.reduceMul, Nat.succ_ne_zero, Nat.zero_lt_succ, Nat.lt_add_one, Nat.add_left_cancel_iff, and_true, true_and, and_false, false_and, and_self, Nat.zero_le, eq_self, true_or, or_true, false_or, or_false, Bool.not_false, Bool.not_true, not_true, not_false_iff, Int.reduceEq, Int.reduceLT, Int.reduceLE, Int.reduceAdd, Int.reduceSub, Int.reduceToNat, Int.reduceNeg, Bool.false_eq_true, Bool.true_eq_false, reduceCtorEq, isRA14, isRA18, isRA19, iv_inb_t, true_or, or_true, Int.toNat_natCast]
      rw [k_173_7]
      simp (disch := omega) only [b_173_0, b_173_1, k_173_1, b_173_2, k_173_2, b_173_3, k_173_3, b_173_4, k_173_4, b_173_5, b_173_6, k_173_6, b_173_7, b_173_8, k_173_8, b_173_9, k_173_9, b_173_10, k_173_10, b_173_11, k_173_11, b_173_12, k_173_12, b_173_13, k_173_13, b_173_14, k_173_14, b_173_15, k_173_15, b_173_16, k_173_16, b_173_17, k_173_17, b_173_18, k_173_18, b_173_19, k_173_19, wq_lmul, wq_lrem, wq_ifnull, wq_iconst, wq_bipush, wq_fconst, wq_dconst, wq_iload, wq_lload, wq_fload, wq_dload, wq_aload, wq_istore, wq_fstore, wq_astore, wq_lstore, wq_dstore, wq_iinc, wq_iadd, wq_isub, wq_imul, wq_iand, wq_ior, wq_ixor, wq_ishl, wq_ishr, wq_iushr, wq_ladd, wq_lsub, wq_lmul, wq_land, wq_lor, wq_lxor, wq_lshl, wq_lushr, wq_idiv, wq_irem, wq_lrem, wq_ifnull, wq_lcmp, wq_fcmp, wq_dcmp, wq_i2l, wq_l2i, wq_i2f, wq_i2d, wq_f2d, wq_fdiv, wq_ddiv, wq_dupi, wq_dupr, wq_dup2, wq_popi, wq_popr, wq_if_eq, wq_ic_eq, wq_if_ne, wq_ic_ne, wq_if_lt, wq_ic_lt, wq_if_ge, wq_ic_ge, wq_if_gt, wq_ic_gt, wq_if_le, wq_ic_le, wq_goto, wq_nop, wq_tsw, wq_getfield, wq_pfi, wq_pfl, wq_pfr, wq_getstatic, wq_iaload, wq_baload, wq_laload, wq_daload, wq_aaload, wq_iastore, wq_bastore, wq_lastore, wq_dastore, wq_aastore, wq_arraylength, wq_new, wq_newarray, wq_anewarray, wq_multi, wq_copy, wq_mmax, wq_mmin, wq_oi, wq_cs0, wq_cs1, wq_cs2, wq_cs3, wq_cs4, wq_cs5, wq_cs6, wq_cs7, wq_cv1, wq_cv2, wq_cv3, wq_cv4, wq_cv5, wq_cv6, wq_ci1, wq_ci2, wq_ci3, wq_ci4, wq_ci5, wq_ci6, wq_athrow, wq_ireturn, wq_freturn, wq_dreturn, wq_areturn, wq_return, wsw_n, wsw_c, aft_i, gf_1, gf_2, gf_3, rv_s, okst_0, okst_s, is2_int, is2_float, is2_ref, is2_retAddr, List.getElem?_cons_zero, List.getElem?_cons_succ, List.set_cons_zero, List.set_cons_succ, List.length_cons, List.length_nil, Option.toList_some, Option.toList_none, List.cons_append, List.nil_append, List.singleton_append, gL_setI, gD_setI, gR_setI, gN_setI, gK_setI, gx_setI, gc_setI, gs_setI, gI_setL, gD_setL, gR_setL, gN_setL, gK_setL, gx_setL, gc_setL, gs_setL, gI_setD, gL_setD, gR_setD, gN_setD, gK_setD, gx_setD, gc_setD, gs_setD, gI_setR, gL_setR, gD_setR, gN_setR, gK_setR, gx_setR, gc_setR, gs_setR, gL_rowI, gD_rowI, gR_rowI, gN_rowI, gK_rowI, gx_rowI, gc_rowI, gs_rowI, gI_I, gL_L, gD_D, gR_R, gI_row, gI_bmp, gL_bmp, gD_bmp, gR_bmp, gN_bmp, gK_bmp, gx_bmp, gc_bmp, gs_bmp, gK_pS, gN_pS, gI_pS, gD_pS, gR_pS, gx_pS, gc_pS, gs_pS, iv_11, ↓iv_max, ↓iv_min, iv_lt_t, iv_lt_f, iv_le_t, iv_le_f, iv_eq_t, iv_eq_f, iv_lt0_t, iv_lt0_f, iv_gt0_t, iv_gt0_f, iv_le0_t, iv_le0_f, iv_ge0_t, iv_ge0_f, iv_eq0_t, iv_eq0_f, iv_add, iv_sub, iv_mul, iv_nat, iv_lt, iv_le, iv_eq, iv_lt0, iv_gt0, iv_le0, iv_ge0, iv_eq0, iv_cl, bv_01, bv_eq0, lcmp_eq0, ↓reduceIte, Nat.reduceLeDiff, Nat.reduceLT, Nat.reduceAdd, Nat.reduceSub, Nat.reduceEqDiff, Nat.reduceMul, Nat.succ_ne_zero, Nat.zero_lt_succ, Nat.lt_add_one, Nat.add_left_cancel_iff, and_true, true_and, and_false, false_and, and_self, Nat.zero_le, eq_self, true_or, or_true, false_or, or_false, Bool.not_false, Bool.not_true, not_true, not_false_iff, Int.reduceEq, Int.reduceLT, Int.reduceLE, Int.reduceAdd, Int.reduceSub, Int.reduceToNat, Int.reduceNeg, Bool.false_eq_true, Bool.true_eq_false, reduceCtorEq, isRA14, isRA18, isRA19, iv_inb_t, true_or, or_true, Int.toNat_natCast]
      exact go _ _ (by omega) (by omega)
