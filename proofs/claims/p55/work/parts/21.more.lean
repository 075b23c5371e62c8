/-! FIELDS LAID, ROWS OF ROWS, COPIES, AND THE REST OF ONE ENTRY -/
theorem wd_acs : wat 2123 = some (.static arraycopyName) := by decide +kernel
theorem wd_acn : wat 2124 = some (.native arraycopyName) := by decide +kernel
theorem wd_sys : wat 1018 = some (.initialized "java/lang/System") := by decide +kernel
theorem wd_mxs : wat 1052 = some (.static Lib.Math.max.name) := by decide +kernel
theorem wd_mxc : wat 1053 = some (.code Lib.Math.max.name Lib.Math.max.code 2 (some .int)) := by decide +kernel
theorem wd_mns : wat 2134 = some (.static Lib.Math.min.name) := by decide +kernel
theorem wd_mnc : wat 2135 = some (.code Lib.Math.min.name Lib.Math.min.code 2 (some .int)) := by decide +kernel
theorem wd_mth : wat 1005 = some (.initialized "java/lang/Math") := by decide +kernel
theorem wd_obi : wat 1027 = some (.instanceMethod objectInit) := by decide +kernel
theorem wd_obc : wat 1028 = some (.code objectInit ⟨#[0xb1]⟩ 1 none) := by decide +kernel
theorem wd_look : wat 2200 = some (.fieldLink (cn 7) 339 "Bitmapstore" "LOOKED_AT" "[I") := by decide +kernel
theorem dx_new2 {z pc n len : Nat} {i : Instr} {ext : List Nat} {bs : List (List En)} {x y : Bool} (hE : okE z bs (pc, i, len, ext) = (match decode (mB z) pc with | .ok (j, l) => decide (l = len) && lnOk j l && okJ z bs pc j i ext | .error _ => false))
    (hJ : ∀ j, okJ z bs pc j i ext = (decide (j = i) && x && y)) (hl : ∀ l, lnOk i l = decide (l = n)) (h : okE z bs (pc, i, len, ext) = true) : decode (mB z) pc = .ok (i, n) ∧ len = n ∧ x = true ∧ y = true := by
  obtain ⟨h1, h2, h3⟩ := dx_new (x := x && y) hE (fun j => (hJ j).trans (Bool.and_assoc _ _ _)) hl h
  exact ⟨h1, h2, Bool.and_eq_true_iff.mp h3⟩
section MORE
variable {z : Nat} {D : va_G} {ty : Nat → ClassId} {b0 : Nat} {σ0 : St} {ad0 : Nat → Nat} {p : Program} {l : Launch} {e : Env} {R : Room} {s : State} {m : MethodId} {args : Array Value} {below : List Frame} {meth : Method} {c : Code} {Q : State → Prop}
variable {i : Instr} {pc0 len : Nat} {ext : List Nat} {r : List En} {ls st : List Value} {σ : St} {f' : Fr}
theorem gl_putfield {n : Nat} (hC : Cx z p l R s m meth c) (hS : Sx D ty b0 ad0 σ0 s) (h : stI z (.putfield n) ext r ls st σ = some (.inl f')) (k : Gl z D ty b0 σ0 ad0 p l e R s m args below meth c Q f') : Gl z D ty b0 σ0 ad0 p l e R s m args below meth c Q ((pc0, .putfield n, len, ext) :: r, ls, st, σ) := by
  unfold stI at h
  dsimp only at h
  split at h
  next c0 k0 t f0 x p0 st1 =>
    split at h
    next hk =>
      cases h
      obtain ⟨hk, rfl⟩ := hk
      intro pc ad H locs lsC hh
      have hE := (fk_e hh.1).2.1
      have hc9 : c0 < 10 := by
        obtain ⟨d, hl, hx⟩ := dx_new (n := 3) rfl (fun _ => rfl) (fun _ => rfl) hE
        dsimp only at hx
        cases hf : frT[f0]? with
        | none => rw [hf] at hx; cases hx
        | some q =>
          rw [hf] at hx
          exact (of_decide_eq_true (Bool.and_eq_true_iff.mp hx).1).2.2.2.2.2.2.2
      have hi := okS_lt hh.2.2.2.2.2.2.2.1 hk (by omega) (by omega) (by omega)
      have hi : okp σ p0 := hi
      refine gl_set (p0 := p0) (σ := σ) (σ' := setI σ p0 k0 x) (st' := st1) (fun _ => hi) rfl rfl rfl (fun q ad hq => entE_c rfl rfl (fun j => by rw [gI_I, if_neg (fun h => hq h.1)]) (fun _ => rfl) (fun _ => rfl) (fun _ => rfl)) (fun h _ => h) (fun _ => fx_I hi)
        (fun _ h => rgs_t (rgs_t h)) (fun pc ad H locs lsC hE hL hR kk => ?_) k pc ad H locs lsC hh
      refine put_row (v := .int x) (σ' := setI σ p0 k0 x) hC hS hk (show gK (setI σ p0 k0 x) p0 = c0 from hk) (fun ad => ?_) (fun j hj t => ?_) (fun ad g3 g2 g1 => ?_) pc ad H locs lsC hE hR hi kk
      · unfold gf
        rw [if_pos rfl, gI_I, if_pos ⟨rfl, rfl⟩]
      · have e : gI (setI σ p0 k0 x) p0 j = gI σ p0 j := if_neg (fun h => hj h.2)
        unfold gf
        rw [e]
        rfl
      · rw [(tyf_t g1 k0 g2).1 g3.symm]
        exact ⟨rfl, rfl⟩
    next => cases h
  next c0 k0 t f0 x p0 st1 =>
    split at h
    next hk =>
      cases h
      obtain ⟨hk, rfl⟩ := hk
      intro pc ad H locs lsC hh
      have hE := (fk_e hh.1).2.1
      have hc9 : c0 < 10 := by
        obtain ⟨d, hl, hx⟩ := dx_new (n := 3) rfl (fun _ => rfl) (fun _ => rfl) hE
        dsimp only at hx
        cases hf : frT[f0]? with
        | none => rw [hf] at hx; cases hx
        | some q =>
          rw [hf] at hx
          exact (of_decide_eq_true (Bool.and_eq_true_iff.mp hx).1).2.2.2.2.2.2.2
      have hi := okS_lt hh.2.2.2.2.2.2.2.1 hk (by omega) (by omega) (by omega)
      have hi : okp σ p0 := hi
      refine gl_set (p0 := p0) (σ := σ) (σ' := setL σ p0 k0 x) (st' := st1) (fun _ => hi) rfl rfl rfl (fun q ad hq => entE_c rfl rfl (fun _ => rfl) (fun j => by rw [gL_L, if_neg (fun h => hq h.1)]) (fun _ => rfl) (fun _ => rfl)) (fun h _ => h) (fun _ => fx_0 rfl rfl rfl)
        (fun _ h => rgs_t (rgs_t h)) (fun pc ad H locs lsC hE hL hR kk => ?_) k pc ad H locs lsC hh
      refine put_row (v := .long x) (σ' := setL σ p0 k0 x) hC hS hk (show gK (setL σ p0 k0 x) p0 = c0 from hk) (fun ad => ?_) (fun j hj t => ?_) (fun ad g3 g2 g1 => ?_) pc ad H locs lsC hE hR hi kk
      · unfold gf
        rw [if_neg (by decide), if_pos rfl, gL_L, if_pos ⟨rfl, rfl⟩]
      · have e : gL (setL σ p0 k0 x) p0 j = gL σ p0 j := if_neg (fun h => hj h.2)
        unfold gf
        rw [e]
        rfl
      · rw [(tyf_t g1 k0 g2).2.1 g3.symm]
        exact ⟨rfl, rfl⟩
    next => cases h
  next c0 k0 t f0 x p0 st1 =>
    split at h
    next hk =>
      cases h
      obtain ⟨hk, rfl⟩ := hk
      intro pc ad H locs lsC hh
      have hE := (fk_e hh.1).2.1
      have hc9 : c0 < 10 := by
        obtain ⟨d, hl, hx⟩ := dx_new (n := 3) rfl (fun _ => rfl) (fun _ => rfl) hE
        dsimp only at hx
        cases hf : frT[f0]? with
        | none => rw [hf] at hx; cases hx
        | some q =>
          rw [hf] at hx
          exact (of_decide_eq_true (Bool.and_eq_true_iff.mp hx).1).2.2.2.2.2.2.2
      have hi := okS_lt hh.2.2.2.2.2.2.2.1 hk (by omega) (by omega) (by omega)
      have hi : okp σ p0 := hi
      have hx : x < gx σ + 2 := hh.2.2.2.1 (.ref x) List.mem_cons_self x rfl
      refine gl_set (p0 := p0) (σ := σ) (σ' := setR σ p0 k0 (some x)) (st' := st1) (fun _ => hi) rfl rfl rfl (fun q ad hq => entE_c rfl rfl (fun _ => rfl) (fun _ => rfl) (fun _ => rfl) (fun j => by rw [gR_R, if_neg (fun h => hq h.1)])) (fun h _ => ⟨h.1, h.2.1, h.2.2.1, fun p j q hr => ?_⟩) (fun _ => fx_0 rfl rfl rfl)
        (fun _ h => rgs_t (rgs_t h)) (fun pc ad H locs lsC hE hL hR kk => ?_) k pc ad H locs lsC hh
      · rw [gR_R] at hr
        split at hr
        · cases hr; exact hx
        · exact h.2.2.2 p j q hr
      refine put_row (v := .ref x) (σ' := setR σ p0 k0 (some x)) hC hS hk (show gK (setR σ p0 k0 (some x)) p0 = c0 from hk) (fun ad => ?_) (fun j hj t => ?_) (fun ad g3 g2 g1 => ?_) pc ad H locs lsC hE hR hi kk
      · unfold gf
        rw [if_neg (by decide), if_neg (by decide), gR_R, if_pos ⟨rfl, rfl⟩]
        rfl
      · have e : gR (setR σ p0 k0 (some x)) p0 j = gR σ p0 j := if_neg (fun h => hj h.2)
        unfold gf
        rw [e]
        rfl
      · exact nar_ref ((tyf_t g1 k0 g2).2.2.1 g3.symm) ⟨_, rfl⟩
    next => cases h
  next => cases h
/-- how much room the frame of a copy takes -/
theorem nfw_le : nativeFrameWords "java/lang/System" "arraycopy" 5 ≤ 100 := by decide +kernel
theorem gl_copy {n p1 : Nat} (hC : Cx z p l R s m meth c) (hS : Sx D ty b0 ad0 σ0 s) (h : stI z (.invokestatic n) [p1] r ls st σ = some (.inl f')) (k : Gl z D ty b0 σ0 ad0 p l e R s m args below meth c Q f') : Gl z D ty b0 σ0 ad0 p l e R s m args below meth c Q ((pc0, .invokestatic n, len, [p1]) :: r, ls, st, σ) := by
  unfold stI at h
  dsimp only at h
  split at h
  next n0 dp a sp a0 st1 =>
    split at h
    next hk =>
      cases h
      obtain ⟨k1, k2, k3, k4, k5, k6, k7, k8⟩ := hk
      intro pc ad H locs lsC hh
      have hi := okS_lt hh.2.2.2.2.2.2.2.1 k1 (by decide) (by decide) (by decide)
      have hj := okS_lt hh.2.2.2.2.2.2.2.1 k2 (by decide) (by decide) (by decide)
      have hi : okp σ a0 := hi
      have hj : okp σ a := hj
      refine gl_set (p0 := a) (σ := σ) (σ' := rowI σ a (va_cpy (gI σ a0) (gI σ a) sp.toNatClampNeg dp.toNatClampNeg n0.toNatClampNeg)) (st' := st1) (fun _ => hj) rfl rfl rfl (fun q ad hq => entE_c rfl rfl (fun j => by rw [gI_row, if_neg hq]) (fun _ => rfl) (fun _ => rfl) (fun _ => rfl)) (fun h _ => h) (fun _ => fx_w hj)
        (fun _ h => rgs_t (rgs_t (rgs_t (rgs_t (rgs_t h))))) (fun pc ad H locs lsC hE hL hR kk => ?_) k pc ad H locs lsC hh
      obtain ⟨d, rfl, hx⟩ := dx_new (n := 3) rfl (fun _ => rfl) (fun _ => rfl) hE
      have hlk := hS.2.1 _ (wat_in (of_decide_eq_true hx)) rfl args
      have hent : ((ad a, .inl (ty 0, gN σ a, .inl (va_cpy (gI σ a0) (gI σ a) sp.toNatClampNeg dp.toNatClampNeg n0.toNatClampNeg))) : Nat × va_E) = (ad a, entE ty ad (rowI σ a (va_cpy (gI σ a0) (gI σ a) sp.toNatClampNeg dp.toNatClampNeg n0.toNatClampNeg)) a) := by
        rw [entE_10 (show gK (rowI σ a _) a = 10 from k2)]
        refine congrArg (fun g => ((ad a, .inl (ty 0, gN σ a, .inl g)) : Nat × va_E)) (funext fun j => ?_)
        rw [gI_row, if_pos rfl]
      rw [← hent] at kk
      have hml : c.maxLocals = lsC.size := by rw [hC.2.2.2.1, hL.1]
      have hloc : ((st1.map (cv ad)).map fun v => v.category).sum + (nativeFrameWords "java/lang/System" "arraycopy" 5 + 11) ≤ R.locals := by
        have g1 := cat_le8 ad k8
        have g2 := nfw_le
        have g3 := hC.2.2.2.2.2.2.2.2.2.2.1
        have g4 := hC.2.2.2.2.2.2.2.2.2.2.2
        omega
      have hfr : 1 ≤ R.frames := by
        have g3 := hC.2.2.2.2.2.2.2.2.2.1
        have g4 := hC.2.2.2.2.2.2.2.2.2.2.2
        omega
      exact va_copyi hC.1 hC.2.1 hml hC.2.2.2.2.1 hlk (hS.2.1 _ (wat_in wd_acn) rfl args) (hS.2.1 _ (wat_in wd_acs) rfl args) (hS.2.1 _ (wat_in wd_sys) rfl args) hS.1 hR.1 hR.2.1 hR.2.2.1 (ix σ a0) (ix σ a) 0 0 (by rw [rh_at hR hi, entE_10 k1]) (by rw [rh_at hR hj, entE_10 k2]) rfl rfl rfl k3 k4 k5 k6 k7 (fun _ _ => rfl) hfr hloc d kk
    next => cases h
  next => cases h
theorem gl_mx {n p1 : Nat} (hC : Cx z p l R s m meth c) (hS : Sx D ty b0 ad0 σ0 s) (hcap : gc f'.2.2.2 - gc σ0 ≤ R.cells ∧ gs f'.2.2.2 - gs σ0 ≤ R.slots) (h : stI z (.invokestatic n) [p1, 0] r ls st σ = some (.inl f')) (k : Gl z D ty b0 σ0 ad0 p l e R s m args below meth c Q f') : Gl z D ty b0 σ0 ad0 p l e R s m args below meth c Q ((pc0, .invokestatic n, len, [p1, 0]) :: r, ls, st, σ) := by
  have h : (match st with | .int y :: .int x :: st => if st.length ≤ 4 then nxt (r, ls, .int (if x < y then y else x) :: st, σ) else none | _ => none) = some (.inl f') := h
  split at h
  next y x st1 =>
    split at h
    next hk =>
      cases h
      refine gl_st (fun n h1 h2 _ _ _ => ⟨h1, rgs_c rg_i (rgs_t (rgs_t h2))⟩) (fun pc ad H locs lsC hE hL hR kk => ?_) k
      obtain ⟨d, rfl, hx⟩ := dx_new (n := 3) rfl (fun _ => rfl) (fun _ => rfl) hE
      have hlk := hS.2.1 _ (wat_in (of_decide_eq_true hx)) rfl args
      have g1 := cat_le8 ad hk
      have g3 := hC.2.2.2.2.2.2.2.2.2.2.1
      have g4 := hC.2.2.2.2.2.2.2.2.2.2.2
      have g5 := hC.2.2.2.2.2.2.2.2.2.1
      exact va_mmax hC.1 hC.2.1 (by rw [hC.2.2.2.1, hL.1]) hC.2.2.2.2.1 hlk (hS.2.1 _ (wat_in wd_mxs) rfl args) (hS.2.1 _ (wat_in wd_mth) rfl args) (hS.2.1 _ (wat_in wd_mxc) rfl args) (by omega) (by omega) hcap.1 hcap.2 d (kk _ hL)
    next => cases h
  next => cases h
theorem gl_mn {n p1 : Nat} (hC : Cx z p l R s m meth c) (hS : Sx D ty b0 ad0 σ0 s) (hcap : gc f'.2.2.2 - gc σ0 ≤ R.cells ∧ gs f'.2.2.2 - gs σ0 ≤ R.slots) (h : stI z (.invokestatic n) [p1, 1] r ls st σ = some (.inl f')) (k : Gl z D ty b0 σ0 ad0 p l e R s m args below meth c Q f') : Gl z D ty b0 σ0 ad0 p l e R s m args below meth c Q ((pc0, .invokestatic n, len, [p1, 1]) :: r, ls, st, σ) := by
  have h : (match st with | .int y :: .int x :: st => if st.length ≤ 4 then nxt (r, ls, .int (if y < x then y else x) :: st, σ) else none | _ => none) = some (.inl f') := h
  split at h
  next y x st1 =>
    split at h
    next hk =>
      cases h
      refine gl_st (fun n h1 h2 _ _ _ => ⟨h1, rgs_c rg_i (rgs_t (rgs_t h2))⟩) (fun pc ad H locs lsC hE hL hR kk => ?_) k
      obtain ⟨d, rfl, hx⟩ := dx_new (n := 3) rfl (fun _ => rfl) (fun _ => rfl) hE
      have hlk := hS.2.1 _ (wat_in (of_decide_eq_true hx)) rfl args
      have g1 := cat_le8 ad hk
      have g3 := hC.2.2.2.2.2.2.2.2.2.2.1
      have g4 := hC.2.2.2.2.2.2.2.2.2.2.2
      have g5 := hC.2.2.2.2.2.2.2.2.2.1
      exact va_mmin hC.1 hC.2.1 (by rw [hC.2.2.2.1, hL.1]) hC.2.2.2.2.1 hlk (hS.2.1 _ (wat_in wd_mns) rfl args) (hS.2.1 _ (wat_in wd_mth) rfl args) (hS.2.1 _ (wat_in wd_mnc) rfl args) (by omega) (by omega) hcap.1 hcap.2 d (kk _ hL)
    next => cases h
  next => cases h
theorem gl_oi {n p1 : Nat} (hC : Cx z p l R s m meth c) (hS : Sx D ty b0 ad0 σ0 s) (hcap : gc f'.2.2.2 - gc σ0 ≤ R.cells ∧ gs f'.2.2.2 - gs σ0 ≤ R.slots) (h : stI z (.invokespecial n) [p1] r ls st σ = some (.inl f')) (k : Gl z D ty b0 σ0 ad0 p l e R s m args below meth c Q f') : Gl z D ty b0 σ0 ad0 p l e R s m args below meth c Q ((pc0, .invokespecial n, len, [p1]) :: r, ls, st, σ) := by
  unfold stI at h
  dsimp only at h
  split at h
  next x st1 =>
    split at h
    next hk =>
      cases h
      refine gl_st (fun n h1 h2 _ _ _ => ⟨h1, rgs_t h2⟩) (fun pc ad H locs lsC hE hL hR kk => ?_) k
      obtain ⟨d, rfl, hx⟩ := dx_new (n := 3) rfl (fun _ => rfl) (fun _ => rfl) hE
      have hlk := hS.2.1 _ (wat_in (of_decide_eq_true hx)) rfl args
      have g1 := cat_le8 ad hk
      have g3 := hC.2.2.2.2.2.2.2.2.2.2.1
      have g4 := hC.2.2.2.2.2.2.2.2.2.2.2
      have g5 := hC.2.2.2.2.2.2.2.2.2.1
      refine W.objInit hC.1 hC.2.1 hC.2.2.2.2.1 hlk (hS.2.1 _ (wat_in wd_obi) rfl args) (hS.2.1 _ (wat_in wd_obc) rfl args) rfl (by rw [hC.2.2.2.1]; exact hL.1) rfl d (by omega) (by show 2 * 0 + _ + 12 ≤ _; omega) ?_
      exact W.eq rfl (kk _ hL)
    next => cases h
  next => cases h
theorem gl_getstatic {n : Nat} (hC : Cx z p l R s m meth c) (hS : Sx D ty b0 ad0 σ0 s) (h : stI z (.getstatic n) ext r ls st σ = some (.inl f')) (k : Gl z D ty b0 σ0 ad0 p l e R s m args below meth c Q f') : Gl z D ty b0 σ0 ad0 p l e R s m args below meth c Q ((pc0, .getstatic n, len, ext) :: r, ls, st, σ) := by
  cases h
  refine gl_st (fun n h1 h2 _ _ h5 => ⟨h1, rgs_c (rg_r (by omega)) h2⟩) (fun pc ad H locs lsC hE hL hR kk => ?_) k
  have hE2 : (match decode (mB z) pc with | .ok (j, l) => decide (l = len) && lnOk j l && (decide (j = .getstatic n) && decide (n = 339) && decide (mC z = 7)) | .error _ => false) = true := hE
  obtain ⟨j, h1, h2, h3⟩ := okE_dec hE2
  simp only [Bool.and_eq_true, decide_eq_true_eq] at h3
  obtain ⟨⟨rfl, rfl⟩, h7⟩ := h3
  have h2 : len = 3 := of_decide_eq_true h2
  subst h2
  have e0 : ad 1 = ad0 1 := hR.2.2.2.2.2.1 1 (by omega)
  have hZ := hS.2.2.2.2.1
  rw [← e0] at hZ
  have hlk : (Cond.fieldLink (cn (mC z)) 339 "Bitmapstore" "LOOKED_AT" "[I").before args s = true := by
    rw [h7]
    exact hS.2.1 _ (wat_in wd_look) rfl args
  exact va_gets hC.1 hC.2.1 hZ hR.2.2.1 hC.2.2.2.2.1 hlk (fun _ h => h) h1 (kk _ hL)
theorem al_M_K (σ : St) (n m q : Nat) : gK (alM σ n m) q = if q = gx σ + 2 then 18 else if gx σ + 2 < q ∧ q ≤ gx σ + 2 + n then 10 else gK σ q := rfl
theorem al_M_N (σ : St) (n m q : Nat) : gN (alM σ n m) q = if q = gx σ + 2 then n else if gx σ + 2 < q ∧ q ≤ gx σ + 2 + n then m else gN σ q := rfl
theorem al_M_I (σ : St) (n m q j : Nat) : gI (alM σ n m) q j = if gx σ + 2 ≤ q ∧ q ≤ gx σ + 2 + n then 0 else gI σ q j := rfl
theorem al_M_R (σ : St) (n m q j : Nat) : gR (alM σ n m) q j = if q = gx σ + 2 then (if j < n then some (gx σ + 3 + j) else none) else gR σ q j := rfl
theorem al_M_x (σ : St) (n m : Nat) : gx (alM σ n m) = gx σ + 1 + n := rfl
def adm (ad : Nat → Nat) (g n q : Nat) (rr : Nat → Nat) : Nat → Nat := fun x => if x = g then q else if g < x ∧ x ≤ g + n then rr (x - g - 1) else ad x
theorem pls_alM {σ : St} {n m : Nat} : pls (alM σ n m) = (pls σ ++ [gx σ + 2]) ++ (List.range n).map (fun j => gx σ + 3 + j) := by
  have h0 : gK (alM σ n m) 0 = gK σ 0 := by rw [al_M_K, if_neg (by omega), if_neg (by omega)]
  unfold pls
  rw [h0, al_M_x, show gx σ + 1 + n = (gx σ + 1) + n by rfl]
  have e1 : (List.range (gx σ + 1 + n)).map (fun k => k + 2) = ((List.range (gx σ)).map (fun k => k + 2) ++ [gx σ + 2]) ++ (List.range n).map (fun j => gx σ + 3 + j) := by
    apply List.ext_getElem?
    intro k
    by_cases h1 : k < gx σ
    · rw [List.getElem?_append_left (by simp; omega), List.getElem?_append_left (by simp; omega), List.getElem?_map, List.getElem?_map, List.getElem?_range (by omega), List.getElem?_range h1]
    · by_cases h2 : k = gx σ
      · subst h2
        rw [List.getElem?_append_left (by simp), List.getElem?_append_right (by simp), List.getElem?_map, List.getElem?_range (by omega)]
        simp
      · rw [List.getElem?_append_right (by simp; omega), List.getElem?_map, List.getElem?_map]
        have hl : ((List.range (gx σ)).map (fun k => k + 2) ++ [gx σ + 2]).length = gx σ + 1 := by simp
        rw [hl]
        by_cases h3 : k < gx σ + 1 + n
        · rw [List.getElem?_range h3, List.getElem?_range (by omega)]
          show some (k + 2) = some (gx σ + 3 + (k - (gx σ + 1)))
          congr 1
          omega
        · rw [List.getElem?_eq_none (by simp; omega), List.getElem?_eq_none (by simp; omega)]
          rfl
  rw [e1]
  simp only [List.append_assoc]
theorem wld_alM {ty : Nat → ClassId} {ad : Nat → Nat} {σ : St} {n m q : Nat} {rr : Nat → Nat} {f0 : Nat → va_E} (hok : okS σ) :
    wld ty (adm ad (gx σ + 2) n q rr) (alM σ n m) = (wld ty ad σ ++ [(q, .inl (ty 8, n, .inr (.inr (.inr (.inr (fun i => if i < n then some (rr i) else none))))))]) ++ va_pl ([] ++ (List.range n).map rr) (vr_up f0 ((List.range n).map rr) (.inl (ty 0, (m, .inl (fun _ => 0))))) := by
  have hag : ∀ x, x < gx σ + 2 → adm ad (gx σ + 2) n q rr x = ad x := fun x hx => by unfold adm; rw [if_neg (by omega), if_neg (by omega)]
  unfold wld
  rw [pls_alM, List.map_append, List.map_append]
  congr 1
  · congr 1
    · apply List.map_congr_left
      intro j hj
      have hj := okp_lt (pls_mem hj)
      rw [hag j hj]
      refine congrArg (fun e => (ad j, e)) ?_
      have e1 : entE ty (adm ad (gx σ + 2) n q rr) (alM σ n m) j = entE ty (adm ad (gx σ + 2) n q rr) σ j := entE_c (by rw [al_M_K, if_neg (by omega), if_neg (by omega)]) (by rw [al_M_N, if_neg (by omega), if_neg (by omega)]) (fun i => by rw [al_M_I, if_neg (by omega)]) (fun _ => rfl) (fun _ => rfl) (fun i => by rw [al_M_R, if_neg (by omega)])
      rw [e1]
      exact entE_ad hok hag
    · have eK : gK (alM σ n m) (gx σ + 2) = 18 := by rw [al_M_K, if_pos rfl]
      rw [List.map_singleton, entE_r (by rw [eK]; rfl), eK, al_M_N, if_pos rfl]
      have e2 : adm ad (gx σ + 2) n q rr (gx σ + 2) = q := by unfold adm; rw [if_pos rfl]
      rw [e2]
      refine congrArg (fun g => [(q, (Sum.inl (ty 8, n, Sum.inr (Sum.inr (Sum.inr (Sum.inr g)))) : va_E))]) (funext fun j => ?_)
      rw [al_M_R, if_pos rfl]
      by_cases hj : j < n
      · rw [if_pos hj, if_pos hj]
        show some (adm ad (gx σ + 2) n q rr (gx σ + 3 + j)) = _
        unfold adm
        rw [if_neg (by omega), if_pos (by omega), show gx σ + 3 + j - (gx σ + 2) - 1 = j by omega]
      · rw [if_neg hj, if_neg hj]; rfl
  · unfold va_pl
    rw [List.nil_append, List.map_map, List.map_map]
    apply List.map_congr_left
    intro i hi
    have hr := List.mem_range.mp hi
    show (adm ad (gx σ + 2) n q rr (gx σ + 3 + i), entE ty (adm ad (gx σ + 2) n q rr) (alM σ n m) (gx σ + 3 + i)) = (rr i, vr_up f0 ((List.range n).map rr) _ (rr i))
    have eK : gK (alM σ n m) (gx σ + 3 + i) = 10 := by rw [al_M_K, if_neg (by omega), if_pos (by omega)]
    have e3 : gI (alM σ n m) (gx σ + 3 + i) = fun _ => 0 := by funext j; rw [al_M_I, if_pos (by omega)]
    have e2 : adm ad (gx σ + 2) n q rr (gx σ + 3 + i) = rr i := by unfold adm; rw [if_neg (by omega), if_pos (by omega), show gx σ + 3 + i - (gx σ + 2) - 1 = i by omega]
    rw [entE_10 eK, al_M_N, if_neg (by omega), if_pos (by omega), e3, e2, vr_up_in (List.mem_map.mpr ⟨_, hi, rfl⟩)]
theorem okS_alM {σ : St} {n m : Nat} (h : okS σ) : okS (alM σ n m) := by
  obtain ⟨a, b, d, e⟩ := h
  refine ⟨?_, ?_, fun q hq => ?_, fun p j q hr => ?_⟩
  · rw [al_M_K, if_neg (by omega), if_neg (by omega)]; exact a
  · rw [al_M_K, if_neg (by omega), if_neg (by omega)]; exact b
  · rw [al_M_x] at hq
    rw [al_M_K, if_neg (by omega), if_neg (by omega)]
    exact d q (by omega)
  · rw [al_M_R] at hr
    rw [al_M_x]
    split at hr
    · split at hr
      · cases hr; omega
      · cases hr
    · have := e p j q hr; omega
theorem fix_alM {σ : St} {n m : Nat} : fix2 σ (alM σ n m) := ⟨by rw [al_M_K, if_neg (by omega), if_neg (by omega)], fun _ => ⟨by rw [al_M_N, if_neg (by omega), if_neg (by omega)], by funext j; rw [al_M_I, if_neg (by omega)]⟩, by rw [al_M_N, if_neg (by omega), if_neg (by omega)], by funext j; rw [al_M_I, if_neg (by omega)]⟩
theorem gl_multi {a b : Nat} (hC : Cx z p l R s m meth c) (hS : Sx D ty b0 ad0 σ0 s) (hcap : gc f'.2.2.2 - gc σ0 ≤ R.cells ∧ gs f'.2.2.2 - gs σ0 ≤ R.slots) (h : stI z (.multianewarray a b) ext r ls st σ = some (.inl f')) (k : Gl z D ty b0 σ0 ad0 p l e R s m args below meth c Q f') : Gl z D ty b0 σ0 ad0 p l e R s m args below meth c Q ((pc0, .multianewarray a b, len, ext) :: r, ls, st, σ) := by
  unfold stI at h
  dsimp only at h
  split at h
  next k0 n0 st1 =>
    split at h
    next hk =>
      cases h
      obtain ⟨hk1, hk2, hk3, hk4⟩ := hk
      intro pc ad H locs lsC hh
      obtain ⟨hF, hL, h1, h2, hR⟩ := hh
      obtain ⟨rfl, hE, hF'⟩ := fk_e hF
      obtain ⟨d, rfl, h3, h7⟩ := dx_new2 (n := 4) rfl (fun _ => rfl) (fun _ => rfl) hE
      have h3 : b = 2 := of_decide_eq_true h3
      subst h3
      split at h7
      next p1 =>
        have h7 := of_decide_eq_true h7
        have hlk := hS.2.1 _ (wat_in h7) rfl args
        obtain ⟨q1, q2, q3, q4, q5, q6, q7, q8, q9⟩ := hR
        dsimp only at h1 h2 hcap q1 q2 q3 q4 q5 q6 q7 q8 q9
        have w1 : gc σ - gc σ0 + (1 + n0.toNatClampNeg) ≤ R.cells := by have : gc (alM σ n0.toNatClampNeg k0.toNatClampNeg) = gc σ + 1 + n0.toNatClampNeg := rfl; omega
        have w2 : gs σ - gs σ0 + (n0.toNatClampNeg + n0.toNatClampNeg * k0.toNatClampNeg) ≤ R.slots := by have : gs (alM σ n0.toNatClampNeg k0.toNatClampNeg) = gs σ + n0.toNatClampNeg + n0.toNatClampNeg * k0.toNatClampNeg := rfl; omega
        have hA : ∀ x, s.heap.size ≤ x → Ab b0 x := fun x hx => Nat.le_trans hS.2.2.2.2.2.2.2.2.2.2 hx
        have g0 : s.vm.findClass ("[" ++ FieldType.int.toString) = some (ty 0) := (hS.1.2 0 _ rfl).2
        have hP0 : va_P D vwCl (wld ty ad σ ++ va_pl [] (fun _ => (.inl (ty 0, (0, .inl (fun _ => 0))) : va_E))) H := by
          show va_P D vwCl (wld ty ad σ ++ []) H
          rw [List.append_nil]; exact q1
        have hD0 : va_D (Ab b0) (wld ty ad σ ++ va_pl [] (fun _ => (.inl (ty 0, (0, .inl (fun _ => 0))) : va_E))) := by
          show va_D (Ab b0) (wld ty ad σ ++ [])
          rw [List.append_nil]; exact q2
        refine va_mna (ty := .int) (cy := ty 0) (z := (k0.toNatClampNeg, .inl (fun _ => 0))) hC.1 hC.2.1 hC.2.2.2.2.1 hlk (fun A => hS.2.1 _ (wat_in arr_ints) rfl A) (hS.2.1 _ (wat_in arr_int) rfl args) g0 hS.1 hP0 hD0 q3 hA hk1 hk2 rfl rfl (by omega) (by show _ * 4 ≤ _; omega) (by omega) rfl rfl w1 w2 (fun c => arrV_new c _ _) d (fun q rr cA H1 hinj hnot hK hP hD hS1 => ?_)
        have hc : cA = ty 8 := ra_eq (hK.2 10 (cA, .array .int) rfl).2 (hS.1.2 8 _ rfl).2
        subst hc
        rw [← wld_alM q4] at hP hD
        have hag : ∀ x, x < gx σ + 2 → adm ad (gx σ + 2) n0.toNatClampNeg q rr x = ad x := fun x hx => by unfold adm; rw [if_neg (by omega), if_neg (by omega)]
        have g1 : fix2 σ (alM σ n0.toNatClampNeg k0.toNatClampNeg) := fix_alM
        have k2 := k (pc0 + 4) (adm ad (gx σ + 2) n0.toNatClampNeg q rr) H1 locs lsC ⟨hF', Lr_ad hL h1 hag, rgs_mono (by rw [al_M_x]; omega) h1, rgs_c (rg_r (by rw [al_M_x]; omega)) (rgs_mono (by rw [al_M_x]; omega) (rgs_t (rgs_t h2))), hP, hD, hS1, okS_alM q4, by rw [al_M_x]; omega,
          fun x hx => (hag x (by omega)).trans (q6 x hx), by show gc σ0 ≤ gc σ + 1 + _; omega, by show gs σ0 ≤ gs σ + _ + _; omega, fix2_tr q9 g1⟩
        have e1 : gc (alM σ n0.toNatClampNeg k0.toNatClampNeg) - gc σ0 = gc σ - gc σ0 + 1 + n0.toNatClampNeg := by show gc σ + 1 + _ - gc σ0 = _; omega
        have e2 : gs (alM σ n0.toNatClampNeg k0.toNatClampNeg) - gs σ0 = gs σ - gs σ0 + n0.toNatClampNeg + n0.toNatClampNeg * k0.toNatClampNeg := by show gs σ + _ + _ - gs σ0 = _; omega
        have e3 : (Value.ref (gx σ + 2) :: st1).map (cv (adm ad (gx σ + 2) n0.toNatClampNeg q rr)) = .ref q :: st1.map (cv ad) := by
          rw [List.map_cons, cvs_eq hag (rgs_t (rgs_t h2))]
          show Value.ref (adm ad (gx σ + 2) n0.toNatClampNeg q rr (gx σ + 2)) :: _ = _
          unfold adm
          rw [if_pos rfl]
        dsimp only at k2
        rw [e1, e2, e3] at k2
        exact k2
      next => cases h7
    next => cases h
  next => cases h
end MORE
