/-! ONE ENTRY, ALL KINDS -/
theorem sCall_no {y n c : Nat} {r : List En} {ls st : List Value} {σ : St} {f' : Fr} (h : sCall y n c r ls st σ = some (.inl f')) : False := by
  unfold sCall at h
  split at h
  · split at h
    · cases h
    · split at h
      · split at h <;> cases h
      · cases h
  · cases h
theorem ofInt_eq {x : Int32} {n : Int} (h1 : -2000 ≤ n) (h2 : n ≤ 2000) : x = Int32.ofInt n ↔ x.toInt = n := by
  rw [← Int32.toInt_inj, Int32.toInt_ofInt]
  have h32 : ((2 ^ 32 : Nat) : Int) = 4294967296 := rfl
  have : n.bmod (2 ^ 32) = n := by
    rw [Int.bmod_def, h32]
    split <;> omega
  rw [this]
theorem swt_in {d : Nat} {x : Int32} : ∀ (ts : List Nat) (lo : Int) (q : Nat), q < ts.length → -1000 ≤ lo → lo + (ts.length : Int) ≤ 1001 → x.toInt = lo + (q : Int) → swt d ts lo x = ts.getD q 0
  | [], _, q, h, _, _, _ => absurd h (Nat.not_lt_zero _)
  | b :: ts, lo, q, h, h1, h2, h3 => by
    rw [List.length_cons] at h h2
    unfold swt
    cases q with
    | zero => rw [if_pos ((ofInt_eq (by omega) (by omega)).mpr (by omega))]; rfl
    | succ q =>
      rw [if_neg (fun e => by have := (ofInt_eq (by omega) (by omega)).mp e; omega), swt_in ts (lo + 1) q (by omega) (by omega) (by omega) (by omega)]
      rfl
theorem swt_out {d : Nat} {x : Int32} : ∀ (ts : List Nat) (lo : Int), -1000 ≤ lo → lo + (ts.length : Int) ≤ 1001 → (x.toInt < lo ∨ lo + (ts.length : Int) ≤ x.toInt) → swt d ts lo x = d
  | [], _, _, _, _ => rfl
  | b :: ts, lo, h1, h2, h3 => by
    rw [List.length_cons] at h2 h3
    unfold swt
    rw [if_neg (fun e => by have := (ofInt_eq (by omega) (by omega)).mp e; omega)]
    exact swt_out ts (lo + 1) (by omega) (by omega) (by omega)
theorem ci_use {z k : Nat} {v : Int} {ext : List Nat} {D : va_G} {ty : Nat → ClassId} {b0 : Nat} {σ0 : St} {ad0 : Nat → Nat} {s : State} {args : Array Value} (hS : Sx D ty b0 ad0 σ0 s) (h : (match ext with | [t] => (match ciT[t]? with | some e => decide (e.1 = mC z ∧ e.2.1 = k ∧ e.2.2.1 = v) | none => false) | _ => false) = true) : (Cond.constant (cn (mC z)) k (Int32.ofInt v)).before args s = true := by
  split at h
  next t =>
    cases hf : ciT[t]? with
    | none => rw [hf] at h; cases h
    | some q =>
      rw [hf] at h
      obtain ⟨a1, a2, a3⟩ := of_decide_eq_true h
      have h4 := wat_in (ci_ok q (List.mem_of_getElem? hf))
      unfold ciC at h4
      rw [a1, a2, a3] at h4
      exact hS.2.1 _ h4 rfl args
  next => cases h
theorem cg_use {z k : Nat} {v : Int} {ext : List Nat} {D : va_G} {ty : Nat → ClassId} {b0 : Nat} {σ0 : St} {ad0 : Nat → Nat} {s : State} {args : Array Value} (hS : Sx D ty b0 ad0 σ0 s) (h : (match ext with | [t] => (match cgT[t]? with | some e => decide (e.1 = mC z ∧ e.2.1 = k ∧ e.2.2.1 = v) | none => false) | _ => false) = true) : (Cond.constantLong (cn (mC z)) k (Int64.ofInt v)).before args s = true := by
  split at h
  next t =>
    cases hf : cgT[t]? with
    | none => rw [hf] at h; cases h
    | some q =>
      rw [hf] at h
      obtain ⟨a1, a2, a3⟩ := of_decide_eq_true h
      have h4 := wat_in (cg_ok q (List.mem_of_getElem? hf))
      unfold cgC at h4
      rw [a1, a2, a3] at h4
      exact hS.2.1 _ h4 rfl args
  next => cases h
theorem brn {x y : Int32} (h : (!decide (x = y)) = true) : ¬ x = y := fun e => by rw [decide_eq_true e] at h; cases h
theorem brp {x y : Int32} (h : ¬ x = y) : (!decide (x = y)) = true := by rw [decide_eq_false h]; rfl
set_option maxHeartbeats 4000000 in
set_option maxRecDepth 20000 in
theorem gl_step {z : Nat} {D : va_G} {ty : Nat → ClassId} {b0 : Nat} {σ0 : St} {ad0 : Nat → Nat} {p : Program} {l : Launch} {e : Env} {R : Room} {s : State} {m : MethodId} {args : Array Value} {below : List Frame} {meth : Method} {c : Code} {Q : State → Prop} {f f' : Fr}
    (hC : Cx z p l R s m meth c) (hS : Sx D ty b0 ad0 σ0 s) (hcap : gc f'.2.2.2 - gc σ0 ≤ R.cells ∧ gs f'.2.2.2 - gs σ0 ≤ R.slots) (h : stp z f = some (.inl f')) (k : Gl z D ty b0 σ0 ad0 p l e R s m args below meth c Q f') : Gl z D ty b0 σ0 ad0 p l e R s m args below meth c Q f := by
  obtain ⟨cs, ls, st, σ⟩ := f
  cases cs with
  | nil => cases h
  | cons en r =>
    obtain ⟨pc0, i, len, ext⟩ := en
    replace h : stI z i ext r ls st σ = some (.inl f') := h
    cases i
    case iadd =>
      exact gl_bI (op := fun x y => x + y) (fun _ => dx_old rfl (fun _ => rfl) (fun _ => rfl)) (fun pc H locs cells slots lsC rest x y d k => lv_iadd hC.1 hC.2.1 d k) h k
    case isub =>
      exact gl_bI (op := fun x y => x - y) (fun _ => dx_old rfl (fun _ => rfl) (fun _ => rfl)) (fun pc H locs cells slots lsC rest x y d k => lv_isub hC.1 hC.2.1 d k) h k
    case imul =>
      exact gl_bI (op := fun x y => x * y) (fun _ => dx_old rfl (fun _ => rfl) (fun _ => rfl)) (fun pc H locs cells slots lsC rest x y d k => lv_imul hC.1 hC.2.1 d k) h k
    case iand =>
      exact gl_bI (op := fun x y => x &&& y) (fun _ => dx_old rfl (fun _ => rfl) (fun _ => rfl)) (fun pc H locs cells slots lsC rest x y d k => lv_iand hC.1 hC.2.1 d k) h k
    case ior =>
      exact gl_bI (op := fun x y => x ||| y) (fun _ => dx_old rfl (fun _ => rfl) (fun _ => rfl)) (fun pc H locs cells slots lsC rest x y d k => lv_ior hC.1 hC.2.1 d k) h k
    case ixor =>
      exact gl_bI (op := fun x y => x ^^^ y) (fun _ => dx_old rfl (fun _ => rfl) (fun _ => rfl)) (fun pc H locs cells slots lsC rest x y d k => lv_ixor hC.1 hC.2.1 d k) h k
    case ishl =>
      exact gl_bI (op := fun x y => x <<< (y &&& 31)) (fun _ => dx_old rfl (fun _ => rfl) (fun _ => rfl)) (fun pc H locs cells slots lsC rest x y d k => lv_ishl hC.1 hC.2.1 d k) h k
    case ishr =>
      exact gl_bI (op := fun x y => x >>> (y &&& 31)) (fun _ => dx_old rfl (fun _ => rfl) (fun _ => rfl)) (fun pc H locs cells slots lsC rest x y d k => lv_ishr hC.1 hC.2.1 d k) h k
    case iushr =>
      exact gl_bI (op := fun x y => (x.toUInt32 >>> (y.toUInt32 &&& Int32.toUInt32 31)).toInt32) (fun _ => dx_old rfl (fun _ => rfl) (fun _ => rfl)) (fun pc H locs cells slots lsC rest x y d k => lv_iushr hC.1 hC.2.1 d rfl k) h k
    case ladd =>
      exact gl_bL (op := fun x y => x + y) (fun _ => dx_old rfl (fun _ => rfl) (fun _ => rfl)) (fun pc H locs cells slots lsC rest x y d k => lv_ladd hC.1 hC.2.1 d k) h k
    case lmul =>
      exact gl_bL (op := fun x y => x * y) (fun _ => dx_old rfl (fun _ => rfl) (fun _ => rfl)) (fun pc H locs cells slots lsC rest x y d k => lv_lmul hC.1 hC.2.1 d k) h k
    case lsub =>
      exact gl_bL (op := fun x y => x - y) (fun _ => dx_old rfl (fun _ => rfl) (fun _ => rfl)) (fun pc H locs cells slots lsC rest x y d k => lv_lsub hC.1 hC.2.1 d k) h k
    case land =>
      exact gl_bL (op := fun x y => x &&& y) (fun _ => dx_old rfl (fun _ => rfl) (fun _ => rfl)) (fun pc H locs cells slots lsC rest x y d k => lv_land hC.1 hC.2.1 d k) h k
    case lor =>
      exact gl_bL (op := fun x y => x ||| y) (fun _ => dx_old rfl (fun _ => rfl) (fun _ => rfl)) (fun pc H locs cells slots lsC rest x y d k => lv_lor hC.1 hC.2.1 d k) h k
    case lxor =>
      exact gl_bL (op := fun x y => x ^^^ y) (fun _ => dx_old rfl (fun _ => rfl) (fun _ => rfl)) (fun pc H locs cells slots lsC rest x y d k => lv_lxor hC.1 hC.2.1 d k) h k
    case lshl =>
      exact gl_sL (op := fun x y => x <<< (y.toInt64 &&& 63)) (fun _ => dx_old rfl (fun _ => rfl) (fun _ => rfl)) (fun pc H locs cells slots lsC rest x y d k => lv_lshl hC.1 hC.2.1 d rfl k) h k
    case lushr =>
      exact gl_sL (op := fun x y => (x.toUInt64 >>> (y.toInt64.toUInt64 &&& Int64.toUInt64 63)).toInt64) (fun _ => dx_old rfl (fun _ => rfl) (fun _ => rfl)) (fun pc H locs cells slots lsC rest x y d k => lv_lushr hC.1 hC.2.1 d rfl k) h k
    case lcmp =>
      unfold stI at h
      dsimp only at h
      split at h
      next y x st1 =>
        cases h
        refine gl_st (fun n h1 h2 _ _ _ => ⟨h1, rgs_c rg_i (rgs_t (rgs_t h2))⟩) (fun pc ad H locs lsC hE hL hR kk => ?_) k
        obtain ⟨d, rfl⟩ := dx_old (n := 1) rfl (fun _ => rfl) (fun _ => rfl) hE
        exact W.lcmp hC.1 hC.2.1 d (kk _ hL)
      next => cases h
    case fcmp op =>
      unfold stI at h
      dsimp only at h
      split at h
      next y x st1 =>
        cases h
        refine gl_st (fun n h1 h2 _ _ _ => ⟨h1, rgs_c rg_i (rgs_t (rgs_t h2))⟩) (fun pc ad H locs lsC hE hL hR kk => ?_) k
        obtain ⟨d, rfl⟩ := dx_old (n := 1) rfl (fun _ => rfl) (fun _ => rfl) hE
        exact lv_fcmp hC.1 hC.2.1 d (kk _ hL)
      next => cases h
    case dcmp op =>
      unfold stI at h
      dsimp only at h
      split at h
      next y x st1 =>
        cases h
        refine gl_st (fun n h1 h2 _ _ _ => ⟨h1, rgs_c rg_i (rgs_t (rgs_t h2))⟩) (fun pc ad H locs lsC hE hL hR kk => ?_) k
        obtain ⟨d, rfl⟩ := dx_old (n := 1) rfl (fun _ => rfl) (fun _ => rfl) hE
        exact lv_dcmp hC.1 hC.2.1 d (kk _ hL)
      next => cases h
    case i2l =>
      unfold stI at h
      dsimp only at h
      split at h
      next x st1 =>
        cases h
        refine gl_st (fun n h1 h2 _ _ _ => ⟨h1, rgs_c rg_l (rgs_t h2)⟩) (fun pc ad H locs lsC hE hL hR kk => ?_) k
        obtain ⟨d, rfl⟩ := dx_old (n := 1) rfl (fun _ => rfl) (fun _ => rfl) hE
        exact lv_i2l hC.1 hC.2.1 d rfl (kk _ hL)
      next => cases h
    case l2i =>
      unfold stI at h
      dsimp only at h
      split at h
      next x st1 =>
        cases h
        refine gl_st (fun n h1 h2 _ _ _ => ⟨h1, rgs_c rg_i (rgs_t h2)⟩) (fun pc ad H locs lsC hE hL hR kk => ?_) k
        obtain ⟨d, rfl⟩ := dx_old (n := 1) rfl (fun _ => rfl) (fun _ => rfl) hE
        exact lv_l2i hC.1 hC.2.1 d rfl (kk _ hL)
      next => cases h
    case i2f =>
      unfold stI at h
      dsimp only at h
      split at h
      next x st1 =>
        cases h
        refine gl_st (fun n h1 h2 _ _ _ => ⟨h1, rgs_c rg_f (rgs_t h2)⟩) (fun pc ad H locs lsC hE hL hR kk => ?_) k
        obtain ⟨d, rfl⟩ := dx_old (n := 1) rfl (fun _ => rfl) (fun _ => rfl) hE
        exact lv_i2f hC.1 hC.2.1 d (kk _ hL)
      next => cases h
    case i2d =>
      unfold stI at h
      dsimp only at h
      split at h
      next x st1 =>
        cases h
        refine gl_st (fun n h1 h2 _ _ _ => ⟨h1, rgs_c rg_d (rgs_t h2)⟩) (fun pc ad H locs lsC hE hL hR kk => ?_) k
        obtain ⟨d, rfl⟩ := dx_old (n := 1) rfl (fun _ => rfl) (fun _ => rfl) hE
        exact lv_i2d hC.1 hC.2.1 d (kk _ hL)
      next => cases h
    case f2d =>
      unfold stI at h
      dsimp only at h
      split at h
      next x st1 =>
        split at h
        next hq =>
          cases h
          refine gl_st (fun n h1 h2 _ _ _ => ⟨h1, rgs_c rg_d (rgs_t h2)⟩) (fun pc ad H locs lsC hE hL hR kk => ?_) k
          obtain ⟨d, rfl⟩ := dx_old (n := 1) rfl (fun _ => rfl) (fun _ => rfl) hE
          exact lv_f2d hC.1 hC.2.1 d hq (kk _ hL)
        next => cases h
      next => cases h
    case fdiv =>
      unfold stI at h
      dsimp only at h
      split at h
      next y x st1 =>
        split at h
        next hq =>
          cases h
          refine gl_st (fun n h1 h2 _ _ _ => ⟨h1, rgs_c rg_f (rgs_t (rgs_t h2))⟩) (fun pc ad H locs lsC hE hL hR kk => ?_) k
          obtain ⟨d, rfl⟩ := dx_old (n := 1) rfl (fun _ => rfl) (fun _ => rfl) hE
          exact lv_fdiv hC.1 hC.2.1 d hq (kk _ hL)
        next => cases h
      next => cases h
    case ddiv =>
      unfold stI at h
      dsimp only at h
      split at h
      next y x st1 =>
        split at h
        next hq =>
          cases h
          refine gl_st (fun n h1 h2 _ _ _ => ⟨h1, rgs_c rg_d (rgs_t (rgs_t h2))⟩) (fun pc ad H locs lsC hE hL hR kk => ?_) k
          obtain ⟨d, rfl⟩ := dx_old (n := 1) rfl (fun _ => rfl) (fun _ => rfl) hE
          exact lv_ddiv hC.1 hC.2.1 d hq (kk _ hL)
        next => cases h
      next => cases h
    case idiv =>
      unfold stI at h
      dsimp only at h
      split at h
      next y x st1 =>
        split at h
        next => cases h
        next hq =>
          cases h
          refine gl_st (fun n h1 h2 _ _ _ => ⟨h1, rgs_c rg_i (rgs_t (rgs_t h2))⟩) (fun pc ad H locs lsC hE hL hR kk => ?_) k
          obtain ⟨d, rfl⟩ := dx_old (n := 1) rfl (fun _ => rfl) (fun _ => rfl) hE
          exact lv_idiv hC.1 hC.2.1 d hq (kk _ hL)
      next => cases h
    case irem =>
      unfold stI at h
      dsimp only at h
      split at h
      next y x st1 =>
        split at h
        next => cases h
        next hq =>
          cases h
          refine gl_st (fun n h1 h2 _ _ _ => ⟨h1, rgs_c rg_i (rgs_t (rgs_t h2))⟩) (fun pc ad H locs lsC hE hL hR kk => ?_) k
          obtain ⟨d, rfl⟩ := dx_old (n := 1) rfl (fun _ => rfl) (fun _ => rfl) hE
          exact lv_irem hC.1 hC.2.1 d hq (kk _ hL)
      next => cases h
    case lrem =>
      unfold stI at h
      dsimp only at h
      split at h
      next y x st1 =>
        split at h
        next => cases h
        next hq =>
          cases h
          refine gl_st (fun n h1 h2 _ _ _ => ⟨h1, rgs_c rg_l (rgs_t (rgs_t h2))⟩) (fun pc ad H locs lsC hE hL hR kk => ?_) k
          obtain ⟨d, rfl⟩ := dx_old (n := 1) rfl (fun _ => rfl) (fun _ => rfl) hE
          exact lv_lrem hC.1 hC.2.1 d hq (kk _ hL)
      next => cases h
    case iconst v =>
      cases h
      refine gl_st (fun n h1 h2 _ _ _ => ⟨h1, rgs_c rg_i h2⟩) (fun pc ad H locs lsC hE hL hR kk => ?_) k
      obtain ⟨j, d, hl, hJ⟩ := okE_dec (P := fun j => okJ z (codes.getD z []) pc j (.iconst v) ext) hE
      cases j with
      | iconst u =>
        have hl : len = 1 := of_decide_eq_true hl
        subst hl
        have hu : u = v := of_decide_eq_true hJ
        subst hu
        exact lv_iconst hC.1 hC.2.1 d rfl (kk _ hL)
      | bipush u =>
        have hl : len = 2 := of_decide_eq_true hl
        subst hl
        exact lv_bipush hC.1 hC.2.1 d (of_decide_eq_true hJ) (kk _ hL)
      | sipush u =>
        have hl : len = 3 := of_decide_eq_true hl
        subst hl
        exact lv_sipush hC.1 hC.2.1 d (of_decide_eq_true hJ) (kk _ hL)
      | ldc q =>
        have hl : len = 2 := of_decide_eq_true hl
        subst hl
        exact lv_ldc hC.1 hC.2.1 hC.2.2.2.2.1 (ci_use hS hJ) d (kk _ hL)
      | ldc_w q =>
        have hl : len = 3 := of_decide_eq_true hl
        subst hl
        exact lv_ldcw hC.1 hC.2.1 hC.2.2.2.2.1 (ci_use hS hJ) d (kk _ hL)
      | _ => exact absurd hJ Bool.false_ne_true
    case bipush v =>
      cases h
      refine gl_st (fun n h1 h2 _ _ _ => ⟨h1, rgs_c rg_l h2⟩) (fun pc ad H locs lsC hE hL hR kk => ?_) k
      obtain ⟨j, d, hl, hJ⟩ := okE_dec (P := fun j => okJ z (codes.getD z []) pc j (.bipush v) ext) hE
      cases j with
      | lconst u =>
        have hl : len = 1 := of_decide_eq_true hl
        subst hl
        exact lv_lconst hC.1 hC.2.1 d (of_decide_eq_true hJ) (kk _ hL)
      | ldc2_w q =>
        have hl : len = 3 := of_decide_eq_true hl
        subst hl
        exact lv_ldc2 hC.1 hC.2.1 hC.2.2.2.2.1 (cg_use hS hJ) d (kk _ hL)
      | _ => exact absurd hJ Bool.false_ne_true
    case fconst q =>
      match q, h with
      | 0, h =>
        cases h
        refine gl_st (fun n h1 h2 _ _ _ => ⟨h1, rgs_c rg_f h2⟩) (fun pc ad H locs lsC hE hL hR kk => ?_) k
        obtain ⟨d, rfl⟩ := dx_old (n := 1) rfl (fun _ => rfl) (fun _ => rfl) hE
        exact lv_fconst0 hC.1 hC.2.1 d (kk _ hL)
      | 1, h => cases h
      | 2, h => cases h
    case dconst q =>
      match q, h with
      | 0, h =>
        cases h
        refine gl_st (fun n h1 h2 _ _ _ => ⟨h1, rgs_c rg_d h2⟩) (fun pc ad H locs lsC hE hL hR kk => ?_) k
        obtain ⟨d, rfl⟩ := dx_old (n := 1) rfl (fun _ => rfl) (fun _ => rfl) hE
        exact lv_dconst0 hC.1 hC.2.1 d (kk _ hL)
      | 1, h => cases h
    case iload k0 =>
      unfold stI at h
      dsimp only at h
      split at h
      next x hx =>
        cases h
        refine gl_st (fun n h1 h2 _ _ _ => ⟨h1, rgs_c (rgs_at h1 hx) h2⟩) (fun pc ad H locs lsC hE hL hR kk => ?_) k
        obtain ⟨j, d, hl, hJ⟩ := okE_dec (P := fun j => okJ z (codes.getD z []) pc j (.iload k0) ext) hE
        cases j with
        | iload a =>
          have ha : a = k0 := of_decide_eq_true hJ
          subst ha
          have hl : len = 2 := of_decide_eq_true hl
          subst hl
          exact lv_iload hC.1 hC.2.1 d (hL.2.2.2 _ _ hx rfl) (kk _ hL)
        | iload_n a =>
          have ha : a.val = k0 := of_decide_eq_true hJ
          have hl : len = 1 := of_decide_eq_true hl
          subst hl
          exact lv_iload_n hC.1 hC.2.1 d ha (hL.2.2.2 _ _ hx rfl) (kk _ hL)
        | _ => exact absurd hJ Bool.false_ne_true
      next => cases h
    case lload k0 =>
      unfold stI at h
      dsimp only at h
      split at h
      next x hx =>
        cases h
        refine gl_st (fun n h1 h2 _ _ _ => ⟨h1, rgs_c (rgs_at h1 hx) h2⟩) (fun pc ad H locs lsC hE hL hR kk => ?_) k
        obtain ⟨j, d, hl, hJ⟩ := okE_dec (P := fun j => okJ z (codes.getD z []) pc j (.lload k0) ext) hE
        cases j with
        | lload a =>
          have ha : a = k0 := of_decide_eq_true hJ
          subst ha
          have hl : len = 2 := of_decide_eq_true hl
          subst hl
          exact lv_lload hC.1 hC.2.1 d (hL.2.2.2 _ _ hx rfl) (kk _ hL)
        | lload_n a =>
          have ha : a.val = k0 := of_decide_eq_true hJ
          have hl : len = 1 := of_decide_eq_true hl
          subst hl
          exact lv_lload_n hC.1 hC.2.1 d ha (hL.2.2.2 _ _ hx rfl) (kk _ hL)
        | _ => exact absurd hJ Bool.false_ne_true
      next => cases h
    case aload k0 =>
      unfold stI at h
      dsimp only at h
      split at h
      next x hx =>
        cases h
        refine gl_st (fun n h1 h2 _ _ _ => ⟨h1, rgs_c (rgs_at h1 hx) h2⟩) (fun pc ad H locs lsC hE hL hR kk => ?_) k
        obtain ⟨j, d, hl, hJ⟩ := okE_dec (P := fun j => okJ z (codes.getD z []) pc j (.aload k0) ext) hE
        cases j with
        | aload a =>
          have ha : a = k0 := of_decide_eq_true hJ
          subst ha
          have hl : len = 2 := of_decide_eq_true hl
          subst hl
          exact lv_aload hC.1 hC.2.1 d (hL.2.2.2 _ _ hx rfl) (kk _ hL)
        | aload_n a =>
          have ha : a.val = k0 := of_decide_eq_true hJ
          have hl : len = 1 := of_decide_eq_true hl
          subst hl
          exact lv_aload_n hC.1 hC.2.1 d ha (hL.2.2.2 _ _ hx rfl) (kk _ hL)
        | _ => exact absurd hJ Bool.false_ne_true
      next => cases h
    case fload k0 =>
      unfold stI at h
      dsimp only at h
      split at h
      next x hx =>
        cases h
        refine gl_st (fun n h1 h2 _ _ _ => ⟨h1, rgs_c (rgs_at h1 hx) h2⟩) (fun pc ad H locs lsC hE hL hR kk => ?_) k
        obtain ⟨d, rfl⟩ := dx_old (n := 2) rfl (fun _ => rfl) (fun _ => rfl) hE
        exact lv_fload hC.1 hC.2.1 d (hL.2.2.2 _ _ hx rfl) (kk _ hL)
      next => cases h
    case dload k0 =>
      unfold stI at h
      dsimp only at h
      split at h
      next x hx =>
        cases h
        refine gl_st (fun n h1 h2 _ _ _ => ⟨h1, rgs_c (rgs_at h1 hx) h2⟩) (fun pc ad H locs lsC hE hL hR kk => ?_) k
        obtain ⟨d, rfl⟩ := dx_old (n := 2) rfl (fun _ => rfl) (fun _ => rfl) hE
        exact lv_dload hC.1 hC.2.1 d (hL.2.2.2 _ _ hx rfl) (kk _ hL)
      next => cases h
    case istore k0 =>
      unfold stI at h
      dsimp only at h
      split at h
      next x st1 =>
        refine gl_s1 rfl rfl (fun n h1 h2 => ⟨rg_i, rgs_t h2⟩) (fun pc ad H locs lsC hE hL hn kk => ?_) h k
        obtain ⟨j, d, hl, hJ⟩ := okE_dec (P := fun j => okJ z (codes.getD z []) pc j (.istore k0) ext) hE
        cases j with
        | istore a =>
          have ha : a = k0 := of_decide_eq_true hJ
          subst ha
          have hl : len = 2 := of_decide_eq_true hl
          subst hl
          exact lv_istore hC.1 hC.2.1 d (Lr_has hL) hn rfl kk
        | istore_n a =>
          have ha : a.val = k0 := of_decide_eq_true hJ
          have hl : len = 1 := of_decide_eq_true hl
          subst hl
          exact lv_istore_n hC.1 hC.2.1 d ha (Lr_has hL) hn rfl kk
        | _ => exact absurd hJ Bool.false_ne_true
      next => cases h
    case astore k0 =>
      unfold stI at h
      dsimp only at h
      split at h
      next x st1 =>
        refine gl_s1 rfl rfl (fun n h1 h2 => ⟨(rgs_h h2), rgs_t h2⟩) (fun pc ad H locs lsC hE hL hn kk => ?_) h k
        obtain ⟨j, d, hl, hJ⟩ := okE_dec (P := fun j => okJ z (codes.getD z []) pc j (.astore k0) ext) hE
        cases j with
        | astore a =>
          have ha : a = k0 := of_decide_eq_true hJ
          subst ha
          have hl : len = 2 := of_decide_eq_true hl
          subst hl
          exact lv_astore hC.1 hC.2.1 d (Lr_has hL) hn rfl kk
        | astore_n a =>
          have ha : a.val = k0 := of_decide_eq_true hJ
          have hl : len = 1 := of_decide_eq_true hl
          subst hl
          exact lv_astore_n hC.1 hC.2.1 d ha (Lr_has hL) hn rfl kk
        | _ => exact absurd hJ Bool.false_ne_true
      next => cases h
    case lstore k0 =>
      unfold stI at h
      dsimp only at h
      split at h
      next x st1 =>
        refine gl_s2 rfl (fun n h1 h2 => ⟨rg_l, rgs_t h2⟩) (fun pc ad H locs lsC hE hL hn kk => ?_) h k
        obtain ⟨j, d, hl, hJ⟩ := okE_dec (P := fun j => okJ z (codes.getD z []) pc j (.lstore k0) ext) hE
        cases j with
        | lstore a =>
          have ha : a = k0 := of_decide_eq_true hJ
          subst ha
          have hl : len = 2 := of_decide_eq_true hl
          subst hl
          exact lv_lstore hC.1 hC.2.1 d (Lr_has hL) hn rfl kk
        | lstore_n a =>
          have ha : a.val = k0 := of_decide_eq_true hJ
          have hl : len = 1 := of_decide_eq_true hl
          subst hl
          exact lv_lstore_n hC.1 hC.2.1 d ha (Lr_has hL) hn rfl kk
        | _ => exact absurd hJ Bool.false_ne_true
      next => cases h
    case fstore k0 =>
      unfold stI at h
      dsimp only at h
      split at h
      next x st1 =>
        refine gl_s1 rfl rfl (fun n h1 h2 => ⟨rg_f, rgs_t h2⟩) (fun pc ad H locs lsC hE hL hn kk => ?_) h k
        obtain ⟨d, rfl⟩ := dx_old (n := 2) rfl (fun _ => rfl) (fun _ => rfl) hE
        exact lv_fstore hC.1 hC.2.1 d (Lr_has hL) hn rfl kk
      next => cases h
    case dstore k0 =>
      unfold stI at h
      dsimp only at h
      split at h
      next x st1 =>
        refine gl_s2 rfl (fun n h1 h2 => ⟨rg_d, rgs_t h2⟩) (fun pc ad H locs lsC hE hL hn kk => ?_) h k
        obtain ⟨d, rfl⟩ := dx_old (n := 2) rfl (fun _ => rfl) (fun _ => rfl) hE
        exact lv_dstore hC.1 hC.2.1 d (Lr_has hL) hn rfl kk
      next => cases h
    case iinc k0 n0 =>
      unfold stI at h
      dsimp only at h
      split at h
      next x hx =>
        refine gl_s1 rfl rfl (fun n h1 h2 => ⟨rg_i, h2⟩) (fun pc ad H locs lsC hE hL hn kk => ?_) h k
        obtain ⟨d, rfl⟩ := dx_old (n := 3) rfl (fun _ => rfl) (fun _ => rfl) hE
        obtain ⟨k9, hk9⟩ := List.getElem?_of_mem ((lvl_in (ad := ad)).mpr ⟨_, hx, rfl, rfl⟩)
        exact lv_iinc hC.1 hC.2.1 d (Lr_has hL) hk9 rfl hn rfl kk
      next => cases h
    case dup =>
      unfold stI at h
      dsimp only at h
      split at h
      next x st1 =>
        cases h
        refine gl_st (fun n h1 h2 _ _ _ => ⟨h1, rgs_c (rgs_h h2) h2⟩) (fun pc ad H locs lsC hE hL hR kk => ?_) k
        obtain ⟨d, rfl⟩ := dx_old (n := 1) rfl (fun _ => rfl) (fun _ => rfl) hE
        exact lv_dup hC.1 hC.2.1 d rfl (kk _ hL)
      next x st1 =>
        cases h
        refine gl_st (fun n h1 h2 _ _ _ => ⟨h1, rgs_c (rgs_h h2) h2⟩) (fun pc ad H locs lsC hE hL hR kk => ?_) k
        obtain ⟨d, rfl⟩ := dx_old (n := 1) rfl (fun _ => rfl) (fun _ => rfl) hE
        exact lv_dup hC.1 hC.2.1 d rfl (kk _ hL)
      next => cases h
    case dup2 =>
      unfold stI at h
      dsimp only at h
      split at h
      next x y st1 =>
        cases h
        refine gl_st (fun n h1 h2 _ _ _ => ⟨h1, rgs_c (rgs_h h2) (rgs_c (rgs_h (rgs_t h2)) h2)⟩) (fun pc ad H locs lsC hE hL hR kk => ?_) k
        obtain ⟨d, rfl⟩ := dx_old (n := 1) rfl (fun _ => rfl) (fun _ => rfl) hE
        exact lv_dup2_11 hC.1 hC.2.1 d rfl rfl (kk _ hL)
      next => cases h
    case pop =>
      unfold stI at h
      dsimp only at h
      split at h
      next x st1 =>
        cases h
        refine gl_st (fun n h1 h2 _ _ _ => ⟨h1, rgs_t h2⟩) (fun pc ad H locs lsC hE hL hR kk => ?_) k
        obtain ⟨d, rfl⟩ := dx_old (n := 1) rfl (fun _ => rfl) (fun _ => rfl) hE
        exact lv_pop hC.1 hC.2.1 d rfl (kk _ hL)
      next x st1 =>
        cases h
        refine gl_st (fun n h1 h2 _ _ _ => ⟨h1, rgs_t h2⟩) (fun pc ad H locs lsC hE hL hR kk => ?_) k
        obtain ⟨d, rfl⟩ := dx_old (n := 1) rfl (fun _ => rfl) (fun _ => rfl) hE
        exact lv_pop hC.1 hC.2.1 d rfl (kk _ hL)
      next => cases h
    case ifCond cnd off =>
      unfold stI at h
      dsimp only at h
      split at h
      next b x st1 =>
        split at h
        next hq =>
          cases h
          refine gl_jp (b := b) (fun n h2 => (rgs_t h2)) (fun pc ad H locs lsC hE hL hR kk => ?_) k
          obtain ⟨d, rfl, ht⟩ := dx_new (n := 3) rfl (fun _ => rfl) (fun _ => rfl) hE
          have ht := of_decide_eq_true ht
          cases cnd with
          | eq => exact lv_if_eq hC.1 hC.2.1 d ht (fun _ => kk) (fun hn => absurd (of_decide_eq_true hq) hn)
          | ne => exact lv_if_ne hC.1 hC.2.1 d ht (fun _ => kk) (fun hn => absurd hn (brn hq))
          | lt => exact lv_if_lt hC.1 hC.2.1 d ht (fun _ => kk) (fun hn => absurd (of_decide_eq_true hq) hn)
          | ge => exact lv_if_ge hC.1 hC.2.1 d ht (fun _ => kk) (fun hn => absurd (of_decide_eq_true hq) hn)
          | gt => exact lv_if_gt hC.1 hC.2.1 d ht (fun _ => kk) (fun hn => absurd (of_decide_eq_true hq) hn)
          | le => exact lv_if_le hC.1 hC.2.1 d ht (fun _ => kk) (fun hn => absurd (of_decide_eq_true hq) hn)
        next hq =>
          cases h
          refine gl_st (fun n h1 h2 _ _ _ => ⟨h1, (rgs_t h2)⟩) (fun pc ad H locs lsC hE hL hR kk => ?_) k
          obtain ⟨d, rfl, ht⟩ := dx_new (n := 3) rfl (fun _ => rfl) (fun _ => rfl) hE
          have ht := of_decide_eq_true ht
          cases cnd with
          | eq => exact lv_if_eq hC.1 hC.2.1 d ht (fun hn => absurd (decide_eq_true hn) hq) (fun _ => kk _ hL)
          | ne => exact lv_if_ne hC.1 hC.2.1 d ht (fun hn => absurd (brp hn) hq) (fun _ => kk _ hL)
          | lt => exact lv_if_lt hC.1 hC.2.1 d ht (fun hn => absurd (decide_eq_true hn) hq) (fun _ => kk _ hL)
          | ge => exact lv_if_ge hC.1 hC.2.1 d ht (fun hn => absurd (decide_eq_true hn) hq) (fun _ => kk _ hL)
          | gt => exact lv_if_gt hC.1 hC.2.1 d ht (fun hn => absurd (decide_eq_true hn) hq) (fun _ => kk _ hL)
          | le => exact lv_if_le hC.1 hC.2.1 d ht (fun hn => absurd (decide_eq_true hn) hq) (fun _ => kk _ hL)
      next => cases h
    case if_icmp cnd off =>
      unfold stI at h
      dsimp only at h
      split at h
      next b y x st1 =>
        split at h
        next hq =>
          cases h
          refine gl_jp (b := b) (fun n h2 => (rgs_t (rgs_t h2))) (fun pc ad H locs lsC hE hL hR kk => ?_) k
          obtain ⟨d, rfl, ht⟩ := dx_new (n := 3) rfl (fun _ => rfl) (fun _ => rfl) hE
          have ht := of_decide_eq_true ht
          cases cnd with
          | eq => exact lv_icmp_eq hC.1 hC.2.1 d ht (fun _ => kk) (fun hn => absurd (of_decide_eq_true hq) hn)
          | ne => exact lv_icmp_ne hC.1 hC.2.1 d ht (fun _ => kk) (fun hn => absurd hn (brn hq))
          | lt => exact lv_icmp_lt hC.1 hC.2.1 d ht (fun _ => kk) (fun hn => absurd (of_decide_eq_true hq) hn)
          | ge => exact lv_icmp_ge hC.1 hC.2.1 d ht (fun _ => kk) (fun hn => absurd (of_decide_eq_true hq) hn)
          | gt => exact lv_icmp_gt hC.1 hC.2.1 d ht (fun _ => kk) (fun hn => absurd (of_decide_eq_true hq) hn)
          | le => exact lv_icmp_le hC.1 hC.2.1 d ht (fun _ => kk) (fun hn => absurd (of_decide_eq_true hq) hn)
        next hq =>
          cases h
          refine gl_st (fun n h1 h2 _ _ _ => ⟨h1, (rgs_t (rgs_t h2))⟩) (fun pc ad H locs lsC hE hL hR kk => ?_) k
          obtain ⟨d, rfl, ht⟩ := dx_new (n := 3) rfl (fun _ => rfl) (fun _ => rfl) hE
          have ht := of_decide_eq_true ht
          cases cnd with
          | eq => exact lv_icmp_eq hC.1 hC.2.1 d ht (fun hn => absurd (decide_eq_true hn) hq) (fun _ => kk _ hL)
          | ne => exact lv_icmp_ne hC.1 hC.2.1 d ht (fun hn => absurd (brp hn) hq) (fun _ => kk _ hL)
          | lt => exact lv_icmp_lt hC.1 hC.2.1 d ht (fun hn => absurd (decide_eq_true hn) hq) (fun _ => kk _ hL)
          | ge => exact lv_icmp_ge hC.1 hC.2.1 d ht (fun hn => absurd (decide_eq_true hn) hq) (fun _ => kk _ hL)
          | gt => exact lv_icmp_gt hC.1 hC.2.1 d ht (fun hn => absurd (decide_eq_true hn) hq) (fun _ => kk _ hL)
          | le => exact lv_icmp_le hC.1 hC.2.1 d ht (fun hn => absurd (decide_eq_true hn) hq) (fun _ => kk _ hL)
      next => cases h
    case ifnull off =>
      unfold stI at h
      dsimp only at h
      split at h
      next x st1 =>
        cases h
        refine gl_st (fun n h1 h2 _ _ _ => ⟨h1, rgs_t h2⟩) (fun pc ad H locs lsC hE hL hR kk => ?_) k
        obtain ⟨d, rfl, ht⟩ := dx_new (n := 3) rfl (fun _ => rfl) (fun _ => rfl) hE
        exact lv_ifnull hC.1 hC.2.1 d (kk _ hL)
      next => cases h
    case goto off =>
      unfold stI at h
      dsimp only at h
      split at h
      next b =>
        cases h
        refine gl_jp (b := b) (fun n h2 => h2) (fun pc ad H locs lsC hE hL hR kk => ?_) k
        obtain ⟨d, rfl, ht⟩ := dx_new (n := 3) rfl (fun _ => rfl) (fun _ => rfl) hE
        exact lv_goto hC.1 hC.2.1 d (of_decide_eq_true ht) kk
      next => cases h
    case nop =>
      unfold stI at h
      dsimp only at h
      split at h
      next b =>
        cases h
        refine gl_jp (b := b) (fun n h2 => h2) (fun pc ad H locs lsC hE hL hR kk => ?_) k
        have hE : (decide (len = 0) && decide (hpc (codes.getD z []) b = pc)) = true := hE
        rw [of_decide_eq_true (Bool.and_eq_true_iff.mp hE).2] at kk
        exact kk
      next => cases h
    case tableswitch dft lo hi offs =>
      unfold stI at h
      dsimp only at h
      split at h
      next b ts x st1 =>
        cases h
        refine gl_jp (b := swt b ts lo x) (fun n h2 => rgs_t h2) (fun pc ad H locs lsC hE hL hR kk => ?_) k
        have hE2 : (match decode (mB z) pc with | .ok (j, l) => decide (l = len) && lnOk j l && (decide (j = Instr.tableswitch dft lo hi offs) && (okB (codes.getD z []) pc dft b && decide (ts.length = offs.size) && decide (hi = lo + (ts.length : Int) - 1) && decide (-1000 ≤ lo) && decide (hi ≤ 1000) && (List.range ts.length).all (fun q => okB (codes.getD z []) pc (offs.getD q 0) (ts.getD q 0)))) | .error _ => false) = true := hE
        have hd : ∃ l0, decode (mB z) pc = .ok (.tableswitch dft lo hi offs, l0) ∧ okB (codes.getD z []) pc dft b = true ∧ ts.length = offs.size ∧ hi = lo + (ts.length : Int) - 1 ∧ -1000 ≤ lo ∧ hi ≤ 1000 ∧ ∀ q, q < ts.length → okB (codes.getD z []) pc (offs.getD q 0) (ts.getD q 0) = true := by
          cases hq : decode (mB z) pc with
          | error _ => rw [hq] at hE2; cases hE2
          | ok q =>
            obtain ⟨j, l⟩ := q
            rw [hq] at hE2
            simp only [Bool.and_eq_true, decide_eq_true_eq, List.all_eq_true, List.mem_range] at hE2
            obtain ⟨⟨-, -⟩, rfl, ⟨⟨⟨⟨h1, h2⟩, h3⟩, h4⟩, h5⟩, h6⟩ := hE2
            exact ⟨l, rfl, h1, h2, h3, h4, h5, h6⟩
        obtain ⟨l0, d, g1, g2, g3, g4, g5, g6⟩ := hd
        by_cases hin : x.toInt < lo ∨ hi < x.toInt
        · rw [swt_out ts lo g4 (by omega) (by omega)] at kk
          exact lv_tableOut hC.1 hC.2.1 d hin (of_decide_eq_true g1) kk
        · have hq : (x.toInt - lo).toNat < ts.length := by omega
          rw [swt_in ts lo (x.toInt - lo).toNat hq g4 (by omega) (by omega)] at kk
          have ho : offs[(x.toInt - lo).toNat]? = some (offs.getD (x.toInt - lo).toNat 0) := by
            rw [Array.getD_eq_getD_getElem?, Array.getElem?_eq_getElem (by omega)]
            rfl
          exact lv_tableIn hC.1 hC.2.1 d (fun q => hin (Or.inl q)) (fun q => hin (Or.inr q)) ho (of_decide_eq_true (g6 _ hq)) kk
      next => cases h
    case getfield n =>
      exact gl_getfield hC hS h k
    case putfield n =>
      exact gl_putfield hC hS h k
    case getstatic n =>
      exact gl_getstatic hC hS h k
    case iaload =>
      exact gl_iaload hC hS h k
    case iastore =>
      exact gl_iastore hC hS h k
    case baload =>
      exact gl_baload hC hS h k
    case bastore =>
      exact gl_bastore hC hS h k
    case laload =>
      exact gl_laload hC hS h k
    case lastore =>
      exact gl_lastore hC hS h k
    case daload =>
      exact gl_daload hC hS h k
    case dastore =>
      exact gl_dastore hC hS h k
    case aaload =>
      exact gl_aaload hC hS h k
    case aastore =>
      exact gl_aastore hC hS h k
    case arraylength =>
      exact gl_arraylength hC hS h k
    case new n =>
      exact gl_new hC hS hcap h k
    case newarray n =>
      exact gl_newarray hC hS hcap h k
    case anewarray n =>
      exact gl_anewarray hC hS hcap h k
    case multianewarray a b =>
      exact gl_multi hC hS hcap h k
    case invokevirtual n =>
      unfold stI at h
      dsimp only at h
      split at h
      next => exact (sCall_no h).elim
      next => cases h
    case invokespecial n =>
      match ext, h with
      | [p1], h => exact gl_oi hC hS hcap h k
      | [y, n1, c1, q1], h => exact (sCall_no h).elim
      | [], h => cases h
      | [_, _], h => cases h
      | [_, _, _], h => cases h
      | _ :: _ :: _ :: _ :: _ :: _, h => cases h
    case invokestatic n =>
      match ext, h with
      | [p1], h => exact gl_copy hC hS h k
      | [p1, 0], h => exact gl_mx hC hS hcap h k
      | [p1, 1], h => exact gl_mn hC hS hcap h k
      | [y, n1, c1, q1], h => exact (sCall_no h).elim
      | [], h => cases h
      | [_, q + 2], h => cases h
      | [_, _, _], h => cases h
      | _ :: _ :: _ :: _ :: _ :: _, h => cases h
    case athrow =>
      unfold stI at h
      dsimp only at h
      split at h
      next => first | cases h | (split at h <;> cases h)
      next => cases h
    case ireturn =>
      unfold stI at h
      dsimp only at h
      split at h
      next => first | cases h | (split at h <;> cases h)
      next => cases h
    case freturn =>
      unfold stI at h
      dsimp only at h
      split at h
      next => cases h
      next => cases h
    case dreturn =>
      unfold stI at h
      dsimp only at h
      split at h
      next => cases h
      next => cases h
    case areturn =>
      unfold stI at h
      dsimp only at h
      split at h
      next => cases h
      next => cases h
    case return_ =>
      unfold stI at h
      dsimp only at h
      split at h
      next => cases h
      next => cases h
    all_goals (cases h)
