/-! ENTRIES OF ARRAYS -/
theorem rv_rf (ad : Nat → Nat) (o : Option Nat) : va_rf (o.map ad) = cv ad (rv o) := by cases o <;> rfl
theorem le1 : ∀ q : Nat, q ≤ 1 → q = 0 ∨ q = 1 := fun q h => by omega
theorem inb_in {i : Int32} {n : Nat} (h : inb i n) : vp_in i n := fun q => q.elim h.1 (fun q => absurd h.2 (Nat.not_lt.mpr q))
theorem no_old {z pc len : Nat} {i : Instr} {ext : List Nat} {bs : List (List En)} (hE : okE z bs (pc, i, len, ext) = (match decode (mB z) pc with | .ok (j, l) => decide (l = len) && lnOk j l && okJ z bs pc j i ext | .error _ => false))
    (hJ : ∀ j, okJ z bs pc j i ext = (decide (j = i) && isOld i)) (ho : isOld i = false) (h : okE z bs (pc, i, len, ext) = true) : False := by
  rw [hE] at h
  obtain ⟨j, h1, h2, h3⟩ := okE_dec h
  rw [hJ, ho, Bool.and_false] at h3
  cases h3
section ARR
variable {z : Nat} {D : va_G} {ty : Nat → ClassId} {b0 : Nat} {σ0 : St} {ad0 : Nat → Nat} {p : Program} {l : Launch} {e : Env} {R : Room} {s : State} {m : MethodId} {args : Array Value} {below : List Frame} {meth : Method} {c : Code} {Q : State → Prop}
variable {i : Instr} {pc0 len : Nat} {ext : List Nat} {r : List En} {ls st : List Value} {σ : St} {f' : Fr}
theorem gl_iaload (hC : Cx z p l R s m meth c) (hS : Sx D ty b0 ad0 σ0 s) (h : stI z .iaload ext r ls st σ = some (.inl f')) (k : Gl z D ty b0 σ0 ad0 p l e R s m args below meth c Q f') : Gl z D ty b0 σ0 ad0 p l e R s m args below meth c Q ((pc0, .iaload, len, ext) :: r, ls, st, σ) := by
  unfold stI at h
  dsimp only at h
  split at h
  next x0 p0 st1 =>
    split at h
    next hk =>
      cases h
      refine gl_st (fun n h1 h2 _ _ _ => ⟨h1, rgs_c rg_i (rgs_t (rgs_t h2))⟩) (fun pc ad H locs lsC hE hL hR kk => ?_) k
      obtain ⟨d, rfl⟩ := dx_old (n := 1) rfl (fun _ => rfl) (fun _ => rfl) hE
      obtain ⟨hk1, hin⟩ := hk
      by_cases h10 : gK σ p0 = 10
      · have hi := okS_lt hR.2.2.2.1 h10 (by omega) (by omega) (by omega)
        exact va_iald hC.1 hC.2.1 hS.1 hR.1 (ix σ p0) 0 (by rw [rh_at hR hi, entE_10 h10]) rfl (inb_in hin) d (kk _ hL)
      · have hp : p0 = 1 ∨ (p0 = 0 ∧ gK σ 0 = 20) := hk1.resolve_left h10
        obtain ⟨q1, q2, q3, q4, q5, q6, q7, q8, f0, f1, f3, f4⟩ := hR
        rcases hp with rfl | ⟨rfl, h20⟩
        rotate_left
        · have h20 : gK σ0 0 = 20 := f0.symm.trans h20
          have e0 : ad 0 = ad0 0 := q6 0 (by omega)
          have hX := hS.2.2.1 h20
          rw [← e0, ← (f1 h20).1, ← (f1 h20).2] at hX
          have hb : ad 0 < b0 := by rw [e0]; exact hS.2.2.2.2.2.2.2.2.1 h20
          exact va_sld hC.1 hC.2.1 hX (Nat.lt_of_lt_of_le hb hS.2.2.2.2.2.2.2.2.2.2) (Nat.not_le.mpr hb) q3 (inb_in hin) d (kk _ hL)
        · have e0 : ad 1 = ad0 1 := q6 1 (by omega)
          have hX := hS.2.2.2.1
          rw [← e0, ← f3, ← f4] at hX
          have hb : ad 1 < b0 := by rw [e0]; exact hS.2.2.2.2.2.2.2.2.2.1
          exact va_sld hC.1 hC.2.1 hX (Nat.lt_of_lt_of_le hb hS.2.2.2.2.2.2.2.2.2.2) (Nat.not_le.mpr hb) q3 (inb_in hin) d (kk _ hL)
    next => cases h
  next => cases h
theorem gl_arraylength (hC : Cx z p l R s m meth c) (hS : Sx D ty b0 ad0 σ0 s) (h : stI z .arraylength ext r ls st σ = some (.inl f')) (k : Gl z D ty b0 σ0 ad0 p l e R s m args below meth c Q f') : Gl z D ty b0 σ0 ad0 p l e R s m args below meth c Q ((pc0, .arraylength, len, ext) :: r, ls, st, σ) := by
  unfold stI at h
  dsimp only at h
  split at h
  next p0 st1 =>
    split at h
    next hk =>
      cases h
      refine gl_st (fun n h1 h2 _ _ _ => ⟨h1, rgs_c rg_i (rgs_t h2)⟩) (fun pc ad H locs lsC hE hL hR kk => ?_) k
      obtain ⟨d, rfl⟩ := dx_old (n := 1) rfl (fun _ => rfl) (fun _ => rfl) hE
      by_cases h10 : 10 ≤ gK σ p0 ∧ gK σ p0 ≤ 18
      · have hi := okS_lt (k := gK σ p0) hR.2.2.2.1 rfl (by omega) (by omega) (by omega)
        obtain ⟨a, ha⟩ := entE_a (ty := ty) (ad := ad) h10.1 h10.2
        obtain ⟨t, ht⟩ := tyL_at ty h10.1 h10.2
        exact va_alen (x := (gN σ p0, a)) hC.1 hC.2.1 hS.1 hR.1 (ix σ p0) _ (by rw [rh_at hR hi, ha]) ht rfl d (kk _ hL)
      · have hp : p0 = 1 ∨ (p0 = 0 ∧ gK σ 0 = 20) := hk.resolve_left h10
        obtain ⟨q1, q2, q3, q4, q5, q6, q7, q8, f0, f1, f3, f4⟩ := hR
        rcases hp with rfl | ⟨rfl, h20⟩
        rotate_left
        · have h20 : gK σ0 0 = 20 := f0.symm.trans h20
          have e0 : ad 0 = ad0 0 := q6 0 (by omega)
          have hX := hS.2.2.1 h20
          rw [← e0, ← (f1 h20).1, ← (f1 h20).2] at hX
          have hb : ad 0 < b0 := by rw [e0]; exact hS.2.2.2.2.2.2.2.2.1 h20
          exact va_slen hC.1 hC.2.1 hX (Nat.lt_of_lt_of_le hb hS.2.2.2.2.2.2.2.2.2.2) (Nat.not_le.mpr hb) q3 d (kk _ hL)
        · have e0 : ad 1 = ad0 1 := q6 1 (by omega)
          have hX := hS.2.2.2.1
          rw [← e0, ← f3, ← f4] at hX
          have hb : ad 1 < b0 := by rw [e0]; exact hS.2.2.2.2.2.2.2.2.2.1
          exact va_slen hC.1 hC.2.1 hX (Nat.lt_of_lt_of_le hb hS.2.2.2.2.2.2.2.2.2.2) (Nat.not_le.mpr hb) q3 d (kk _ hL)
    next => cases h
  next => cases h
theorem gl_baload (hC : Cx z p l R s m meth c) (hS : Sx D ty b0 ad0 σ0 s) (h : stI z .baload ext r ls st σ = some (.inl f')) (k : Gl z D ty b0 σ0 ad0 p l e R s m args below meth c Q f') : Gl z D ty b0 σ0 ad0 p l e R s m args below meth c Q ((pc0, .baload, len, ext) :: r, ls, st, σ) := by
  unfold stI at h
  dsimp only at h
  split at h
  next x0 p0 st1 =>
    split at h
    next hk =>
      cases h
      refine gl_st (fun n h1 h2 _ _ _ => ⟨h1, rgs_c rg_i (rgs_t (rgs_t h2))⟩) (fun pc ad H locs lsC hE hL hR kk => ?_) k
      obtain ⟨d, rfl⟩ := dx_old (n := 1) rfl (fun _ => rfl) (fun _ => rfl) hE
      have hi := okS_lt hR.2.2.2.1 hk.1 (by omega) (by omega) (by omega)
      exact va_zald hC.1 hC.2.1 hS.1 hR.1 (ix σ p0) 1 (by rw [rh_at hR hi, entE_11 hk.1]) rfl (inb_in hk.2) d (kk _ hL)
    next => cases h
  next => cases h
theorem gl_laload (hC : Cx z p l R s m meth c) (hS : Sx D ty b0 ad0 σ0 s) (h : stI z .laload ext r ls st σ = some (.inl f')) (k : Gl z D ty b0 σ0 ad0 p l e R s m args below meth c Q f') : Gl z D ty b0 σ0 ad0 p l e R s m args below meth c Q ((pc0, .laload, len, ext) :: r, ls, st, σ) := by
  intro pc ad H locs lsC hh
  exact (no_old rfl (fun _ => rfl) rfl (fk_e hh.1).2.1).elim
theorem gl_daload (hC : Cx z p l R s m meth c) (hS : Sx D ty b0 ad0 σ0 s) (h : stI z .daload ext r ls st σ = some (.inl f')) (k : Gl z D ty b0 σ0 ad0 p l e R s m args below meth c Q f') : Gl z D ty b0 σ0 ad0 p l e R s m args below meth c Q ((pc0, .daload, len, ext) :: r, ls, st, σ) := by
  intro pc ad H locs lsC hh
  exact (no_old rfl (fun _ => rfl) rfl (fk_e hh.1).2.1).elim
theorem tyL_r (ty : Nat → ClassId) {k : Nat} (h : isRA k = true) : ∃ t, (tyL ty)[k - 10]? = some (ty (k - 10), t) ∧ t.isReference = true := isRA_c (P := fun k => ∃ t, (tyL ty)[k - 10]? = some (ty (k - 10), t) ∧ t.isReference = true) h ⟨_, rfl, rfl⟩ ⟨_, rfl, rfl⟩ ⟨_, rfl, rfl⟩ ⟨_, rfl, rfl⟩ ⟨_, rfl, rfl⟩ ⟨_, rfl, rfl⟩
theorem gl_aaload (hC : Cx z p l R s m meth c) (hS : Sx D ty b0 ad0 σ0 s) (h : stI z .aaload ext r ls st σ = some (.inl f')) (k : Gl z D ty b0 σ0 ad0 p l e R s m args below meth c Q f') : Gl z D ty b0 σ0 ad0 p l e R s m args below meth c Q ((pc0, .aaload, len, ext) :: r, ls, st, σ) := by
  unfold stI at h
  dsimp only at h
  split at h
  next x0 p0 st1 =>
    split at h
    next hk =>
      cases h
      refine gl_st (fun n h1 h2 h3 _ _ => ⟨h1, rgs_c (h3 _ _) (rgs_t (rgs_t h2))⟩) (fun pc ad H locs lsC hE hL hR kk => ?_) k
      obtain ⟨d, rfl⟩ := dx_old (n := 1) rfl (fun _ => rfl) (fun _ => rfl) hE
      obtain ⟨hk1, hin⟩ := hk
      have hi := okS_lt hR.2.2.2.1 rfl (fun h => by rw [h] at hk1; cases hk1) (fun h => by rw [h] at hk1; cases hk1) (fun h => by rw [h] at hk1; cases hk1)
      obtain ⟨t, ht, hr⟩ := tyL_r ty hk1
      have hat := hR.1 (ix σ p0) _ (by rw [rh_at hR hi, entE_r hk1])
      have kk := kk _ hL
      rw [List.map_cons, ← rv_rf] at kk
      exact W.aald (v := va_rf ((gR σ p0 x0.toNatClampNeg).map ad)) (ty := t) hC.1 hC.2.1 hat ((hS.1.2 _ _ ht).1 (gN σ p0) (fun j => va_rf ((gR σ p0 j).map ad))) hr (fun q => by cases q)
        (by show ¬ (x0 < 0 ∨ (arrV _ _ _).slots.size ≤ _); rw [arrV_size]; exact inb_in hin) (by show (arrV _ _ _).slots[_]? = _; rw [arrV_read _ _ hin.2]) rfl rfl d kk
    next => cases h
  next => cases h
theorem gl_iastore (hC : Cx z p l R s m meth c) (hS : Sx D ty b0 ad0 σ0 s) (h : stI z .iastore ext r ls st σ = some (.inl f')) (k : Gl z D ty b0 σ0 ad0 p l e R s m args below meth c Q f') : Gl z D ty b0 σ0 ad0 p l e R s m args below meth c Q ((pc0, .iastore, len, ext) :: r, ls, st, σ) := by
  unfold stI at h
  dsimp only at h
  split at h
  next x y p0 st1 =>
    split at h
    next hk =>
      cases h
      intro pc ad H locs lsC hh
      have hi := okS_lt hh.2.2.2.2.2.2.2.1 hk.1 (by omega) (by omega) (by omega)
      have hi : okp σ p0 := hi
      refine gl_set (p0 := p0) (σ := σ) (σ' := setI σ p0 y.toNatClampNeg x) (st' := st1) (fun _ => hi) rfl rfl rfl (fun q ad hq => entE_c rfl rfl (fun j => by rw [gI_I, if_neg (fun h => hq h.1)]) (fun _ => rfl) (fun _ => rfl) (fun _ => rfl)) (fun h _ => h) (fun _ => fx_I hi)
        (fun _ h => rgs_t (rgs_t (rgs_t h))) (fun pc ad H locs lsC hE hL hR kk => ?_) k pc ad H locs lsC hh
      obtain ⟨d, rfl⟩ := dx_old (n := 1) rfl (fun _ => rfl) (fun _ => rfl) hE
      have hent : ((ad p0, .inl (ty 0, gN σ p0, .inl (upd (gI σ p0) y.toNatClampNeg x))) : Nat × va_E) = (ad p0, entE ty ad (setI σ p0 y.toNatClampNeg x) p0) := by
        rw [entE_10 (show gK (setI σ p0 y.toNatClampNeg x) p0 = 10 from hk.1)]
        refine congrArg (fun g => ((ad p0, .inl (ty 0, gN σ p0, .inl g)) : Nat × va_E)) (funext fun j => ?_)
        rw [gI_I]
        simp [upd]
      rw [← hent] at kk
      exact va_iast hC.1 hC.2.1 hS.1 hR.1 hR.2.1 hR.2.2.1 (ix σ p0) 0 (by rw [rh_at hR hi, entE_10 hk.1]) rfl (inb_in hk.2) d kk
    next => cases h
  next => cases h
theorem gl_bastore (hC : Cx z p l R s m meth c) (hS : Sx D ty b0 ad0 σ0 s) (h : stI z .bastore ext r ls st σ = some (.inl f')) (k : Gl z D ty b0 σ0 ad0 p l e R s m args below meth c Q f') : Gl z D ty b0 σ0 ad0 p l e R s m args below meth c Q ((pc0, .bastore, len, ext) :: r, ls, st, σ) := by
  unfold stI at h
  dsimp only at h
  split at h
  next x y p0 st1 =>
    split at h
    next hk =>
      cases h
      intro pc ad H locs lsC hh
      have hi := okS_lt hh.2.2.2.2.2.2.2.1 hk.1 (by omega) (by omega) (by omega)
      have hi : okp σ p0 := hi
      refine gl_set (p0 := p0) (σ := σ) (σ' := setI σ p0 y.toNatClampNeg (vp_nar .boolean x)) (st' := st1) (fun _ => hi) rfl rfl rfl (fun q ad hq => entE_c rfl rfl (fun j => by rw [gI_I, if_neg (fun h => hq h.1)]) (fun _ => rfl) (fun _ => rfl) (fun _ => rfl)) (fun h _ => h) (fun _ => fx_I hi)
        (fun _ h => rgs_t (rgs_t (rgs_t h))) (fun pc ad H locs lsC hE hL hR kk => ?_) k pc ad H locs lsC hh
      obtain ⟨d, rfl⟩ := dx_old (n := 1) rfl (fun _ => rfl) (fun _ => rfl) hE
      have hent : ((ad p0, .inl (ty 1, gN σ p0, .inl (upd (gI σ p0) y.toNatClampNeg (vp_nar .boolean x)))) : Nat × va_E) = (ad p0, entE ty ad (setI σ p0 y.toNatClampNeg (vp_nar .boolean x)) p0) := by
        rw [entE_11 (show gK (setI σ p0 y.toNatClampNeg (vp_nar .boolean x)) p0 = 11 from hk.1)]
        refine congrArg (fun g => ((ad p0, .inl (ty 1, gN σ p0, .inl g)) : Nat × va_E)) (funext fun j => ?_)
        rw [gI_I]
        simp [upd]
      rw [← hent] at kk
      exact va_zast hC.1 hC.2.1 hS.1 hR.1 hR.2.1 hR.2.2.1 (ix σ p0) 1 (by rw [rh_at hR hi, entE_11 hk.1]) rfl (inb_in hk.2) d kk
    next => cases h
  next => cases h
theorem gl_lastore (hC : Cx z p l R s m meth c) (hS : Sx D ty b0 ad0 σ0 s) (h : stI z .lastore ext r ls st σ = some (.inl f')) (k : Gl z D ty b0 σ0 ad0 p l e R s m args below meth c Q f') : Gl z D ty b0 σ0 ad0 p l e R s m args below meth c Q ((pc0, .lastore, len, ext) :: r, ls, st, σ) := by
  intro pc ad H locs lsC hh
  exact (no_old rfl (fun _ => rfl) rfl (fk_e hh.1).2.1).elim
theorem gl_dastore (hC : Cx z p l R s m meth c) (hS : Sx D ty b0 ad0 σ0 s) (h : stI z .dastore ext r ls st σ = some (.inl f')) (k : Gl z D ty b0 σ0 ad0 p l e R s m args below meth c Q f') : Gl z D ty b0 σ0 ad0 p l e R s m args below meth c Q ((pc0, .dastore, len, ext) :: r, ls, st, σ) := by
  intro pc ad H locs lsC hh
  exact (no_old rfl (fun _ => rfl) rfl (fk_e hh.1).2.1).elim
theorem ints_sub (hS : Sx D ty b0 ad0 σ0 s) : ∃ kA kC : Class, s.vm.classes[ty 8]? = some kA ∧ kA.kind = .array (ty 0) (.array .int) ∧ s.vm.classes[ty 0]? = some kC ∧ s.vm.assignable (ty 0) (ty 0) = true := by
  have hw : (Cond.arrayOver (.array .int)).before #[] s = true := hS.2.1 _ (wat_in arr_ints) rfl #[]
  obtain ⟨comp, c0, kA, h1, h2, h3, h4⟩ := Cond.arrayOver_specA hw
  have g8 : s.vm.findClass ("[" ++ (FieldType.array .int).toString) = some (ty 8) := (hS.1.2 8 _ rfl).2
  have g0 : s.vm.findClass ("[" ++ FieldType.int.toString) = some (ty 0) := (hS.1.2 0 _ rfl).2
  have e1 : c0 = ty 8 := Option.some.inj (h4.symm.trans g8)
  have e2 : comp = ty 0 := Option.some.inj (h1.symm.trans g0)
  subst e1
  subst e2
  obtain ⟨-, kC, hkC, cm, hkd⟩ := (hS.1.2 0 _ rfl).1 0 (fun _ => .null)
  refine ⟨kA, kC, h2, h3, hkC, ?_⟩
  show ((ty 0 == ty 0) || _) = true
  rw [beq_self_eq_true, Bool.true_or]
theorem bools_sub (hS : Sx D ty b0 ad0 σ0 s) : ∃ kA kC : Class, s.vm.classes[ty 9]? = some kA ∧ kA.kind = .array (ty 1) (.array .boolean) ∧ s.vm.classes[ty 1]? = some kC ∧ s.vm.assignable (ty 1) (ty 1) = true := by
  have hw : (Cond.arrayOver (.array .boolean)).before #[] s = true := hS.2.1 _ (wat_in arr_bools) rfl #[]
  obtain ⟨comp, c0, kA, h1, h2, h3, h4⟩ := Cond.arrayOver_specA hw
  have g8 : s.vm.findClass ("[" ++ (FieldType.array .boolean).toString) = some (ty 9) := (hS.1.2 9 _ rfl).2
  have g0 : s.vm.findClass ("[" ++ FieldType.boolean.toString) = some (ty 1) := (hS.1.2 1 _ rfl).2
  have e1 : c0 = ty 9 := Option.some.inj (h4.symm.trans g8)
  have e2 : comp = ty 1 := Option.some.inj (h1.symm.trans g0)
  subst e1
  subst e2
  obtain ⟨-, kC, hkC, cm, hkd⟩ := (hS.1.2 1 _ rfl).1 0 (fun _ => .null)
  refine ⟨kA, kC, h2, h3, hkC, ?_⟩
  show ((ty 1 == ty 1) || _) = true
  rw [beq_self_eq_true, Bool.true_or]
theorem gl_aastore (hC : Cx z p l R s m meth c) (hS : Sx D ty b0 ad0 σ0 s) (h : stI z .aastore ext r ls st σ = some (.inl f')) (k : Gl z D ty b0 σ0 ad0 p l e R s m args below meth c Q f') : Gl z D ty b0 σ0 ad0 p l e R s m args below meth c Q ((pc0, .aastore, len, ext) :: r, ls, st, σ) := by
  unfold stI at h
  dsimp only at h
  split at h
  next x y p0 st1 =>
    split at h
    next hk =>
      cases h
      intro pc ad H locs lsC hh
      obtain ⟨hk1, hk2, hin⟩ := hk
      have hi := okS_lt hh.2.2.2.2.2.2.2.1 rfl (fun h => by rw [h] at hk1; cases hk1) (fun h => by rw [h] at hk1; cases hk1) (fun h => by rw [h] at hk1; cases hk1)
      have hx : x < gx σ + 2 := hh.2.2.2.1 (.ref x) List.mem_cons_self x rfl
      have hi : okp σ p0 := hi
      refine gl_set (p0 := p0) (σ := σ) (σ' := setR σ p0 y.toNatClampNeg (some x)) (st' := st1) (fun _ => hi) rfl rfl rfl (fun q ad hq => entE_c rfl rfl (fun _ => rfl) (fun _ => rfl) (fun _ => rfl) (fun j => by rw [gR_R, if_neg (fun h => hq h.1)])) (fun h _ => ⟨h.1, h.2.1, h.2.2.1, fun p j q hr => ?_⟩) (fun _ => fx_0 rfl rfl rfl)
        (fun _ h => rgs_t (rgs_t (rgs_t h))) (fun pc ad H locs lsC hE hL hR kk => ?_) k pc ad H locs lsC hh
      · rw [gR_R] at hr
        split at hr
        · cases hr; exact hx
        · exact h.2.2.2 p j q hr
      obtain ⟨d, rfl⟩ := dx_old (n := 1) rfl (fun _ => rfl) (fun _ => rfl) hE
      have hent : ((ad p0, .inl (ty (gK σ p0 - 10), gN σ p0, .inr (.inr (.inr (.inr (va_up (fun j => (gR σ p0 j).map ad) y.toNatClampNeg (some (ad x)))))))) : Nat × va_E) = (ad p0, entE ty ad (setR σ p0 y.toNatClampNeg (some x)) p0) := by
        rw [entE_r (show isRA (gK (setR σ p0 y.toNatClampNeg (some x)) p0) = true from hk1)]
        refine congrArg (fun g => ((ad p0, .inl (ty (gK σ p0 - 10), gN σ p0, .inr (.inr (.inr (.inr g))))) : Nat × va_E)) (funext fun j => ?_)
        rw [gR_R]
        unfold va_up
        by_cases hj : j = y.toNatClampNeg
        · rw [if_pos hj, if_pos ⟨rfl, hj⟩]; rfl
        · rw [if_neg hj, if_neg (fun h => hj h.2)]
      rw [← hent] at kk
      have he := rh_at hR hi
      rw [entE_r hk1] at he
      by_cases h18 : gK σ p0 = 18
      · rw [h18] at hk2 he kk
        have hj := okS_lt hR.2.2.2.1 hk2 (by decide) (by decide) (by decide)
        have hv := hR.1 (ix σ x) _ (by rw [rh_at hR hj, entE_10 hk2])
        obtain ⟨kA, kC, g1, g2, g3, g4⟩ := ints_sub hS
        have hlt : y.toNatClampNeg < gN σ p0 := hin.2
        refine W.aast hC.1 hC.2.1 (hR.1 (ix σ p0) _ he) (fun q h => by cases h) (fun h => by cases h) g1 g2 rfl g3 ⟨hin.1, by show _ < (arrV _ _ _).slots.size; rw [arrV_size]; exact hlt⟩ hv (fun q h => by cases h) (by exact g3) (by exact g4) rfl rfl d fun H1 e1 z1 oq => ?_
        refine kk H1 _ (hR.1.set hR.2.1 he ?_ oq) (hR.2.1.set he) (hR.2.2.1.put z1 oq (hR.2.1.2 (ix σ p0) _ he))
        show H1[ad p0]? = some (vp_cell _ _)
        rw [e1]
        rw [vp_cell_q, vp_cell_q, arrV_store]
        congr 2
        funext q
        by_cases hq : q = y.toNatClampNeg
        · subst hq
          simp [updV, va_up, va_rf]
        · simp [updV, va_up, hq]
      · by_cases h19 : gK σ p0 = 19
        · rw [h19] at hk2 he kk
          have hj := okS_lt hR.2.2.2.1 hk2 (by decide) (by decide) (by decide)
          have hv := hR.1 (ix σ x) _ (by rw [rh_at hR hj, entE_11 hk2])
          obtain ⟨kA, kC, g1, g2, g3, g4⟩ := bools_sub hS
          have hlt : y.toNatClampNeg < gN σ p0 := hin.2
          refine W.aast hC.1 hC.2.1 (hR.1 (ix σ p0) _ he) (fun q h => by cases h) (fun h => by cases h) g1 g2 rfl g3 ⟨hin.1, by show _ < (arrV _ _ _).slots.size; rw [arrV_size]; exact hlt⟩ hv (fun q h => by cases h) (by exact g3) (by exact g4) rfl rfl d fun H1 e1 z1 oq => ?_
          refine kk H1 _ (hR.1.set hR.2.1 he ?_ oq) (hR.2.1.set he) (hR.2.2.1.put z1 oq (hR.2.1.2 (ix σ p0) _ he))
          show H1[ad p0]? = some (vp_cell _ _)
          rw [e1]
          rw [vp_cell_q, vp_cell_q, arrV_store]
          congr 2
          funext q
          by_cases hq : q = y.toNatClampNeg
          · subst hq
            simp [updV, va_up, va_rf]
          · simp [updV, va_up, hq]
        · have hk4 : gK σ p0 = 14 ∨ gK σ p0 = 15 ∨ gK σ p0 = 16 ∨ gK σ p0 = 17 := by
            unfold isRA at hk1
            simp only [Bool.or_eq_true, beq_iff_eq] at hk1
            omega
          obtain ⟨g1, g2, g3, g4, g5⟩ := ek_lt (ty := ty) hk4
          have hj := okS_lt hR.2.2.2.1 hk2 (by omega) (by omega) (by omega)
          exact va_astq (r := vc (ek (gK σ p0))) hC.1 hC.2.1 hS.1 hR.1 hR.2.1 hR.2.2.1 (ix σ p0) (gK σ p0 - 10) (ix σ x) (ek (gK σ p0)) he (by rw [g3, vc_c g1]) (by rw [rh_at hR hj, entE_o hk2 g1]) (vc_at g1) (inb_in hin) d kk
    next => cases h
  next => cases h
end ARR
