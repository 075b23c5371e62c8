/-! THROWS; AND THE CONTRACT OF EVERY METHOD OUT OF ITS RUN -/
section SOUND
variable {z : Nat} {D : va_G} {ty : Nat → ClassId} {b0 : Nat} {σ0 : St} {ad0 : Nat → Nat} {p : Program} {l : Launch} {e : Env} {R : Room} {s : State} {m : MethodId} {args : Array Value} {below : List Frame} {meth : Method} {c : Code} {Q : State → Prop}
variable {i : Instr} {pc pc0 len : Nat} {ext : List Nat} {r : List En} {ls st : List Value} {σ σ1 σE : St} {f : Fr} {H : Heap} {locs : List Loc} {ad : Nat → Nat} {lsC : Array Slot} {o : Out}
/-- the heap behind a throw: nothing of mine has changed -/
theorem rh_bmp {H1 : Heap} (hR : Rh D ty b0 s σ0 ad0 σ ad H locs) (h1 : H.size ≤ H1.size) (h2 : ∀ q : Nat, q < H.size → H1[q]? = H[q]?) : Rh D ty b0 s σ0 ad0 (bmp σ) ad H1 locs := by
  obtain ⟨q1, q2, q3, q4, q5, q6, q7, q8, q9⟩ := hR
  refine ⟨q1.kept (fun k q hq => h2 q.1 ((q1 k q hq).lt)), q2, ⟨Nat.le_trans q3.1 h1, fun q a b => (h2 q (Nat.lt_of_lt_of_le a q3.1)).trans (q3.2.1 q a b), q3.2.2⟩, q4, q5, q6, Nat.le_trans q7 (Nat.le_succ _), Nat.le_trans q8 (Nat.le_add_right _ _), q9⟩
theorem end_thr {x : Nat} (hC : Cx z p l R s m meth c) (hS : Sx D ty b0 ad0 σ0 s) (hcap : gc σE - gc σ0 ≤ R.cells ∧ gs σE - gs σ0 ≤ R.slots) (h : stp z f = some (.inr (.inl (.inr x, σE)))) :
    Gl z D ty b0 σ0 ad0 p l e R s m args below meth c (vx_MQ below (Cq D ty b0 ad0 σ0 (.inr x) σE) (Xq D ty b0 ad0 σ0 (.inr x) σE) args s (gc σE - gc σ0) (gs σE - gs σ0) (Ab b0)) f := by
  obtain ⟨cs, ls, st, σ⟩ := f
  cases cs with
  | nil => cases h
  | cons en r =>
    obtain ⟨pc0, i, len, ext⟩ := en
    replace h : stI z i ext r ls st σ = some (.inr (.inl (.inr x, σE))) := h
    have hlk := hC.2.2.2.2.2.1
    cases i
    case athrow =>
      unfold stI at h
      dsimp only at h
      split at h
      next x0 t0 =>
        cases h
        intro pc ad H locs lsC hh
        obtain ⟨hF, hL, h1, h2, hR⟩ := hh
        obtain ⟨rfl, hE, hF'⟩ := fk_e hF
        have hE : okT z pc0 [x, t0] = true := hE
        unfold okT at hE
        dsimp only at hE
        cases ht : thT[t0]? with
        | none => rw [ht] at hE; cases hE
        | some q =>
          obtain ⟨c9, ik, is, ic, xe, w, tx⟩ := q
          rw [ht] at hE
          dsimp only at hE
          have htm := List.mem_of_getElem? ht
          have hth := th_ok _ htm
          unfold thOk at hth
          dsimp only at hth
          simp only [Bool.and_eq_true, decide_eq_true_eq, List.all_eq_true] at hth
          obtain ⟨⟨⟨hwords, hfit⟩, hfits⟩, hx1, hx4⟩ := hth
          simp only [Bool.and_eq_true, decide_eq_true_eq] at hE
          obtain ⟨⟨⟨⟨k1, k2, k3, k4⟩, d0⟩, d3⟩, dd⟩ := hE
          subst k2
          obtain ⟨sa, hsa⟩ := hS.2.2.2.2.2.2.2.1.1 _ htm
          have hown := hC.2.2.2.2.1
          rw [← k1] at hown
          have hw : ∀ w' ∈ thW (c9, ik, is, ic, xe, w, tx), w'.before args s = true := fun w' hw' => hS.2.1 _ (memb_in (hwords w' hw').1.1) (hwords w' hw').1.2 args
          have hg : ∀ w' ∈ thW (c9, ik, is, ic, xe, w, tx), vx_ot w' = true := fun w' hw' => (hwords w' hw').2
          have hfr : exS.length + 3 < R.frames := by
            have g1 := hC.2.2.2.2.2.2.2.2.2.1
            have g2 := hC.2.2.2.2.2.2.2.2.2.2.2
            show 2 + 3 < _
            omega
          have hlo : (([] : List Value).map fun v => v.category).sum + (13 * (exS.length + 1) + 43) ≤ R.locals := by
            have g1 := hC.2.2.2.2.2.2.2.2.2.2.1
            have g2 := hC.2.2.2.2.2.2.2.2.2.2.2
            show 0 + (13 * (2 + 1) + 43) ≤ _
            omega
          obtain ⟨q1, q2, q3, q4, q5, q6, q7, q8, q9⟩ := id hR
          dsimp only at q7 q8 hcap
          have eC : gc (bmp σ) = gc σ + 1 := rfl
          have eS : gs (bmp σ) = gs σ + 6 := rfl
          have w1 : gc σ - gc σ0 + 1 ≤ R.cells := by omega
          have w2 : gs σ - gs σ0 + 6 ≤ R.slots := by omega
          have w3 : gc σ - gc σ0 + 1 ≤ gc (bmp σ) - gc σ0 := by omega
          have w4 : gs σ - gs σ0 + 6 ≤ gs (bmp σ) - gs σ0 := by omega
          have hsz : lsC.size = c.maxLocals := by rw [hC.2.2.2.1]; exact hL.1
          have hw0 : ¬ w = 0 := hx4.2
          rw [if_neg hw0] at dd
          simp only [Bool.and_eq_true, decide_eq_true_eq] at dd
          obtain ⟨⟨d4, d7⟩, d10⟩ := dd
          have hww : thW (c9, ik, is, ic, xe, w, tx) = Cond.classLink (cn c9) ik (exN xe) :: Cond.initialized (exN xe) :: vx_atS (cn c9) ic (exN xe) exS := rfl
          rw [hww] at hw hg
          exact vx_throwSW (own := cn c9) (cls := exN xe) (names := exS) (text := tx) hC.1 hC.2.1 hC.2.2.2.2.2.2.1 hown hfit hfits (hw _ List.mem_cons_self) (hw _ (List.mem_cons_of_mem _ List.mem_cons_self)) hsa (fun w' hw' => hw _ (List.mem_cons_of_mem _ (List.mem_cons_of_mem _ hw'))) hg hS.2.2.2.2.2.1 hS.2.2.2.2.2.2.1 q3 hsz d0 d3 d4 d7 d10 (fun y hy => (no_tab hC k4 y hy).elim) hfr hlo w1 w2 hlk
            (fun t hW a1 a2 => ⟨ad, xe, rfl, rfl, wo_end (rh_bmp hR a1 a2) rfl⟩) q3.2.2 w3 w4
      next => cases h
    case fconst q =>
      match q, h with
      | 0, h => cases h
      | 1, h => cases h
      | 2, h => cases h
    case dconst q =>
      match q, h with
      | 0, h => cases h
      | 1, h => cases h
    all_goals
      first
      | (cases h; done)
      | (unfold stI at h
         (try simp only [bI, bL, sL, sto1, sto2, sCall] at h)
         (repeat' split at h) <;> cases h)
end SOUND
theorem spr_len (ad : Nat → Nat) : ∀ as : List Value, (lg_sl (as.map (cv ad))).length = (spr as).length
  | [] => rfl
  | v :: vs => by
    have ih := spr_len ad vs
    unfold lg_sl at ih ⊢
    rw [List.map_cons, List.flatMap_cons, List.length_append, ih]
    show _ = (if is2 v = true then v :: mk0 :: spr vs else v :: spr vs).length
    by_cases h : is2 v = true
    · rw [if_pos h, if_pos ((cv_2 ad v).mpr h)]
      simp only [List.length_cons, List.length_nil]
      omega
    · rw [if_neg h, if_neg (fun q => h ((cv_2 ad v).mp q))]
      simp only [List.length_cons, List.length_nil]
      omega
theorem spr_at (ad : Nat → Nat) : ∀ (as : List Value) (k i : Nat) (v : Value), (spr as)[i]? = some v → isM v = false → (k + i, cv ad v) ∈ lv_args k (as.map (cv ad))
  | [], _, i, v, h, _ => by simp [spr] at h
  | w :: ws, k, i, v, h, hm => by
    unfold spr at h
    rw [List.map_cons]
    unfold lv_args
    by_cases h2 : is2 w = true
    · rw [if_pos h2] at h
      rw [if_pos ((cv_2 ad w).mpr h2)]
      match i, h with
      | 0, h => cases h; exact List.mem_cons_self
      | 1, h => cases h; cases hm
      | i + 2, h =>
        refine List.mem_cons_of_mem _ ?_
        have := spr_at ad ws (k + 2) i v h hm
        rw [show k + 2 + i = k + (i + 2) by omega] at this
        exact this
    · rw [if_neg h2] at h
      rw [if_neg (fun q => h2 ((cv_2 ad w).mp q))]
      match i, h with
      | 0, h => cases h; exact List.mem_cons_self
      | i + 1, h =>
        refine List.mem_cons_of_mem _ ?_
        have := spr_at ad ws (k + 1) i v h hm
        rw [show k + 1 + i = k + (i + 1) by omega] at this
        exact this
theorem spr_rg {n : Nat} : ∀ as : List Value, rgs n as → rgs n (spr as)
  | [], _ => rgs_n
  | v :: vs, h => by
    unfold spr
    split
    · exact rgs_c (rgs_h h) (rgs_c rg_m (spr_rg vs (rgs_t h)))
    · exact rgs_c (rgs_h h) (spr_rg vs (rgs_t h))
/-- the first frame -/
theorem Lr_ent {ad : Nat → Nat} {z : Nat} {as : List Value} (h : (spr as).length ≤ mL z) : Lr ad ((lg_sl (as.map (cv ad)) ++ List.replicate (mL z - (lg_sl (as.map (cv ad))).length) Slot.unset).toArray) (mL z) (spr as ++ List.replicate (mL z - (spr as).length) mk0) := by
  have h1 := lv_entry (as.map (cv ad)) (n := mL z) (by rw [spr_len]; exact h)
  refine ⟨h1.1, by rw [List.length_append, List.length_replicate]; omega, h1.2.1, fun i v hv hm => ?_⟩
  by_cases hi : i < (spr as).length
  · rw [List.getElem?_append_left hi] at hv
    have := h1.2.2 _ (spr_at ad as 0 i v hv hm)
    rw [Nat.zero_add] at this
    exact this
  · rw [List.getElem?_append_right (by omega)] at hv
    rw [List.getElem?_replicate] at hv
    split at hv
    · cases hv; cases hm
    · cases hv
theorem rg_ent {n z : Nat} {as : List Value} (h : rgs n as) : rgs n (spr as ++ List.replicate (mL z - (spr as).length) mk0) := fun v hv => (List.mem_append.mp hv).elim (spr_rg as h v) (fun h => by rw [(List.mem_replicate.mp h).2]; exact rg_m)
/-- **EVERY METHOD'S CONTRACT**: what my machine's run of it gives, the real machine's method gives -/
theorem all_snd (l : Launch) (hl : l.stackTraces = false) : ∀ N, ∀ n, n < N → ∀ (z : Nat) (as : List Value) (σ : St) (o : Out) (σ' : St), go n z (ent z as σ) = some (o, σ') → mK z ≠ 9 → as.length = mA z + (if mK z = 0 then 0 else 1) → (spr as).length ≤ mL z → Ctr l z as σ o σ' := by
  intro N
  induction N with
  | zero => intro n hn; exact absurd hn (Nat.not_lt_zero n)
  | succ N ih =>
    intro n hn z as σ o σE hgo hk9 hlen hspr D ty b0 ad hrg
    have hmo := mo_use hk9
    have body : ∀ (p : Program) (e : Env) (s : State) (m : MethodId) (args : Array Value) (below : List Frame) (meth : Method) (c : Code) (s₁ : State), BodyLoose p l (mY z) (headSpec [codR (mtN z)] (rmZ z σ σE)) (mB z) (mL z) (mR z) e s m args below meth c s₁ → c.maxLocals = mL z →
        c.exceptionTable.toList.map (fun x => (x.startPc, x.endPc, x.handlerPc, x.catchType)) = hndW z → va_Pc (as.map (cv ad)) (Iw D ty b0 ad σ) args s →
        W p l e (headSpec [codR (mtN z)] (rmZ z σ σE)).room s m args below meth c s.heap [] 0 0 (vx_MQ below (Cq D ty b0 ad σ o σE) (Xq D ty b0 ad σ o σE) args s (gc σE - gc σ) (gs σE - gs σ) (Ab b0)) (entryFrame m args (mL z)) := by
      intro p e s m args below meth c s₁ B hml htab hpc
      obtain ⟨rfl, hP, hD, hok, hS⟩ := hpc
      have hown : s.vm.findClass (cn (mC z)) = some m.cls := by rw [← hmo.2.2.2.2.2.1]; exact findClass_of_methodNamed B.named
      have hC : Cx z p l (rmZ z σ σE) s m meth c := ⟨B.exec, B.bytes, B.returns, hml, hown, B.notSynchronized, hl, fun h2 => by rw [(name_of_methodNamed B.named B.method).1]; exact (hmo.2.2.2.2.1 h2).1, htab, Nat.le_refl _, Nat.le_refl _, hmo.2.2.2.2.2.2.2.2.2.2.2.1⟩
      have hm := go_mono _ _ _ _ hgo
      have hm : gc σ ≤ gc σE ∧ gs σ ≤ gs σE := hm
      have hcap : gc σE - gc σ ≤ (rmZ z σ σE).cells ∧ gs σE - gs σ ≤ (rmZ z σ σE).slots := ⟨Nat.le_refl _, Nat.le_refl _⟩
      have G : Gl z D ty b0 σ ad p l e (rmZ z σ σE) s m (as.map (cv ad)).toArray below meth c (vx_MQ below (Cq D ty b0 ad σ o σE) (Xq D ty b0 ad σ o σE) (as.map (cv ad)).toArray s (gc σE - gc σ) (gs σE - gs σ) (Ab b0)) (ent z as σ) := by
        refine run_snd (N := n) hC hS hcap (fun k hk y as' σ' o1 σ1 h1 h2 h3 h4 => ih k (by omega) y as' σ' o1 σ1 h1 h2 h3 h4) (fun f hf => ?_) (fun x hx h0 pc lsC ad' H1 locs1 rst q ce hR a1 a2 a3 => ?_) n (Nat.le_refl _) _ hgo
        · rcases o with v | x
          · exact end_ret hC hf
          · exact end_thr hC hS hcap hf
        · subst hx
          exact end_prop hC h0 hR a1 a2 a3
      have h9 := G 0 ad s.heap [] _ ⟨fk_0 z, Lr_ent hspr, rg_ent hrg, rgs_n, hP, hD, va_S.rf, hok, Nat.le_refl _, fun _ _ => rfl, Nat.le_refl _, Nat.le_refl _, fix2_rf⟩
      rw [lg_entry_eq]
      have e1 : gc (ent z as σ).2.2.2 - gc σ = 0 := Nat.sub_self _
      have e2 : gs (ent z as σ).2.2.2 - gs σ = 0 := Nat.sub_self _
      rw [e1, e2] at h9
      exact h9
    by_cases hh : hndW z = []
    · have hcod : codR (mtN z) = .code (mY z) (mB z) (mL z) (mR z) := if_pos hh
      refine vx_ofW (ws' := []) (cc := mB z) (maxL := mL z) (ret := mR z) hmo.2.2.2.2.2.2.2.2.1 (by rw [hcod]) (fun p e s m args below meth c s₁ B hml ht hpc => body p e s m args below meth c s₁ B hml ?_ hpc)
      rw [hh]
      cases hq : c.exceptionTable.toList with
      | nil => rfl
      | cons a b => exact (ht a (by rw [hq]; exact List.mem_cons_self)).elim
    · have hcod : codR (mtN z) = .codeWith (mY z) (mB z) (mL z) (mR z) (hndW z) := if_neg hh
      refine vx_ofWH (ws' := []) (cc := mB z) (maxL := mL z) (ret := mR z) (hh := hndW z) hmo.2.2.2.2.2.2.2.2.1 (by rw [hcod]) (fun p e s m args below meth c s₁ B hml hpc => body p e s m args below meth c s₁ B hml ?_ hpc)
      have hw : (Cond.codeWith (mY z) (mB z) (mL z) (mR z) (hndW z)).before args s = true := by
        rw [← hcod]
        exact atoms_spec (ws := [codR (mtN z)]) B.pre _ (List.mem_singleton.mpr rfl)
      obtain ⟨m9, meth9, c9, hn9, h1, h2, -, -, h6, -⟩ := Cond.codeWith_spec hw
      cases Option.some.inj (hn9.symm.trans B.named)
      cases Option.some.inj (h1.symm.trans B.method)
      cases Option.some.inj (h2.symm.trans (Stand.of_body B).code)
      exact h6
