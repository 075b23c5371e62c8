/-! THE WHOLE RUN: by calls, ends and throws -/
theorem arr_map (ad : Nat → Nat) (as : List Value) : (as.map (cv ad)).toArray = (as.map (cv ad)).toArray := rfl
set_option maxRecDepth 100000 in
theorem mr_nest : ∀ e ∈ mrT, e.2.2.2.1 = 0 ∨ hndW e.2.2.1 = [] := by decide +kernel
theorem ist_x {z n y1 n1 c1 f1 pc : Nat} {bs : List (List En)} {j : Instr} (h : okJ z bs pc j (.invokestatic n) [y1, n1, c1, f1] = true) : j = .invokestatic n ∧ (match mrT[f1]? with | some e => decide (e.1 = mC z ∧ e.2.1 = n ∧ e.2.2.1 = y1 ∧ mK y1 = 0 ∧ n1 = mA y1 ∧ c1 = 0 ∧ rk y1 < rk z) | none => false) = true := by
  have h : (decide (j = .invokestatic n) && (match mrT[f1]? with | some e => decide (e.1 = mC z ∧ e.2.1 = n ∧ e.2.2.1 = y1 ∧ mK y1 = 0 ∧ n1 = mA y1 ∧ c1 = 0 ∧ rk y1 < rk z) | none => false)) = true := by
    revert h
    rcases n1 with _ | _ | n1 <;> exact id
  rw [Bool.and_eq_true, decide_eq_true_eq] at h
  exact h
section WR
variable {z : Nat} {D : va_G} {ty : Nat → ClassId} {b0 : Nat} {σ0 : St} {ad0 : Nat → Nat} {p : Program} {l : Launch} {e : Env} {R : Room} {s : State} {m : MethodId} {args : Array Value} {below : List Frame} {meth : Method} {c : Code} {Q : State → Prop}
variable {i : Instr} {pc pc0 len : Nat} {ext : List Nat} {r : List En} {ls st : List Value} {σ σ1 : St} {f' : Fr} {H : Heap} {locs : List Loc} {ad : Nat → Nat} {lsC : Array Slot} {o1 : Out}
theorem mr_useP {n y f : Nat} (hS : Sx D ty b0 ad0 σ0 s) {q : Nat × Nat × Nat × Nat × Nat} (h : mrT[f]? = some q) (h1 : q.1 = mC z) (h2 : q.2.1 = n) (h3 : q.2.2.1 = y) (hh : ¬ hndW y = []) : (Cond.methodLink (cn (mC z)) n (mY y)).before args s = true := by
  have h4 := wat_in (mr_ok q (List.mem_of_getElem? h))
  have h5 := mr_nest q (List.mem_of_getElem? h)
  rw [h3] at h5
  unfold mrC at h4
  rw [h1, h2, h3, if_pos (h5.resolve_right hh)] at h4
  exact hS.2.1 _ h4 rfl args
/-- one call of any kind -/
theorem gl_call {f : Fr} {y : Nat} {as : List Value} {g : Fr} (hC : Cx z p l R s m meth c) (hS : Sx D ty b0 ad0 σ0 s) (h : stp z f = some (.inr (.inr (y, as, g)))) (hctr : mK y ≠ 9 → as.length = mA y + (if mK y = 0 then 0 else 1) → Ctr l y as g.2.2.2 o1 σ1) (hcap : gc σ1 - gc σ0 ≤ R.cells ∧ gs σ1 - gs σ0 ≤ R.slots) (hm : gc g.2.2.2 ≤ gc σ1 ∧ gs g.2.2.2 ≤ gs σ1)
    (kR : ∀ v, o1 = .inl v → Gl z D ty b0 σ0 ad0 p l e R s m args below meth c Q (g.1, g.2.1, v.toList ++ g.2.2.1, σ1))
    (kX : ∀ x, o1 = .inr x → ∀ (pc : Nat) (lsC : Array Slot) (ad' : Nat → Nat) (H1 : Heap) (locs1 : List Loc) (rst : List Value) (q : Addr) (ce : Cell), (∀ t, (∀ b ∈ codes.getD z [], b.all (cal t) = true) → pc < t) → Rh D ty b0 s σ0 ad0 σ1 ad' H1 locs1 → Lr ad' lsC (mL z) g.2.1 → rgs (gx σ1 + 2) g.2.1 → H1[q]? = some ce → ce.vm = .none → s.vm.findClass (exN x) = some ce.cls → vx_W p l e R s m args below meth c H1 locs1 (gc σ1 - gc σ0) (gs σ1 - gs σ0) Q (F0 m pc lsC rst) q) :
    Gl z D ty b0 σ0 ad0 p l e R s m args below meth c Q f := by
  obtain ⟨cs, ls, st, σ⟩ := f
  cases cs with
  | nil => cases h
  | cons en r =>
    obtain ⟨pc0, i, len, ext⟩ := en
    replace h : stI z i ext r ls st σ = some (.inr (.inr (y, as, g))) := h
    -- what is common to the three kinds
    have main : ∀ (n y1 n1 c1 f1 : Nat), ext = [y1, n1, c1, f1] → sCall y1 n1 c1 r ls st σ = some (.inr (.inr (y, as, g))) →
        (∀ (pc : Nat) (H : Heap) (locs : List Loc) (ad : Nat → Nat) (lsC : Array Slot) (rest : List Value), okE z (codes.getD z []) (pc, i, len, ext) = true → Rh D ty b0 s σ0 ad0 σ ad H locs → Lr ad lsC (mL z) ls → Ctr l y as σ o1 σ1 → rgs (gx σ + 2) as → st.map (cv ad) = (as.map (cv ad)).reverse ++ rest.map (cv ad) → (rest.map (fun v => v.category)).sum ≤ 8 → as.length = n1 → (∀ c', c1 = c' + 1 → ∃ p as', as = .ref p :: as' ∧ gK σ p = c') →
          len = 3 ∧ vx_Run p l e R s m args below meth c H locs (gc σ - gc σ0) (gs σ - gs σ0) (gc σ1 - gc σ) (gs σ1 - gs σ) (F0 m pc lsC (st.map (cv ad))) (rest.map (cv ad)) (Cq D ty b0 ad σ o1 σ1 (as.map (cv ad)).toArray) (Xq D ty b0 ad σ o1 σ1) (Ab b0)) →
        (∀ pc, okE z (codes.getD z []) (pc, i, len, ext) = true → mK y ≠ 9 ∧ n1 = mA y + (if mK y = 0 then 0 else 1)) → (∀ t, cal t (pc0, i, len, ext) = true → pc0 < t) → Gl z D ty b0 σ0 ad0 p l e R s m args below meth c Q ((pc0, i, len, ext) :: r, ls, st, σ) := by
      intro n y1 n1 c1 f1 hext hsc hrow hk hcal pc ad H locs lsC hh
      obtain ⟨rfl, hn, hl4, has, rfl, hrec⟩ := sCall_inv hsc
      obtain ⟨hF, hL, h1, h2, hR⟩ := hh
      have hmem := (hF.2 _ List.mem_cons_self).2
      obtain ⟨rfl, hE, hF'⟩ := fk_e hF
      dsimp only at h1 h2 hm kR kX hctr
      obtain ⟨g1, g2⟩ := as_rg has h2
      have hlen : as.length = n1 := by rw [has, List.length_reverse, List.length_take]; omega
      obtain ⟨k9, hna⟩ := hk pc0 hE
      obtain ⟨rfl, hrun⟩ := hrow pc0 H locs ad lsC (st.drop n1) hE hR hL (hctr k9 (hlen.trans hna)) g1 (stk ad has) hl4 hlen hrec
      refine call_fin hR hL h1 g2 hF' hrun kR (fun x ho ad' H1 locs1 rst q ce hR1 hL1 hr1 a1 a2 a3 => kX x ho pc0 lsC ad' H1 locs1 rst q ce (fun t ht => ?_) hR1 hL1 hr1 a1 a2 a3)
      obtain ⟨b, hb1, hb2⟩ := hmem
      exact hcal t (List.all_eq_true.mp (ht b hb1) _ hb2)
    have hsub : ∀ ad H locs, Rh D ty b0 s σ0 ad0 σ ad H locs → ∀ σ9, σ9 = σ → gc σ9 ≤ gc σ1 ∧ gs σ9 ≤ gs σ1 → gc σ - gc σ0 + (gc σ1 - gc σ) ≤ R.cells ∧ gs σ - gs σ0 + (gs σ1 - gs σ) ≤ R.slots := by
      intro ad H locs hR σ9 e9 hm9
      subst e9
      have h7 := hR.2.2.2.2.2.2.1
      have h8 := hR.2.2.2.2.2.2.2.1
      omega
    have hg2 := stp_mono (z := z) (f := ((pc0, i, len, ext) :: r, ls, st, σ)) h
    have hg2 : g.2.2.2 = σ := hg2
    rw [hg2] at hm hctr
    have fixR : ∀ lsC ad, Lr ad lsC (mL z) ls → CallFix p m c (mB z) (mL z) s args [] (cn (mC z)) := fun lsC ad hL => ⟨hC.1, hC.2.1, hC.2.2.2.1, hC.2.2.2.2.1, fun _ h => absurd h List.not_mem_nil⟩
    cases i
    case invokestatic n =>
      match ext, h with
      | [y1, n1, c1, f1], h =>
        refine main n y1 n1 c1 f1 rfl h (fun pc H locs ad lsC rest hE hR hL hct hag hst hr4 hln _ => ?_) (fun pc hE => ?_) (fun t ht => of_decide_eq_true ht)
        · obtain ⟨j, d, hl, hJ⟩ := okE_dec (P := fun j => okJ z (codes.getD z []) pc j (.invokestatic n) [y1, n1, c1, f1]) hE
          obtain ⟨rfl, hx⟩ := ist_x hJ
          have hl : len = 3 := of_decide_eq_true hl
          subst hl
          refine ⟨rfl, ?_⟩
          cases hf : mrT[f1]? with
          | none => rw [hf] at hx; cases hx
          | some q =>
            rw [hf] at hx
            obtain ⟨a1, a2, a3, a4, a5, a6, a7⟩ := of_decide_eq_true hx
            have hy1 : y = y1 := (sCall_inv h).1
            subst hy1
            have h9 : mK y ≠ 9 := by rw [a4]; decide
            have hp : PreS s H (va_Pc (as.map (cv ad)) (Iw D ty b0 ad σ)) (as.map (cv ad)) := ⟨iw_blind, fun U hU hW => ⟨rfl, iw_at hS hR hU hW⟩⟩
            have hcaps := hsub ad H locs hR σ rfl hm
            by_cases hh : hndW y = []
            · rcases mr_use hS hf a1 a2 a3 with hl | ⟨hn9, hl⟩
              · exact vx_runS (fixR lsC ad hL) (hct D ty b0 ad hag) ⟨cb_of hC hS h9 a7 hh rfl hl, kin_s hS a4⟩ hp rfl (by rw [List.length_map, hln, a5]) hL.1 hst (by show 2 * 0 + _ ≤ 8; have := cat_c8 ad hr4; omega) d hcaps
              · exact vx_runSN (fixR lsC ad hL) (hct D ty b0 ad hag) ⟨cn_of hC hS h9 a7 hh rfl hl, kin_s hS a4, trivial⟩ hp rfl (by rw [List.length_map, hln, a5]) hL.1 hst (by show 2 * 0 + _ ≤ 8; have := cat_c8 ad hr4; omega) d hcaps
            · have hmo := mo_use h9
              have hcod : codR (mtN y) = .codeWith (mY y) (mB y) (mL y) (mR y) (hndW y) := if_neg hh
              obtain ⟨r1, r2⟩ := rmOk hC h9 a7
              have hl := mr_useP (args := args) hS hf a1 a2 a3 hh
              · refine vx_runSX (fixR lsC ad hL) (hct D ty b0 ad hag) (hh := hndW y) (bytes := mB y) (maxL := mL y) (ret := mR y) (n := mA y) ⟨⟨rfl, rfl, r1, r2, pay1 hS h9, by rw [hcod]; exact List.mem_singleton.mpr rfl⟩, ?_, hS.2.1 _ (wat_in hmo.2.2.1) rfl args, ⟨hmo.2.2.2.2.2.2.1, hmo.2.2.2.2.2.2.2.1⟩, fun sig hs => ?_, hl, kin_s hS a4⟩ hp rfl (by rw [List.length_map, hln, a5]) hL.1 hst (by show 2 * 0 + _ ≤ 8; have := cat_c8 ad hr4; omega) d hcaps
                · rw [← hcod]
                  exact hS.2.1 _ (wat_in hmo.1) (tw_codR y) args
                · have h2 := hmo.2.2.2.2.2.2.2.2.2.1
                  rw [hs] at h2
                  exact (Option.some.inj h2).symm
        · obtain ⟨j, d, hl, hJ⟩ := okE_dec (P := fun j => okJ z (codes.getD z []) pc j (.invokestatic n) [y1, n1, c1, f1]) hE
          obtain ⟨rfl, hx⟩ := ist_x hJ
          have hl : len = 3 := of_decide_eq_true hl
          subst hl
          cases hf : mrT[f1]? with
          | none => rw [hf] at hx; cases hx
          | some q =>
            rw [hf] at hx
            obtain ⟨a1, a2, a3, a4, a5, a6, a7⟩ := of_decide_eq_true hx
            have hy1 : y = y1 := (sCall_inv h).1
            subst hy1
            exact ⟨by rw [a4]; decide, by rw [a5, if_pos a4]; rfl⟩
      | [p1], h =>
        unfold stI at h
        dsimp only at h
        repeat' split at h
        all_goals cases h
      | [p1, 0], h =>
        have h : (match st with | .int y :: .int x :: st => if st.length ≤ 4 then nxt (r, ls, .int (if x < y then y else x) :: st, σ) else none | _ => none) = some (.inr (.inr (y, as, g))) := h
        repeat' split at h
        all_goals cases h
      | [p1, 1], h =>
        have h : (match st with | .int y :: .int x :: st => if st.length ≤ 4 then nxt (r, ls, .int (if y < x then y else x) :: st, σ) else none | _ => none) = some (.inr (.inr (y, as, g))) := h
        repeat' split at h
        all_goals cases h
      | [], h => cases h
      | [_, q + 2], h => cases h
      | [_, _, _], h => cases h
      | _ :: _ :: _ :: _ :: _ :: _, h => cases h
    case invokevirtual n =>
      unfold stI at h
      dsimp only at h
      split at h
      next y1 n1 c1 f1 =>
        refine main n y1 n1 c1 f1 rfl h (fun pc H locs ad lsC rest hE hR hL hct hag hst1 hr4 hln hrec => ?_) (fun pc hE => ?_) (fun t ht => of_decide_eq_true ht)
        · obtain ⟨d, rfl, hx⟩ := dx_new (n := 3) rfl (fun _ => rfl) (fun _ => rfl) hE
          try dsimp only at hx
          refine ⟨rfl, ?_⟩
          cases hf : mrT[f1]? with
          | none => rw [hf] at hx; cases hx
          | some q =>
            rw [hf] at hx
            obtain ⟨a1, a2, a3, a4, a5, a6, a7⟩ := of_decide_eq_true hx
            have hy1 : y = y1 := (sCall_inv h).1
            subst hy1
            have h9 : mK y ≠ 9 := by rw [a4]; decide
            have hh : hndW y = [] := (hst y).resolve_right (by rw [a4]; decide)
            have hmo := mo_use h9
            obtain ⟨hsel, hc9⟩ := hmo.2.2.2.1 a4
            obtain ⟨p0, as', rfl, hk0⟩ := hrec (mC y) a6
            have hi := okS_lt hR.2.2.2.1 hk0 (by omega) (by omega) (by omega)
            obtain ⟨cell, hc1, hc2, hc3⟩ := va_recv hS.1 hR.1 (vc_at hc9) (by rw [rh_at hR hi, entE_o hk0 hc9])
            have hcl : s.vm.findClass (mY y).cls = some cell.cls := by rw [hmo.2.2.2.2.2.1, ← vc_c hc9]; exact hc3
            have hp : PreV s H (mY y).cls (ad p0) (va_Pc ((Value.ref p0 :: as').map (cv ad)) (Iw D ty b0 ad σ)) (as'.map (cv ad)) := ⟨iw_blind, ⟨cell, hc1, hc2, hcl⟩, fun U hU hW => ⟨rfl, iw_at hS hR hU hW⟩⟩
            have hcaps := hsub ad H locs hR σ rfl hm
            have hst2 : st.map (cv ad) = (as'.map (cv ad)).reverse ++ .ref (ad p0) :: rest.map (cv ad) := by
              rw [hst1, List.map_cons, List.reverse_cons, List.append_assoc]; rfl
            have hln2 : (as'.map (cv ad)).length = mA y := by rw [List.length_map]; rw [List.length_cons, a5] at hln; omega
            have hsl : (Cond.selects (mY y).cls (mY y) (mY y)).before args s = true := hS.2.1 _ (wat_in hsel) rfl args
            rcases mr_use hS hf a1 a2 a3 with hl | ⟨hn9, hl⟩
            · exact vx_runV (fixR lsC ad hL) (hct D ty b0 ad hag) ⟨cb_of hC hS h9 a7 hh rfl hl, kin_i hS h9 (by rw [a4]; decide), hsl⟩ hp rfl hln2 hL.1 hst2 (by show 2 * 0 + _ ≤ 8; have := cat_c8 ad hr4; omega) d hcaps
            · exact vx_runVN (fixR lsC ad hL) (hct D ty b0 ad hag) ⟨cn_of hC hS h9 a7 hh rfl hl, kin_i hS h9 (by rw [a4]; decide), hsl⟩ hp rfl hln2 hL.1 hst2 (by show 2 * 0 + _ ≤ 8; have := cat_c8 ad hr4; omega) d hcaps
        · obtain ⟨d, hl, hx⟩ := dx_new (n := 3) rfl (fun _ => rfl) (fun _ => rfl) hE
          try dsimp only at hx
          cases hf : mrT[f1]? with
          | none => rw [hf] at hx; cases hx
          | some q =>
            rw [hf] at hx
            obtain ⟨a1, a2, a3, a4, a5, a6, a7⟩ := of_decide_eq_true hx
            have hy1 : y = y1 := (sCall_inv h).1
            subst hy1
            exact ⟨by rw [a4]; decide, by rw [a5, if_neg (by rw [a4]; decide)]⟩
      next => cases h
    case invokespecial n =>
      match ext, h with
      | [y1, n1, c1, f1], h =>
        refine main n y1 n1 c1 f1 rfl h (fun pc H locs ad lsC rest hE hR hL hct hag hst1 hr4 hln hrec => ?_) (fun pc hE => ?_) (fun t ht => of_decide_eq_true ht)
        · obtain ⟨d, rfl, hx⟩ := dx_new (n := 3) rfl (fun _ => rfl) (fun _ => rfl) hE
          try dsimp only at hx
          refine ⟨rfl, ?_⟩
          cases hf : mrT[f1]? with
          | none => rw [hf] at hx; cases hx
          | some q =>
            rw [hf] at hx
            obtain ⟨a1, a2, a3, a4, a5, a6, a8, a7⟩ := of_decide_eq_true hx
            have hy1 : y = y1 := (sCall_inv h).1
            subst hy1
            have h9 : mK y ≠ 9 := by rw [a4]; decide
            have hh : hndW y = [] := (hst y).resolve_right (by rw [a4]; decide)
            have hmo := mo_use h9
            obtain ⟨hnm, hret⟩ := hmo.2.2.2.2.1 a4
            have hcaps := hsub ad H locs hR σ rfl hm
            obtain ⟨p0, as', rfl, hk0⟩ := hrec (mC y) a6
            · have hb : cv ad (.ref p0) = .ref (ad p0) := rfl
              have hp : PreS s H (va_Pc ((Value.ref p0 :: as').map (cv ad)) (Iw D ty b0 ad σ)) (.ref (ad p0) :: as'.map (cv ad)) := ⟨iw_blind, fun U hU hW => ⟨by rw [List.map_cons, hb], iw_at hS hR hU hW⟩⟩
              have hst2 : st.map (cv ad) = (as'.map (cv ad)).reverse ++ .ref (ad p0) :: rest.map (cv ad) := by
                rw [hst1, List.map_cons, List.reverse_cons, List.append_assoc, hb]; rfl
              have hln2 : (as'.map (cv ad)).length = mA y := by rw [List.length_map]; rw [List.length_cons, a5] at hln; omega
              have hav : ((Value.ref p0 :: as').map (cv ad)).toArray = (Value.ref (ad p0) :: as'.map (cv ad)).toArray := by rw [List.map_cons, hb]
              rw [hav]
              rcases mr_use hS hf a1 a2 a3 with hl | ⟨hn9, hl⟩
              · have hcb := cb_of (mc := gc σ1 - gc σ) (ms := gs σ1 - gs σ) hC hS h9 a7 hh rfl hl
                rw [hret] at hcb
                exact vx_runI (fixR lsC ad hL) (hct D ty b0 ad hag) ⟨hcb, hnm, kin_i hS h9 (by rw [a4]; decide)⟩ hp rfl hln2 hL.1 hst2 (by show 2 * 0 + _ ≤ 8; have := cat_c8 ad hr4; omega) d hcaps
              · have hcb := cn_of (mc := gc σ1 - gc σ) (ms := gs σ1 - gs σ) hC hS h9 a7 hh rfl hl
                rw [hret] at hcb
                exact vx_runIN (fixR lsC ad hL) (hct D ty b0 ad hag) ⟨hcb, hnm, kin_i hS h9 (by rw [a4]; decide)⟩ hp rfl hln2 hL.1 hst2 (by show 2 * 0 + _ ≤ 8; have := cat_c8 ad hr4; omega) d hcaps
        · obtain ⟨d, hl, hx⟩ := dx_new (n := 3) rfl (fun _ => rfl) (fun _ => rfl) hE
          try dsimp only at hx
          cases hf : mrT[f1]? with
          | none => rw [hf] at hx; cases hx
          | some q =>
            rw [hf] at hx
            obtain ⟨a1, a2, a3, a4, a5, a6, a8, a7⟩ := of_decide_eq_true hx
            have hy1 : y = y1 := (sCall_inv h).1
            subst hy1
            exact ⟨by rw [a4]; decide, by rw [a5, if_neg (by rw [a4]; decide)]⟩
      | [p1], h =>
        unfold stI at h
        dsimp only at h
        repeat' split at h
        all_goals cases h
      | [], h => cases h
      | [_, _], h => cases h
      | [_, _, _], h => cases h
      | _ :: _ :: _ :: _ :: _ :: _, h => cases h
    case fconst q =>
      match q, h with
      | 0, h => cases h
      | 1, h => cases h
      | 2, h => cases h
    case dconst q =>
      match q, h with
      | 0, h => cases h
      | 1, h => cases h
    all_goals
      first
      | (cases h; done)
      | (unfold stI at h
         (try simp only [bI, bL, sL, sto1, sto2] at h)
         (repeat' split at h) <;> cases h)
end WR
