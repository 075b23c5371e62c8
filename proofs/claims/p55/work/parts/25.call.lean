/-! ONE CALL -/
theorem cat_or {vs : List Value} (h : vs.length ≤ 4 ∨ (vs.map (fun v => v.category)).sum ≤ 8) : (vs.map (fun v => v.category)).sum ≤ 8 := h.elim (fun h => Nat.le_trans (cat_le vs) (by omega)) id
theorem cat_c8 (ad : Nat → Nat) {vs : List Value} (h : (vs.map (fun v => v.category)).sum ≤ 8) : ((vs.map (cv ad)).map fun v => v.category).sum ≤ 8 := by
  rw [cv_cats]
  exact h
theorem sCall_inv {y n c y0 : Nat} {r : List En} {ls st as : List Value} {σ : St} {g : Fr} (h : sCall y n c r ls st σ = some (.inr (.inr (y0, as, g)))) :
    y0 = y ∧ n ≤ st.length ∧ ((st.drop n).map (fun v => v.category)).sum ≤ 8 ∧ as = (st.take n).reverse ∧ g = (r, ls, st.drop n, σ) ∧ ∀ c', c = c' + 1 → ∃ p as', as = .ref p :: as' ∧ gK σ p = c' := by
  unfold sCall at h
  split at h
  next hq =>
    split at h
    next => cases h; exact ⟨rfl, hq.1, cat_or hq.2, rfl, rfl, fun c' h => by cases h⟩
    next c1 =>
      split at h
      next p as' hp =>
        split at h
        next hk => cases h; exact ⟨rfl, hq.1, cat_or hq.2, hp.symm, rfl, fun c' h => ⟨p, as', rfl, by cases h; exact hk⟩⟩
        next => cases h
      next => cases h
  next => cases h
theorem hst_1 : ∀ r ∈ mt_0, r.2.2.2.2.2.2.2.2.2.1 = [] ∨ r.2.2.2.2.2.2.1 = 0 := by decide +kernel
theorem hst_2 : ∀ r ∈ mt_1, r.2.2.2.2.2.2.2.2.2.1 = [] ∨ r.2.2.2.2.2.2.1 = 0 := by decide +kernel
theorem hst_3 : ∀ r ∈ mt_2, r.2.2.2.2.2.2.2.2.2.1 = [] ∨ r.2.2.2.2.2.2.1 = 0 := by decide +kernel
theorem hst_4 : ∀ r ∈ mt_3, r.2.2.2.2.2.2.2.2.2.1 = [] ∨ r.2.2.2.2.2.2.1 = 0 := by decide +kernel
theorem hst_5 : ∀ r ∈ mt_4, r.2.2.2.2.2.2.2.2.2.1 = [] ∨ r.2.2.2.2.2.2.1 = 0 := by decide +kernel
theorem hst_6 : ∀ r ∈ mt_5, r.2.2.2.2.2.2.2.2.2.1 = [] ∨ r.2.2.2.2.2.2.1 = 0 := by decide +kernel
theorem hst_7 : ∀ r ∈ mt_6, r.2.2.2.2.2.2.2.2.2.1 = [] ∨ r.2.2.2.2.2.2.1 = 0 := by decide +kernel
theorem hst_8 : ∀ r ∈ mt_7, r.2.2.2.2.2.2.2.2.2.1 = [] ∨ r.2.2.2.2.2.2.1 = 0 := by decide +kernel
/-- what catches is static -/
theorem hst (z : Nat) : hndW z = [] ∨ mK z = 0 := by
  have h : ∀ r ∈ mtT, r.2.2.2.2.2.2.2.2.2.1 = [] ∨ r.2.2.2.2.2.2.1 = 0 := by
    show ∀ r ∈ mt_0 ++ (mt_1 ++ (mt_2 ++ (mt_3 ++ (mt_4 ++ (mt_5 ++ (mt_6 ++ mt_7)))))), _
    exact List.forall_mem_append.mpr ⟨hst_1, List.forall_mem_append.mpr ⟨hst_2, List.forall_mem_append.mpr ⟨hst_3, List.forall_mem_append.mpr ⟨hst_4, List.forall_mem_append.mpr ⟨hst_5, List.forall_mem_append.mpr ⟨hst_6, List.forall_mem_append.mpr ⟨hst_7, hst_8⟩⟩⟩⟩⟩⟩⟩
  unfold hndW mK mtN
  rw [List.getD_eq_getElem?_getD]
  cases hq : mtT[z]? with
  | none => exact Or.inl rfl
  | some r => exact h r (List.mem_of_getElem? hq)
section CALL
variable {z : Nat} {D : va_G} {ty : Nat → ClassId} {b0 : Nat} {σ0 : St} {ad0 : Nat → Nat} {p : Program} {l : Launch} {e : Env} {R : Room} {s : State} {m : MethodId} {args : Array Value} {below : List Frame} {meth : Method} {c : Code} {Q : State → Prop}
variable {i : Instr} {pc pc0 len : Nat} {ext : List Nat} {r : List En} {ls st : List Value} {σ σ1 : St} {f' : Fr} {H : Heap} {locs : List Loc} {ad : Nat → Nat} {lsC : Array Slot} {o1 : Out}
/-- behind a call -/
theorem call_fin {rest : List Value} {st0 : List Value} {av : Array Value} (hR : Rh D ty b0 s σ0 ad0 σ ad H locs) (hL : Lr ad lsC (mL z) ls) (hls : rgs (gx σ + 2) ls) (hrs : rgs (gx σ + 2) rest) (hF : Fk z (pc + 3) r)
    (hrun : vx_Run p l e R s m args below meth c H locs (gc σ - gc σ0) (gs σ - gs σ0) (gc σ1 - gc σ) (gs σ1 - gs σ) (F0 m pc lsC st0) (rest.map (cv ad)) (Cq D ty b0 ad σ o1 σ1 av) (Xq D ty b0 ad σ o1 σ1) (Ab b0))
    (kR : ∀ v, o1 = .inl v → Gl z D ty b0 σ0 ad0 p l e R s m args below meth c Q (r, ls, v.toList ++ rest, σ1))
    (kX : ∀ x, o1 = .inr x → ∀ (ad' : Nat → Nat) (H1 : Heap) (locs1 : List Loc) (rst : List Value) (q : Addr) (ce : Cell), Rh D ty b0 s σ0 ad0 σ1 ad' H1 locs1 → Lr ad' lsC (mL z) ls → rgs (gx σ1 + 2) ls → H1[q]? = some ce → ce.vm = .none → s.vm.findClass (exN x) = some ce.cls → vx_W p l e R s m args below meth c H1 locs1 (gc σ1 - gc σ0) (gs σ1 - gs σ0) Q (F0 m pc lsC rst) q) :
    W p l e R s m args below meth c H locs (gc σ - gc σ0) (gs σ - gs σ0) Q (F0 m pc lsC st0) := by
  refine run_go hrun (fun v st₀ t L h0 hLf hq => ?_) (fun q st₀ t L E ce h0 hLf hx hce hcv hcl => ?_)
  · obtain ⟨ad', v', ho, hoc, hrg, hw⟩ := hq
    cases hoc
    have hR' := rh_call hR h0 hLf hw
    have hg := hw.2.1
    have k := kR v' ho (pc + 3) ad' t.heap (locs ++ L) lsC ⟨hF, Lr_ad hL hls hw.1, rgs_mono (Nat.add_le_add_right hg 2) hls, fun w hw2 => (List.mem_append.mp hw2).elim (fun h => hrg w (by cases v' <;> simp_all)) (fun h => rg_mono (Nat.add_le_add_right hg 2) (hrs w h)), hR'⟩
    have e1 : gc σ - gc σ0 + (gc σ1 - gc σ) = gc σ1 - gc σ0 := by have := hR.2.2.2.2.2.2.1; have := hw.2.2.1; omega
    have e2 : gs σ - gs σ0 + (gs σ1 - gs σ) = gs σ1 - gs σ0 := by have := hR.2.2.2.2.2.2.2.1; have := hw.2.2.2.1; omega
    have e3 : (v'.toList ++ rest).map (cv ad') = (v'.map (cv ad')).toList ++ rest.map (cv ad) := by
      rw [List.map_append, cvs_eq hw.1 hrs]
      cases v' <;> rfl
    dsimp only at k
    rw [e3] at k
    rw [e1, e2]
    exact k
  · obtain ⟨ad', x, ho, rfl, hw⟩ := hx
    have hR' := rh_call hR h0 hLf hw
    have e1 : gc σ - gc σ0 + (gc σ1 - gc σ) = gc σ1 - gc σ0 := by have := hR.2.2.2.2.2.2.1; have := hw.2.2.1; omega
    have e2 : gs σ - gs σ0 + (gs σ1 - gs σ) = gs σ1 - gs σ0 := by have := hR.2.2.2.2.2.2.2.1; have := hw.2.2.2.1; omega
    rw [e1, e2]
    exact kX x ho ad' t.heap (locs ++ L) _ q ce hR' (Lr_ad hL hls hw.1) (rgs_mono (Nat.add_le_add_right hw.2.1 2) hls) hce hcv hcl
theorem pay1 {y : Nat} (hS : Sx D ty b0 ad0 σ0 s) (hy : mK y ≠ 9) : ∀ w ∈ [codR (mtN y)], ∀ (a' : Array Value) (U : State), s.WarmedH U.vm → w.before a' U = true := by
  intro w hw a' U hW
  rw [List.mem_singleton] at hw
  subst hw
  exact tw_warm (tw_codR y) hW (fun A => hS.2.1 _ (wat_in (mo_use hy).1) (tw_codR y) A) a'
/-- the room of a call -/
theorem rmOk {y : Nat} (hC : Cx z p l R s m meth c) (hy : mK y ≠ 9) (hr : rk y < rk z) : rk y + 1 ≤ R.frames ∧ 8 + (mL y + 11) + 64 * rk y ≤ R.locals := by
  have h1 := hC.2.2.2.2.2.2.2.2.2.1
  have h2 := hC.2.2.2.2.2.2.2.2.2.2.1
  have h3 := (mo_use hy).2.2.2.2.2.2.2.2.2.2.1
  omega
theorem cb_of {y n : Nat} {mc ms : Nat} {rm : Room} (hC : Cx z p l R s m meth c) (hS : Sx D ty b0 ad0 σ0 s) (hy : mK y ≠ 9) (hr : rk y < rk z) (hh : hndW y = []) (hm : rm = { frames := rk y, cells := mc, slots := ms, locals := 64 * rk y }) (hl : (Cond.methodLink (cn (mC z)) n (mY y)).before args s = true) :
    CallB R s args (cn (mC z)) n (mY y) (mB y) (mL y) (mR y) [codR (mtN y)] rm mc ms (mA y) := by
  have h := mo_use hy
  have hcod : codR (mtN y) = .code (mY y) (mB y) (mL y) (mR y) := if_pos hh
  obtain ⟨r1, r2⟩ := rmOk hC hy hr
  subst hm
  refine ⟨rfl, rfl, r1, r2, pay1 hS hy, by rw [hcod]; exact List.mem_singleton.mpr rfl, ?_, hS.2.1 _ (wat_in h.2.2.1) rfl args, ⟨h.2.2.2.2.2.2.1, h.2.2.2.2.2.2.2.1⟩, fun sig hs => ?_, hl⟩
  · rw [← hcod]
    exact hS.2.1 _ (wat_in h.1) (tw_codR y) args
  · have h2 := h.2.2.2.2.2.2.2.2.2.1
    rw [hs] at h2
    exact (Option.some.inj h2).symm
theorem cn_of {h9 : String} {y n : Nat} {mc ms : Nat} {rm : Room} (hC : Cx z p l R s m meth c) (hS : Sx D ty b0 ad0 σ0 s) (hy : mK y ≠ 9) (hr : rk y < rk z) (hh : hndW y = []) (hm : rm = { frames := rk y, cells := mc, slots := ms, locals := 64 * rk y }) (hl : (Cond.methodLinkNest (cn (mC z)) n (mY y) h9).before args s = true) :
    va_CN R s args (cn (mC z)) n (mY y) h9 (mB y) (mL y) (mR y) [codR (mtN y)] rm mc ms (mA y) := by
  have h := mo_use hy
  have hcod : codR (mtN y) = .code (mY y) (mB y) (mL y) (mR y) := if_pos hh
  obtain ⟨r1, r2⟩ := rmOk hC hy hr
  subst hm
  refine ⟨⟨rfl, rfl, r1, r2, pay1 hS hy, by rw [hcod]; exact List.mem_singleton.mpr rfl⟩, ?_, hS.2.1 _ (wat_in h.2.2.1) rfl args, ⟨h.2.2.2.2.2.2.1, h.2.2.2.2.2.2.2.1⟩, fun sig hs => ?_, hl⟩
  · rw [← hcod]
    exact hS.2.1 _ (wat_in h.1) (tw_codR y) args
  · have h2 := h.2.2.2.2.2.2.2.2.2.1
    rw [hs] at h2
    exact (Option.some.inj h2).symm
theorem kin_i {y : Nat} (hS : Sx D ty b0 ad0 σ0 s) (hy : mK y ≠ 9) (h0 : mK y ≠ 0) : (Cond.instanceMethod (mY y)).before args s = true := by
  have h := (mo_use hy).2.1
  have e : kinR (mtN y) = .instanceMethod (mY y) := if_neg h0
  rw [e] at h
  exact hS.2.1 _ (wat_in h) rfl args
theorem kin_s {y : Nat} (hS : Sx D ty b0 ad0 σ0 s) (h0 : mK y = 0) : (Cond.static (mY y)).before args s = true := by
  have h := (mo_use (z := y) (by rw [h0]; decide)).2.1
  have e : kinR (mtN y) = .static (mY y) := if_pos h0
  rw [e] at h
  exact hS.2.1 _ (wat_in h) rfl args
theorem stk (ad : Nat → Nat) {n : Nat} {st as : List Value} (h : as = (st.take n).reverse) : st.map (cv ad) = (as.map (cv ad)).reverse ++ (st.drop n).map (cv ad) := by
  rw [h, List.map_reverse, List.reverse_reverse, ← List.map_append, List.take_append_drop]
theorem as_rg {n k : Nat} {st as : List Value} (h : as = (st.take n).reverse) (hs : rgs k st) : rgs k as ∧ rgs k (st.drop n) := by
  subst h
  exact ⟨fun v hv => hs v (List.mem_of_mem_take (List.mem_reverse.mp hv)), fun v hv => hs v (List.mem_of_mem_drop hv)⟩
end CALL
