/-! ENTRIES THAT READ AND WRITE THE HEAP -/
def vc (c : Nat) : vw_C := vwCl.getD c ("", fun _ => ("", "", "", false), 0)
def tyf (c : Nat) : Nat → FieldType := match c with
  | 0 => tyX0
  | 1 => tyX1
  | 2 => tyX2
  | 3 => tyX3
  | 4 => tyX4
  | 5 => tyX5
  | 6 => tyX6
  | 7 => tyX7
  | 8 => tyX8
  | _ => tyX9
theorem c10 {P : Nat → Prop} (h0 : P 0) (h1 : P 1) (h2 : P 2) (h3 : P 3) (h4 : P 4) (h5 : P 5) (h6 : P 6) (h7 : P 7) (h8 : P 8) (h9 : P 9) {c : Nat} (h : c < 10) : P c := by
  match c, h with
  | 0, _ => exact h0
  | 1, _ => exact h1
  | 2, _ => exact h2
  | 3, _ => exact h3
  | 4, _ => exact h4
  | 5, _ => exact h5
  | 6, _ => exact h6
  | 7, _ => exact h7
  | 8, _ => exact h8
  | 9, _ => exact h9
  | n + 10, h => omega
theorem vc_at {c : Nat} (h : c < 10) : vwCl[c]? = some ((vc c).1, (vc c).2.1, (vc c).2.2) := c10 (P := fun c => vwCl[c]? = some ((vc c).1, (vc c).2.1, (vc c).2.2)) rfl rfl rfl rfl rfl rfl rfl rfl rfl rfl h
theorem vc_n {c : Nat} (h : c < 10) : (vc c).2.2 = nf c := c10 (P := fun c => (vc c).2.2 = nf c) rfl rfl rfl rfl rfl rfl rfl rfl rfl rfl h
theorem vc_c {c : Nat} (h : c < 10) : (vc c).1 = cn c := c10 (P := fun c => (vc c).1 = cn c) rfl rfl rfl rfl rfl rfl rfl rfl rfl rfl h
theorem vc_d {c : Nat} (h : c < 10) : ∀ k, k < (vc c).2.2 → ((vc c).2.1 k).1 = cn c := c10 (P := fun c => ∀ k, k < (vc c).2.2 → ((vc c).2.1 k).1 = cn c) (by decide +kernel) (by decide +kernel) (by decide +kernel) (by decide +kernel) (by decide +kernel) (by decide +kernel) (by decide +kernel) (by decide +kernel) (by decide +kernel) (by decide +kernel) h
theorem tyf_ok {c : Nat} (h : c < 10) : ∀ k, k < (vc c).2.2 → parseFieldDescriptor ((vc c).2.1 k).2.2.1 = some (tyf c k) := c10 (P := fun c => ∀ k, k < (vc c).2.2 → parseFieldDescriptor ((vc c).2.1 k).2.2.1 = some (tyf c k)) tyX0_ok tyX1_ok tyX2_ok tyX3_ok tyX4_ok tyX5_ok tyX6_ok tyX7_ok tyX8_ok tyX9_ok h
theorem nm_ok {c : Nat} (h : c < 10) : ∀ a, a < (vc c).2.2 → ∀ b, b < (vc c).2.2 → a ≠ b → ((vc c).2.1 a).2.1 ≠ ((vc c).2.1 b).2.1 := c10 (P := fun c => ∀ a, a < (vc c).2.2 → ∀ b, b < (vc c).2.2 → a ≠ b → ((vc c).2.1 a).2.1 ≠ ((vc c).2.1 b).2.1) nmX0 nmX1 nmX2 nmX3 nmX4 nmX5 nmX6 nmX7 nmX8 nmX9 h
theorem tyf_t {c : Nat} (h : c < 10) : ∀ k, k < nf c → (fty c k = 1 → tyf c k = .int) ∧ (fty c k = 2 → tyf c k = .long) ∧ (fty c k = 3 → (tyf c k).isReference = true) ∧ (fty c k = 1 ∨ fty c k = 2 ∨ fty c k = 3) := c10 (P := fun c => ∀ k, k < nf c → (fty c k = 1 → tyf c k = .int) ∧ (fty c k = 2 → tyf c k = .long) ∧ (fty c k = 3 → (tyf c k).isReference = true) ∧ (fty c k = 1 ∨ fty c k = 2 ∨ fty c k = 3)) (by decide) (by decide) (by decide) (by decide) (by decide) (by decide) (by decide) (by decide) (by decide) (by decide) h
def usT : List (List Nat) := [[1185, 1187, 1189, 1191, 1193, 1195, 1197, 1199, 1201], [1070, 1072, 1074], [1160], [1138, 1140, 1142, 1144, 1146, 1148, 1150], [1114, 1116, 1118], [1043, 1045], [1089, 1091, 1093, 1095, 1097, 1099], [1215, 1217, 1219, 1221, 1223, 1225, 1227, 1229, 1231, 1233, 1235], [3032], [3060, 3062, 3064]]
def usp (c k : Nat) : Nat := (usT.getD c []).getD k 0
set_option maxRecDepth 100000 in
theorem us_at {c : Nat} (h : c < 10) : ∀ k, k < (vc c).2.2 → wat (usp c k) = some (u_lay (vc c).1 (vc c).2.1 k) ∧ tw (u_lay (vc c).1 (vc c).2.1 k) = true := c10 (P := fun c => ∀ k, k < (vc c).2.2 → wat (usp c k) = some (u_lay (vc c).1 (vc c).2.1 k) ∧ tw (u_lay (vc c).1 (vc c).2.1 k) = true) (by decide +kernel) (by decide +kernel) (by decide +kernel) (by decide +kernel) (by decide +kernel) (by decide +kernel) (by decide +kernel) (by decide +kernel) (by decide +kernel) (by decide +kernel) h
theorem us_ok {c : Nat} (h : c < 10) : ∀ w ∈ u_ws (vc c).1 (vc c).2.1 (vc c).2.2, w ∈ lw_tbl ∧ tw w = true := by
  intro w hw
  obtain ⟨k, hk, rfl⟩ := List.mem_map.mp hw
  have h2 := us_at h k (List.mem_range.mp hk)
  exact ⟨wat_in h2.1, h2.2⟩
theorem us_hts {c : Nat} (h : c < 10) {D : va_G} {ty : Nat → ClassId} {b0 : Nat} {ad : Nat → Nat} {σ : St} {s : State} (hS : Sx D ty b0 ad σ s) {args : Array Value} : ∀ w ∈ u_ws (vc c).1 (vc c).2.1 (vc c).2.2, w.before args s = true := fun w hw => hS.2.1 w (us_ok h w hw).1 (us_ok h w hw).2 args
/-- getters behind setters -/
theorem gI_I (σ : St) (p k : Nat) (x : Int32) (q j : Nat) : gI (setI σ p k x) q j = if q = p ∧ j = k then x else gI σ q j := rfl
theorem gL_L (σ : St) (p k : Nat) (x : Int64) (q j : Nat) : gL (setL σ p k x) q j = if q = p ∧ j = k then x else gL σ q j := rfl
theorem gD_D (σ : St) (p k : Nat) (x : UInt64) (q j : Nat) : gD (setD σ p k x) q j = if q = p ∧ j = k then x else gD σ q j := rfl
theorem gR_R (σ : St) (p k : Nat) (x : Option Nat) (q j : Nat) : gR (setR σ p k x) q j = if q = p ∧ j = k then x else gR σ q j := rfl
theorem gI_row (σ : St) (p : Nat) (g : Nat → Int32) (q j : Nat) : gI (rowI σ p g) q j = if q = p then g j else gI σ q j := rfl
theorem entE_o {ty : Nat → ClassId} {ad : Nat → Nat} {σ : St} {p c : Nat} (h : gK σ p = c) (hc : c < 10) : entE ty ad σ p = .inr (c, (List.range (nf c)).map (fun k => cv ad (gf σ (fty c k) p k))) := by
  unfold entE
  rw [h, if_pos hc]
theorem entE_10 {ty : Nat → ClassId} {ad : Nat → Nat} {σ : St} {p : Nat} (h : gK σ p = 10) : entE ty ad σ p = .inl (ty 0, gN σ p, .inl (gI σ p)) := by
  unfold entE
  rw [h]; rfl
theorem entE_11 {ty : Nat → ClassId} {ad : Nat → Nat} {σ : St} {p : Nat} (h : gK σ p = 11) : entE ty ad σ p = .inl (ty 1, gN σ p, .inl (gI σ p)) := by
  unfold entE
  rw [h]; rfl
theorem entE_12 {ty : Nat → ClassId} {ad : Nat → Nat} {σ : St} {p : Nat} (h : gK σ p = 12) : entE ty ad σ p = .inl (ty 2, gN σ p, .inr (.inl (gL σ p))) := by
  unfold entE
  rw [h]; rfl
theorem entE_13 {ty : Nat → ClassId} {ad : Nat → Nat} {σ : St} {p : Nat} (h : gK σ p = 13) : entE ty ad σ p = .inl (ty 3, gN σ p, .inr (.inr (.inr (.inl (gD σ p))))) := by
  unfold entE
  rw [h]; rfl
theorem isRA_c {k : Nat} {P : Nat → Prop} (h : isRA k = true) (h14 : P 14) (h15 : P 15) (h16 : P 16) (h17 : P 17) (h18 : P 18) (h19 : P 19) : P k := by
  unfold isRA at h
  simp only [Bool.or_eq_true, beq_iff_eq] at h
  rcases h with ((((rfl | rfl) | rfl) | rfl) | rfl) | rfl <;> assumption
theorem entE_r {ty : Nat → ClassId} {ad : Nat → Nat} {σ : St} {p : Nat} (h : isRA (gK σ p) = true) : entE ty ad σ p = .inl (ty (gK σ p - 10), gN σ p, .inr (.inr (.inr (.inr (fun j => (gR σ p j).map ad))))) := by
  unfold entE
  exact isRA_c (P := fun k => (if k < 10 then _ else if k = 10 then _ else if k = 11 then _ else if k = 12 then _ else if k = 13 then _ else _) = _) h rfl rfl rfl rfl rfl rfl
/-- .. of arrays of any kind -/
theorem entE_a {ty : Nat → ClassId} {ad : Nat → Nat} {σ : St} {p : Nat} (h1 : 10 ≤ gK σ p) (h2 : gK σ p ≤ 18) : ∃ a, entE ty ad σ p = .inl (ty (gK σ p - 10), gN σ p, a) := by
  by_cases e0 : gK σ p = 10
  · exact ⟨_, by rw [entE_10 e0, e0]⟩
  by_cases e1 : gK σ p = 11
  · exact ⟨_, by rw [entE_11 e1, e1]⟩
  by_cases e2 : gK σ p = 12
  · exact ⟨_, by rw [entE_12 e2, e2]⟩
  by_cases e3 : gK σ p = 13
  · exact ⟨_, by rw [entE_13 e3, e3]⟩
  have h : isRA (gK σ p) = true := by
    have : gK σ p = 14 ∨ gK σ p = 15 ∨ gK σ p = 16 ∨ gK σ p = 17 ∨ gK σ p = 18 := by omega
    rcases this with h | h | h | h | h <;> rw [h] <;> rfl
  exact ⟨_, entE_r h⟩
theorem tyL_at (ty : Nat → ClassId) {k : Nat} (h1 : 10 ≤ k) (h2 : k ≤ 18) : ∃ t, (tyL ty)[k - 10]? = some (ty (k - 10), t) := by
  have : k = 10 ∨ k = 11 ∨ k = 12 ∨ k = 13 ∨ k = 14 ∨ k = 15 ∨ k = 16 ∨ k = 17 ∨ k = 18 := by omega
  rcases this with rfl | rfl | rfl | rfl | rfl | rfl | rfl | rfl | rfl <;> exact ⟨_, rfl⟩
theorem flds_set {n k : Nat} {f f' : Nat → Value} {v : Value} (h1 : f' k = v) (h2 : ∀ j, j ≠ k → f' j = f j) : ((List.range n).map f).set k v = (List.range n).map f' := by
  apply List.ext_getElem?
  intro j
  rw [List.getElem?_set, List.length_map, List.length_range]
  by_cases e : k = j
  · subst e
    rw [if_pos rfl]
    by_cases hk : k < n
    · rw [if_pos hk, List.getElem?_map, List.getElem?_range hk]
      exact congrArg some h1.symm
    · rw [if_neg hk]
      exact (List.getElem?_eq_none (by rw [List.length_map, List.length_range]; omega)).symm
  · rw [if_neg e, List.getElem?_map, List.getElem?_map]
    cases hj : (List.range n)[j]? with
    | none => rfl
    | some i =>
      obtain ⟨h3, h4⟩ := List.getElem?_eq_some_iff.mp hj
      rw [List.getElem_range] at h4
      subst h4
      exact congrArg some (h2 _ (fun q => e q.symm)).symm
theorem nar_ref {t : FieldType} {v : Value} (ht : t.isReference = true) (hv : ∃ a, v = .ref a) : narrow t v = v ∧ fits t v = true := by
  obtain ⟨a, rfl⟩ := hv
  cases t <;> first | exact ⟨rfl, rfl⟩ | exact absurd ht (by decide)
section HEAP
variable {z : Nat} {D : va_G} {ty : Nat → ClassId} {b0 : Nat} {σ0 : St} {ad0 : Nat → Nat} {p : Program} {l : Launch} {e : Env} {R : Room} {s : State} {m : MethodId} {args : Array Value} {below : List Frame} {meth : Method} {c : Code} {Q : State → Prop}
variable {i : Instr} {pc0 len : Nat} {ext : List Nat} {r : List En} {ls st : List Value} {σ : St} {f' : Fr}
/-- an entry that lays something anew in one place -/
theorem gl_set {p0 : Nat} {σ' : St} {st' : List Value} (hi : okS σ → okp σ p0) (hx : gx σ' = gx σ) (hc : gc σ' = gc σ) (hs : gs σ' = gs σ) (ho : ∀ q ad, q ≠ p0 → entE ty ad σ' q = entE ty ad σ q) (hok : okS σ → rgs (gx σ + 2) st → okS σ') (hfx : okS σ → fix2 σ σ') (hrg : ∀ n, rgs n st → rgs n st')
    (row : ∀ (pc : Nat) (ad : Nat → Nat) (H : Heap) (locs : List Loc) (lsC : Array Slot), okE z (codes.getD z []) (pc, i, len, ext) = true → Lr ad lsC (mL z) ls → Rh D ty b0 s σ0 ad0 σ ad H locs →
      (∀ (H1 : Heap) (locs1 : List Loc), va_P D vwCl ((wld ty ad σ).set (ix σ p0) (ad p0, entE ty ad σ' p0)) H1 → va_D (Ab b0) ((wld ty ad σ).set (ix σ p0) (ad p0, entE ty ad σ' p0)) → va_S (Ab b0) s.heap H1 locs1 → W p l e R s m args below meth c H1 locs1 (gc σ - gc σ0) (gs σ - gs σ0) Q (F0 m (pc + len) lsC (st'.map (cv ad)))) →
      W p l e R s m args below meth c H locs (gc σ - gc σ0) (gs σ - gs σ0) Q (F0 m pc lsC (st.map (cv ad))))
    (k : Gl z D ty b0 σ0 ad0 p l e R s m args below meth c Q (r, ls, st', σ')) : Gl z D ty b0 σ0 ad0 p l e R s m args below meth c Q ((pc0, i, len, ext) :: r, ls, st, σ) := by
  intro pc ad H locs lsC h
  obtain ⟨hF, hL, h1, h2, hR⟩ := h
  obtain ⟨rfl, hE, hF'⟩ := fk_e hF
  refine row pc0 ad H locs lsC hE hL hR fun H1 locs1 hP hD hS => ?_
  obtain ⟨-, -, -, q4, q5, q6, q7, q8, q9⟩ := hR
  have g1 := hfx q4
  rw [wld_set hx g1.1 (hi q4) (fun q hq => ho q ad hq)] at hP hD
  have k2 := k (pc0 + len) ad H1 locs1 lsC ⟨hF', hL, by rw [hx]; exact h1, by rw [hx]; exact hrg _ h2, hP, hD, hS, hok q4 h2, by rw [hx]; exact q5, q6, by rw [hc]; exact q7, by rw [hs]; exact q8, fix2_tr q9 g1⟩
  rw [hc, hs] at k2
  exact k2
theorem rh_at {ad : Nat → Nat} {H : Heap} {locs : List Loc} {p0 : Nat} (hR : Rh D ty b0 s σ0 ad0 σ ad H locs) (h : okp σ p0) : (wld ty ad σ)[ix σ p0]? = some (ad p0, entE ty ad σ p0) := wld_at h
/-- the row of a field of this entry -/
theorem fr_use {n c0 k t f : Nat} {x : (Nat × Nat × Nat × Nat × Nat × Nat × Nat × Nat) → Bool} (hS : Sx D ty b0 ad0 σ0 s)
    (h : (match frT[f]? with | some e => decide (e.1 = mC z ∧ e.2.1 = n ∧ e.2.2.1 = c0 ∧ e.2.2.2.1 = k ∧ e.2.2.2.2.1 = t ∧ t = fty c0 k ∧ k < nf c0 ∧ c0 < 10) && x e | none => false) = true) :
    c0 < 10 ∧ k < nf c0 ∧ t = fty c0 k ∧ ((Cond.fieldLink (cn (mC z)) n ((vc c0).2.1 k).1 ((vc c0).2.1 k).2.1 ((vc c0).2.1 k).2.2.1).before args s = true ∨ ∃ h9, (Cond.fieldLinkNest (cn (mC z)) n ((vc c0).2.1 k).1 ((vc c0).2.1 k).2.1 ((vc c0).2.1 k).2.2.1 h9).before args s = true) := by
  cases hf : frT[f]? with
  | none => rw [hf] at h; cases h
  | some q =>
    rw [hf] at h
    obtain ⟨a1, a2, a3, a4, a5, a6, a7, a8⟩ := of_decide_eq_true (Bool.and_eq_true_iff.mp h).1
    refine ⟨a8, a7, a6, ?_⟩
    have h2 := wat_in (fr_ok q (List.mem_of_getElem? hf))
    unfold frC at h2
    rw [a1, a2, a3, a4] at h2
    by_cases h3 : q.2.2.2.2.2.1 = 0
    · left
      have h4 := hS.2.1 _ h2 (by rw [if_pos h3]; rfl) args
      rw [if_pos h3] at h4
      exact h4
    · right
      have h4 := hS.2.1 _ h2 (by rw [if_neg h3]; rfl) args
      rw [if_neg h3] at h4
      exact ⟨_, h4⟩
theorem gl_getfield {n : Nat} (hC : Cx z p l R s m meth c) (hS : Sx D ty b0 ad0 σ0 s) (h : stI z (.getfield n) ext r ls st σ = some (.inl f')) (k : Gl z D ty b0 σ0 ad0 p l e R s m args below meth c Q f') : Gl z D ty b0 σ0 ad0 p l e R s m args below meth c Q ((pc0, .getfield n, len, ext) :: r, ls, st, σ) := by
  unfold stI at h
  dsimp only at h
  split at h
  next c0 k0 t f0 p0 st1 =>
    split at h
    next hk =>
      cases h
      refine gl_st (fun n h1 h2 _ h4 _ => ⟨h1, rgs_c (h4 _ _ _) (rgs_t h2)⟩) (fun pc ad H locs lsC hE hL hR kk => ?_) k
      obtain ⟨d, rfl, hx⟩ := dx_new (n := 3) rfl (fun _ => rfl) (fun _ => rfl) hE
      have hx : (match frT[f0]? with | some e => decide (e.1 = mC z ∧ e.2.1 = n ∧ e.2.2.1 = c0 ∧ e.2.2.2.1 = k0 ∧ e.2.2.2.2.1 = t ∧ t = fty c0 k0 ∧ k0 < nf c0 ∧ c0 < 10) && (fun _ => true) e | none => false) = true := by
        have hy : (match frT[f0]? with | some e => decide (e.1 = mC z ∧ e.2.1 = n ∧ e.2.2.1 = c0 ∧ e.2.2.2.1 = k0 ∧ e.2.2.2.2.1 = t ∧ t = fty c0 k0 ∧ k0 < nf c0 ∧ c0 < 10) | none => false) = true := hx
        cases hq : frT[f0]? with
        | none => rw [hq] at hy; exact hy
        | some e => rw [hq] at hy; exact Bool.and_eq_true_iff.mpr ⟨hy, rfl⟩
      obtain ⟨g1, g2, g3, g4⟩ := fr_use (args := args) hS hx
      have hi := okS_lt hR.2.2.2.1 hk (by omega) (by omega) (by omega)
      have he : (wld ty ad σ)[ix σ p0]? = some (ad p0, .inr (c0, (List.range (nf c0)).map (fun k => cv ad (gf σ (fty c0 k) p0 k)))) := by rw [rh_at hR hi, entE_o hk g1]
      have hv : ((List.range (nf c0)).map (fun k => cv ad (gf σ (fty c0 k) p0 k)))[k0]? = some (cv ad (gf σ t p0 k0)) := by rw [List.getElem?_map, List.getElem?_range g2, g3]; rfl
      rcases g4 with g4 | ⟨h9, g4⟩
      · exact va_get hC.1 hC.2.1 (us_hts g1 hS) (fun _ h => h) hC.2.2.2.2.1 hS.1 hR.1 (ix σ p0) he (vc_at g1) k0 (by rw [vc_n g1]; exact g2) g4 (fun _ h => h) hv d (kk _ hL)
      · exact va_getN hC.1 hC.2.1 (us_hts g1 hS) (fun _ h => h) hC.2.2.2.2.1 hS.1 hR.1 (ix σ p0) he (vc_at g1) k0 (by rw [vc_n g1]; exact g2) g4 (fun _ h => h) hv d (kk _ hL)
    next => cases h
  next => cases h
/-- a field is laid: the rows' part -/
theorem put_row {n c0 k0 t f0 p0 : Nat} {v : Value} {σ' : St} {st1 : List Value} (hC : Cx z p l R s m meth c) (hS : Sx D ty b0 ad0 σ0 s) (hk : gK σ p0 = c0) (hk' : gK σ' p0 = c0)
    (hv : ∀ ad, cv ad (gf σ' t p0 k0) = cv ad v) (hoth : ∀ j, j ≠ k0 → ∀ t, gf σ' t p0 j = gf σ t p0 j) (hnar : ∀ ad, (t = fty c0 k0 → k0 < nf c0 → c0 < 10 → narrow (tyf c0 k0) (cv ad v) = cv ad v ∧ fits (tyf c0 k0) (cv ad v) = true))
    (pc : Nat) (ad : Nat → Nat) (H : Heap) (locs : List Loc) (lsC : Array Slot) (hE : okE z (codes.getD z []) (pc, .putfield n, len, [c0, k0, t, f0]) = true) (hR : Rh D ty b0 s σ0 ad0 σ ad H locs) (hi : okp σ p0)
    (kk : ∀ (H1 : Heap) (locs1 : List Loc), va_P D vwCl ((wld ty ad σ).set (ix σ p0) (ad p0, entE ty ad σ' p0)) H1 → va_D (Ab b0) ((wld ty ad σ).set (ix σ p0) (ad p0, entE ty ad σ' p0)) → va_S (Ab b0) s.heap H1 locs1 → W p l e R s m args below meth c H1 locs1 (gc σ - gc σ0) (gs σ - gs σ0) Q (F0 m (pc + len) lsC (st1.map (cv ad)))) :
    W p l e R s m args below meth c H locs (gc σ - gc σ0) (gs σ - gs σ0) Q (F0 m pc lsC (cv ad v :: .ref (ad p0) :: st1.map (cv ad))) := by
  obtain ⟨d, rfl, hx⟩ := dx_new (n := 3) rfl (fun _ => rfl) (fun _ => rfl) hE
  dsimp only at hx
  obtain ⟨g1, g2, g3, g4⟩ := fr_use (args := args) (z := z) (n := n) (c0 := c0) (k := k0) (t := t) (f := f0) (x := fun e => if e.2.2.2.2.2.2.1 = 0 then decide (decide (((vwCl.getD c0 ("", fun _ => ("", "", "", false), 0)).2.1 k0).2.2.2 = true) = false) else decide (mK z = 2 ∧ mC z = c0 ∧ e.2.2.2.2.2.1 = 0 ∧ ((vwCl.getD c0 ("", fun _ => ("", "", "", false), 0)).2.1 k0).2.2.2 = true)) hS hx
  obtain ⟨hn, hft⟩ := hnar ad g3 g2 g1
  have he : (wld ty ad σ)[ix σ p0]? = some (ad p0, .inr (c0, (List.range (nf c0)).map (fun k => cv ad (gf σ (fty c0 k) p0 k)))) := by rw [rh_at hR hi, entE_o hk g1]
  have hset : ((List.range (nf c0)).map (fun k => cv ad (gf σ (fty c0 k) p0 k))).set k0 (cv ad v) = (List.range (nf c0)).map (fun k => cv ad (gf σ' (fty c0 k) p0 k)) := flds_set (by rw [← g3]; exact hv ad) (fun j hj => by rw [hoth j hj])
  have hent : ((ad p0, .inr (c0, ((List.range (nf c0)).map (fun k => cv ad (gf σ (fty c0 k) p0 k))).set k0 (cv ad v))) : Nat × va_E) = (ad p0, entE ty ad σ' p0) := by rw [hset, entE_o hk' g1]
  rw [← hent] at kk
  have hl : k0 < ((List.range (nf c0)).map (fun k => cv ad (gf σ (fty c0 k) p0 k))).length := by rw [List.length_map, List.length_range]; exact g2
  have hk0 : k0 < (vc c0).2.2 := by rw [vc_n g1]; exact g2
  cases hf : frT[f0]? with
  | none => rw [hf] at hx; cases hx
  | some q =>
    rw [hf] at hx
    have hx2 := (Bool.and_eq_true_iff.mp hx).2
    by_cases hfin : q.2.2.2.2.2.2.1 = 0
    · rw [if_pos hfin] at hx2
      have hx3 : ((vc c0).2.1 k0).2.2.2 = false := by
        have hx4 := of_decide_eq_true hx2
        exact Bool.eq_false_iff.mpr (of_decide_eq_false hx4)
      rcases g4 with g4 | ⟨h9, g4⟩
      · exact va_put hC.1 hC.2.1 (us_hts g1 hS) (fun _ h => h) (tyf c0) (tyf_ok g1) (nm_ok g1) hC.2.2.2.2.1 hS.1 hR.1 hR.2.1 hR.2.2.1 (ix σ p0) he (vc_at g1) k0 hk0 g4 (fun _ h => h) hx3 (tyf_ok g1 k0 hk0) hn hft hl d kk
      · exact va_putN hC.1 hC.2.1 (us_hts g1 hS) (fun _ h => h) (tyf c0) (tyf_ok g1) (nm_ok g1) hC.2.2.2.2.1 hS.1 hR.1 hR.2.1 hR.2.2.1 (ix σ p0) he (vc_at g1) k0 hk0 g4 (fun _ h => h) hx3 (tyf_ok g1 k0 hk0) hn hft hl d kk
    · rw [if_neg hfin] at hx2
      obtain ⟨y1, y2, y3, y4⟩ := of_decide_eq_true hx2
      have h2 := wat_in (fr_ok q (List.mem_of_getElem? hf))
      obtain ⟨a1, a2, a3, a4, -⟩ := of_decide_eq_true (Bool.and_eq_true_iff.mp hx).1
      unfold frC at h2
      rw [a1, a2, a3, a4, if_pos y3] at h2
      have h4 := hS.2.1 _ h2 rfl args
      exact va_putF hC.1 hC.2.1 (us_hts g1 hS) (fun _ h => h) (tyf c0) (tyf_ok g1) (nm_ok g1) hC.2.2.2.2.1 hS.1 hR.1 hR.2.1 hR.2.2.1 (ix σ p0) he (vc_at g1) k0 hk0 h4 (fun _ h => h) y4 (hC.2.2.2.2.2.2.2.1 y1) (by rw [show ((vc c0).2.1 k0).1 = cn c0 from vc_d g1 k0 hk0, y2]) (tyf_ok g1 k0 hk0) hn hft hl d kk
end HEAP
