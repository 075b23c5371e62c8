/-! CALLS AND ENDS: what my machine's run says holds of the real one -/
set_option maxHeartbeats 4000000 in
theorem stp_mono {z : Nat} {f : Fr} {w : Rs} (h : stp z f = some w) : match w with
    | .inl f' => gc f.2.2.2 ≤ gc f'.2.2.2 ∧ gs f.2.2.2 ≤ gs f'.2.2.2
    | .inr (.inl q) => gc f.2.2.2 ≤ gc q.2 ∧ gs f.2.2.2 ≤ gs q.2
    | .inr (.inr (_, _, g)) => g.2.2.2 = f.2.2.2 := by
  obtain ⟨cs, ls, st, σ⟩ := f
  cases cs with
  | nil => cases h
  | cons en r =>
    obtain ⟨pc0, i, len, ext⟩ := en
    replace h : stI z i ext r ls st σ = some w := h
    cases i <;>
      first
      | (cases h; done)
      | (cases h; exact ⟨Nat.le_refl _, Nat.le_refl _⟩)
      | (unfold stI at h
         (try simp only [bI, bL, sL, sto1, sto2, sCall] at h)
         (repeat' split at h) <;>
           first
           | (cases h; done)
           | (cases h; exact ⟨Nat.le_refl _, Nat.le_refl _⟩)
           | (cases h; exact ⟨Nat.le_succ _, Nat.le_add_right _ _⟩)
           | (cases h; exact ⟨Nat.le_trans (Nat.le_succ _) (Nat.le_add_right _ _), Nat.le_trans (Nat.le_add_right _ _) (Nat.le_add_right _ _)⟩)
           | (cases h; rfl))
theorem go_mono : ∀ (n z : Nat) (f : Fr) (q : Out × St), go n z f = some q → gc f.2.2.2 ≤ gc q.2 ∧ gs f.2.2.2 ≤ gs q.2 := by
  intro n
  induction n with
  | zero => intro z f q h; exact absurd h (by simp [go])
  | succ n ih =>
    intro z f q h
    rw [go_s] at h
    cases hs : stp z f with
    | none => rw [hs] at h; exact absurd h (by simp)
    | some w =>
      rw [hs] at h
      have hm := stp_mono hs
      rcases w with f' | q' | ⟨y, as, g⟩
      · have := ih _ _ _ h
        dsimp only at hm
        omega
      · cases h
        exact hm
      · dsimp only at h hm
        by_cases hp : (spr as).length ≤ mL y
        rotate_left
        · rw [if_neg hp] at h; exact absurd h (by simp)
        rw [if_pos hp] at h
        cases hc : go n y (ent y as g.2.2.2) with
        | none => rw [hc] at h; exact absurd h (by simp)
        | some w =>
          rw [hc] at h
          have h1 := ih _ _ _ hc
          have h1 : gc g.2.2.2 ≤ gc w.2 ∧ gs g.2.2.2 ≤ gs w.2 := h1
          rw [hm] at h1
          obtain ⟨v | x, σ'⟩ := w
          · have h2 := ih _ _ _ h
            dsimp only at h1 h2
            omega
          · dsimp only at h
            by_cases h0 : hnd z = []
            · rw [if_pos h0] at h
              cases h
              exact h1
            · rw [if_neg h0] at h
              cases hf : fnd (hnd z) x with
              | none => rw [hf] at h; exact absurd h (by simp)
              | some bk =>
                rw [hf] at h
                dsimp only at h
                split at h
                · have h2 := ih _ _ _ h
                  dsimp only at h1 h2
                  omega
                · exact absurd h (by simp)
/-- behind a call, or at its end: the world that came -/
def Wo (D : va_G) (ty : Nat → ClassId) (b0 : Nat) (ad0 : Nat → Nat) (σ0 σ' : St) (ad' : Nat → Nat) (st t : State) : Prop :=
  (∀ q, q < gx σ0 + 2 → ad' q = ad0 q) ∧ gx σ0 ≤ gx σ' ∧ gc σ0 ≤ gc σ' ∧ gs σ0 ≤ gs σ' ∧ fix2 σ0 σ' ∧ okS σ' ∧ va_P D vwCl (wld ty ad' σ') t.heap ∧ va_D (Ab b0) (wld ty ad' σ') ∧ va_F (Ab b0) st t
def Cq (D : va_G) (ty : Nat → ClassId) (b0 : Nat) (ad0 : Nat → Nat) (σ0 : St) (o : Out) (σ' : St) : Array Value → State → Outcome → State → Prop := fun _ st oc t =>
  ∃ (ad' : Nat → Nat) (v : Option Value), o = .inl v ∧ oc = .returned (v.map (cv ad')) ∧ (∀ w, v = some w → rg (gx σ' + 2) w) ∧ Wo D ty b0 ad0 σ0 σ' ad' st t
def Xq (D : va_G) (ty : Nat → ClassId) (b0 : Nat) (ad0 : Nat → Nat) (σ0 : St) (o : Out) (σ' : St) : String → State → State → Prop := fun E st t =>
  ∃ (ad' : Nat → Nat) (e : Nat), o = .inr e ∧ E = exN e ∧ Wo D ty b0 ad0 σ0 σ' ad' st t
noncomputable def rmZ (z : Nat) (σ σ' : St) : Room := { frames := rk z, cells := gc σ' - gc σ, slots := gs σ' - gs σ, locals := 64 * rk z }
/-- what a run of a method says of the machine's -/
def Ctr (l : Launch) (z : Nat) (as : List Value) (σ : St) (o : Out) (σ' : St) : Prop :=
  ∀ (D : va_G) (ty : Nat → ClassId) (b0 : Nat) (ad : Nat → Nat), rgs (gx σ + 2) as → vx_Met l (mY z) [codR (mtN z)] (rmZ z σ σ') (va_Pc (as.map (cv ad)) (Iw D ty b0 ad σ)) (Cq D ty b0 ad σ o σ') (Xq D ty b0 ad σ o σ') (gc σ' - gc σ) (gs σ' - gs σ) (Ab b0)
theorem iw_blind {D : va_G} {ty : Nat → ClassId} {b0 : Nat} {ad : Nat → Nat} {σ : St} {av : List Value} : FrameBlind (va_Pc av (Iw D ty b0 ad σ)) := fun a U g mk h =>
  ⟨h.1, h.2.1, h.2.2.1, h.2.2.2.1, Sx_moved h.2.2.2.2 (State.WarmedH.refl U) (fun _ _ => rfl) (Nat.le_refl _) rfl rfl fix2_rf⟩
section RUN
variable {z : Nat} {D : va_G} {ty : Nat → ClassId} {b0 : Nat} {σ0 : St} {ad0 : Nat → Nat} {p : Program} {l : Launch} {e : Env} {R : Room} {s : State} {m : MethodId} {args : Array Value} {below : List Frame} {meth : Method} {c : Code} {Q : State → Prop}
variable {i : Instr} {pc pc0 len : Nat} {ext : List Nat} {r : List En} {ls st : List Value} {σ σ1 : St} {f' : Fr} {H : Heap} {locs : List Loc} {ad : Nat → Nat} {lsC : Array Slot}
theorem run_go {cells slots mc ms : Nat} {ls : Array Slot} {st0 rest : List Value} {Qa : State → Outcome → State → Prop} {XC : String → State → State → Prop} {free : Addr → Prop} (hr : vx_Run p l e R s m args below meth c H locs cells slots mc ms (F0 m pc ls st0) rest Qa XC free)
    (kr : ∀ (v : Option Value) (st₀ t : State) (L : List Loc), st₀.heap = H → (∀ q ∈ L, free q.base) → Qa st₀ (.returned v) t → W p l e R s m args below meth c t.heap (locs ++ L) (cells + mc) (slots + ms) Q (F0 m (pc + 3) ls (v.toList ++ rest)))
    (kx : ∀ (q : Addr) (st₀ t : State) (L : List Loc) (E : String) (ce : Cell), st₀.heap = H → (∀ z ∈ L, free z.base) → XC E st₀ t → t.heap[q]? = some ce → ce.vm = .none → s.vm.findClass E = some ce.cls → vx_W p l e R s m args below meth c t.heap (locs ++ L) (cells + mc) (slots + ms) Q (F0 m pc ls rest) q) :
    W p l e R s m args below meth c H locs cells slots Q (F0 m pc ls st0) := by
  intro T hT X
  rcases hr T hT X with ⟨v, st₀, t, T', L, h1, X', hL, h2, h3, hq, go⟩ | ⟨q, st₀, t, T', L, E, ce, h1, X', hL, h2, h3, hx, hce, hcv, hcl, stp⟩
  · obtain ⟨u, a, b⟩ := kr v st₀ t L h1 hL hq T' h2 X'
    exact ⟨u, go u a, b⟩
  · obtain ⟨u, a, b⟩ := kx q st₀ t L E ce h1 hL hx hce hcv hcl T' h2 X'
    exact ⟨u, stp.trans a, b⟩
theorem iw_at (hS : Sx D ty b0 ad0 σ0 s) (hR : Rh D ty b0 s σ0 ad0 σ ad H locs) {U : State} (hU : U.heap = H) (hW : s.WarmedH U.vm) : Iw D ty b0 ad σ U := by
  obtain ⟨q1, q2, q3, q4, q5, q6, q7, q8, q9⟩ := hR
  refine ⟨by rw [hU]; exact q1, q2, q4, Sx_moved hS hW (fun q hq => ?_) (by rw [hU]; exact q3.1) (q6 0 (by omega)) (q6 1 (by omega)) q9⟩
  rw [hU]
  exact q3.2.1 q (Nat.lt_of_lt_of_le hq hS.2.2.2.2.2.2.2.2.2.2) (Nat.not_le.mpr hq)
/-- the world behind a call stands to my state behind it -/
theorem rh_call {ad' : Nat → Nat} {st₀ t : State} {L : List Loc} (hR : Rh D ty b0 s σ0 ad0 σ ad H locs) (h0 : st₀.heap = H) (hL : ∀ q ∈ L, Ab b0 q.base) (hw : Wo D ty b0 ad σ σ1 ad' st₀ t) : Rh D ty b0 s σ0 ad0 σ1 ad' t.heap (locs ++ L) := by
  obtain ⟨q1, q2, q3, q4, q5, q6, q7, q8, q9⟩ := hR
  obtain ⟨w1, w2, w3, w4, w5, w6, w7, w8, w9, w10⟩ := hw
  rw [h0] at w9 w10
  refine ⟨w7, w8, ⟨Nat.le_trans q3.1 w9, fun q h1 h2 => (w10 q (Nat.lt_of_lt_of_le h1 q3.1) h2).trans (q3.2.1 q h1 h2), fun x hx => (List.mem_append.mp hx).elim (q3.2.2 x) (hL x)⟩, w6, Nat.le_trans q5 w2, fun q hq => (w1 q (by omega)).trans (q6 q hq), Nat.le_trans q7 w3, Nat.le_trans q8 w4, fix2_tr q9 w5⟩
/-- a method's own words, at any place -/
theorem mo_use (hk : mK z ≠ 9) : wat (mtN z).2.2.2.2.2.2.2.2.2.2.1 = some (codR (mtN z)) ∧ wat (mtN z).2.2.2.2.2.2.2.2.2.2.2.1 = some (kinR (mtN z)) ∧ wat (mtN z).2.2.2.2.2.2.2.2.2.2.2.2.1 = some (.initialized (mY z).cls) ∧
   (mK z = 1 → wat (mtN z).2.2.2.2.2.2.2.2.2.2.2.2.2 = some (.selects (mY z).cls (mY z) (mY z)) ∧ mC z < 10) ∧
   (mK z = 2 → (mY z).name = "<init>" ∧ mR z = none) ∧ (mY z).cls = cn (mC z) ∧ (mY z).cls ≠ "java/lang/invoke/MethodHandle" ∧ (mY z).cls ≠ "java/lang/invoke/VarHandle" ∧ plainName (mY z).cls = true ∧
   (parseMethodDescriptor (mY z).desc).map (fun d => d.parameters.length) = some (mA z) ∧ mL z ≤ 40 ∧ 10 ≤ rk z ∧ rk z ≤ 40 := (m_ok z).resolve_left hk
theorem tw_codR (z : Nat) : tw (codR (mtN z)) = true := by
  unfold codR
  split <;> rfl
theorem tw_kinR (z : Nat) : tw (kinR (mtN z)) = true := by
  unfold kinR
  split <;> rfl
theorem mr_use {n y f : Nat} (hS : Sx D ty b0 ad0 σ0 s) {q : Nat × Nat × Nat × Nat × Nat} (h : mrT[f]? = some q) (h1 : q.1 = mC z) (h2 : q.2.1 = n) (h3 : q.2.2.1 = y) :
    (Cond.methodLink (cn (mC z)) n (mY y)).before args s = true ∨ ∃ h9, (Cond.methodLinkNest (cn (mC z)) n (mY y) h9).before args s = true := by
  have h4 := wat_in (mr_ok q (List.mem_of_getElem? h))
  unfold mrC at h4
  rw [h1, h2, h3] at h4
  by_cases h5 : q.2.2.2.1 = 0
  · rw [if_pos h5] at h4
    exact Or.inl (hS.2.1 _ h4 rfl args)
  · rw [if_neg h5] at h4
    exact Or.inr ⟨_, hS.2.1 _ h4 rfl args⟩
end RUN
