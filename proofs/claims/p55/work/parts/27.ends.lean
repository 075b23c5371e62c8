/-! ENDS, THROWS, CATCHING -/
theorem hOk_fnd {z : Nat} {bs : List (List En)} : ∀ (hs : List (Nat × Nat × Nat)) (hw : List (Nat × Nat × Nat × Nat)) (ps seen : List Nat), hOk z bs hs hw ps seen = true → ∀ x b k, fnd hs x = some (b, k) →
    ∃ (pre : List (Nat × Nat × Nat × Nat)) (t h ct : Nat) (suf : List (Nat × Nat × Nat × Nat)), hw = pre ++ (0, t, h, ct) :: suf ∧
      (∀ q ∈ pre, q.2.2.2 ≠ 0 ∧ ∃ e', 1 ≤ e' ∧ e' ≤ 3 ∧ e' ≠ x ∧ ∃ p, wat p = some (.classLink (cn (mC z)) q.2.2.2 (exN e'))) ∧ 1 ≤ x ∧ x ≤ 3 ∧ ct ≠ 0 ∧ (∃ p, wat p = some (.classLink (cn (mC z)) ct (exN x))) ∧ k < mL z ∧
      ((decode (mB z) h = .ok (.astore k, 2) ∧ hpc bs b = h + 2) ∨ ∃ n : Fin 4, decode (mB z) h = .ok (.astore_n n, 1) ∧ n.val = k ∧ hpc bs b = h + 1) ∧ ∀ b ∈ bs, b.all (cal t) = true := by
  intro hs
  induction hs with
  | nil => intro hw ps seen _ x b k h; cases h
  | cons q hs ih =>
    intro hw ps seen h x b k hf
    obtain ⟨e, b0, k0⟩ := q
    cases hw with
    | nil => cases h
    | cons w hw =>
      obtain ⟨f, t, hh, ct⟩ := w
      cases ps with
      | nil => cases h
      | cons p ps =>
        simp only [hOk, Bool.and_eq_true, decide_eq_true_eq, Bool.or_eq_true] at h
        obtain ⟨⟨⟨⟨⟨⟨⟨⟨rfl, h1⟩, h2⟩, h3⟩, h4⟩, h5⟩, h6⟩, h7⟩, h8⟩ := h
        unfold fnd at hf
        by_cases he : x = e
        · rw [if_pos he] at hf
          cases hf
          subst he
          refine ⟨[], t, hh, ct, hw, rfl, fun q hq => absurd hq List.not_mem_nil, h1.1, h1.2, h2, ⟨p, h4⟩, h5, ?_, List.all_eq_true.mp h7⟩
          rcases h6 with h6 | h6
          · exact Or.inl h6
          · right
            split at h6
            next n hd =>
              simp only [Bool.and_eq_true, decide_eq_true_eq] at h6
              exact ⟨n, hd, h6.1, h6.2⟩
            next => cases h6
        · rw [if_neg he] at hf
          obtain ⟨pre, t', h', ct', suf, g1, g2, g3⟩ := ih hw ps (e :: seen) h8 x b k hf
          refine ⟨(0, t, hh, ct) :: pre, t', h', ct', suf, by rw [g1]; rfl, fun q hq => ?_, g3⟩
          rcases List.mem_cons.mp hq with rfl | hq
          · exact ⟨h2, e, h1.1, h1.2, fun h => he h.symm, p, h4⟩
          · exact g2 q hq
theorem h0_0 : ∀ r ∈ mt_0, r.2.2.2.2.2.2.2.2.1 = [] := by decide +kernel
theorem h0_1 : ∀ r ∈ mt_1, r.2.2.2.2.2.2.2.2.1 = [] := by decide +kernel
theorem h0_2 : ∀ r ∈ mt_2, r.2.2.2.2.2.2.2.2.1 = [] := by decide +kernel
theorem h0_3 : ∀ r ∈ mt_3, r.2.2.2.2.2.2.2.2.1 = [] := by decide +kernel
theorem h0_4 : ∀ r ∈ mt_4, r.2.2.2.2.2.2.2.2.1 = [] := by decide +kernel
theorem h0_5 : ∀ r ∈ mt_5, r.2.2.2.2.2.2.2.2.1 = [] := by decide +kernel
theorem h0_6 : ∀ r ∈ mt_6, r.2.2.2.2.2.2.2.2.1 = [] := by decide +kernel
theorem h0_7 : ∀ r ∈ mt_7, r.2.2.2.2.2.2.2.2.1 = [] := by decide +kernel
/-- nothing is caught in these methods -/
theorem hnd_0 (z : Nat) : hnd z = [] := by
  have h : ∀ r ∈ mtT, r.2.2.2.2.2.2.2.2.1 = [] := by
    show ∀ r ∈ mt_0 ++ (mt_1 ++ (mt_2 ++ (mt_3 ++ (mt_4 ++ (mt_5 ++ (mt_6 ++ mt_7)))))), _
    exact List.forall_mem_append.mpr ⟨h0_0, List.forall_mem_append.mpr ⟨h0_1, List.forall_mem_append.mpr ⟨h0_2, List.forall_mem_append.mpr ⟨h0_3, List.forall_mem_append.mpr ⟨h0_4, List.forall_mem_append.mpr ⟨h0_5, List.forall_mem_append.mpr ⟨h0_6, h0_7⟩⟩⟩⟩⟩⟩⟩
  unfold hnd mtN
  rw [List.getD_eq_getElem?_getD]
  cases hq : mtT[z]? with
  | none => rfl
  | some r => exact h r (List.mem_of_getElem? hq)
section ENDS
variable {z : Nat} {D : va_G} {ty : Nat → ClassId} {b0 : Nat} {σ0 : St} {ad0 : Nat → Nat} {p : Program} {l : Launch} {e : Env} {R : Room} {s : State} {m : MethodId} {args : Array Value} {below : List Frame} {meth : Method} {c : Code} {Q : State → Prop}
variable {i : Instr} {pc pc0 len : Nat} {ext : List Nat} {r : List En} {ls st : List Value} {σ σ1 σE : St} {f : Fr} {H : Heap} {locs : List Loc} {ad : Nat → Nat} {lsC : Array Slot} {o : Out}
theorem catch_ok {x b k9 : Nat} {q : Addr} {ce : Cell} {rst : List Value} (hC : Cx z p l R s m meth c) (hS : Sx D ty b0 ad0 σ0 s) (hh : ¬ hnd z = []) (hf : fnd (hnd z) x = some (b, k9)) (h9 : okst ls k9 = true ∧ k9 < ls.length) (hcal : ∀ t, (∀ b ∈ codes.getD z [], b.all (cal t) = true) → pc < t)
    (hR : Rh D ty b0 s σ0 ad0 σ1 ad H locs) (hL : Lr ad lsC (mL z) ls) (hrg : rgs (gx σ1 + 2) ls) (hcell : H[q]? = some ce) (hv : ce.vm = .none) (hcl : s.vm.findClass (exN x) = some ce.cls)
    (k : Gl z D ty b0 σ0 ad0 p l e R s m args below meth c Q (blk z b, ls.set k9 mk0, [], σ1)) : vx_W p l e R s m args below meth c H locs (gc σ1 - gc σ0) (gs σ1 - gs σ0) Q (F0 m pc lsC rst) q := by
  have hok := (ho_ok z).resolve_left (fun h => hh h.1)
  obtain ⟨pre, t, h, ct, suf, g1, g2, g3, g4, g5, ⟨p1, g6⟩, g7, g8, g9⟩ := hOk_fnd _ _ _ _ hok x b k9 hf
  have htab := hC.2.2.2.2.2.2.2.2.1
  rw [g1] at htab
  obtain ⟨l1, l2, e1, e2, e3⟩ := List.map_eq_append_iff.mp htab
  obtain ⟨xE, l3, e4, e5, e6⟩ := List.map_eq_cons_iff.mp e3
  subst e4
  have x1 : xE.startPc = 0 := congrArg (fun q => q.1) e5
  have x2 : xE.endPc = t := congrArg (fun q => q.2.1) e5
  have x3 : xE.handlerPc = h := congrArg (fun q => q.2.2.1) e5
  have x4 : xE.catchType = ct := congrArg (fun q => q.2.2.2) e5
  refine vx_catch (name := exN x) hC.2.2.2.2.1 l1 xE l3 e1 (fun z' hz => ?_) ?_ (by rw [x4]; exact g5) (by rw [x4]; exact hS.2.1 _ (wat_in g6) rfl args) (hS.2.1 _ (wat_in (cs_ok x g3 g4)) rfl args) hcell hv hcl ?_
  · have hm : (z'.startPc, z'.endPc, z'.handlerPc, z'.catchType) ∈ pre := by rw [← e2]; exact List.mem_map.mpr ⟨z', hz, rfl⟩
    obtain ⟨y1, e', y2, y3, y4, p2, y5⟩ := g2 _ hm
    exact absurd (hnd_0 z) hh
  · rw [Bool.and_eq_true, decide_eq_true_eq, decide_eq_true_eq, x1, x2]
    exact ⟨Nat.zero_le _, hcal t g9⟩
  · rw [x3]
    have fin : ∀ lsC' : Array Slot, lv_has lsC' (mL z) ((k9, Value.ref q) :: (lvl ad ls).filter (fun q => !(q.1 == k9) && !(q.1 + 1 == k9 && q.2.category == 2))) → W p l e R s m args below meth c H locs (gc σ1 - gc σ0) (gs σ1 - gs σ0) Q (F0 m (hpc (codes.getD z []) b) lsC' []) := by
      intro lsC' hl
      refine k (hpc (codes.getD z []) b) ad H locs lsC' ⟨fk_blk z b, Lr_of hl (by rw [List.length_set]; exact hL.2.1) (fun w hw => ?_), rgs_set rg_m hrg, rgs_n, hR⟩
      obtain ⟨j, w⟩ := w
      obtain ⟨u, h1, h2, rfl⟩ := lvl_in.mp hw
      rw [List.getElem?_set] at h1
      by_cases ej : k9 = j
      · subst ej
        rw [if_pos rfl] at h1
        split at h1
        · cases h1; cases h2
        · cases h1
      · rw [if_neg ej] at h1
        refine List.mem_cons_of_mem _ (List.mem_filter.mpr ⟨lvl_in.mpr ⟨u, h1, h2, rfl⟩, ?_⟩)
        have e2 : ¬ j = k9 := fun q => ej q.symm
        by_cases e3 : j + 1 = k9
        · have := okst_no (ad := ad) h9.1 h1 e3
          simp [e2, this]
        · simp [e2, e3]
    rcases g8 with ⟨d, hb⟩ | ⟨n, d, hn, hb⟩
    · exact lv_astore hC.1 hC.2.1 d (Lr_has hL) g7 rfl (fun lsC' hl => by rw [← hb]; exact fin lsC' hl)
    · exact lv_astore_n hC.1 hC.2.1 d hn (Lr_has hL) g7 rfl (fun lsC' hl => by rw [← hb]; exact fin lsC' hl)
/-- **THE RUN**: whatever my machine's run ends with, the real one comes there -/
theorem run_snd {N : Nat} (hC : Cx z p l R s m meth c) (hS : Sx D ty b0 ad0 σ0 s) (hcap : gc σE - gc σ0 ≤ R.cells ∧ gs σE - gs σ0 ≤ R.slots)
    (hcall : ∀ n, n < N → ∀ (y : Nat) (as : List Value) (σ : St) (o1 : Out) (σ1 : St), go n y (ent y as σ) = some (o1, σ1) → mK y ≠ 9 → as.length = mA y + (if mK y = 0 then 0 else 1) → (spr as).length ≤ mL y → Ctr l y as σ o1 σ1)
    (hend : ∀ f, stp z f = some (.inr (.inl (o, σE))) → Gl z D ty b0 σ0 ad0 p l e R s m args below meth c Q f)
    (hprop : ∀ x, o = .inr x → hnd z = [] → ∀ (pc : Nat) (lsC : Array Slot) (ad' : Nat → Nat) (H1 : Heap) (locs1 : List Loc) (rst : List Value) (q : Addr) (ce : Cell), Rh D ty b0 s σ0 ad0 σE ad' H1 locs1 → H1[q]? = some ce → ce.vm = .none → s.vm.findClass (exN x) = some ce.cls → vx_W p l e R s m args below meth c H1 locs1 (gc σE - gc σ0) (gs σE - gs σ0) Q (F0 m pc lsC rst) q) :
    ∀ n, n ≤ N → ∀ f, go n z f = some (o, σE) → Gl z D ty b0 σ0 ad0 p l e R s m args below meth c Q f := by
  intro n
  induction n with
  | zero => intro _ f h; exact absurd h (by simp [go])
  | succ n ih =>
    intro hn f h
    rw [go_s] at h
    cases hs : stp z f with
    | none => rw [hs] at h; exact absurd h (by simp)
    | some w =>
      rw [hs] at h
      rcases w with f' | q' | ⟨y, as, g⟩
      · have hm := go_mono _ _ _ _ h
        dsimp only at hm
        exact gl_step hC hS (by omega) hs (ih (by omega) f' h)
      · cases h
        exact hend f hs
      · dsimp only at h
        by_cases hp : (spr as).length ≤ mL y
        rotate_left
        · rw [if_neg hp] at h; exact absurd h (by simp)
        rw [if_pos hp] at h
        cases hc : go n y (ent y as g.2.2.2) with
        | none => rw [hc] at h; exact absurd h (by simp)
        | some w =>
          obtain ⟨o1, σ1⟩ := w
          rw [hc] at h
          have hm1 := go_mono _ _ _ _ hc
          have hm1 : gc g.2.2.2 ≤ gc σ1 ∧ gs g.2.2.2 ≤ gs σ1 := hm1
          rcases o1 with v | x
          · have hm := go_mono _ _ _ _ h
            dsimp only at hm
            refine gl_call hC hS hs (fun h1 h2 => hcall n (by omega) y as g.2.2.2 (.inl v) σ1 hc h1 h2 hp) (by omega) hm1 (fun v' hv' => ?_) (fun x hx => by cases hx)
            cases hv'
            exact ih (by omega) _ h
          · dsimp only at h
            by_cases h0 : hnd z = []
            · rw [if_pos h0] at h
              cases h
              refine gl_call hC hS hs (fun h1 h2 => hcall n (by omega) y as g.2.2.2 (.inr x) _ hc h1 h2 hp) hcap hm1 (fun v' hv' => by cases hv') (fun x' hx' pc lsC ad' H1 locs1 rst q ce _ hR1 _ _ a1 a2 a3 => ?_)
              cases hx'
              exact hprop x rfl h0 pc lsC ad' H1 locs1 rst q ce hR1 a1 a2 a3
            · rw [if_neg h0] at h
              cases hf : fnd (hnd z) x with
              | none => rw [hf] at h; exact absurd h (by simp)
              | some bk =>
                obtain ⟨b, k9⟩ := bk
                rw [hf] at h
                dsimp only at h
                by_cases h9 : okst g.2.1 k9 = true ∧ k9 < g.2.1.length
                · rw [if_pos h9] at h
                  have hm := go_mono _ _ _ _ h
                  dsimp only at hm
                  refine gl_call hC hS hs (fun h1 h2 => hcall n (by omega) y as g.2.2.2 (.inr x) σ1 hc h1 h2 hp) (by omega) hm1 (fun v' hv' => by cases hv') (fun x' hx' pc lsC ad' H1 locs1 rst q ce hcal hR1 hL1 hr1 a1 a2 a3 => ?_)
                  cases hx'
                  exact catch_ok hC hS h0 hf h9 hcal hR1 hL1 hr1 a1 a2 a3 (ih (by omega) _ h)
                · rw [if_neg h9] at h
                  exact absurd h (by simp)
/-- the world at an end, said of the start -/
theorem wo_end (hR : Rh D ty b0 s σ0 ad0 σ ad H locs) {t : State} (ht : t.heap = H) : Wo D ty b0 ad0 σ0 σ ad s t := by
  obtain ⟨q1, q2, q3, q4, q5, q6, q7, q8, q9⟩ := hR
  exact ⟨q6, q5, q7, q8, q9, q4, by rw [ht]; exact q1, q2, q3.F ht⟩
/-- a method's end -/
theorem end_ret {v : Option Value} (hC : Cx z p l R s m meth c) (h : stp z f = some (.inr (.inl (.inl v, σE)))) :
    Gl z D ty b0 σ0 ad0 p l e R s m args below meth c (vx_MQ below (Cq D ty b0 ad0 σ0 (.inl v) σE) (Xq D ty b0 ad0 σ0 (.inl v) σE) args s (gc σE - gc σ0) (gs σE - gs σ0) (Ab b0)) f := by
  obtain ⟨cs, ls, st, σ⟩ := f
  cases cs with
  | nil => cases h
  | cons en r =>
    obtain ⟨pc0, i, len, ext⟩ := en
    replace h : stI z i ext r ls st σ = some (.inr (.inl (.inl v, σE))) := h
    have hlk := hC.2.2.2.2.2.1
    cases i
    case ireturn =>
      unfold stI at h
      dsimp only at h
      split at h
      next b x =>
        split at h
        next hb =>
          cases h
          intro pc ad H locs lsC hh
          obtain ⟨hF, hL, h1, h2, hR⟩ := hh
          obtain ⟨rfl, hE, hF'⟩ := fk_e hF
          obtain ⟨d, rfl, hx⟩ := dx_new (n := 1) rfl (fun _ => rfl) (fun _ => rfl) hE
          have hx := of_decide_eq_true hx
          refine vx_ret ?_
          rcases hx with ⟨rfl, hr⟩ | ⟨rfl, hr⟩
          · exact W.iret (v := x) hC.1 hC.2.1 (by rw [hC.2.2.1, hr]) (fun t ht hW => ⟨ad, some (.int x), rfl, rfl, fun w hw => by cases hw; exact rg_i, wo_end hR ht⟩) hR.2.2.1.2.2 d hlk
          · have hx01 : x = 0 ∨ x = 1 := hb.resolve_left (by decide)
            exact W.zret (v := x) (ty := .boolean) hC.1 hC.2.1 (by rw [hC.2.2.1, hr]) (by rcases hx01 with rfl | rfl <;> rfl) (fun t ht hW => ⟨ad, some (.int x), rfl, rfl, fun w hw => by cases hw; exact rg_i, wo_end hR ht⟩) hR.2.2.1.2.2 d hlk
        next => cases h
      next => cases h
    case freturn =>
      unfold stI at h
      dsimp only at h
      split at h
      next x =>
        cases h
        intro pc ad H locs lsC hh
        obtain ⟨hF, hL, h1, h2, hR⟩ := hh
        obtain ⟨rfl, hE, hF'⟩ := fk_e hF
        obtain ⟨d, rfl, hx⟩ := dx_new (n := 1) rfl (fun _ => rfl) (fun _ => rfl) hE
        have hr := of_decide_eq_true hx
        exact vx_ret (W.fret (v := x) hC.1 hC.2.1 (by rw [hC.2.2.1, hr]) (fun t ht hW => ⟨ad, some (.float x), rfl, rfl, fun w hw => by cases hw; exact rg_f, wo_end hR ht⟩) hR.2.2.1.2.2 d hlk)
      next => cases h
    case dreturn =>
      unfold stI at h
      dsimp only at h
      split at h
      next x =>
        cases h
        intro pc ad H locs lsC hh
        obtain ⟨hF, hL, h1, h2, hR⟩ := hh
        obtain ⟨rfl, hE, hF'⟩ := fk_e hF
        obtain ⟨d, rfl, hx⟩ := dx_new (n := 1) rfl (fun _ => rfl) (fun _ => rfl) hE
        have hr := of_decide_eq_true hx
        exact vx_ret (W.dret (v := x) hC.1 hC.2.1 (by rw [hC.2.2.1, hr]) (fun t ht hW => ⟨ad, some (.double x), rfl, rfl, fun w hw => by cases hw; exact rg_d, wo_end hR ht⟩) hR.2.2.1.2.2 d hlk)
      next => cases h
    case areturn =>
      unfold stI at h
      dsimp only at h
      split at h
      next x =>
        cases h
        intro pc ad H locs lsC hh
        obtain ⟨hF, hL, h1, h2, hR⟩ := hh
        obtain ⟨rfl, hE, hF'⟩ := fk_e hF
        obtain ⟨d, rfl, hx⟩ := dx_new (n := 1) rfl (fun _ => rfl) (fun _ => rfl) hE
        have hr : ∃ rt, mR z = some rt ∧ ((∃ n, rt = .object n) ∨ ∃ t, rt = .array t) := by
          split at hx
          next n hq => exact ⟨_, hq, Or.inl ⟨n, rfl⟩⟩
          next t hq => exact ⟨_, hq, Or.inr ⟨t, rfl⟩⟩
          next => cases hx
        obtain ⟨rt, hr, hrt⟩ := hr
        exact vx_ret (W.aret (v := .ref (ad x)) hC.1 hC.2.1 (by rw [hC.2.2.1, hr]) hrt (Or.inr ⟨_, rfl⟩) (fun t ht hW => ⟨ad, some (.ref x), rfl, rfl, fun w hw => by cases hw; exact h2 _ List.mem_cons_self, wo_end hR ht⟩) hR.2.2.1.2.2 d hlk)
      next => cases h
    case return_ =>
      unfold stI at h
      dsimp only at h
      split at h
      next =>
        cases h
        intro pc ad H locs lsC hh
        obtain ⟨hF, hL, h1, h2, hR⟩ := hh
        obtain ⟨rfl, hE, hF'⟩ := fk_e hF
        obtain ⟨d, rfl, hx⟩ := dx_new (n := 1) rfl (fun _ => rfl) (fun _ => rfl) hE
        have hr := of_decide_eq_true hx
        exact vx_ret (W.vret hC.1 hC.2.1 (by rw [hC.2.2.1, hr]) (fun t ht hW => ⟨ad, none, rfl, rfl, fun w hw => by (cases hw), wo_end hR ht⟩) hR.2.2.1.2.2 d hlk)
      next => cases h
    case fconst q =>
      match q, h with
      | 0, h => cases h
      | 1, h => cases h
      | 2, h => cases h
    case dconst q =>
      match q, h with
      | 0, h => cases h
      | 1, h => cases h
    all_goals
      first
      | (cases h; done)
      | (unfold stI at h
         (try simp only [bI, bL, sL, sto1, sto2, sCall] at h)
         (repeat' split at h) <;> cases h)
theorem no_tab (hC : Cx z p l R s m meth c) (hh : hndW z = []) : ∀ x ∈ c.exceptionTable.toList, False := by
  have h := hC.2.2.2.2.2.2.2.2.1
  rw [hh] at h
  rw [List.map_eq_nil_iff.mp h]
  intro x hx
  cases hx
/-- an exception that isn't caught here -/
theorem end_prop {x : Nat} (hC : Cx z p l R s m meth c) (hh : hnd z = []) {q : Addr} {ce : Cell} {rst : List Value} (hR : Rh D ty b0 s σ0 ad0 σE ad H locs) (hcell : H[q]? = some ce) (hv : ce.vm = .none) (hcl : s.vm.findClass (exN x) = some ce.cls) :
    vx_W p l e R s m args below meth c H locs (gc σE - gc σ0) (gs σE - gs σ0) (vx_MQ below (Cq D ty b0 ad0 σ0 (.inr x) σE) (Xq D ty b0 ad0 σ0 (.inr x) σE) args s (gc σE - gc σ0) (gs σE - gs σ0) (Ab b0)) (F0 m pc lsC rst) q := by
  have hw : hndW z = [] := by
    rcases ho_ok z with h | h
    · exact h.2
    · rw [hh] at h
      cases hq : hndW z with
      | nil => rfl
      | cons a b => rw [hq] at h; cases hp : hps z <;> (rw [hp] at h; cases h)
  exact vx_out (fun y hy => (no_tab hC hw y hy).elim) hC.2.2.2.2.2.1 hcell hv hcl (fun t ht hW => ⟨ad, x, rfl, rfl, wo_end hR ht⟩) hR.2.2.1.2.2 (Nat.le_refl _) (Nat.le_refl _)
end ENDS
