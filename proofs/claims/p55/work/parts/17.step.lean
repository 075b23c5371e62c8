/-! ONE ENTRY OF MY MACHINE IS ONE INSTRUCTION OF THE REAL ONE -/
/-- the frame's places -/
def Lr (ad : Nat → Nat) (lsC : Array Slot) (n : Nat) (ls : List Value) : Prop := lsC.size = n ∧ ls.length = n ∧ lv_wf lsC ∧ ∀ (i : Nat) (v : Value), ls[i]? = some v → isM v = false → lsC[i]? = some (.val (cv ad v))
/-- the same as a list, as the kit's rows want it -/
def lvl (ad : Nat → Nat) (ls : List Value) : List (Nat × Value) := (List.range ls.length).filterMap (fun i => match ls[i]? with
  | some v => if isM v = true then none else some (i, cv ad v)
  | none => none)
theorem lvl_in {ad : Nat → Nat} {ls : List Value} {i : Nat} {w : Value} : (i, w) ∈ lvl ad ls ↔ ∃ v, ls[i]? = some v ∧ isM v = false ∧ w = cv ad v := by
  unfold lvl
  rw [List.mem_filterMap]
  constructor
  · rintro ⟨j, -, h⟩
    cases hv : ls[j]? with
    | none => rw [hv] at h; cases h
    | some v =>
      rw [hv] at h
      dsimp only at h
      by_cases hm : isM v = true
      · rw [if_pos hm] at h; cases h
      · rw [if_neg hm] at h
        cases h
        exact ⟨v, hv, by simpa using hm, rfl⟩
  · rintro ⟨v, h1, h2, rfl⟩
    refine ⟨i, List.mem_range.mpr (List.getElem?_eq_some_iff.mp h1).1, ?_⟩
    rw [h1]
    dsimp only
    rw [if_neg (by rw [h2]; decide)]
theorem Lr_has {ad : Nat → Nat} {lsC : Array Slot} {n : Nat} {ls : List Value} (h : Lr ad lsC n ls) : lv_has lsC n (lvl ad ls) := by
  refine ⟨h.1, h.2.2.1, fun q hq => ?_⟩
  obtain ⟨i, w⟩ := q
  obtain ⟨v, h1, h2, rfl⟩ := lvl_in.mp hq
  exact h.2.2.2 i v h1 h2
theorem Lr_of {ad : Nat → Nat} {lsC : Array Slot} {n : Nat} {ls : List Value} {lv : List (Nat × Value)} (h : lv_has lsC n lv) (hn : ls.length = n) (hs : ∀ q ∈ lvl ad ls, q ∈ lv) : Lr ad lsC n ls :=
  ⟨h.1, hn, h.2.1, fun i v h1 h2 => h.2.2 (i, cv ad v) (hs _ (lvl_in.mpr ⟨v, h1, h2, rfl⟩))⟩
theorem cv_2 (ad : Nat → Nat) (v : Value) : (cv ad v).category = 2 ↔ is2 v = true := by cases v <;> simp [cv, Value.category, is2]
theorem okst_no {ad : Nat → Nat} {ls : List Value} {k j : Nat} {v : Value} (ho : okst ls k = true) (hj : ls[j]? = some v) (h : j + 1 = k) : ¬ (cv ad v).category = 2 := by
  subst h
  simp only [okst] at ho
  rw [hj] at ho
  rw [cv_2]
  simpa using ho
theorem Lr_st1 {ad : Nat → Nat} {lsC' : Array Slot} {n k : Nat} {ls : List Value} {v : Value} (hn : ls.length = n) (hm : isM v = false) (ho : okst ls k = true)
    (h : lv_has lsC' n ((k, cv ad v) :: (lvl ad ls).filter (fun q => !(q.1 == k) && !(q.1 + 1 == k && q.2.category == 2)))) : Lr ad lsC' n (ls.set k v) := by
  refine Lr_of h (by rw [List.length_set]; exact hn) fun q hq => ?_
  obtain ⟨i, w⟩ := q
  obtain ⟨u, h1, h2, rfl⟩ := lvl_in.mp hq
  rw [List.getElem?_set] at h1
  by_cases e : k = i
  · subst e
    rw [if_pos rfl] at h1
    split at h1
    · cases h1
      exact List.mem_cons_self
    · cases h1
  · rw [if_neg e] at h1
    refine List.mem_cons_of_mem _ (List.mem_filter.mpr ⟨lvl_in.mpr ⟨u, h1, h2, rfl⟩, ?_⟩)
    have e2 : ¬ i = k := fun q => e q.symm
    by_cases e3 : i + 1 = k
    · have := okst_no (ad := ad) ho h1 e3
      simp [e2, this]
    · simp [e2, e3]
theorem Lr_st2 {ad : Nat → Nat} {lsC' : Array Slot} {n k : Nat} {ls : List Value} {v : Value} (hn : ls.length = n) (hm : isM v = false) (ho : okst ls k = true)
    (h : lv_has lsC' n ((k, cv ad v) :: (lvl ad ls).filter (fun q => !(q.1 == k) && (!(q.1 == k + 1) && !(q.1 + 1 == k && q.2.category == 2))))) : Lr ad lsC' n ((ls.set k v).set (k + 1) mk0) := by
  refine Lr_of h (by rw [List.length_set, List.length_set]; exact hn) fun q hq => ?_
  obtain ⟨i, w⟩ := q
  obtain ⟨u, h1, h2, rfl⟩ := lvl_in.mp hq
  rw [List.getElem?_set] at h1
  by_cases e1 : k + 1 = i
  · subst e1
    rw [if_pos rfl] at h1
    split at h1
    · cases h1
      exact absurd h2 (by decide)
    · cases h1
  rw [if_neg e1, List.getElem?_set] at h1
  by_cases e : k = i
  · subst e
    rw [if_pos rfl] at h1
    split at h1
    · cases h1
      exact List.mem_cons_self
    · cases h1
  · rw [if_neg e] at h1
    refine List.mem_cons_of_mem _ (List.mem_filter.mpr ⟨lvl_in.mpr ⟨u, h1, h2, rfl⟩, ?_⟩)
    have e2 : ¬ i = k := fun q => e q.symm
    have e4 : ¬ i = k + 1 := fun q => e1 q.symm
    by_cases e3 : i + 1 = k
    · have := okst_no (ad := ad) ho h1 e3
      simp [e2, e4, this]
    · simp [e2, e4, e3]
theorem Lr_ad {ad ad' : Nat → Nat} {lsC : Array Slot} {n g : Nat} {ls : List Value} (h : Lr ad lsC n ls) (hr : rgs g ls) (he : ∀ q, q < g → ad' q = ad q) : Lr ad' lsC n ls :=
  ⟨h.1, h.2.1, h.2.2.1, fun i v h1 h2 => by rw [cv_eq he (rgs_at hr h1)]; exact h.2.2.2 i v h1 h2⟩
/-- what an entry's check gives -/
theorem okE_dec {z pc len : Nat} {P : Instr → Bool} (h : (match decode (mB z) pc with | .ok (j, l) => decide (l = len) && lnOk j l && P j | .error _ => false) = true) : ∃ j, decode (mB z) pc = .ok (j, len) ∧ lnOk j len = true ∧ P j = true := by
  cases hd : decode (mB z) pc with
  | error x => rw [hd] at h; cases h
  | ok q =>
    obtain ⟨j, l⟩ := q
    rw [hd] at h
    simp only [Bool.and_eq_true, decide_eq_true_eq] at h
    obtain ⟨⟨rfl, h2⟩, h3⟩ := h
    exact ⟨j, rfl, h2, h3⟩
/-- the machine's side of a method that is under way -/
def Cx (z : Nat) (p : Program) (l : Launch) (R : Room) (s : State) (m : MethodId) (meth : Method) (c : Code) : Prop :=
  p.tables.exec = Jvm.exec ∧ c.code = mB z ∧ meth.sig.returnType = mR z ∧ c.maxLocals = mL z ∧ s.vm.findClass (cn (mC z)) = some m.cls ∧ meth.locks = false ∧ l.stackTraces = false ∧ (mK z = 2 → meth.name = "<init>") ∧
  c.exceptionTable.toList.map (fun x => (x.startPc, x.endPc, x.handlerPc, x.catchType)) = hndW z ∧ rk z ≤ R.frames ∧ 64 * rk z ≤ R.locals ∧ 10 ≤ rk z
/-- the heap's side -/
def Rh (D : va_G) (ty : Nat → ClassId) (b0 : Nat) (s : State) (σ0 : St) (ad0 : Nat → Nat) (σ : St) (ad : Nat → Nat) (H : Heap) (locs : List Loc) : Prop :=
  va_P D vwCl (wld ty ad σ) H ∧ va_D (Ab b0) (wld ty ad σ) ∧ va_S (Ab b0) s.heap H locs ∧ okS σ ∧ gx σ0 ≤ gx σ ∧ (∀ q, q < gx σ0 + 2 → ad q = ad0 q) ∧ gc σ0 ≤ gc σ ∧ gs σ0 ≤ gs σ ∧ fix2 σ0 σ
/-- a frame of mine and a frame of the machine's -/
def Rf (z : Nat) (D : va_G) (ty : Nat → ClassId) (b0 : Nat) (s : State) (σ0 : St) (ad0 : Nat → Nat) (f : Fr) (pc : Nat) (ad : Nat → Nat) (H : Heap) (locs : List Loc) (lsC : Array Slot) : Prop :=
  Fk z pc f.1 ∧ Lr ad lsC (mL z) f.2.1 ∧ rgs (gx f.2.2.2 + 2) f.2.1 ∧ rgs (gx f.2.2.2 + 2) f.2.2.1 ∧ Rh D ty b0 s σ0 ad0 f.2.2.2 ad H locs
/-- from each frame of the machine's that stands to mine, Q is reached -/
def Gl (z : Nat) (D : va_G) (ty : Nat → ClassId) (b0 : Nat) (σ0 : St) (ad0 : Nat → Nat) (p : Program) (l : Launch) (e : Env) (R : Room) (s : State) (m : MethodId) (args : Array Value) (below : List Frame) (meth : Method) (c : Code) (Q : State → Prop) (f : Fr) : Prop :=
  ∀ (pc : Nat) (ad : Nat → Nat) (H : Heap) (locs : List Loc) (lsC : Array Slot), Rf z D ty b0 s σ0 ad0 f pc ad H locs lsC →
    W p l e R s m args below meth c H locs (gc f.2.2.2 - gc σ0) (gs f.2.2.2 - gs σ0) Q (F0 m pc lsC (f.2.2.1.map (cv ad)))
theorem fk_e {z pc pc0 len : Nat} {i : Instr} {ext : List Nat} {r : List En} (h : Fk z pc ((pc0, i, len, ext) :: r)) : pc0 = pc ∧ okE z (codes.getD z []) (pc, i, len, ext) = true ∧ Fk z (pc + len) r := by
  obtain ⟨h1, h2⟩ := h
  simp only [chn, Bool.and_eq_true, decide_eq_true_eq] at h1
  obtain ⟨rfl, h1⟩ := h1
  exact ⟨rfl, (h2 _ List.mem_cons_self).1, h1, fun e he => h2 e (List.mem_cons_of_mem _ he)⟩
section STP
variable {z : Nat} {D : va_G} {ty : Nat → ClassId} {b0 : Nat} {σ0 : St} {ad0 : Nat → Nat} {p : Program} {l : Launch} {e : Env} {R : Room} {s : State} {m : MethodId} {args : Array Value} {below : List Frame} {meth : Method} {c : Code} {Q : State → Prop}
variable {i : Instr} {pc0 len : Nat} {ext : List Nat} {r : List En} {ls st : List Value} {σ : St} {f' : Fr}
/-- an entry that leaves the heap -/
theorem gl_st {ls' st' : List Value} (hrg : ∀ n, rgs n ls → rgs n st → (∀ p k, rg n (rv (gR σ p k))) → (∀ t p k, rg n (gf σ t p k)) → 2 ≤ n → rgs n ls' ∧ rgs n st')
    (row : ∀ (pc : Nat) (ad : Nat → Nat) (H : Heap) (locs : List Loc) (lsC : Array Slot), okE z (codes.getD z []) (pc, i, len, ext) = true → Lr ad lsC (mL z) ls → Rh D ty b0 s σ0 ad0 σ ad H locs →
      (∀ lsC', Lr ad lsC' (mL z) ls' → W p l e R s m args below meth c H locs (gc σ - gc σ0) (gs σ - gs σ0) Q (F0 m (pc + len) lsC' (st'.map (cv ad)))) →
      W p l e R s m args below meth c H locs (gc σ - gc σ0) (gs σ - gs σ0) Q (F0 m pc lsC (st.map (cv ad))))
    (k : Gl z D ty b0 σ0 ad0 p l e R s m args below meth c Q (r, ls', st', σ)) : Gl z D ty b0 σ0 ad0 p l e R s m args below meth c Q ((pc0, i, len, ext) :: r, ls, st, σ) := by
  intro pc ad H locs lsC h
  obtain ⟨hF, hL, h1, h2, hR⟩ := h
  obtain ⟨rfl, hE, hF'⟩ := fk_e hF
  obtain ⟨g1, g2⟩ := hrg _ h1 h2 (fun p k => rv_rg hR.2.2.2.1 p k) (fun t p k => gf_rg hR.2.2.2.1 t p k) (Nat.le_add_left _ _)
  exact row pc0 ad H locs lsC hE hL hR fun lsC' hL' => k _ ad H locs lsC' ⟨hF', hL', g1, g2, hR⟩
/-- an entry that goes elsewhere -/
theorem gl_jp {b : Nat} {st' : List Value} (hrg : ∀ n, rgs n st → rgs n st')
    (row : ∀ (pc : Nat) (ad : Nat → Nat) (H : Heap) (locs : List Loc) (lsC : Array Slot), okE z (codes.getD z []) (pc, i, len, ext) = true → Lr ad lsC (mL z) ls → Rh D ty b0 s σ0 ad0 σ ad H locs →
      (W p l e R s m args below meth c H locs (gc σ - gc σ0) (gs σ - gs σ0) Q (F0 m (hpc (codes.getD z []) b) lsC (st'.map (cv ad)))) →
      W p l e R s m args below meth c H locs (gc σ - gc σ0) (gs σ - gs σ0) Q (F0 m pc lsC (st.map (cv ad))))
    (k : Gl z D ty b0 σ0 ad0 p l e R s m args below meth c Q (blk z b, ls, st', σ)) : Gl z D ty b0 σ0 ad0 p l e R s m args below meth c Q ((pc0, i, len, ext) :: r, ls, st, σ) := by
  intro pc ad H locs lsC h
  obtain ⟨hF, hL, h1, h2, hR⟩ := h
  obtain ⟨rfl, hE, hF'⟩ := fk_e hF
  exact row pc0 ad H locs lsC hE hL hR (k _ ad H locs lsC ⟨fk_blk z b, hL, h1, hrg _ h2, hR⟩)
theorem dx_old {z pc n len : Nat} {i : Instr} {ext : List Nat} {bs : List (List En)} (hE : okE z bs (pc, i, len, ext) = (match decode (mB z) pc with | .ok (j, l) => decide (l = len) && lnOk j l && okJ z bs pc j i ext | .error _ => false))
    (hJ : ∀ j, okJ z bs pc j i ext = (decide (j = i) && isOld i)) (hl : ∀ l, lnOk i l = decide (l = n)) (h : okE z bs (pc, i, len, ext) = true) : decode (mB z) pc = .ok (i, n) ∧ len = n := by
  rw [hE] at h
  obtain ⟨j, h1, h2, h3⟩ := okE_dec h
  rw [hJ, Bool.and_eq_true, decide_eq_true_eq] at h3
  obtain ⟨rfl, -⟩ := h3
  rw [hl, decide_eq_true_eq] at h2
  exact ⟨by rw [h1, h2], h2⟩
/-- .. of one whose check begins with 'as it is decoded' -/
theorem dx_new {z pc n len : Nat} {i : Instr} {ext : List Nat} {bs : List (List En)} {x : Bool} (hE : okE z bs (pc, i, len, ext) = (match decode (mB z) pc with | .ok (j, l) => decide (l = len) && lnOk j l && okJ z bs pc j i ext | .error _ => false))
    (hJ : ∀ j, okJ z bs pc j i ext = (decide (j = i) && x)) (hl : ∀ l, lnOk i l = decide (l = n)) (h : okE z bs (pc, i, len, ext) = true) : decode (mB z) pc = .ok (i, n) ∧ len = n ∧ x = true := by
  rw [hE] at h
  obtain ⟨j, h1, h2, h3⟩ := okE_dec h
  rw [hJ, Bool.and_eq_true, decide_eq_true_eq] at h3
  obtain ⟨rfl, h4⟩ := h3
  rw [hl, decide_eq_true_eq] at h2
  exact ⟨by rw [h1, h2], h2, h4⟩
theorem gl_bI {op : Int32 → Int32 → Int32} (hd : ∀ pc, okE z (codes.getD z []) (pc, i, len, ext) = true → decode (mB z) pc = .ok (i, 1) ∧ len = 1)
    (row : ∀ (pc : Nat) (H : Heap) (locs : List Loc) (cells slots : Nat) (lsC : Array Slot) (rest : List Value) (x y : Int32), decode (mB z) pc = .ok (i, 1) → W p l e R s m args below meth c H locs cells slots Q (F0 m (pc + 1) lsC (.int (op x y) :: rest)) → W p l e R s m args below meth c H locs cells slots Q (F0 m pc lsC (.int y :: .int x :: rest)))
    (h : bI op r ls st σ = some (.inl f')) (k : Gl z D ty b0 σ0 ad0 p l e R s m args below meth c Q f') : Gl z D ty b0 σ0 ad0 p l e R s m args below meth c Q ((pc0, i, len, ext) :: r, ls, st, σ) := by
  unfold bI at h
  split at h
  · cases h
    refine gl_st (fun n h1 h2 _ _ _ => ⟨h1, rgs_c rg_i (rgs_t (rgs_t h2))⟩) (fun pc ad H locs lsC hE hL _ kk => ?_) k
    obtain ⟨d, rfl⟩ := hd pc hE
    exact row pc H locs _ _ lsC _ _ _ d (kk _ hL)
  · cases h
theorem gl_bL {op : Int64 → Int64 → Int64} (hd : ∀ pc, okE z (codes.getD z []) (pc, i, len, ext) = true → decode (mB z) pc = .ok (i, 1) ∧ len = 1)
    (row : ∀ (pc : Nat) (H : Heap) (locs : List Loc) (cells slots : Nat) (lsC : Array Slot) (rest : List Value) (x y : Int64), decode (mB z) pc = .ok (i, 1) → W p l e R s m args below meth c H locs cells slots Q (F0 m (pc + 1) lsC (.long (op x y) :: rest)) → W p l e R s m args below meth c H locs cells slots Q (F0 m pc lsC (.long y :: .long x :: rest)))
    (h : bL op r ls st σ = some (.inl f')) (k : Gl z D ty b0 σ0 ad0 p l e R s m args below meth c Q f') : Gl z D ty b0 σ0 ad0 p l e R s m args below meth c Q ((pc0, i, len, ext) :: r, ls, st, σ) := by
  unfold bL at h
  split at h
  · cases h
    refine gl_st (fun n h1 h2 _ _ _ => ⟨h1, rgs_c rg_l (rgs_t (rgs_t h2))⟩) (fun pc ad H locs lsC hE hL _ kk => ?_) k
    obtain ⟨d, rfl⟩ := hd pc hE
    exact row pc H locs _ _ lsC _ _ _ d (kk _ hL)
  · cases h
theorem gl_sL {op : Int64 → Int32 → Int64} (hd : ∀ pc, okE z (codes.getD z []) (pc, i, len, ext) = true → decode (mB z) pc = .ok (i, 1) ∧ len = 1)
    (row : ∀ (pc : Nat) (H : Heap) (locs : List Loc) (cells slots : Nat) (lsC : Array Slot) (rest : List Value) (x : Int64) (y : Int32), decode (mB z) pc = .ok (i, 1) → W p l e R s m args below meth c H locs cells slots Q (F0 m (pc + 1) lsC (.long (op x y) :: rest)) → W p l e R s m args below meth c H locs cells slots Q (F0 m pc lsC (.int y :: .long x :: rest)))
    (h : sL op r ls st σ = some (.inl f')) (k : Gl z D ty b0 σ0 ad0 p l e R s m args below meth c Q f') : Gl z D ty b0 σ0 ad0 p l e R s m args below meth c Q ((pc0, i, len, ext) :: r, ls, st, σ) := by
  unfold sL at h
  split at h
  · cases h
    refine gl_st (fun n h1 h2 _ _ _ => ⟨h1, rgs_c rg_l (rgs_t (rgs_t h2))⟩) (fun pc ad H locs lsC hE hL _ kk => ?_) k
    obtain ⟨d, rfl⟩ := hd pc hE
    exact row pc H locs _ _ lsC _ _ _ d (kk _ hL)
  · cases h
/-- a value of one place is laid into the frame -/
theorem gl_s1 {k0 : Nat} {v : Value} {st' : List Value} (hm : isM v = false) (hc : is2 v = false) (hrg : ∀ n, rgs n ls → rgs n st → rg n v ∧ rgs n st')
    (row : ∀ (pc : Nat) (ad : Nat → Nat) (H : Heap) (locs : List Loc) (lsC : Array Slot), okE z (codes.getD z []) (pc, i, len, ext) = true → Lr ad lsC (mL z) ls → k0 < mL z →
      (∀ lsC', lv_has lsC' (mL z) ((k0, cv ad v) :: (lvl ad ls).filter (fun q => !(q.1 == k0) && !(q.1 + 1 == k0 && q.2.category == 2))) → W p l e R s m args below meth c H locs (gc σ - gc σ0) (gs σ - gs σ0) Q (F0 m (pc + len) lsC' (st'.map (cv ad)))) →
      W p l e R s m args below meth c H locs (gc σ - gc σ0) (gs σ - gs σ0) Q (F0 m pc lsC (st.map (cv ad))))
    (h : sto1 r ls k0 v st' σ = some (.inl f')) (k : Gl z D ty b0 σ0 ad0 p l e R s m args below meth c Q f') : Gl z D ty b0 σ0 ad0 p l e R s m args below meth c Q ((pc0, i, len, ext) :: r, ls, st, σ) := by
  unfold sto1 at h
  split at h
  next hq =>
    cases h
    refine gl_st (fun n h1 h2 _ _ _ => ⟨rgs_set (hrg n h1 h2).1 h1, (hrg n h1 h2).2⟩) (fun pc ad H locs lsC hE hL _ kk => ?_) k
    exact row pc ad H locs lsC hE hL (by rw [← hL.2.1]; exact hq.1) fun lsC' hh => kk lsC' (Lr_st1 hL.2.1 hm hq.2 hh)
  next => cases h
theorem gl_s2 {k0 : Nat} {v : Value} {st' : List Value} (hm : isM v = false) (hrg : ∀ n, rgs n ls → rgs n st → rg n v ∧ rgs n st')
    (row : ∀ (pc : Nat) (ad : Nat → Nat) (H : Heap) (locs : List Loc) (lsC : Array Slot), okE z (codes.getD z []) (pc, i, len, ext) = true → Lr ad lsC (mL z) ls → k0 + 1 < mL z →
      (∀ lsC', lv_has lsC' (mL z) ((k0, cv ad v) :: (lvl ad ls).filter (fun q => !(q.1 == k0) && (!(q.1 == k0 + 1) && !(q.1 + 1 == k0 && q.2.category == 2)))) → W p l e R s m args below meth c H locs (gc σ - gc σ0) (gs σ - gs σ0) Q (F0 m (pc + len) lsC' (st'.map (cv ad)))) →
      W p l e R s m args below meth c H locs (gc σ - gc σ0) (gs σ - gs σ0) Q (F0 m pc lsC (st.map (cv ad))))
    (h : sto2 r ls k0 v st' σ = some (.inl f')) (k : Gl z D ty b0 σ0 ad0 p l e R s m args below meth c Q f') : Gl z D ty b0 σ0 ad0 p l e R s m args below meth c Q ((pc0, i, len, ext) :: r, ls, st, σ) := by
  unfold sto2 at h
  split at h
  next hq =>
    cases h
    refine gl_st (fun n h1 h2 _ _ _ => ⟨rgs_set rg_m (rgs_set (hrg n h1 h2).1 h1), (hrg n h1 h2).2⟩) (fun pc ad H locs lsC hE hL _ kk => ?_) k
    exact row pc ad H locs lsC hE hL (by rw [← hL.2.1]; exact hq.1) fun lsC' hh => kk lsC' (Lr_st2 hL.2.1 hm hq.2 hh)
  next => cases h
end STP
