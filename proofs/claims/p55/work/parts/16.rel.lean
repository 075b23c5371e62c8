/-! HOW MY MACHINE STANDS TO THE REAL ONE: places have addresses (ad), a place's cell is what my rows say -/
def cv (ad : Nat → Nat) : Value → Value
  | .ref q => .ref (ad q)
  | v => v
theorem cv_cat (ad : Nat → Nat) (v : Value) : (cv ad v).category = v.category := by cases v <;> rfl
theorem cv_cats (ad : Nat → Nat) (vs : List Value) : ((vs.map (cv ad)).map fun v => v.category) = vs.map fun v => v.category := by
  rw [List.map_map]
  exact List.map_congr_left fun v _ => cv_cat ad v
theorem cat_le (vs : List Value) : (vs.map fun v => v.category).sum ≤ 2 * vs.length := by
  induction vs with
  | nil => exact Nat.le_refl _
  | cons v vs ih =>
    rw [List.map_cons, List.sum_cons, List.length_cons]
    rcases lv_cat v with h | h <;> omega
theorem cat_le8 (ad : Nat → Nat) {vs : List Value} (h : vs.length ≤ 4) : ((vs.map (cv ad)).map fun v => v.category).sum ≤ 8 := by
  rw [cv_cats]
  have := cat_le vs
  omega
def rg (n : Nat) (v : Value) : Prop := ∀ q, v = .ref q → q < n
def rgs (n : Nat) (vs : List Value) : Prop := ∀ v ∈ vs, rg n v
theorem rg_mono {n k : Nat} {v : Value} (h : n ≤ k) (hv : rg n v) : rg k v := fun q e => Nat.lt_of_lt_of_le (hv q e) h
theorem rgs_mono {n k : Nat} {vs : List Value} (h : n ≤ k) (hv : rgs n vs) : rgs k vs := fun v hm => rg_mono h (hv v hm)
theorem rgs_c {n : Nat} {v : Value} {vs : List Value} (h : rg n v) (hs : rgs n vs) : rgs n (v :: vs) := fun w hw => (List.mem_cons.mp hw).elim (fun e => e ▸ h) (hs w)
theorem rgs_t {n : Nat} {v : Value} {vs : List Value} (h : rgs n (v :: vs)) : rgs n vs := fun w hw => h w (List.mem_cons_of_mem _ hw)
theorem rgs_h {n : Nat} {v : Value} {vs : List Value} (h : rgs n (v :: vs)) : rg n v := h v List.mem_cons_self
theorem rgs_n {n : Nat} : rgs n [] := fun _ h => absurd h List.not_mem_nil
theorem rg_i {n : Nat} {x : Int32} : rg n (.int x) := fun _ h => by cases h
theorem rg_l {n : Nat} {x : Int64} : rg n (.long x) := fun _ h => by cases h
theorem rg_f {n : Nat} {x : UInt32} : rg n (.float x) := fun _ h => by cases h
theorem rg_d {n : Nat} {x : UInt64} : rg n (.double x) := fun _ h => by cases h
theorem rg_m {n : Nat} : rg n mk0 := fun _ h => by cases h
theorem rg_r {n q : Nat} (h : q < n) : rg n (.ref q) := fun _ e => by cases e; exact h
theorem rgs_set {n k : Nat} {v : Value} {vs : List Value} (h : rg n v) (hs : rgs n vs) : rgs n (vs.set k v) := fun w hw => (List.mem_or_eq_of_mem_set hw).elim (hs w) (fun e => e ▸ h)
theorem rgs_at {n k : Nat} {v : Value} {vs : List Value} (hs : rgs n vs) (h : vs[k]? = some v) : rg n v := hs v (List.mem_of_getElem? h)
theorem cv_eq {ad ad' : Nat → Nat} {n : Nat} {v : Value} (h : ∀ q, q < n → ad' q = ad q) (hv : rg n v) : cv ad' v = cv ad v := by
  cases v <;> try rfl
  exact congrArg Value.ref (h _ (hv _ rfl))
theorem cvs_eq {ad ad' : Nat → Nat} {n : Nat} {vs : List Value} (h : ∀ q, q < n → ad' q = ad q) (hv : rgs n vs) : vs.map (cv ad') = vs.map (cv ad) := List.map_congr_left fun v hm => cv_eq h (hv v hm)
/-- a place's cell -/
def entE (ty : Nat → ClassId) (ad : Nat → Nat) (σ : St) (p : Nat) : va_E :=
  if gK σ p < 10 then .inr (gK σ p, (List.range (nf (gK σ p))).map (fun k => cv ad (gf σ (fty (gK σ p) k) p k)))
  else if gK σ p = 10 then .inl (ty 0, gN σ p, .inl (gI σ p))
  else if gK σ p = 11 then .inl (ty 1, gN σ p, .inl (gI σ p))
  else if gK σ p = 12 then .inl (ty 2, gN σ p, .inr (.inl (gL σ p)))
  else if gK σ p = 13 then .inl (ty 3, gN σ p, .inr (.inr (.inr (.inl (gD σ p)))))
  else .inl (ty (gK σ p - 10), gN σ p, .inr (.inr (.inr (.inr (fun j => (gR σ p j).map ad)))))
/-- a place that is mine: not the script, not LOOKED_AT -/
def okp (σ : St) (p : Nat) : Prop := (p = 0 ∧ gK σ 0 ≠ 20) ∨ (2 ≤ p ∧ p < gx σ + 2)
/-- its number among my places -/
def ix (σ : St) (p : Nat) : Nat := if gK σ 0 = 20 then p - 2 else if p = 0 then 0 else p - 1
def pls (σ : St) : List Nat := (if gK σ 0 = 20 then [] else [0]) ++ (List.range (gx σ)).map (fun k => k + 2)
def wld (ty : Nat → ClassId) (ad : Nat → Nat) (σ : St) : va_W := (pls σ).map (fun p => (ad p, entE ty ad σ p))
theorem pls_at {σ : St} {p : Nat} (h : okp σ p) : (pls σ)[ix σ p]? = some p := by
  unfold pls ix
  unfold okp at h
  by_cases h0 : gK σ 0 = 20
  · rw [if_pos h0, if_pos h0, List.nil_append, List.getElem?_map, List.getElem?_range (by omega)]
    show some (p - 2 + 2) = some p
    congr 1
    omega
  · rw [if_neg h0, if_neg h0]
    by_cases hp : p = 0
    · subst hp
      rfl
    · rw [if_neg hp, List.getElem?_append_right (show [0].length ≤ p - 1 by show 1 ≤ p - 1; omega), List.getElem?_map, List.getElem?_range (show p - 1 - [0].length < gx σ by show p - 1 - 1 < _; omega)]
      show some (p - 1 - 1 + 2) = some p
      congr 1
      omega
theorem pls_ix {σ : St} {k p : Nat} (h : (pls σ)[k]? = some p) : k = ix σ p ∧ okp σ p := by
  unfold pls at h
  unfold ix okp
  by_cases h0 : gK σ 0 = 20
  · rw [if_pos h0, List.nil_append, List.getElem?_map] at h
    rw [if_pos h0]
    by_cases hk : k < gx σ
    · rw [List.getElem?_range hk] at h
      have h : some (k + 2) = some p := h
      cases h
      exact ⟨by omega, Or.inr ⟨by omega, by omega⟩⟩
    · rw [List.getElem?_eq_none (by rw [List.length_range]; omega)] at h
      cases h
  · rw [if_neg h0] at h
    rw [if_neg h0]
    cases k with
    | zero =>
      have h : some 0 = some p := h
      cases h
      exact ⟨by rw [if_pos rfl], Or.inl ⟨rfl, h0⟩⟩
    | succ k =>
      rw [List.getElem?_append_right (show [0].length ≤ k + 1 by show 1 ≤ k + 1; omega), List.getElem?_map] at h
      have e : k + 1 - [0].length = k := rfl
      rw [e] at h
      by_cases hk : k < gx σ
      · rw [List.getElem?_range hk] at h
        have h : some (k + 2) = some p := h
        cases h
        exact ⟨by rw [if_neg (by omega)]; omega, Or.inr ⟨by omega, by omega⟩⟩
      · rw [List.getElem?_eq_none (by rw [List.length_range]; omega)] at h
        cases h
theorem pls_mem {σ : St} {p : Nat} (h : p ∈ pls σ) : okp σ p := by
  obtain ⟨k, hk⟩ := List.mem_iff_getElem?.mp h
  exact (pls_ix hk).2
theorem okp_lt {σ : St} {p : Nat} (h : okp σ p) : p < gx σ + 2 := by
  rcases h with ⟨rfl, -⟩ | h <;> omega
theorem okp_1 {σ : St} {p : Nat} (h : okp σ p) : p ≠ 1 := by
  rcases h with ⟨rfl, -⟩ | h <;> omega
theorem okp_0 {σ : St} {p : Nat} (h : okp σ p) (h0 : gK σ 0 = 20) : p ≠ 0 := by
  rcases h with ⟨-, h⟩ | h
  · exact absurd h0 h
  · omega
theorem pls_eq {σ σ' : St} (hx : gx σ' = gx σ) (hk : gK σ' 0 = gK σ 0) : pls σ' = pls σ := by
  unfold pls
  rw [hx, hk]
theorem entE_c {ty : Nat → ClassId} {ad : Nat → Nat} {σ σ' : St} {q : Nat} (h1 : gK σ' q = gK σ q) (h2 : gN σ' q = gN σ q) (h3 : ∀ j, gI σ' q j = gI σ q j) (h4 : ∀ j, gL σ' q j = gL σ q j) (h5 : ∀ j, gD σ' q j = gD σ q j) (h6 : ∀ j, gR σ' q j = gR σ q j) : entE ty ad σ' q = entE ty ad σ q := by
  have e3 : gI σ' q = gI σ q := funext h3
  have e4 : gL σ' q = gL σ q := funext h4
  have e5 : gD σ' q = gD σ q := funext h5
  have e6 : gR σ' q = gR σ q := funext h6
  unfold entE gf
  rw [h1, h2, e3, e4, e5, e6]
theorem wld_at {ty : Nat → ClassId} {ad : Nat → Nat} {σ : St} {p : Nat} (h : okp σ p) : (wld ty ad σ)[ix σ p]? = some (ad p, entE ty ad σ p) := by
  unfold wld
  rw [List.getElem?_map, pls_at h]
  rfl
theorem wld_set {ty : Nat → ClassId} {ad : Nat → Nat} {σ σ' : St} {p : Nat} (hx : gx σ' = gx σ) (hk : gK σ' 0 = gK σ 0) (hp : okp σ p) (h : ∀ q, q ≠ p → entE ty ad σ' q = entE ty ad σ q) : (wld ty ad σ).set (ix σ p) (ad p, entE ty ad σ' p) = wld ty ad σ' := by
  have hl : ix σ p < (wld ty ad σ).length := (List.getElem?_eq_some_iff.mp (wld_at (ty := ty) (ad := ad) hp)).1
  apply List.ext_getElem?
  intro k
  rw [List.getElem?_set]
  unfold wld
  rw [pls_eq hx hk, List.getElem?_map]
  by_cases e : ix σ p = k
  · subst e
    unfold wld at hl
    rw [if_pos rfl, if_pos hl, List.getElem?_map, pls_at hp]
    rfl
  · rw [if_neg e, List.getElem?_map]
    cases hq : (pls σ)[k]? with
    | none => rfl
    | some q =>
      obtain ⟨h1, h2⟩ := pls_ix hq
      have h3 : q ≠ p := fun h => e (by rw [h1, h])
      show some (ad q, entE ty ad σ q) = some (ad q, entE ty ad σ' q)
      rw [h q h3]
/-- the rows of refs know only places that are there -/
def okS (σ : St) : Prop := (gK σ 0 = 20 ∨ gK σ 0 = 8) ∧ gK σ 1 = 21 ∧ (∀ q, gx σ + 2 ≤ q → gK σ q = 99) ∧ ∀ p k q, gR σ p k = some q → q < gx σ + 2
theorem okS_lt {σ : St} {p k : Nat} (h : okS σ) (hk : gK σ p = k) (h1 : k ≠ 20) (h2 : k ≠ 21) (h3 : k ≠ 99) : okp σ p := by
  obtain ⟨a, b, d, -⟩ := h
  match p, hk with
  | 0, hk => exact Or.inl ⟨rfl, fun q => h1 (hk.symm.trans q)⟩
  | 1, hk => exact absurd (b.symm.trans hk).symm h2
  | i + 2, hk =>
    refine Or.inr ⟨by omega, ?_⟩
    by_cases h : i + 2 < gx σ + 2
    · exact h
    · exact absurd ((d (i + 2) (by omega)).symm.trans hk).symm h3
theorem rv_rg {σ : St} (h : okS σ) (p k : Nat) : rg (gx σ + 2) (rv (gR σ p k)) := by
  intro q e
  cases hr : gR σ p k with
  | none => rw [hr] at e; cases e
  | some y => rw [hr] at e; cases e; exact h.2.2.2 p k _ hr
theorem gf_rg {σ : St} (h : okS σ) (t p k : Nat) : rg (gx σ + 2) (gf σ t p k) := by
  unfold gf
  split
  · exact rg_i
  · split
    · exact rg_l
    · exact rv_rg h p k
theorem entE_ad {ty : Nat → ClassId} {ad ad' : Nat → Nat} {σ : St} {q : Nat} (hok : okS σ) (h : ∀ q, q < gx σ + 2 → ad' q = ad q) : entE ty ad' σ q = entE ty ad σ q := by
  have e1 : ∀ t k, cv ad' (gf σ t q k) = cv ad (gf σ t q k) := fun t k => cv_eq h (gf_rg hok t q k)
  have e2 : (fun j => (gR σ q j).map ad') = (fun j => (gR σ q j).map ad) := by
    funext j
    cases hr : gR σ q j with
    | none => rfl
    | some y => exact congrArg some (h y (hok.2.2.2 q j y hr))
  unfold entE
  simp only [e1, e2]
def tyL (ty : Nat → ClassId) : List (ClassId × FieldType) := [(ty 0, .int), (ty 1, .boolean), (ty 2, .int), (ty 3, .int), (ty 4, .object "Bitmapstore$RowSet"), (ty 5, .object "Bitmapstore$Column"), (ty 6, .object "Bitmapstore$Condition"), (ty 7, .object "Bitmapstore$State"), (ty 8, .array .int), (ty 9, .array .boolean)]
def Ab (b0 : Nat) : Nat → Prop := fun q => b0 ≤ q
/-- the words that go from a caller to what it calls -/
def tw (w : Cond) : Bool := goodWord w || (match w with
  | .fieldLinkNest .. => true
  | .methodLinkNest .. => true
  | .castable .. => true
  | .declares _ => true
  | .arrayOver (.object _) => true
  | .arrayOver (.array _) => true
  | _ => false)
theorem ao_moved {t : FieldType} {u U : State} (hvm : u.vm.Alike U.vm) (h : (Cond.arrayOver (.array t)).before #[] u = true) : (Cond.arrayOver (.array t)).before #[] U = true := by
  simp only [Cond.before, Cond.holds, Cond.value, beq_iff_eq] at h ⊢
  have f1 : U.vm.findClass (FieldType.array t).toString = u.vm.findClass (FieldType.array t).toString := by rw [hvm.findClass]
  rw [f1]
  cases hc : u.vm.findClass (FieldType.array t).toString with
  | none => simp [hc] at h
  | some comp =>
    simp only [hc, Option.bind_some, Option.bind_eq_some_iff, Option.map_eq_some_iff] at h ⊢
    obtain ⟨c, hi, k, hk, hb⟩ := h
    obtain ⟨k', hk', he⟩ := hvm.2.2 _ _ hk
    have hkd : k'.kind = k.kind := by rw [he]
    refine ⟨c, ?_, k', hk', ?_⟩
    · have e1 := va_idx_bare U.vm comp
      have e2 := va_idx_bare u.vm comp
      have e3 : U.vm.bare = u.vm.bare := by first | exact hvm.bare_eq | exact hvm.bare_eq.symm
      rw [e3] at e1
      exact e1.symm.trans (e2.trans hi)
    · rw [hkd, hvm.findClass]
      exact hb
theorem tw_warm {w : Cond} {s U : State} (ht : tw w = true) (hW : s.WarmedH U.vm) (h : ∀ A, w.before A s = true) : ∀ A, w.before A U = true := by
  intro A
  unfold tw at ht
  rcases Bool.or_eq_true_iff.mp ht with g | g
  · exact word_at hW (good_of_word g) (h A)
  · cases w with
    | fieldLinkNest a i b n d x => exact va_Nw.use rfl (va_Nw.warmF hW (va_Nw.of rfl (h #[])))
    | methodLinkNest a i x y => exact va_Nw.use rfl (va_Nw.warmM hW (va_Nw.of rfl (h #[])))
    | declares x => exact va_Nw.use rfl (va_Nw.warmD hW (va_Nw.of rfl (h #[])))
    | castable C T => exact va_Nw.use rfl (va_Nw.warmC hW (va_Nw.of rfl (h #[])))
    | arrayOver t =>
      cases t with
      | object C => exact (va_AO.moved hW.alike (va_AO.of (h #[]))).use
      | array t => exact ao_moved hW.alike (h #[])
      | _ => exact absurd (show false = true from g) Bool.false_ne_true
    | _ => exact absurd (show false = true from g) Bool.false_ne_true
/-- what stands still in a run: classes, words, the script, LOOKED_AT, the texts -/
def Sx (D : va_G) (ty : Nat → ClassId) (b0 : Nat) (ad : Nat → Nat) (σ : St) (U : State) : Prop :=
  va_K D vwCl (tyL ty) U ∧ (∀ w ∈ lw_tbl, tw w = true → ∀ A, w.before A U = true) ∧ (gK σ 0 = 20 → va_X (ad 0) (gN σ 0) (gI σ 0) U U.heap) ∧ va_X (ad 1) (gN σ 1) (gI σ 1) U U.heap ∧
  va_Z "Bitmapstore" "LOOKED_AT" "[I" (.ref (ad 1)) (Ab b0) U U.heap ∧ vx_Zq Bundle.tN "UNASSIGNED_STACK" Bundle.steD (Ab b0) U U.heap ∧ vx_Zq Bundle.tN "SUPPRESSED_SENTINEL" Bundle.listD (Ab b0) U U.heap ∧
  ((∀ t ∈ thT, ∃ a, vk_R (cn t.1) t.2.2.1 t.2.2.2.2.2.2 a U) ∧ (∀ a, 1 ≤ a → a ≤ 0 → ∀ b, 1 ≤ b → b ≤ 0 → a ≠ b → va_Nc (exN a) (exN b) U)) ∧ (gK σ 0 = 20 → ad 0 < b0) ∧ ad 1 < b0 ∧ b0 ≤ U.heap.size
/-- a whole world: my rows and what stands still -/
def Iw (D : va_G) (ty : Nat → ClassId) (b0 : Nat) (ad : Nat → Nat) (σ : St) (U : State) : Prop :=
  va_P D vwCl (wld ty ad σ) U.heap ∧ va_D (Ab b0) (wld ty ad σ) ∧ okS σ ∧ Sx D ty b0 ad σ U
/-- the first two places' rows stay -/
def fix2 (σ0 σ : St) : Prop := gK σ 0 = gK σ0 0 ∧ (gK σ0 0 = 20 → gN σ 0 = gN σ0 0 ∧ gI σ 0 = gI σ0 0) ∧ gN σ 1 = gN σ0 1 ∧ gI σ 1 = gI σ0 1
theorem fix2_rf {σ : St} : fix2 σ σ := ⟨rfl, fun _ => ⟨rfl, rfl⟩, rfl, rfl⟩
theorem fix2_tr {a b c : St} (h : fix2 a b) (g : fix2 b c) : fix2 a c := ⟨g.1.trans h.1, fun q => ⟨(g.2.1 (h.1.trans q)).1.trans (h.2.1 q).1, (g.2.1 (h.1.trans q)).2.trans (h.2.1 q).2⟩, g.2.2.1.trans h.2.2.1, g.2.2.2.trans h.2.2.2⟩
theorem fx_0 {a b : St} (h1 : gK b = gK a) (h2 : gN b = gN a) (h3 : gI b = gI a) : fix2 a b := ⟨by rw [h1], fun _ => ⟨by rw [h2], by rw [h3]⟩, by rw [h2], by rw [h3]⟩
theorem fx_I {σ : St} {p k : Nat} {x : Int32} (h : okp σ p) : fix2 σ (setI σ p k x) := by
  refine ⟨rfl, fun q => ⟨rfl, ?_⟩, rfl, ?_⟩
  · funext j
    show (if 0 = p ∧ j = k then x else gI σ 0 j) = gI σ 0 j
    rw [if_neg (fun w => okp_0 h q w.1.symm)]
  · funext j
    show (if 1 = p ∧ j = k then x else gI σ 1 j) = gI σ 1 j
    rw [if_neg (fun w => okp_1 h w.1.symm)]
theorem fx_w {σ : St} {p : Nat} {g : Nat → Int32} (h : okp σ p) : fix2 σ (rowI σ p g) := by
  refine ⟨rfl, fun q => ⟨rfl, ?_⟩, rfl, ?_⟩
  · funext j
    show (if 0 = p then g j else gI σ 0 j) = gI σ 0 j
    rw [if_neg (fun w => okp_0 h q w.symm)]
  · funext j
    show (if 1 = p then g j else gI σ 1 j) = gI σ 1 j
    rw [if_neg (fun w => okp_1 h w.symm)]
theorem Sx_moved {D : va_G} {ty : Nat → ClassId} {b0 : Nat} {ad ad' : Nat → Nat} {σ σ' : St} {s U : State} (h : Sx D ty b0 ad σ s) (hW : s.WarmedH U.vm) (hq : ∀ q, q < b0 → U.heap[q]? = s.heap[q]?) (hz : s.heap.size ≤ U.heap.size) (h0 : ad' 0 = ad 0) (h1 : ad' 1 = ad 1) (hf : fix2 σ σ') : Sx D ty b0 ad' σ' U := by
  obtain ⟨a1, a2, a3, a4, a5, a6, a7, a8, a9, a10, a11⟩ := h
  obtain ⟨f1, f2, f3, f4⟩ := hf
  have hk : ∀ a : Nat, a < s.heap.size → ¬ Ab b0 a → U.heap[a]? = s.heap[a]? := fun a _ h => hq a (Nat.not_le.mp h)
  refine ⟨va_K.moved hW.alike a1, fun w hw ht => tw_warm ht hW (a2 w hw ht), ?_, ?_, ?_, (vx_Zq.moved hW.alike a6).kept hk, (vx_Zq.moved hW.alike a7).kept hk, ⟨fun t ht => ?_, fun a x1 x2 b x3 x4 x5 => va_Nc.moved hW.alike (a8.2 a x1 x2 b x3 x4 x5)⟩, fun g9 => by rw [h0]; exact a9 (f1.symm.trans g9), by rw [h1]; exact a10, Nat.le_trans a11 hz⟩
  · intro g9
    rw [f1] at g9
    rw [h0, (f2 g9).1, (f2 g9).2]
    exact (va_X.moved hW.alike (a3 g9)).kept (hq _ (a9 g9))
  · rw [h1, f3, f4]
    exact (va_X.moved hW.alike a4).kept (hq _ a10)
  · rw [h1]
    exact (va_Z.moved hW.alike a5).kept hk
  · obtain ⟨a, ha⟩ := a8.1 t ht
    exact ⟨a, vk_R.warm hW ha⟩
