/-! ENTRIES THAT MAKE SOMETHING, AND THE ROWS OF REFERENCES -/
def gfz (t : Nat) : Value := if t = 1 then .int 0 else if t = 2 then .long 0 else .null
theorem gfz_ok {c : Nat} (h : c < 10) : ∀ j, j < nf c → defaultValue (tyf c j) = gfz (fty c j) := c10 (P := fun c => ∀ j, j < nf c → defaultValue (tyf c j) = gfz (fty c j)) (by decide) (by decide) (by decide) (by decide) (by decide) (by decide) (by decide) (by decide) (by decide) (by decide) h
/-- a new place's address -/
def adn (ad : Nat → Nat) (g q : Nat) : Nat → Nat := fun x => if x = g then q else ad x
theorem adn_lt {ad : Nat → Nat} {g q x : Nat} (h : x < g) : adn ad g q x = ad x := if_neg (by omega)
theorem adn_self {ad : Nat → Nat} {g q : Nat} : adn ad g q g = q := if_pos rfl
theorem al_x (σ : St) (k n : Nat) : gx (al σ k n) = gx σ + 1 := rfl
theorem al_K (σ : St) (k n q : Nat) : gK (al σ k n) q = if q = gx σ + 2 then k else gK σ q := rfl
theorem al_N (σ : St) (k n q : Nat) : gN (al σ k n) q = if q = gx σ + 2 then n else gN σ q := rfl
theorem al_I (σ : St) (k n q j : Nat) : gI (al σ k n) q j = if q = gx σ + 2 then 0 else gI σ q j := rfl
theorem al_L (σ : St) (k n q j : Nat) : gL (al σ k n) q j = if q = gx σ + 2 then 0 else gL σ q j := rfl
theorem al_D (σ : St) (k n q j : Nat) : gD (al σ k n) q j = if q = gx σ + 2 then 0 else gD σ q j := rfl
theorem al_R (σ : St) (k n q j : Nat) : gR (al σ k n) q j = if q = gx σ + 2 then none else gR σ q j := rfl
theorem okS_al {σ : St} {k n : Nat} (h : okS σ) : okS (al σ k n) := by
  obtain ⟨a, b, d, e⟩ := h
  refine ⟨?_, ?_, fun q hq => ?_, fun p j q hr => ?_⟩
  · rw [al_K, if_neg (by omega)]; exact a
  · rw [al_K, if_neg (by omega)]; exact b
  · rw [al_x] at hq
    rw [al_K, if_neg (by omega)]
    exact d q (by omega)
  · rw [al_R] at hr
    rw [al_x]
    split at hr
    · cases hr
    · have := e p j q hr; omega
theorem fix_al {σ : St} {k n : Nat} : fix2 σ (al σ k n) := ⟨by rw [al_K, if_neg (by omega)], fun _ => ⟨by rw [al_N, if_neg (by omega)], by funext j; rw [al_I, if_neg (by omega)]⟩, by rw [al_N, if_neg (by omega)], by funext j; rw [al_I, if_neg (by omega)]⟩
theorem pls_al {σ : St} {k n : Nat} : pls (al σ k n) = pls σ ++ [gx σ + 2] := by
  unfold pls
  rw [al_x, al_K, if_neg (show ¬ 0 = gx σ + 2 by omega), List.range_succ, List.map_append, List.append_assoc]
  rfl
theorem wld_al {ty : Nat → ClassId} {ad : Nat → Nat} {σ : St} {k n q : Nat} (hok : okS σ) : wld ty (adn ad (gx σ + 2) q) (al σ k n) = wld ty ad σ ++ [(q, entE ty (adn ad (gx σ + 2) q) (al σ k n) (gx σ + 2))] := by
  unfold wld
  rw [pls_al, List.map_append, List.map_singleton, adn_self]
  congr 1
  apply List.map_congr_left
  intro j hj
  have hj := okp_lt (pls_mem hj)
  rw [adn_lt hj]
  refine congrArg (fun e => (ad j, e)) ?_
  have h1 : entE ty (adn ad (gx σ + 2) q) (al σ k n) j = entE ty (adn ad (gx σ + 2) q) σ j := entE_c (by rw [al_K, if_neg (by omega)]) (by rw [al_N, if_neg (by omega)]) (fun i => by rw [al_I, if_neg (by omega)]) (fun i => by rw [al_L, if_neg (by omega)]) (fun i => by rw [al_D, if_neg (by omega)]) (fun i => by rw [al_R, if_neg (by omega)])
  rw [h1]
  exact entE_ad hok fun x hx => adn_lt hx
theorem ra_eq {U : State} {a b : ClassId} {t : FieldType} (ha : va_RA U a t) (hb : va_RA U b t) : a = b := by
  cases t with
  | object C =>
    obtain ⟨_, _, -, -, -, h1⟩ := ha
    obtain ⟨_, _, -, -, -, h2⟩ := hb
    exact Option.some.inj (h1.symm.trans h2)
  | _ => exact Option.some.inj ((show U.vm.findClass _ = some a from ha).symm.trans (show U.vm.findClass _ = some b from hb))
section MAKE
variable {z : Nat} {D : va_G} {ty : Nat → ClassId} {b0 : Nat} {σ0 : St} {ad0 : Nat → Nat} {p : Program} {l : Launch} {e : Env} {R : Room} {s : State} {m : MethodId} {args : Array Value} {below : List Frame} {meth : Method} {c : Code} {Q : State → Prop}
variable {i : Instr} {pc0 len : Nat} {ext : List Nat} {r : List En} {ls st : List Value} {σ : St} {f' : Fr}
/-- an entry that makes one thing -/
theorem gl_al {k0 n0 : Nat} {st' : List Value} (hrg : ∀ n, rgs n st → rgs n st') (hb : b0 ≤ s.heap.size)
    (row : ∀ (pc : Nat) (ad : Nat → Nat) (H : Heap) (locs : List Loc) (lsC : Array Slot), okE z (codes.getD z []) (pc, i, len, ext) = true → Lr ad lsC (mL z) ls → Rh D ty b0 s σ0 ad0 σ ad H locs →
      (∀ (q : Nat) (H1 : Heap), va_P D vwCl (wld ty ad σ ++ [(q, entE ty (adn ad (gx σ + 2) q) (al σ k0 n0) (gx σ + 2))]) H1 → va_D (Ab b0) (wld ty ad σ ++ [(q, entE ty (adn ad (gx σ + 2) q) (al σ k0 n0) (gx σ + 2))]) → va_S (Ab b0) s.heap H1 locs → W p l e R s m args below meth c H1 locs (gc σ - gc σ0 + 1) (gs σ - gs σ0 + n0) Q (F0 m (pc + len) lsC (.ref q :: st'.map (cv ad)))) →
      W p l e R s m args below meth c H locs (gc σ - gc σ0) (gs σ - gs σ0) Q (F0 m pc lsC (st.map (cv ad))))
    (k : Gl z D ty b0 σ0 ad0 p l e R s m args below meth c Q (r, ls, .ref (gx σ + 2) :: st', al σ k0 n0)) : Gl z D ty b0 σ0 ad0 p l e R s m args below meth c Q ((pc0, i, len, ext) :: r, ls, st, σ) := by
  intro pc ad H locs lsC h
  obtain ⟨hF, hL, h1, h2, hR⟩ := h
  obtain ⟨rfl, hE, hF'⟩ := fk_e hF
  refine row pc0 ad H locs lsC hE hL hR fun q H1 hP hD hS => ?_
  obtain ⟨-, -, -, q4, q5, q6, q7, q8, q9⟩ := hR
  rw [← wld_al q4] at hP hD
  dsimp only at h1 h2 q4 q5 q6 q7 q8 q9
  have g1 : fix2 σ (al σ k0 n0) := fix_al
  have hag : ∀ x, x < gx σ + 2 → adn ad (gx σ + 2) q x = ad x := fun x hx => adn_lt hx
  have k2 := k (pc0 + len) (adn ad (gx σ + 2) q) H1 locs lsC ⟨hF', Lr_ad hL h1 hag, rgs_mono (by rw [al_x]; omega) h1, rgs_c (rg_r (by rw [al_x]; omega)) (rgs_mono (by rw [al_x]; omega) (hrg _ h2)), hP, hD, hS, okS_al q4, by rw [al_x]; omega,
    fun x hx => (hag x (by omega)).trans (q6 x hx), by show gc σ0 ≤ gc σ + 1; omega, by show gs σ0 ≤ gs σ + n0; omega, fix2_tr q9 g1⟩
  have e1 : gc (al σ k0 n0) - gc σ0 = gc σ - gc σ0 + 1 := by show gc σ + 1 - gc σ0 = _; omega
  have e2 : gs (al σ k0 n0) - gs σ0 = gs σ - gs σ0 + n0 := by show gs σ + n0 - gs σ0 = _; omega
  have e3 : (Value.ref (gx σ + 2) :: st').map (cv (adn ad (gx σ + 2) q)) = .ref q :: st'.map (cv ad) := by
    rw [List.map_cons, cvs_eq hag (hrg _ h2)]
    show Value.ref (adn ad (gx σ + 2) q (gx σ + 2)) :: _ = _
    rw [adn_self]
  dsimp only at k2
  rw [e1, e2, e3] at k2
  exact k2
theorem cl_use {n c0 f : Nat} (h9 : c0 < 20) (hS : Sx D ty b0 ad0 σ0 s) {q : Nat × Nat × Nat × Nat} (h : clT[f]? = some q) (h1 : q.1 = mC z) (h2 : q.2.1 = n) (h3 : q.2.2.1 = c0) : (Cond.classLink (cn (mC z)) n (cn c0)).before args s = true := by
  have h4 := wat_in (cl_ok q (List.mem_of_getElem? h))
  unfold clC at h4
  rw [h1, h2, h3, if_neg (by omega)] at h4
  exact hS.2.1 _ h4 rfl args
def insT : List (Nat × Nat) := [(1165, 1010), (1059, 1006), (1154, 1009), (1124, 1008), (1103, 1007), (1036, 1004), (1030, 1003), (1022, 1002), (3023, 1001), (3047, 1011)]
theorem ins_at {c : Nat} (h : c < 10) : wat (insT.getD c (0, 0)).1 = some (.instantiable (vc c).1 (vc c).2.2) ∧ wat (insT.getD c (0, 0)).2 = some (.initialized (vc c).1) ∧ True := c10 (P := fun c => wat (insT.getD c (0, 0)).1 = some (.instantiable (vc c).1 (vc c).2.2) ∧ wat (insT.getD c (0, 0)).2 = some (.initialized (vc c).1) ∧ True) ⟨by decide +kernel, by decide +kernel, trivial⟩ ⟨by decide +kernel, by decide +kernel, trivial⟩ ⟨by decide +kernel, by decide +kernel, trivial⟩ ⟨by decide +kernel, by decide +kernel, trivial⟩ ⟨by decide +kernel, by decide +kernel, trivial⟩ ⟨by decide +kernel, by decide +kernel, trivial⟩ ⟨by decide +kernel, by decide +kernel, trivial⟩ ⟨by decide +kernel, by decide +kernel, trivial⟩ ⟨by decide +kernel, by decide +kernel, trivial⟩ ⟨by decide +kernel, by decide +kernel, trivial⟩ h
theorem arr_int : wat 1077 = some (.arrayClass .int) := by decide +kernel
theorem arr_boolean : wat 3067 = some (.arrayClass .boolean) := by decide +kernel
def ovT (k : Nat) : Nat := ([1055, 1122, 1058, 1109] : List Nat).getD (k - 14) 0
theorem arr_over {k : Nat} (h : k = 14 ∨ k = 15 ∨ k = 16 ∨ k = 17) : wat (ovT k) = some (.arrayOver (.object (cn (ek k)))) := by
  rcases h with rfl | rfl | rfl | rfl <;> decide +kernel
theorem arr_ints : wat 3053 = some (.arrayOver (.array .int)) := by decide +kernel
theorem arr_bools : wat 3140 = some (.arrayOver (.array .boolean)) := by decide +kernel
theorem gl_new {n : Nat} (hC : Cx z p l R s m meth c) (hS : Sx D ty b0 ad0 σ0 s) (hcap : gc f'.2.2.2 - gc σ0 ≤ R.cells ∧ gs f'.2.2.2 - gs σ0 ≤ R.slots) (h : stI z (.new n) ext r ls st σ = some (.inl f')) (k : Gl z D ty b0 σ0 ad0 p l e R s m args below meth c Q f') : Gl z D ty b0 σ0 ad0 p l e R s m args below meth c Q ((pc0, .new n, len, ext) :: r, ls, st, σ) := by
  unfold stI at h
  dsimp only at h
  split at h
  next c0 f0 =>
    cases h
    refine gl_al (fun _ h => h) hS.2.2.2.2.2.2.2.2.2.2 (fun pc ad H locs lsC hE hL hR kk => ?_) k
    obtain ⟨d, rfl, hx⟩ := dx_new (n := 3) rfl (fun _ => rfl) (fun _ => rfl) hE
    dsimp only at hx
    cases hf : clT[f0]? with
    | none => rw [hf] at hx; cases hx
    | some q =>
      rw [hf] at hx
      obtain ⟨a1, a2, a3, a4⟩ := of_decide_eq_true hx
      have hcl := cl_use (args := args) (by omega) hS hf a1 a2 a3
      have hin := ins_at a4
      rw [← vc_c a4] at hcl
      have hini : (Cond.initialized (vc c0).1).before args s = true := hS.2.1 _ (wat_in hin.2.1) rfl args
      have hins : (Cond.instantiable (vc c0).1 (vc c0).2.2).before args s = true := hS.2.1 _ (wat_in hin.1) rfl args
      obtain ⟨q1, q2, q3, q4, q5, q6, q7, q8, q9⟩ := hR
      dsimp only at hcap
      have w1 : gc σ - gc σ0 + 1 ≤ R.cells := by have : gc (al σ c0 (nf c0)) = gc σ + 1 := rfl; omega
      have w2 : gs σ - gs σ0 + nf c0 ≤ R.slots := by have : gs (al σ c0 (nf c0)) = gs σ + nf c0 := rfl; omega
      rw [← vc_n a4] at w2
      refine va_new (ci := c0) (fs := (List.range (nf c0)).map (fun k => gfz (fty c0 k))) hC.1 hC.2.1 (us_hts a4 hS) (fun _ h => h) (tyf c0) (tyf_ok a4) hC.2.2.2.2.1 hcl hins hini hS.1 q1 q2 q3 (fun x hx => Nat.le_trans hS.2.2.2.2.2.2.2.2.2.2 hx) (vc_at a4) (fun j hj => ?_) w1 w2 d (fun q H1 hP hD hS1 => ?_)
      · rw [vc_n a4] at hj
        unfold vp_V
        rw [List.getD_eq_getElem?_getD, List.getElem?_map, List.getElem?_range hj]
        exact gfz_ok a4 j hj
      · have he : entE ty (adn ad (gx σ + 2) q) (al σ c0 (nf c0)) (gx σ + 2) = .inr (c0, (List.range (nf c0)).map (fun k => gfz (fty c0 k))) := by
          rw [entE_o (c := c0) (by rw [al_K, if_pos rfl]) a4]
          congr 2
          apply List.map_congr_left
          intro j hj
          have hj := List.mem_range.mp hj
          unfold gf gfz
          rw [al_I, al_L, al_R, if_pos rfl, if_pos rfl, if_pos rfl]
          rcases (tyf_t a4 j hj).2.2.2 with t | t | t <;> rw [t] <;> rfl
        have k2 := kk q H1 (by rw [he]; exact hP) (by rw [he]; exact hD) hS1
        rw [vc_n a4]
        exact k2
  next => cases h
/-- a new row of numbers -/
theorem gl_newarray {a : ArrayType} (hC : Cx z p l R s m meth c) (hS : Sx D ty b0 ad0 σ0 s) (hcap : gc f'.2.2.2 - gc σ0 ≤ R.cells ∧ gs f'.2.2.2 - gs σ0 ≤ R.slots) (h : stI z (.newarray a) ext r ls st σ = some (.inl f')) (k : Gl z D ty b0 σ0 ad0 p l e R s m args below meth c Q f') : Gl z D ty b0 σ0 ad0 p l e R s m args below meth c Q ((pc0, .newarray a, len, ext) :: r, ls, st, σ) := by
  unfold stI at h
  dsimp only at h
  split at h
  next k0 n st1 =>
    split at h
    next hn =>
      cases h
      refine gl_al (fun _ h => rgs_t h) hS.2.2.2.2.2.2.2.2.2.2 (fun pc ad H locs lsC hE hL hR kk => ?_) k
      obtain ⟨d, rfl, hx⟩ := dx_new (n := 2) rfl (fun _ => rfl) (fun _ => rfl) hE
      have hx := of_decide_eq_true hx
      obtain ⟨q1, q2, q3, q4, q5, q6, q7, q8, q9⟩ := hR
      dsimp only at hcap
      have w1 : gc σ - gc σ0 + 1 ≤ R.cells := by have : gc (al σ k0 n.toNatClampNeg) = gc σ + 1 := rfl; omega
      have w2 : gs σ - gs σ0 + n.toNatClampNeg ≤ R.slots := by have : gs (al σ k0 n.toNatClampNeg) = gs σ + n.toNatClampNeg := rfl; omega
      have hA : ∀ x, s.heap.size ≤ x → Ab b0 x := fun x hx => Nat.le_trans hS.2.2.2.2.2.2.2.2.2.2 hx
      have e1 : gN (al σ k0 n.toNatClampNeg) (gx σ + 2) = n.toNatClampNeg := by rw [al_N, if_pos rfl]
      have e2 : gK (al σ k0 n.toNatClampNeg) (gx σ + 2) = k0 := by rw [al_K, if_pos rfl]
      have e3 : gI (al σ k0 n.toNatClampNeg) (gx σ + 2) = (fun _ => 0) := by funext j; rw [al_I, if_pos rfl]
      have e4 : gL (al σ k0 n.toNatClampNeg) (gx σ + 2) = (fun _ => 0) := by funext j; rw [al_L, if_pos rfl]
      have e5 : gD (al σ k0 n.toNatClampNeg) (gx σ + 2) = (fun _ => 0) := by funext j; rw [al_D, if_pos rfl]
      have hlen : ∀ (cA : ClassId) (t : FieldType), (tyL ty ++ [(cA, t)])[10]? = some (cA, t) := fun _ _ => rfl
      rcases hx with ⟨rfl, rfl⟩ | ⟨rfl, rfl⟩
      · refine va_newa (atype := .int) (ty := .int) (a0 := (n.toNatClampNeg, .inl (fun _ => 0))) hC.1 hC.2.1 (hS.2.1 _ (wat_in arr_int) rfl args) rfl hS.1 q1 q2 q3 hA (fun _ => rfl) hn.1 rfl (by show _ * 4 ≤ _; omega) w1 w2 d (fun q cA H1 hK hP hD hS1 => ?_)
        have hc : cA = ty 0 := ra_eq (hK.2 10 _ (hlen cA .int)).2 (hS.1.2 0 _ rfl).2
        subst hc
        exact kk q H1 (by rw [entE_10 e2, e1, e3]; exact hP) (by rw [entE_10 e2, e1, e3]; exact hD) hS1
      · refine va_newa (atype := .boolean) (ty := .boolean) (a0 := (n.toNatClampNeg, .inl (fun _ => 0))) hC.1 hC.2.1 (hS.2.1 _ (wat_in arr_boolean) rfl args) rfl hS.1 q1 q2 q3 hA (fun _ => rfl) hn.1 rfl (by show _ * 1 ≤ _; omega) w1 w2 d (fun q cA H1 hK hP hD hS1 => ?_)
        have hc : cA = ty 1 := ra_eq (hK.2 10 _ (hlen cA .boolean)).2 (hS.1.2 1 _ rfl).2
        subst hc
        exact kk q H1 (by rw [entE_11 e2, e1, e3]; exact hP) (by rw [entE_11 e2, e1, e3]; exact hD) hS1
    next => cases h
  next => cases h
theorem ek_lt {k : Nat} (h : k = 14 ∨ k = 15 ∨ k = 16 ∨ k = 17) : ek k < 10 ∧ isRA k = true ∧ (tyL ty)[k - 10]? = some (ty (k - 10), .object (cn (ek k))) ∧ 10 ≤ k ∧ k ≤ 18 := by
  rcases h with rfl | rfl | rfl | rfl <;> exact ⟨by decide, rfl, rfl, by decide, by decide⟩
theorem va_newA {H0 : Heap} {A : Nat → Prop} {cc : ByteArray} {pc : Nat} {lsC : Array Slot} {rest : List Value} {cells slots : Nat} {H : Heap} {locs : List Loc} {cl : List vw_C} {tys : List (ClassId × FieldType)} {ws : va_W} {t : FieldType} (hexec : p.tables.exec = Jvm.exec) (hb : c.code = cc) {own : String} {index : Nat} (hown : s.vm.findClass own = some m.cls) (hclink : (Cond.classLink own index (FieldType.array t).toString).before args s = true) (hover : (Cond.arrayOver (.array t)).before args s = true) (hK : va_K D cl tys s) (hP : va_P D cl ws H) (hD : va_D A ws) (hS : va_S A H0 H locs) (hA : ∀ q, H0.size ≤ q → A q)
    {n : Int32} {N' : Nat} (hn : ¬ n < 0) (hN : n.toNatClampNeg = N') (hbytes : N' * 4 ≤ 536870912) (hcells : cells + 1 ≤ R.cells) (hslots : slots + N' ≤ R.slots) (hdg : decode cc pc = .ok (.anewarray index, 3))
    (kk : ∀ (q : Nat) (cA : ClassId) (H1 : Heap), va_K D cl (tys ++ [(cA, .array t)]) s → va_P D cl (ws ++ [(q, .inl (cA, N', .inr (.inr (.inr (.inr (fun _ => none))))))]) H1 → va_D A (ws ++ [(q, .inl (cA, N', .inr (.inr (.inr (.inr (fun _ => none))))))]) → va_S A H0 H1 locs →
      W p l e R s m args below meth c H1 locs (cells + 1) (slots + N') Q (F0 m (pc + 3) lsC (.ref q :: rest))) : W p l e R s m args below meth c H locs cells slots Q (F0 m pc lsC (.int n :: rest)) := by
  subst hN
  refine W.anewA hexec hb hown hclink hover rfl hdg rfl hn hbytes hcells hslots fun cA kA comp f1 f2 f3 f4 => ?_
  generalize hH1 : H.push ({ cls := cA, slots := Array.replicate n.toNatClampNeg .null, vm := .none } : Cell) = H1
  have z1 : H1.size = H.size + 1 := by rw [← hH1, Array.size_push]
  have e1 : H1[H.size]? = some (arrV cA n.toNatClampNeg (fun _ => .null)) := by rw [← hH1, Array.getElem?_push_size, ← arrV_new]
  have o1 : ∀ q : Nat, q < H.size → H1[q]? = H[q]? := fun q hq => by rw [← hH1, Array.getElem?_push, if_neg (Nat.ne_of_lt hq)]
  have hAr : ArrOfT s cA (.array t) := fun N z => ⟨(fun k h => by cases h), kA, f2, comp, f3⟩
  have hk : ∀ (k : Nat) (x : Nat × va_E), ws[k]? = some x → H1[x.1]? = H[x.1]? := fun k x hx => o1 x.1 ((hP k x hx).lt)
  refine kk H.size cA H1 ⟨hK.1, fun k x hx => ?_⟩ ((hP.kept hk).app (fun k x hx => ?_)) (hD.push hP rfl (hA _ hS.1)) ⟨Nat.le_trans hS.1 (by omega), fun x h1 h2 => (o1 x (Nat.lt_of_lt_of_le h1 hS.1)).trans (hS.2.1 x h1 h2), hS.2.2⟩
  · by_cases hl : k < tys.length
    · rw [List.getElem?_append_left hl] at hx
      exact hK.2 k x hx
    · rw [List.getElem?_append_right (by omega)] at hx
      have hz : k - tys.length < 1 := (List.getElem?_eq_some_iff.mp hx).1
      rw [show k - tys.length = 0 by omega] at hx
      cases hx
      exact ⟨hAr, f1⟩
  · have hz : k < 1 := (List.getElem?_eq_some_iff.mp hx).1
    rw [show k = 0 by omega] at hx
    cases hx
    show H1[H.size]? = some (vp_cell _ _)
    rw [vp_cell_q]
    exact e1
theorem cl_useA {n f : Nat} (hS : Sx D ty b0 ad0 σ0 s) {q : Nat × Nat × Nat × Nat} (h : clT[f]? = some q) (h1 : q.1 = mC z) (h2 : q.2.1 = n) (h3 : q.2.2.1 = 20) : (Cond.classLink (cn (mC z)) n "[Z").before args s = true := by
  have h4 := wat_in (cl_ok q (List.mem_of_getElem? h))
  unfold clC at h4
  rw [h1, h2, if_pos h3] at h4
  exact hS.2.1 _ h4 rfl args
theorem gl_anewarray {n : Nat} (hC : Cx z p l R s m meth c) (hS : Sx D ty b0 ad0 σ0 s) (hcap : gc f'.2.2.2 - gc σ0 ≤ R.cells ∧ gs f'.2.2.2 - gs σ0 ≤ R.slots) (h : stI z (.anewarray n) ext r ls st σ = some (.inl f')) (k : Gl z D ty b0 σ0 ad0 p l e R s m args below meth c Q f') : Gl z D ty b0 σ0 ad0 p l e R s m args below meth c Q ((pc0, .anewarray n, len, ext) :: r, ls, st, σ) := by
  unfold stI at h
  dsimp only at h
  split at h
  next k0 f0 n0 st1 =>
    split at h
    next hn =>
      cases h
      refine gl_al (fun _ h => rgs_t h) hS.2.2.2.2.2.2.2.2.2.2 (fun pc ad H locs lsC hE hL hR kk => ?_) k
      obtain ⟨d, rfl, hx⟩ := dx_new (n := 3) rfl (fun _ => rfl) (fun _ => rfl) hE
      dsimp only at hx
      cases hf : clT[f0]? with
      | none => rw [hf] at hx; cases hx
      | some q =>
        rw [hf] at hx
        obtain ⟨a1, a2, a34⟩ := of_decide_eq_true hx
        rcases a34 with ⟨a3, a4⟩ | ⟨a3, rfl⟩
        rotate_left
        · have hcl := cl_useA (args := args) hS hf a1 a2 a3
          obtain ⟨q1, q2, q3, q4, q5, q6, q7, q8, q9⟩ := hR
          dsimp only at hcap
          have w1 : gc σ - gc σ0 + 1 ≤ R.cells := by have : gc (al σ 19 n0.toNatClampNeg) = gc σ + 1 := rfl; omega
          have w2 : gs σ - gs σ0 + n0.toNatClampNeg ≤ R.slots := by have : gs (al σ 19 n0.toNatClampNeg) = gs σ + n0.toNatClampNeg := rfl; omega
          have hA : ∀ x, s.heap.size ≤ x → Ab b0 x := fun x hx => Nat.le_trans hS.2.2.2.2.2.2.2.2.2.2 hx
          refine va_newA (t := .boolean) hC.1 hC.2.1 hC.2.2.2.2.1 hcl (hS.2.1 _ (wat_in arr_bools) rfl args) hS.1 q1 q2 q3 hA hn.1 rfl (by omega) w1 w2 d (fun q cA H1 hK hP hD hS1 => ?_)
          have hc : cA = ty 9 := ra_eq (hK.2 10 (cA, .array .boolean) rfl).2 (hS.1.2 9 _ rfl).2
          subst hc
          have he : entE ty (adn ad (gx σ + 2) q) (al σ 19 n0.toNatClampNeg) (gx σ + 2) = .inl (ty 9, n0.toNatClampNeg, .inr (.inr (.inr (.inr (fun _ => none))))) := by
            have eK : gK (al σ 19 n0.toNatClampNeg) (gx σ + 2) = 19 := by rw [al_K, if_pos rfl]
            rw [entE_r (by rw [eK]; rfl), eK, al_N, if_pos rfl]
            refine congrArg (fun g => (Sum.inl (ty 9, n0.toNatClampNeg, Sum.inr (Sum.inr (Sum.inr (Sum.inr g)))) : va_E)) ?_
            funext j
            rw [al_R, if_pos rfl]
            rfl
          exact kk q H1 (by rw [he]; exact hP) (by rw [he]; exact hD) hS1
        obtain ⟨g1, g2, g3, g4, g5⟩ := ek_lt (ty := ty) a4
        have hcl := cl_use (args := args) (by omega) hS hf a1 a2 a3
        have hao : va_AO (cn (ek k0)) s := va_AO.of (A := args) (hS.2.1 _ (wat_in (arr_over a4)) rfl args)
        obtain ⟨q1, q2, q3, q4, q5, q6, q7, q8, q9⟩ := hR
        dsimp only at hcap
        have w1 : gc σ - gc σ0 + 1 ≤ R.cells := by have : gc (al σ k0 n0.toNatClampNeg) = gc σ + 1 := rfl; omega
        have w2 : gs σ - gs σ0 + n0.toNatClampNeg ≤ R.slots := by have : gs (al σ k0 n0.toNatClampNeg) = gs σ + n0.toNatClampNeg := rfl; omega
        have hA : ∀ x, s.heap.size ≤ x → Ab b0 x := fun x hx => Nat.le_trans hS.2.2.2.2.2.2.2.2.2.2 hx
        refine va_newq (C := cn (ek k0)) hC.1 hC.2.1 hC.2.2.2.2.1 hcl hao hS.1 q1 q2 q3 hA hn.1 rfl (by omega) w1 w2 d (fun q cA H1 hK hP hD hS1 => ?_)
        have hc : cA = ty (k0 - 10) := ra_eq (hK.2 10 (cA, .object (cn (ek k0))) rfl).2 (hS.1.2 (k0 - 10) _ g3).2
        subst hc
        have he : entE ty (adn ad (gx σ + 2) q) (al σ k0 n0.toNatClampNeg) (gx σ + 2) = .inl (ty (k0 - 10), n0.toNatClampNeg, .inr (.inr (.inr (.inr (fun _ => none))))) := by
          have eK : gK (al σ k0 n0.toNatClampNeg) (gx σ + 2) = k0 := by rw [al_K, if_pos rfl]
          rw [entE_r (by rw [eK]; exact g2), eK, al_N, if_pos rfl]
          refine congrArg (fun g => (Sum.inl (ty (k0 - 10), n0.toNatClampNeg, Sum.inr (Sum.inr (Sum.inr (Sum.inr g)))) : va_E)) ?_
          funext j
          rw [al_R, if_pos rfl]
          rfl
        exact kk q H1 (by rw [he]; exact hP) (by rw [he]; exact hD) hS1
    next => cases h
  next => cases h
end MAKE
